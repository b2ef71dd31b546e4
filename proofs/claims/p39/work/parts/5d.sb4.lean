/-! STRINGBUILDER: its making -/
section ZCI
variable {Y Yc : zY} {kc nc k1 n1 : Nat} {Z : zS → Prop} {pc idx : Nat} {ls : zL} {st : List Value} {pre sc sh : List va_E} {M N : zM} {b o : Nat} {av : List Value} {R : Option Value → List va_E → zM → Prop}
theorem zT.callIr {n ci : Nat} {fs : List Value} {q : vw_C} (hC : zCr Yc k1 n1 (.ref o :: av) sc N R) (hb : pre.length = b) (hcs : zCs (b + sc.length) pre) (hls : zLb (b + sc.length) ls = true) (hst : st.all (zVb (b + sc.length)) = true) (hN : ∀ j, j < sc.length → N j = M (b + j))
    (ho : zSg sc o = some (.inr (ci, fs))) (hol : o < sc.length) (hq : vwCl[ci]? = some q) (hn : av.length = n) (hok : ((zOkC Yc n ∧ Yc.1.name = "<init>") ∧ Cond.instanceMethod Yc.1 ∈ zW) ∧ Yc.2.2.2.1 = none) (hlk : Cond.methodLink Y.1.cls idx Yc.1 ∈ zW) (hroom : zRoom Y Yc = true) (hw : (st.map fun v => v.category).sum ≤ 8)
    (hd : decode Y.2.1 pc = .ok (.invokespecial idx, 3)) {S0 : List Value} (h0 : S0 = (av.map (zRv b)).reverse ++ .ref (b + o) :: st)
    (k9 : ∀ rv sc' N', R rv sc' N' → zT Y kc nc Z (pc + 3, ls, (rv.map (zRv b)).toList ++ st, pre ++ sc'.map (zRe b), zPs M b sc'.length N')) : zT Y (k1 + kc) (n1 + nc) Z (pc, ls, S0, pre ++ sc.map (zRe b), M) := by
  subst h0
  refine zT.callGr hC hb hcs hls hst hN ?_ k9
  intro p l e RR s m args below meth c D cA ex A E cells slots as hf H locs lsR hP hD hS hl
  simp only [zRoom, Bool.and_eq_true, decide_eq_true_eq] at hroom
  have hts := E.2.2.2.2.1
  have ho2 : zSg (pre ++ sc.map (zRe b)) (b + o) = some (.inr (ci, fs.map (zRv b))) := by rw [zSub.end hb o hol, ho]; rfl
  have hrv := va_recv E.2.2.2.2.2.1 hP hq (zWd_at ho2)
  have hpre := zPre_of (av := .ref o :: av) (as := as) (zSub.end hb) hN E.2.2.2.2.2.1 E.2.2.2.2.2.2.2.1 E.2.2.2.2.2.2.1 hP hD hS rfl
  have hrm := And.intro (Nat.le_trans hroom.1 E.2.2.2.2.2.2.2.2.2.2.2.2.1) (Nat.le_trans hroom.2 E.2.2.2.2.2.2.2.2.2.2.2.2.2)
  obtain ⟨⟨⟨hok, hnm⟩, hv⟩, hret⟩ := hok
  have cw : CallB RR s args Y.1.cls idx Yc.1 Yc.2.1 Yc.2.2.1 none (zWs Yc) { frames := Yc.2.2.2.2.1, cells := k1, slots := n1, locals := Yc.2.2.2.2.2 } k1 n1 n := by
    have := callB_of (R := RR) (s := s) (args := args) (own := Y.1.cls) (index := idx) n hts (zGoodIn hok.1.1.1) (ret := Yc.2.2.2.1) (maxL := Yc.2.2.1) (rm := { frames := Yc.2.2.2.2.1, cells := k1, slots := n1, locals := Yc.2.2.2.2.2 }) (mc := k1) (ms := n1) rfl rfl rfl (hts _ hok.1.1.2) (hts _ hlk) hok.1.2 hrm
    rw [hret] at this
    exact this
  refine ⟨_, va_runI (cc := Y.2.1) (nL := Y.2.2.1) (b := as (b + o)) (As := av.map (zTr (fun k => as (b + k)) ex)) (rest := st.map (zTr as ex)) ⟨E.1, E.2.1, E.2.2.1, E.2.2.2.1, hts⟩ (hC l E.2.2.2.2.2.2.2.2.1 D cA (fun k => as (b + k)) ex H.size) ⟨cw, hnm, hts _ hv⟩ ⟨zPre_blind, hpre⟩ rfl (by rw [List.length_map]; exact hn) hl.1 ?_ (lv_room (by rw [zTr_sum]; exact hw)) hd hf⟩
  rw [zMapRv]
  simp [List.map_reverse]
  rfl

theorem zT.cIr {n ci o : Nat} {fs : List Value} {q : vw_C} {S0 : List Value} (hC : zCr Yc k1 n1 (.ref o :: av) sh M R) (hls : zLb sh.length ls = true) (hst : st.all (zVb sh.length) = true) (ho : zSg sh o = some (.inr (ci, fs))) (hq : vwCl[ci]? = some q) (hn : av.length = n) (hok : ((zOkC Yc n ∧ Yc.1.name = "<init>") ∧ Cond.instanceMethod Yc.1 ∈ zW) ∧ Yc.2.2.2.1 = none) (hlk : Cond.methodLink Y.1.cls idx Yc.1 ∈ zW) (hroom : zRoom Y Yc = true) (hw : (st.map fun v => v.category).sum ≤ 8)
    (hd : decode Y.2.1 pc = .ok (.invokespecial idx, 3)) (h0 : S0 = av.reverse ++ .ref o :: st) (k9 : ∀ rv sh' M', R rv sh' M' → zT Y kc nc Z (pc + 3, ls, rv.toList ++ st, sh', M')) : zT Y (k1 + kc) (n1 + nc) Z (pc, ls, S0, sh, M) := by
  have h := zT.callIr (Y := Y) (kc := kc) (nc := nc) (Z := Z) (pc := pc) (idx := idx) (ls := ls) (st := st) (pre := []) (b := 0) (S0 := S0) hC rfl (fun q hq => (by cases hq)) (by rw [Nat.zero_add]; exact hls) (by rw [Nat.zero_add]; exact hst) (M := M) (fun j _ => by rw [Nat.zero_add]) ho (zSg_lt ho) hq hn hok hlk hroom hw hd (by rw [zMapRv0, Nat.zero_add]; exact h0) (fun rv sc' N' hR => ?_)
  · rw [List.nil_append, zMapRe0] at h
    exact h
  · rw [List.nil_append, zMapRe0, show rv.map (zRv 0) = rv by cases rv <;> simp [zRv0]]
    exact zT.congM (M2 := N') (fun k hk => zPs_all hk) (k9 rv sc' N' hR)
end ZCI
/-- the object with its first row -/
def sbNw (sc : List va_E) (m : Nat) : List va_E := (sc ++ [(.inl (1, m, .inl fun _ => 0) : va_E)]).set 0 (.inr (8, [.ref sc.length, .int 0, .int 0, .int 0]))
def sbNm (sc : List va_E) (M : zM) : zM := zUa (zU M 0 1 0) sc.length fun _ => 0
theorem SB_new {sc : List va_E} {M : zM} {m : Nat} (hs : zSg sc 0 = some (.inr (8, [.null, .int 0, .int 0, .int 0]))) (hcs : zCs sc.length sc) (h3 : M 0 3 = 0) (hm : m ≤ 500) : SB (sbNw sc m) (sbNm sc M) [] 0 := by
  have hl1 : 1 ≤ sc.length := zSg_lt hs
  unfold sbNw sbNm
  refine ⟨sc.length, m, zSg_set0 (zSg_ap hs), (zSg_setn (by omega)).trans zSg_last, ?_, ?_, ?_, fun j => ⟨0, by decide, ?_⟩, hm, Nat.zero_le _, Nat.le_refl _, fun j hj => absurd hj (Nat.not_lt_zero j)⟩
  · rw [zUa_ne (by omega), zU_s]
  · rw [zUa_ne (by omega), zU_k (by decide)]; exact h3
  · rw [List.length_set, List.length_append]
    exact zCs_set ((hcs.mono (by omega)).app (zCs_of rfl)) (zEb_ok (by simp [zEb, zVb]))
  · rw [zUa_eq]; rfl
noncomputable abbrev yy_J5_init_a7421 : zY := (yJ5_init_a7421, cJ5_init_a7421, 5, none, 7, 169)
theorem c_J5_init (i : Nat) (hi : i < 21) {sc : List va_E} {M : zM} (hs : zSg sc 0 = some (.inr (8, [.null, .int 0, .int 0, .int 0]))) (hcs : zCs sc.length sc) (h3 : M 0 3 = 0) : zCr yy_J5_init_a7421 2 560 [.ref 0, .retAddr (200 + i)] sc M (fun rv sh' M' => rv = none ∧ SB sh' M' (zTxt i) (zTxt i).length) := by
  refine zCr.of (by decide +kernel) rfl (Nat.le_of_ble_eq_true rfl) ?_
  have hl1 : 1 ≤ sc.length := zSg_lt hs
  have hl := zTx_len i hi
  refine zT.run [(.aload_n 0, 0, 0, 0)] (pe := 1) (ls' := [some (.ref 0), some (.retAddr (200 + i)), none, none, none]) (st' := [.ref 0]) (M' := M) (by decide +kernel) rfl ?_
  refine zT.objInit (idx := 3) (zIn (w := 2206) (by decide +kernel) rfl) (zIn (w := 1033) (by decide +kernel) rfl) (zIn (w := 1034) (by decide +kernel) rfl) (by decide +kernel) (by decide +kernel) (Nat.le_of_ble_eq_true rfl) (by decide +kernel) ?_
  refine zT.run [(.aload_n 1, 0, 0, 0)] (pe := 5) (ls' := [some (.ref 0), some (.retAddr (200 + i)), none, none, none]) (st' := [.retAddr (200 + i)]) (M' := M) (by decide +kernel) rfl ?_
  refine zT.cX (idx := 32) (av := []) (rv := some (.int (nI (zTxt i).length))) (st := []) (S1 := [.int (nI (zTxt i).length)]) (c_J0_length i hi) k_J0_length_8abf5 (zTx_obj i hi) rfl (zIn (w := 2207) (by decide +kernel) rfl) (by decide +kernel) (by decide +kernel) rfl (Nat.le_of_ble_eq_true rfl) rfl ?_
  refine zT.run [(.istore_n 2, 0, 0, 0), (.iload_n 2, 0, 0, 0), (.ldc 38, 2147483631, 0, 2217)] (pe := 12) (ls' := [some (.ref 0), some (.retAddr (200 + i)), some (.int (nI (zTxt i).length)), none, none]) (st' := [.int 2147483631, .int (nI (zTxt i).length)]) (M' := M) (by decide +kernel) rfl ?_
  refine zT.cge (tgt := 22) (off := 10) (by decide +kernel) (by decide) (fun q => absurd (show nI 2147483631 ≤ nI (zTxt i).length from q) (nI_ge (a := (zTxt i).length) (b := 2147483631) (by omega) (by decide))) (fun _ => ?_)
  refine zT.run [(.iload_n 2, 0, 0, 0), (.bipush 16, 0, 0, 0), (.iadd, 0, 0, 0)] (pe := 19) (ls' := [some (.ref 0), some (.retAddr (200 + i)), some (.int (nI (zTxt i).length)), none, none]) (st' := [.int ((nI (zTxt i).length) + 16)]) (M' := M) (by decide +kernel) rfl ?_
  rw [show nI (zTxt i).length + 16 = nI ((zTxt i).length + 16) from nI_add _ 16]
  refine zT.run [(.goto 5, 0, 0, 0), (.istore_n 3, 0, 0, 0), (.aload_n 1, 0, 0, 0)] (pe := 26) (ls' := [some (.ref 0), some (.retAddr (200 + i)), some (.int (nI (zTxt i).length)), some (.int (nI ((zTxt i).length + 16))), none]) (st' := [.retAddr (200 + i)]) (M' := M) (by decide +kernel) rfl ?_
  refine zT.cX (idx := 40) (av := []) (rv := some (.int 0)) (st := []) (S1 := [.int 0]) (c_J0_coder i hi) k_J0_coder_7d493 (zTx_obj i hi) rfl (zIn (w := 2219) (by decide +kernel) rfl) (by decide +kernel) (by decide +kernel) rfl (Nat.le_of_ble_eq_true rfl) rfl ?_
  refine zT.run [(.istore 4, 0, 0, 0), (.aload_n 0, 0, 0, 0), (.iload 4, 0, 0, 0)] (pe := 34) (ls' := [some (.ref 0), some (.retAddr (200 + i)), some (.int (nI (zTxt i).length)), some (.int (nI ((zTxt i).length + 16))), some (.int 0)]) (st' := [.int 0, .ref 0]) (M' := M) (by decide +kernel) rfl ?_
  refine zT.putB (idx := 22) (o := 0) (ci := 8) (b := 1) (w := 3100) (q := (RJ4, TJ4, 4)) hs rfl rfl (by decide) (by decide +kernel) (by decide +kernel) (by decide +kernel) (by decide +kernel) (by decide +kernel) (by decide +kernel) ?_
  refine zT.run [(.aload_n 0, 0, 0, 0), (.iload 4, 0, 0, 0)] (pe := 40) (ls' := [some (.ref 0), some (.retAddr (200 + i)), some (.int (nI (zTxt i).length)), some (.int (nI ((zTxt i).length + 16))), some (.int 0)]) (st' := [.int 0, .ref 0]) (M' := (zU M 0 1 0)) (by decide +kernel) rfl ?_
  refine zT.zne (tgt := 49) (off := 9) (by decide +kernel) (by decide) (fun q => absurd rfl q) (fun _ => ?_)
  refine zT.run [(.iload_n 3, 0, 0, 0)] (pe := 44) (ls' := [some (.ref 0), some (.retAddr (200 + i)), some (.int (nI (zTxt i).length)), some (.int (nI ((zTxt i).length + 16))), some (.int 0)]) (st' := [.int (nI ((zTxt i).length + 16)), .ref 0]) (M' := (zU M 0 1 0)) (by decide +kernel) rfl ?_
  refine zT.widen (k := 1 + 1) (n := ((zTxt i).length + 16) + 500) (by decide) (by omega) ?_
  refine zT.newa (kc := 1) (nc := 500) (t := 1) (N := (zTxt i).length + 16) (aty := .byte) (ty := .byte) (z := .inl (fun _ => 0)) rfl (fun _ => rfl) (zIn (w := 1069) (by decide +kernel) rfl) (fun _ _ _ => rfl) (fun _ => rfl) rfl (by omega) (by decide) hcs (zLb_up (n := 1) rfl hl1) (zVb_up (n := 1) rfl hl1) (by decide +kernel) ?_
  refine zT.run [(.goto 7, 0, 0, 0)] (pe := 53) (ls' := [some (.ref 0), some (.retAddr (200 + i)), some (.int (nI (zTxt i).length)), some (.int (nI ((zTxt i).length + 16))), some (.int 0)]) (st' := [.ref sc.length, .ref 0]) (M' := (zUa (zU M 0 1 0) sc.length fun _ => 0)) (by decide +kernel) rfl ?_
  refine zT.putR (o := 0) (o2 := sc.length) (idx := 15) (w := 3099) (ci := 8) (b := 0) (fs := [.null, .int 0, .int 0, .int 0]) (v := .null) (q := (RJ4, TJ4, 4)) (zSg_ap hs) rfl (Or.inl rfl) rfl (by decide) (by decide +kernel) (Or.inr ⟨.byte, by decide +kernel⟩) (Or.inl (by decide +kernel)) (by decide +kernel) ?_
  show zT _ _ _ _ (56, [some (.ref 0), some (.retAddr (200 + i)), some (.int (nI (zTxt i).length)), some (.int (nI ((zTxt i).length + 16))), some (.int 0)], [], sbNw sc ((zTxt i).length + 16), sbNm sc M)
  have hS := SB_new (m := (zTxt i).length + 16) hs hcs h3 (by omega)
  generalize sbNw sc ((zTxt i).length + 16) = sc1 at hS ⊢
  generalize sbNm sc M = M1 at hS ⊢
  obtain ⟨k1, m1, hs1, -⟩ := id hS
  have hl2 : 1 ≤ sc1.length := zSg_lt hs1
  refine zT.run [(.aload_n 0, 0, 0, 0), (.aload_n 1, 0, 0, 0)] (pe := 58) (ls' := [some (.ref 0), some (.retAddr (200 + i)), some (.int (nI (zTxt i).length)), some (.int (nI ((zTxt i).length + 16))), some (.int 0)]) (st' := [.retAddr (200 + i), .ref 0]) (M' := M1) (by decide +kernel) rfl ?_
  refine zT.cUp (x := yy_J5_append_cf1ce.1) (q := (RJ4, TJ4, 4)) (h00 := k_J5_append_cf1ce.1.1.1) (hx1 := k_J5_append_cf1ce.2.1) (hx2 := k_J5_append_cf1ce.2.2) (hsl := zIn (w := 2230) (by decide +kernel) rfl) (hdx := k_J5_append_cf1ce.1.2) (kc := 0) (nc := 0) (o := 0) (idx := 43) (av := [.retAddr (200 + i)]) (st := []) (c_J4_appendB i hi hS (by rw [List.length_nil]; omega)) (zLb_up (n := 1) rfl hl2) (zVb_up (n := 1) rfl hl2) hs1 rfl rfl k_J4_append_cf1ce (zIn (w := 2227) (by decide +kernel) rfl) (by decide +kernel) (Nat.le_of_ble_eq_true rfl) (by decide +kernel) rfl ?_
  rintro _ sc2 M2 ⟨rfl, hE⟩
  show zT _ _ _ _ (61, _, [.ref 0], _, _)
  rw [List.nil_append, List.length_nil, Nat.zero_add] at hE
  refine zT.run [(.pop, 0, 0, 0)] (pe := 62) (ls' := [some (.ref 0), some (.retAddr (200 + i)), some (.int (nI (zTxt i).length)), some (.int (nI ((zTxt i).length + 16))), some (.int 0)]) (st' := []) (M' := M2) (by decide +kernel) rfl ?_
  exact zT.retV ⟨rfl, hE⟩ rfl (by decide +kernel)
theorem k_J5_init_a7421 : ((zOkC yy_J5_init_a7421 1 ∧ yy_J5_init_a7421.1.name = "<init>") ∧ Cond.instanceMethod yy_J5_init_a7421.1 ∈ zW) ∧ yy_J5_init_a7421.2.2.2.1 = none := ⟨⟨⟨⟨⟨⟨zIn (w := 2205) (by decide +kernel) rfl, zIn (w := 1018) (by decide +kernel) rfl⟩, by decide +kernel⟩, by decide +kernel⟩, rfl⟩, zIn (w := 2204) (by decide +kernel) rfl⟩, rfl⟩
noncomputable abbrev yy_J4_init_a7421 : zY := (yJ4_init_a7421, cJ4_init_a7421, 2, none, 8, 193)
theorem c_J4_init (i : Nat) (hi : i < 21) {sc : List va_E} {M : zM} (hs : zSg sc 0 = some (.inr (8, [.null, .int 0, .int 0, .int 0]))) (hcs : zCs sc.length sc) (h3 : M 0 3 = 0) : zCr yy_J4_init_a7421 2 560 [.ref 0, .retAddr (200 + i)] sc M (fun rv sh' M' => rv = none ∧ SB sh' M' (zTxt i) (zTxt i).length) := by
  refine zCr.of (by decide +kernel) rfl (Nat.le_of_ble_eq_true rfl) ?_
  have hl1 : 1 ≤ sc.length := zSg_lt hs
  refine zT.run [(.aload_n 0, 0, 0, 0), (.aload_n 1, 0, 0, 0)] (pe := 2) (ls' := [some (.ref 0), some (.retAddr (200 + i))]) (st' := [.retAddr (200 + i), .ref 0]) (M' := M) (by decide +kernel) rfl ?_
  refine zT.cIr (kc := 0) (nc := 0) (o := 0) (idx := 7) (av := [.retAddr (200 + i)]) (st := []) (c_J5_init i hi hs hcs h3) (zLb_up (n := 1) rfl hl1) (zVb_up (n := 1) rfl hl1) hs rfl rfl k_J5_init_a7421 (zIn (w := 2203) (by decide +kernel) rfl) (by decide +kernel) (Nat.le_of_ble_eq_true rfl) (by decide +kernel) rfl ?_
  rintro _ sc2 M2 ⟨rfl, hE⟩
  show zT _ _ _ _ (5, _, [], _, _)
  exact zT.retV ⟨rfl, hE⟩ rfl (by decide +kernel)
theorem k_J4_init_a7421 : ((zOkC yy_J4_init_a7421 1 ∧ yy_J4_init_a7421.1.name = "<init>") ∧ Cond.instanceMethod yy_J4_init_a7421.1 ∈ zW) ∧ yy_J4_init_a7421.2.2.2.1 = none := ⟨⟨⟨⟨⟨⟨zIn (w := 2202) (by decide +kernel) rfl, zIn (w := 1019) (by decide +kernel) rfl⟩, by decide +kernel⟩, by decide +kernel⟩, rfl⟩, zIn (w := 2201) (by decide +kernel) rfl⟩, rfl⟩
