/-! STRINGS that stand outside: their length, their characters -/
section ZCALLX
variable {Y Yc : zY} {kc nc k1 n1 : Nat} {Z : zS → Prop} {pc idx : Nat} {ls : zL} {st : List Value} {sh sh' sc sc' : List va_E} {M N N' : zM} {b t : Nat} {av : List Value} {rv : Option Value}
theorem zT.callX {n : Nat} (hC : zC Yc k1 n1 (.retAddr t :: av) sc N rv sc' N') (hs : zSub sh b sc) (hN : ∀ j, j < sc.length → N j = M (b + j)) (hb : zBack sh b sc.length sc' sh') (hl9 : sc'.length = sc.length)
    (hx : (Yc.1.cls, t) ∈ zOs) (hn : av.length = n) (hok : zOkC Yc n) (hv : zOkV Yc) (hlk : Cond.methodLink Y.1.cls idx Yc.1 ∈ zW) (hroom : zRoom Y Yc = true) (hw : (st.map fun v => v.category).sum ≤ 8)
    (hd : decode Y.2.1 pc = .ok (.invokevirtual idx, 3))
    (k9 : zT Y kc nc Z (pc + 3, ls, (rv.map (zRv b)).toList ++ st, sh', zPs M b sc.length N')) : zT Y (k1 + kc) (n1 + nc) Z (pc, ls, (av.map (zRv b)).reverse ++ .retAddr t :: st, sh, M) := by
  intro p l e R s m args below meth c D cA ex A E Q cells slots as g1 g2 kk
  have hlen : sh'.length = sh.length := hb.1
  refine zGcall (k1 := k1) (n1 := n1) (S0 := (av.map (zRv b)).reverse ++ .retAddr t :: st) E hs hN hb hl9 ?_ (k9 p l e R s m args below meth c D cA ex A E Q (cells + k1) (slots + n1) as (by omega) (by omega) fun S' as' ha hz => ?_)
  · intro H locs lsR hP hD hS hl
    simp only [zRoom, Bool.and_eq_true, decide_eq_true_eq] at hroom
    have hts := E.2.2.2.2.1
    have cw : CallW R s args Y.1.cls Yc.1.cls idx Yc.1 Yc.2.1 Yc.2.2.1 Yc.2.2.2.1 (zWs Yc) { frames := Yc.2.2.2.2.1, cells := k1, slots := n1, locals := Yc.2.2.2.2.2 } k1 n1 n :=
      ⟨callB_of n hts (zGoodIn hok.1.1.1) rfl rfl rfl (hts _ hok.1.1.2) (hts _ hlk) hok.1.2 ⟨Nat.le_trans hroom.1 E.2.2.2.2.2.2.2.2.2.2.2.2.1, Nat.le_trans hroom.2 E.2.2.2.2.2.2.2.2.2.2.2.2.2⟩, hts _ hv.1, hts _ hv.2⟩
    obtain ⟨cell, x1, x2, x3, -⟩ := (E.2.2.2.2.2.2.2.1.2.2.1 _ hx : va_O Yc.1.cls (ex t) A s s.heap).kept hS.2.1
    refine ⟨_, va_runV (cc := Y.2.1) (nL := Y.2.2.1) (b := ex t) (As := av.map (zTr (fun k => as (b + k)) ex)) (rest := st.map (zTr as ex)) ⟨E.1, E.2.1, E.2.2.1, E.2.2.2.1, hts⟩ (hC l E.2.2.2.2.2.2.2.2.1 D cA (fun k => as (b + k)) ex H.size) cw ⟨zPre_blind, ?_, ?_⟩ rfl (by rw [List.length_map]; exact hn) hl.1 ?_ (lv_room (by rw [zTr_sum]; exact hw)) hd ⟨by omega, by omega⟩⟩
    · exact ⟨cell, x1, x2, x3⟩
    · exact zPre_of (av := .retAddr t :: av) hs hN E.2.2.2.2.2.1 E.2.2.2.2.2.2.2.1 E.2.2.2.2.2.2.1 hP hD hS rfl
    · rw [zMapRv]
      simp [List.map_reverse]
      rfl
  · rw [← Nat.add_assoc, ← Nat.add_assoc] at kk
    refine kk S' as' ?_ hz
    show zAg sh.length _ as as'
    rw [← hlen]
    exact ha
theorem zT.cX {n : Nat} {S0 S1 : List Value} (hC : zC Yc 0 0 (.retAddr t :: av) [] M rv [] M) (hok : zCal Yc n) (hx : (Yc.1.cls, t) ∈ zOs) (hn : av.length = n) (hlk : Cond.methodLink Y.1.cls idx Yc.1 ∈ zW) (hroom : zRoom Y Yc = true) (hd : decode Y.2.1 pc = .ok (.invokevirtual idx, 3)) (h0 : S0 = (av.map (zRv 0)).reverse ++ .retAddr t :: st) (hw : (st.map fun v => v.category).sum ≤ 8) (h1 : S1 = (rv.map (zRv 0)).toList ++ st)
    (k9 : zT Y kc nc Z (pc + 3, ls, S1, sh, M)) : zT Y kc nc Z (pc, ls, S0, sh, M) := by
  subst h0 h1
  have k8 := zT.callX (kc := kc) (nc := nc) (Z := Z) (st := st) (ls := ls) (pc := pc) (idx := idx) hC (b := 0) (M := M) (zSub.nil sh 0) (fun j h => absurd h (Nat.not_lt_zero j)) (zBack.same (zSub.nil sh 0) rfl) rfl hx hn hok.1 hok.2 hlk hroom hw hd (zT.congM (M2 := M) (fun _ _ => zPs_nil) k9)
  rw [Nat.zero_add, Nat.zero_add] at k8
  exact k8
/-- a field of a thing outside, by its membership -/
theorem zT.xgetM {o n d : String} {v : Value} (hq : (o, n, d, v, t) ∈ zFs) (hx : zX v = true) (hlk : Cond.fieldLink Y.1.cls idx o n d ∈ zW) (hd : decode Y.2.1 pc = .ok (.getfield idx, 3)) (k1 : zT Y kc nc Z (pc + 3, ls, v :: st, sh, M)) : zT Y kc nc Z (pc, ls, .retAddr t :: st, sh, M) := by
  refine zT.step (S1 := (pc + 3, ls, v :: st, sh, M)) rfl ?_ k1
  intro p l e R s m args below meth c D cA ex A E Q cells slots as hcl hsl k9 H locs lsR hP hD hS hl
  refine vk_getf E.1 E.2.1 (E.2.2.2.2.2.2.2.1.2.2.2.1 _ hq) hS E.2.2.2.1 (E.2.2.2.2.1 _ hlk) (fun _ h9 => h9) hd ?_
  show W _ _ _ _ _ _ _ _ _ _ _ _ _ _ _ (F0 m (pc + 3) lsR (zTr ex ex v :: _))
  rw [← zX_ex (as := as) hx]
  exact k9 H locs lsR hP hD hS hl
theorem zT.xlenM {ty : FieldType} {vs : List Value} (hq : (ty, t, vs) ∈ zTs) (hd : decode Y.2.1 pc = .ok (.arraylength, 1)) (k1 : zT Y kc nc Z (pc + 1, ls, .int (Int32.ofNat vs.length) :: st, sh, M)) : zT Y kc nc Z (pc, ls, .retAddr t :: st, sh, M) := by
  refine zT.step (S1 := (pc + 1, ls, .int (Int32.ofNat vs.length) :: st, sh, M)) rfl ?_ k1
  intro p l e R s m args below meth c D cA ex A E Q cells slots as hcl hsl k9 H locs lsR hP hD hS hl
  exact va_tlen E.1 E.2.1 (E.2.2.2.2.2.2.2.1.2.1 _ hq) hS rfl hd (k9 H locs lsR hP hD hS hl)
theorem zT.xbM {j : Nat} {i x : Int32} {vs : List Value} (hq : (.byte, t, vs) ∈ zTs) (hi : i = nI j) (hj : vs[j]? = some (.int x)) (hn : vs.length < 2 ^ 31) (hd : decode Y.2.1 pc = .ok (.baload, 1)) (k1 : zT Y kc nc Z (pc + 1, ls, .int x :: st, sh, M)) : zT Y kc nc Z (pc, ls, .int i :: .retAddr t :: st, sh, M) := by
  refine zT.step (S1 := (pc + 1, ls, .int x :: st, sh, M)) rfl ?_ k1
  intro p l e R s m args below meth c D cA ex A E Q cells slots as hcl hsl k9 H locs lsR hP hD hS hl
  subst hi
  have hlt := (List.getElem?_eq_some_iff.mp hj).1
  refine va_tb E.1 E.2.1 (E.2.2.2.2.2.2.2.1.2.1 _ hq) hS (vp_in_nI hlt hn) ?_ hd (v := .int x) (k9 H locs lsR hP hD hS hl)
  show zTr ex ex (vs.getD (nI j).toNatClampNeg .null) = .int x
  rw [nI_clamp (Nat.lt_trans hlt hn), List.getD_eq_getElem?_getD, hj]
  rfl
/-- the static that is only carried -/
theorem zT.getQ (hlk : Cond.fieldLink Y.1.cls idx "jdk/internal/util/Preconditions" "SIOOBE_FORMATTER" "Ljava/util/function/BiFunction;" ∈ zW) (hd : decode Y.2.1 pc = .ok (.getstatic idx, 3)) (k1 : ∀ v, v = .null ∨ v = .retAddr 399 → zT Y kc nc Z (pc + 3, ls, v :: st, sh, M)) : zT Y kc nc Z (pc, ls, st, sh, M) := by
  intro p l e R s m args below meth c D cA ex A E Q cells slots as g1 g2 kk H locs lsR hP hD hS hl
  rcases (E.2.2.2.2.2.2.2.1.2.2.2.2.2.2.2.2.2.2.2 : zQf ex A s s.heap) with h | h
  · exact va_gets E.1 E.2.1 h hS E.2.2.2.1 (E.2.2.2.2.1 _ hlk) (fun _ h9 => h9) hd (k1 .null (Or.inl rfl) p l e R s m args below meth c D cA ex A E Q cells slots as g1 g2 kk H locs lsR hP hD hS hl)
  · exact va_gets E.1 E.2.1 h hS E.2.2.2.1 (E.2.2.2.2.1 _ hlk) (fun _ h9 => h9) hd (k1 (.retAddr 399) (Or.inr rfl) p l e R s m args below meth c D cA ex A E Q cells slots as g1 g2 kk H locs lsR hP hD hS hl)
end ZCALLX
def zTx : List (List Nat) := [[108, 101, 97, 115, 116], [116, 105, 101, 115], [114, 101, 99, 111, 117, 110, 116, 115], [99, 97, 108, 108], [118, 111, 116, 101], [115, 101, 97, 108], [99, 108, 111, 115, 101], [98, 114, 101, 97, 107], [99, 111, 117, 110, 116], [114, 101, 99, 111, 117, 110, 116], [103, 105, 118, 101], [100, 111, 119, 110], [117, 112], [99, 117, 116], [106, 111, 105, 110], [111, 102, 102, 105, 99, 101, 32], [116, 104, 101, 114, 101, 32, 105, 115, 32, 110, 111, 32, 115, 117, 99, 104, 32, 114, 101, 112, 108, 105, 99, 97], [97, 110, 32, 97, 114, 103, 117, 109, 101, 110, 116, 32, 105, 115, 32, 111, 117, 116, 32, 111, 102, 32, 105, 116, 115, 32, 114, 97, 110, 103, 101], [111, 102, 102, 105, 99, 101], [114, 101, 112, 108, 105, 99, 97], [114, 101, 112, 108, 105, 99, 97, 32]]
/-- the characters of text i -/
def zTxt (i : Nat) : List Nat := zTx.getD i []
theorem zTx_row : ∀ i, i < 21 → (FieldType.byte, 300 + i, (zTxt i).map (fun c => Value.int (nI c))) ∈ zTs := by decide +kernel
theorem zTx_val : ∀ i, i < 21 → ("java/lang/String", "value", "[B", Value.retAddr (300 + i), 200 + i) ∈ zFs := by decide +kernel
theorem zTx_cod : ∀ i, i < 21 → ("java/lang/String", "coder", "B", Value.int 0, 200 + i) ∈ zFs := by decide +kernel
theorem zTx_obj : ∀ i, i < 21 → ("java/lang/String", 200 + i) ∈ zOs := by decide +kernel
theorem zTx_len : ∀ i, i < 21 → (zTxt i).length < 40 := by decide +kernel
theorem zTx_chr : ∀ i, i < 21 → ∀ c ∈ zTxt i, c < 128 := by decide +kernel
noncomputable abbrev yy_J0_coder_7d493 : zY := (yJ0_coder_7d493, cJ0_coder_7d493, 1, (some Jvm.ClassFile.FieldType.byte), 0, 0)
theorem c_J0_coder (i : Nat) (hi : i < 21) : zC yy_J0_coder_7d493 0 0 [.retAddr (200 + i)] [] zM0 (some (.int 0)) [] zM0 := by
  refine zC.of (by decide +kernel) rfl (Nat.le_of_ble_eq_true rfl) ?_
  refine zT.gets (idx := 38) 5 rfl rfl (zIn (w := 2215) (by decide +kernel) rfl) (by decide +kernel) ?_
  refine zT.zeq (tgt := 13) (off := 10) (by decide +kernel) (by decide) (fun c => absurd c (by decide)) (fun _ => ?_)
  refine zT.run [(.aload_n 0, 0, 0, 0)] (pe := 7) (ls' := [some (.retAddr (200 + i))]) (st' := [.retAddr (200 + i)]) (M' := zM0) (by decide +kernel) rfl ?_
  refine zT.xgetM (idx := 15) (zTx_cod i hi) rfl (zIn (w := 5172) (by decide +kernel) rfl) (by decide +kernel) ?_
  refine zT.run [(.goto 4, 0, 0, 0)] (pe := 14) (ls' := [some (.retAddr (200 + i))]) (st' := [.int 0]) (M' := zM0) (by decide +kernel) rfl ?_
  exact zT.iret (ty := .byte) rfl rfl rfl rfl (by decide +kernel)
theorem k_J0_coder_7d493 : zCal yy_J0_coder_7d493 0 := ⟨⟨⟨⟨zIn (w := 2214) (by decide +kernel) rfl, zIn (w := 1020) (by decide +kernel) rfl⟩, by decide +kernel⟩, by decide +kernel⟩, ⟨zIn (w := 2212) (by decide +kernel) rfl, zIn (w := 2213) (by decide +kernel) rfl⟩⟩
noncomputable abbrev yy_J0_isLatin1_aae02 : zY := (yJ0_isLatin1_aae02, cJ0_isLatin1_aae02, 1, (some Jvm.ClassFile.FieldType.boolean), 0, 0)
theorem c_J0_isLatin1 (i : Nat) (hi : i < 21) : zC yy_J0_isLatin1_aae02 0 0 [.retAddr (200 + i)] [] zM0 (some (.int 1)) [] zM0 := by
  refine zC.of (by decide +kernel) rfl (Nat.le_of_ble_eq_true rfl) ?_
  refine zT.gets (idx := 38) 5 rfl rfl (zIn (w := 2215) (by decide +kernel) rfl) (by decide +kernel) ?_
  refine zT.zeq (tgt := 17) (off := 14) (by decide +kernel) (by decide) (fun c => absurd c (by decide)) (fun _ => ?_)
  refine zT.run [(.aload_n 0, 0, 0, 0)] (pe := 7) (ls' := [some (.retAddr (200 + i))]) (st' := [.retAddr (200 + i)]) (M' := zM0) (by decide +kernel) rfl ?_
  refine zT.xgetM (idx := 15) (zTx_cod i hi) rfl (zIn (w := 5172) (by decide +kernel) rfl) (by decide +kernel) ?_
  refine zT.zne (tgt := 17) (off := 7) (by decide +kernel) (by decide) (fun c => absurd rfl c) (fun _ => ?_)
  refine zT.run [(.iconst 1, 0, 0, 0), (.goto 4, 0, 0, 0)] (pe := 18) (ls' := [some (.retAddr (200 + i))]) (st' := [.int 1]) (M' := zM0) (by decide +kernel) rfl ?_
  exact zT.iret (ty := .boolean) rfl rfl rfl rfl (by decide +kernel)
theorem k_J0_isLatin1_aae02 : zCal yy_J0_isLatin1_aae02 0 := ⟨⟨⟨⟨zIn (w := 3235) (by decide +kernel) rfl, zIn (w := 1020) (by decide +kernel) rfl⟩, by decide +kernel⟩, by decide +kernel⟩, ⟨zIn (w := 3233) (by decide +kernel) rfl, zIn (w := 3234) (by decide +kernel) rfl⟩⟩
noncomputable abbrev yy_J0_length_8abf5 : zY := (yJ0_length_8abf5, cJ0_length_8abf5, 1, (some Jvm.ClassFile.FieldType.int), 1, 20)
theorem zShr0 (x : Int32) : x >>> ((0 : Int32) &&& 31) = x := by
  rw [show ((0 : Int32) &&& 31) = 0 from rfl]
  apply Int32.toBitVec_inj.mp
  show x.toBitVec.sshiftRight' (BitVec.smod 0 32) = x.toBitVec
  rw [show BitVec.smod (0 : BitVec 32) 32 = 0 from rfl]
  simp [BitVec.sshiftRight']
theorem c_J0_length (i : Nat) (hi : i < 21) : zC yy_J0_length_8abf5 0 0 [.retAddr (200 + i)] [] zM0 (some (.int (nI (zTxt i).length))) [] zM0 := by
  refine zC.of (by decide +kernel) rfl (Nat.le_of_ble_eq_true rfl) ?_
  refine zT.run [(.aload_n 0, 0, 0, 0)] (pe := 1) (ls' := [some (.retAddr (200 + i))]) (st' := [.retAddr (200 + i)]) (M' := zM0) (by decide +kernel) rfl ?_
  refine zT.xgetM (idx := 9) (zTx_val i hi) rfl (zIn (w := 5171) (by decide +kernel) rfl) (by decide +kernel) ?_
  refine zT.xlenM (zTx_row i hi) (by decide +kernel) ?_
  rw [List.length_map]
  refine zT.run [(.aload_n 0, 0, 0, 0)] (pe := 6) (ls' := [some (.retAddr (200 + i))]) (st' := [.retAddr (200 + i), .int (nI (zTxt i).length)]) (M' := zM0) (by decide +kernel) rfl ?_
  refine zT.cX (idx := 335) (av := []) (rv := some (.int 0)) (st := [.int (nI (zTxt i).length)]) (S1 := [.int 0, .int (nI (zTxt i).length)]) (c_J0_coder i hi) k_J0_coder_7d493 (zTx_obj i hi) rfl (zIn (w := 2211) (by decide +kernel) rfl) (by decide +kernel) (by decide +kernel) rfl (Nat.le_of_ble_eq_true rfl) rfl ?_
  refine zT.run [(.ishr, 0, 0, 0)] (pe := 10) (ls' := [some (.retAddr (200 + i))]) (st' := [.int (nI (zTxt i).length >>> ((0 : Int32) &&& 31))]) (M' := zM0) (by decide +kernel) rfl ?_
  rw [zShr0]
  exact zT.iret (ty := .int) rfl rfl rfl rfl (by decide +kernel)
theorem k_J0_length_8abf5 : zCal yy_J0_length_8abf5 0 := ⟨⟨⟨⟨zIn (w := 2210) (by decide +kernel) rfl, zIn (w := 1020) (by decide +kernel) rfl⟩, by decide +kernel⟩, by decide +kernel⟩, ⟨zIn (w := 2208) (by decide +kernel) rfl, zIn (w := 2209) (by decide +kernel) rfl⟩⟩
noncomputable abbrev yy_J3_checkIndex_8e157 : zY := (yJ3_checkIndex_8e157, cJ3_checkIndex_8e157, 3, (some Jvm.ClassFile.FieldType.int), 0, 0)
theorem c_J3_checkIndex (k n : Int32) (v : Value) (hv : v = .null ∨ v = .retAddr 399) (h1 : ¬ k < 0) (h2 : k < n) : zC yy_J3_checkIndex_8e157 0 0 [.int k, .int n, v] [] zM0 (some (.int k)) [] zM0 := by
  have hc : ([.int k, .int n, v] : List Value).all zC1 = true := by rcases hv with rfl | rfl <;> rfl
  refine zC.of (by decide +kernel) hc (Nat.le_of_ble_eq_true rfl) ?_
  refine zT.run [(.iload_n 0, 0, 0, 0)] (pe := 1) (ls' := [some (.int k), some (.int n), some v]) (st' := [.int k]) (M' := zM0) (by decide +kernel) rfl ?_
  refine zT.zlt (tgt := 9) (off := 8) (by decide +kernel) (by decide) (fun c => absurd c h1) (fun _ => ?_)
  refine zT.run [(.iload_n 0, 0, 0, 0), (.iload_n 1, 0, 0, 0)] (pe := 6) (ls' := [some (.int k), some (.int n), some v]) (st' := [.int n, .int k]) (M' := zM0) (by decide +kernel) rfl ?_
  refine zT.clt (tgt := 16) (off := 10) (by decide +kernel) (by decide) (fun _ => ?_) (fun c => absurd h2 c)
  refine zT.run [(.iload_n 0, 0, 0, 0)] (pe := 17) (ls' := [some (.int k), some (.int n), some v]) (st' := [.int k]) (M' := zM0) (by decide +kernel) rfl ?_
  exact zT.iret (ty := .int) rfl rfl rfl rfl (by decide +kernel)
theorem k_J3_checkIndex_8e157 : zCas yy_J3_checkIndex_8e157 3 := ⟨⟨⟨⟨zIn (w := 3165) (by decide +kernel) rfl, zIn (w := 1024) (by decide +kernel) rfl⟩, by decide +kernel⟩, by decide +kernel⟩, zIn (w := 3164) (by decide +kernel) rfl⟩
noncomputable abbrev yy_J0_checkIndex_df160 : zY := (yJ0_checkIndex_df160, cJ0_checkIndex_df160, 2, none, 1, 22)
theorem c_J0_checkIndex (k n : Int32) (h1 : ¬ k < 0) (h2 : k < n) : zC yy_J0_checkIndex_df160 0 0 [.int k, .int n] [] zM0 none [] zM0 := by
  refine zC.of (by decide +kernel) rfl (Nat.le_of_ble_eq_true rfl) ?_
  refine zT.run [(.iload_n 0, 0, 0, 0), (.iload_n 1, 0, 0, 0)] (pe := 2) (ls' := [some (.int k), some (.int n)]) (st' := [.int n, .int k]) (M' := zM0) (by decide +kernel) rfl ?_
  refine zT.getQ (idx := 1053) (zIn (w := 3052) (by decide +kernel) rfl) (by decide +kernel) (fun v hv => ?_)
  have hS : (v :: [.int n, .int k] : List Value) = (([.int k, .int n, v] : List Value).map (zRv 0)).reverse ++ [] := by rcases hv with rfl | rfl <;> rfl
  refine zT.cS_nil (idx := 1059) (av := [.int k, .int n, v]) (rv := some (.int k)) (st := []) (S1 := [.int k]) (c_J3_checkIndex k n v hv h1 h2) k_J3_checkIndex_8e157 rfl (zIn (w := 3163) (by decide +kernel) rfl) (by decide +kernel) (by decide +kernel) hS (Nat.le_of_ble_eq_true rfl) rfl ?_
  refine zT.run [(.pop, 0, 0, 0)] (pe := 9) (ls' := [some (.int k), some (.int n)]) (st' := []) (M' := zM0) (by decide +kernel) rfl ?_
  exact zT.vret rfl rfl (by decide +kernel)
theorem k_J0_checkIndex_df160 : zCas yy_J0_checkIndex_df160 2 := ⟨⟨⟨⟨zIn (w := 3162) (by decide +kernel) rfl, zIn (w := 1020) (by decide +kernel) rfl⟩, by decide +kernel⟩, by decide +kernel⟩, zIn (w := 3161) (by decide +kernel) rfl⟩
noncomputable abbrev yy_J1_charAt_3b067 : zY := (yJ1_charAt_3b067, cJ1_charAt_3b067, 2, (some Jvm.ClassFile.FieldType.char), 2, 43)
theorem zChr : ∀ c, c < 128 → ((((nI c &&& 255 : Int32)).toUInt32 % 65536).toInt32) = nI c := by decide +kernel
theorem zChn : ∀ c, c < 128 → narrow .char (.int (nI c)) = .int (nI c) := by decide +kernel
theorem c_J1_charAt (i : Nat) (hi : i < 21) (k : Nat) (hk : k < (zTxt i).length) : zC yy_J1_charAt_3b067 0 0 [.retAddr (300 + i), .int (nI k)] [] zM0 (some (.int (nI ((zTxt i).getD k 0)))) [] zM0 := by
  have hl := zTx_len i hi
  have hg : (zTxt i)[k]? = some ((zTxt i).getD k 0) := by rw [List.getD_eq_getElem?_getD, List.getElem?_eq_getElem hk]; rfl
  have hc : (zTxt i).getD k 0 < 128 := zTx_chr i hi _ (List.mem_of_getElem? hg)
  refine zC.of (by decide +kernel) rfl (Nat.le_of_ble_eq_true rfl) ?_
  refine zT.run [(.iload_n 1, 0, 0, 0), (.aload_n 0, 0, 0, 0)] (pe := 2) (ls' := [some (.retAddr (300 + i)), some (.int (nI k))]) (st' := [.retAddr (300 + i), .int (nI k)]) (M' := zM0) (by decide +kernel) rfl ?_
  refine zT.xlenM (zTx_row i hi) (by decide +kernel) ?_
  rw [List.length_map]
  refine zT.cS_nil (idx := 9) (av := [.int (nI k), .int (nI (zTxt i).length)]) (rv := none) (st := []) (S1 := []) (c_J0_checkIndex (nI k) (nI (zTxt i).length) (nI_pos (by omega)) (nI_lt hk (by omega))) k_J0_checkIndex_df160 rfl (zIn (w := 3239) (by decide +kernel) rfl) (by decide +kernel) (by decide +kernel) rfl (Nat.le_of_ble_eq_true rfl) rfl ?_
  refine zT.run [(.aload_n 0, 0, 0, 0), (.iload_n 1, 0, 0, 0)] (pe := 8) (ls' := [some (.retAddr (300 + i)), some (.int (nI k))]) (st' := [.int (nI k), .retAddr (300 + i)]) (M' := zM0) (by decide +kernel) rfl ?_
  refine zT.xbM (j := k) (x := nI ((zTxt i).getD k 0)) (zTx_row i hi) rfl (by rw [List.getElem?_map, hg]; rfl) (by rw [List.length_map]; omega) (by decide +kernel) ?_
  refine zT.run [(.sipush 255, 0, 0, 0), (.iand, 0, 0, 0), (.i2c, 0, 0, 0)] (pe := 14) (ls' := [some (.retAddr (300 + i)), some (.int (nI k))]) (st' := [.int ((((nI ((zTxt i).getD k 0) &&& 255 : Int32)).toUInt32 % 65536).toInt32)]) (M' := zM0) (by decide +kernel) rfl ?_
  rw [zChr _ hc]
  exact zT.iret (ty := .char) rfl rfl rfl (zChn _ hc) (by decide +kernel)
theorem k_J1_charAt_3b067 : zCas yy_J1_charAt_3b067 2 := ⟨⟨⟨⟨zIn (w := 3238) (by decide +kernel) rfl, zIn (w := 1025) (by decide +kernel) rfl⟩, by decide +kernel⟩, by decide +kernel⟩, zIn (w := 3237) (by decide +kernel) rfl⟩
noncomputable abbrev yy_J0_charAt_5068e : zY := (yJ0_charAt_5068e, cJ0_charAt_5068e, 2, (some Jvm.ClassFile.FieldType.char), 3, 64)
theorem c_J0_charAt (i : Nat) (hi : i < 21) (k : Nat) (hk : k < (zTxt i).length) : zC yy_J0_charAt_5068e 0 0 [.retAddr (200 + i), .int (nI k)] [] zM0 (some (.int (nI ((zTxt i).getD k 0)))) [] zM0 := by
  have hg : (zTxt i)[k]? = some ((zTxt i).getD k 0) := by rw [List.getD_eq_getElem?_getD, List.getElem?_eq_getElem hk]; rfl
  have hc : (zTxt i).getD k 0 < 128 := zTx_chr i hi _ (List.mem_of_getElem? hg)
  refine zC.of (by decide +kernel) rfl (Nat.le_of_ble_eq_true rfl) ?_
  refine zT.run [(.aload_n 0, 0, 0, 0)] (pe := 1) (ls' := [some (.retAddr (200 + i)), some (.int (nI k))]) (st' := [.retAddr (200 + i)]) (M' := zM0) (by decide +kernel) rfl ?_
  refine zT.cX (idx := 492) (av := []) (rv := some (.int 1)) (st := []) (S1 := [.int 1]) (c_J0_isLatin1 i hi) k_J0_isLatin1_aae02 (zTx_obj i hi) rfl (zIn (w := 3232) (by decide +kernel) rfl) (by decide +kernel) (by decide +kernel) rfl (Nat.le_of_ble_eq_true rfl) rfl ?_
  refine zT.zeq (tgt := 16) (off := 12) (by decide +kernel) (by decide) (fun c => absurd c (by decide)) (fun _ => ?_)
  refine zT.run [(.aload_n 0, 0, 0, 0)] (pe := 8) (ls' := [some (.retAddr (200 + i)), some (.int (nI k))]) (st' := [.retAddr (200 + i)]) (M' := zM0) (by decide +kernel) rfl ?_
  refine zT.xgetM (idx := 9) (zTx_val i hi) rfl (zIn (w := 5171) (by decide +kernel) rfl) (by decide +kernel) ?_
  refine zT.run [(.iload_n 1, 0, 0, 0)] (pe := 12) (ls' := [some (.retAddr (200 + i)), some (.int (nI k))]) (st' := [.int (nI k), .retAddr (300 + i)]) (M' := zM0) (by decide +kernel) rfl ?_
  refine zT.cS_nil (idx := 495) (av := [.retAddr (300 + i), .int (nI k)]) (rv := some (.int (nI ((zTxt i).getD k 0)))) (st := []) (S1 := [.int (nI ((zTxt i).getD k 0))]) (c_J1_charAt i hi k hk) k_J1_charAt_3b067 rfl (zIn (w := 3236) (by decide +kernel) rfl) (by decide +kernel) (by decide +kernel) rfl (Nat.le_of_ble_eq_true rfl) rfl ?_
  exact zT.iret (ty := .char) rfl rfl rfl (zChn _ hc) (by decide +kernel)
theorem k_J0_charAt_5068e : zCal yy_J0_charAt_5068e 1 := ⟨⟨⟨⟨zIn (w := 3231) (by decide +kernel) rfl, zIn (w := 1020) (by decide +kernel) rfl⟩, by decide +kernel⟩, by decide +kernel⟩, ⟨zIn (w := 3229) (by decide +kernel) rfl, zIn (w := 3230) (by decide +kernel) rfl⟩⟩
