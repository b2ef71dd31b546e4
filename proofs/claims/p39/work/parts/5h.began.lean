/-! THE LAW: it opens an office by a text -/
theorem SB.congr {sc : List va_E} {N N' : zM} {t : List Nat} {q : Nat} (h : SB sc N t q) (e : ∀ o, o < sc.length → N' o = N o) : SB sc N' t q := by
  obtain ⟨k, m, hs, ha, hc, h3, hcs, hf, hm5, hqm, htq, htx⟩ := h
  have e0 := e 0 (zSg_lt hs)
  have ek := e k (zSg_lt ha)
  exact ⟨k, m, hs, ha, by rw [e0]; exact hc, by rw [e0]; exact h3, hcs, by rw [ek]; exact hf, hm5, hqm, htq, by rw [ek]; exact htx⟩
theorem SB.more {sc : List va_E} {N : zM} {t : List Nat} {q : Nat} {e : va_E} (h : SB sc N t q) (he : zCe (sc.length + 1) e) : SB (sc ++ [e]) N t q := by
  obtain ⟨k, m, hs, ha, hc, h3, hcs, hr⟩ := h
  refine ⟨k, m, zSg_ap hs, zSg_ap ha, hc, h3, ?_, hr⟩
  rw [List.length_append]
  exact (hcs.mono (by omega)).app (fun q hq => by rw [List.mem_singleton.mp hq]; exact he)
theorem zCs_rm {b n : Nat} {sc : List va_E} (h : zCs n sc) : zCs (b + n) (sc.map (zRe b)) := fun q hq => by
  obtain ⟨q0, h0, rfl⟩ := List.mem_map.mp hq
  intro as as' ha cA ex f
  rw [← zTrE_re, ← zTrE_re]
  exact h q0 h0 _ _ (fun k hk => ha (b + k) (by omega)) cA ex f
theorem SB.zCs {B sc : List va_E} {N : zM} {t : List Nat} {q : Nat} (h : SB sc N t q) (hB : zCs B.length B) : zCs (B ++ sc.map (zRe B.length)).length (B ++ sc.map (zRe B.length)) := by
  obtain ⟨k, m, hs, ha, hc, h3, hcs, hr⟩ := h
  rw [List.length_append, List.length_map]
  exact (hB.mono (by omega)).app (zCs_rm hcs)
section ZSB
variable {Y Yc : zY} {kc nc k1 n1 : Nat} {Z : zS → Prop} {pc idx n : Nat} {ls : zL} {st S0 : List Value} {B sc : List va_E} {M : zM} {av : List Value} {R : Option Value → List va_E → zM → Prop}
theorem zT.sb {fs : List Value} (hC : zCr Yc k1 n1 (.ref 0 :: av) sc (zPl M B.length) R) (ho : zSg sc 0 = some (.inr (8, fs))) (hcs : zCs B.length B) (hls : zLb (B.length + 1) ls = true) (hst : st.all (zVb (B.length + 1)) = true) (hav : av.map (zRv B.length) = av) (hn : av.length = n) (hok : zCal Yc n) (hcl : RJ4 = Yc.1.cls) (hlk : Cond.methodLink Y.1.cls idx Yc.1 ∈ zW) (hroom : zRoom Y Yc = true) (hw : (st.map fun v => v.category).sum ≤ 8)
    (hd : decode Y.2.1 pc = .ok (.invokevirtual idx, 3)) (h0 : S0 = av.reverse ++ .ref B.length :: st)
    (k9 : ∀ rv sc' N' M', R rv sc' N' → (∀ o, o < B.length → M' o = M o) → (∀ o, o < sc'.length → zPl M' B.length o = N' o) → zT Y kc nc Z (pc + 3, ls, (rv.map (zRv B.length)).toList ++ st, B ++ sc'.map (zRe B.length), M')) : zT Y (k1 + kc) (n1 + nc) Z (pc, ls, S0, B ++ sc.map (zRe B.length), M) := by
  have hl := zSg_lt ho
  exact zT.callVr (o := 0) hC rfl (hcs.mono (by omega)) (zLb_up hls (by omega)) (zVb_up hst (by omega)) (fun j _ => rfl) ho hl (congrArg some hcl) hn hok hlk hroom hw hd (by rw [hav]; exact h0) (fun rv sc' N' hR => k9 rv sc' N' _ hR (fun o ho => zPs_out (Or.inl ho)) (fun o ho => zPl_ps ho))
theorem zT.sbp {fs : List Value} {RV : Option Value} (hC : zCr Yc 0 0 (.ref 0 :: av) sc (zPl M B.length) (fun rv sh' M' => rv = RV ∧ sc = sh' ∧ zPl M B.length = M')) (ho : zSg sc 0 = some (.inr (8, fs))) (hcs : zCs B.length B) (hls : zLb (B.length + 1) ls = true) (hst : st.all (zVb (B.length + 1)) = true) (hav : av.map (zRv B.length) = av) (hn : av.length = n) (hok : zCal Yc n) (hcl : RJ4 = Yc.1.cls) (hlk : Cond.methodLink Y.1.cls idx Yc.1 ∈ zW) (hroom : zRoom Y Yc = true) (hw : (st.map fun v => v.category).sum ≤ 8)
    (hd : decode Y.2.1 pc = .ok (.invokevirtual idx, 3)) (h0 : S0 = av.reverse ++ .ref B.length :: st) (k9 : zT Y kc nc Z (pc + 3, ls, (RV.map (zRv B.length)).toList ++ st, B ++ sc.map (zRe B.length), M)) : zT Y kc nc Z (pc, ls, S0, B ++ sc.map (zRe B.length), M) := by
  refine zT.eq9 (zT.sb hC ho hcs hls hst hav hn hok hcl hlk hroom hw hd h0 (fun rv sc' N' M' hR h1 h2 => ?_))
  obtain ⟨rfl, rfl, rfl⟩ := hR
  refine zT.congM (M2 := M) (fun k hk => ?_) k9
  rw [List.length_append, List.length_map] at hk
  by_cases c : k < B.length
  · exact h1 k c
  · have := h2 (k - B.length) (by omega)
    unfold zPl at this
    rwa [show B.length + (k - B.length) = k by omega] at this
theorem zT.sbq {fs : List Value} {RV : Option Value} (hC : zCr Yc 0 0 (.ref 0 :: av) sc (zPl M B.length) (fun rv sh' M' => rv = RV ∧ sc = sh' ∧ zPl M B.length = M')) (ho : zSg sc 0 = some (.inr (8, fs))) (hcs : zCs B.length B) (hls : zLb (B.length + sc.length) ls = true) (hst : st.all (zVb (B.length + sc.length)) = true) (hav : av.map (zRv B.length) = av) (hn : av.length = n) (hok : zCal Yc n) (hcl : RJ4 = Yc.1.cls) (hlk : Cond.methodLink Y.1.cls idx Yc.1 ∈ zW) (hroom : zRoom Y Yc = true) (hw : (st.map fun v => v.category).sum ≤ 8)
    (hd : decode Y.2.1 pc = .ok (.invokevirtual idx, 3)) (h0 : S0 = av.reverse ++ .ref B.length :: st) (k9 : zT Y kc nc Z (pc + 3, ls, (RV.map (zRv B.length)).toList ++ st, B ++ sc.map (zRe B.length), M)) : zT Y kc nc Z (pc, ls, S0, B ++ sc.map (zRe B.length), M) := by
  have hl := zSg_lt ho
  refine zT.eq9 (zT.callVr (o := 0) hC rfl (hcs.mono (by omega)) hls hst (fun j _ => rfl) ho hl (congrArg some hcl) hn hok hlk hroom hw hd (by rw [hav]; exact h0) (fun rv sc' N' hR => ?_))
  obtain ⟨rfl, rfl, rfl⟩ := hR
  refine zT.congM (M2 := M) (fun k hk => ?_) k9
  rw [List.length_append, List.length_map] at hk
  by_cases c : k < B.length
  · exact zPs_out (Or.inl c)
  · rw [zPs_in (by omega) (by omega)]
    unfold zPl
    rw [show B.length + (k - B.length) = k by omega]
end ZSB
theorem pcs_app (q : Nat × Nat) : ∀ ps, pcs (ps ++ [q]) = pcs ps ++ pc q
  | [] => by show pc q ++ [] = [] ++ pc q; rw [List.append_nil, List.nil_append]
  | a :: r => by show pc a ++ pcs (r ++ [q]) = pc a ++ pcs r ++ pc q; rw [pcs_app q r, List.append_assoc]
theorem pc_le {q : Nat × Nat} (h : oky q) : (pc q).length ≤ 13 := by
  rw [pc_len, dg_len, dg_len]
  obtain ⟨h1, h2, h3⟩ := h
  rw [if_pos (show q.2 < 10 by omega)]
  split <;> omega
theorem pcs_le : ∀ ps, (∀ q ∈ ps, oky q) → (pcs ps).length ≤ 13 * ps.length
  | [], _ => Nat.le_refl _
  | a :: r, h => by
    show (pc a ++ pcs r).length ≤ 13 * (r.length + 1)
    rw [List.length_append]
    have := pc_le (h a (by simp))
    have := pcs_le r (fun q hq => h q (by simp [hq]))
    omega
theorem tx20l : (zTxt 20).length = 8 := by rw [tx20]; rfl
theorem tx15l : (zTxt 15).length = 7 := by rw [tx15]; rfl
noncomputable abbrev yy_L_began : zY := (yL_began, cL_began, 8, (some Jvm.ClassFile.FieldType.int), 9, 214)
theorem sbO {sc : List va_E} {N : zM} {t : List Nat} {q : Nat} (h : SB sc N t q) : zSg sc 0 = some (.inr (8, [.ref h.choose, .int 0, .int 0, .int 0])) := by
  obtain ⟨m, hs, -⟩ := h.choose_spec
  exact hs
theorem sbL {B sc : List va_E} {N : zM} {t : List Nat} {q : Nat} (h : SB sc N t q) : B.length + 1 ≤ (B ++ sc.map (zRe B.length)).length := by
  have := sb_len h
  rw [List.length_append, List.length_map]
  omega
theorem w_began22 {B : List va_E} {x : zM} (hcs : zCs B.length B) {n K D : Nat} (hn : n ≤ 9) {Z : zS → Prop} (next : ∀ (ps : List (Nat × Nat)) (sc : List va_E) (M : zM) (q : Nat) (l5 : Option Int32), ps.length = n → (∀ q ∈ ps, oky q) → SB sc (zPl M B.length) (zTxt 15 ++ pcs ps) q → (∀ o, o < B.length → M o = x o) → zT yy_L_began (K) (D) Z (84, [some (.ref 0), some (.retAddr 998), some (.ref B.length), some (.int (nI n)), some (.int (nI n)), (l5.map Value.int), none, none], [], (B ++ sc.map (zRe B.length)), M)) : ∀ (j i : Nat) (ps : List (Nat × Nat)) (sc : List va_E) (M : zM) (q : Nat) (l5 : Option Int32), i + j = n → ps.length = i → (∀ q ∈ ps, oky q) → SB sc (zPl M B.length) (zTxt 15 ++ pcs ps) q → (∀ o, o < B.length → M o = x o) → zT yy_L_began (5 * j + K) (2500 * j + D) Z (22, [some (.ref 0), some (.retAddr 998), some (.ref B.length), some (.int (nI n)), some (.int (nI i)), (l5.map Value.int), none, none], [], (B ++ sc.map (zRe B.length)), M) := by
  intro j
  induction j with
  | zero =>
    intro i ps sc M q l5 hij hps hok hS hM
    obtain rfl : i = n := by omega
    simp only [Nat.mul_zero, Nat.zero_add]
    refine zT.run [(.iload 4, 0, 0, 0), (.iload_n 3, 0, 0, 0)] (pe := 25) (ls' := [some (.ref 0), some (.retAddr 998), some (.ref B.length), some (.int (nI i)), some (.int (nI i)), (l5.map Value.int), none, none]) (st' := [.int (nI i), .int (nI i)]) (M' := M) (by decide +kernel) rfl ?_
    refine zT.cge (tgt := 84) (off := 59) (by decide +kernel) (by decide) (fun _ => next ps sc M q l5 hps hok hS hM) (fun c => absurd (Int32.le_refl _) c)
  | succ j ih =>
    intro i ps sc M q l5 hij hps hok hS hM
    have hlen := sbL (B := B) hS
    have hpl := pcs_le ps hok
    have hl15 := tx15l
    have hl20 := tx20l
    have htl : (zTxt 15 ++ pcs ps).length = 7 + (pcs ps).length := by rw [List.length_append, hl15]
    refine zT.run [(.iload 4, 0, 0, 0), (.iload_n 3, 0, 0, 0)] (pe := 25) (ls' := [some (.ref 0), some (.retAddr 998), some (.ref B.length), some (.int (nI n)), some (.int (nI i)), (l5.map Value.int), none, none]) (st' := [.int (nI n), .int (nI i)]) (M' := M) (by decide +kernel) rfl ?_
    refine zT.cge (tgt := 84) (off := 59) (by decide +kernel) (by decide) (fun c => absurd c (nI_ge (a := i) (b := n) (by omega) (by omega))) (fun _ => ?_)
    refine zT.run [(.aload_n 1, 0, 0, 0), (.iconst 1, 0, 0, 0), (.iload 4, 0, 0, 0), (.iadd, 0, 0, 0)] (pe := 33) (ls' := [some (.ref 0), some (.retAddr 998), some (.ref B.length), some (.int (nI n)), some (.int (nI i)), (l5.map Value.int), none, none]) (st' := [.int (1 + (nI i)), .retAddr 998]) (M' := M) (by decide +kernel) rfl ?_
    rw [show (1 : Int32) + nI i = nI (1 + i) from nI_add 1 i]
    refine zT.cSi (sh := (B ++ sc.map (zRe B.length))) (av := [.retAddr 998, .int (nI (1 + i))]) (idx := 7) (st := []) (c_L_cell (1 + i) (by omega)) rfl k_L_cell (zIn (w := 2093) (by decide +kernel) rfl) (by decide +kernel) (Nat.le_of_ble_eq_true rfl) (zLb_up (n := B.length + 1) (by cases l5 <;> simp [zLb, zVb]) hlen) (zVb_up (n := B.length + 1) (by simp [zVb]) hlen) (hS.zCs hcs) (by decide +kernel) rfl rfl ?_
    intro v0 _
    refine zT.run [(.ldc 86, 2147483647, 0, 3116), (.iand, 0, 0, 0)] (pe := 39) (ls' := [some (.ref 0), some (.retAddr 998), some (.ref B.length), some (.int (nI n)), some (.int (nI i)), (l5.map Value.int), none, none]) (st' := [.int (v0 &&& 2147483647)]) (M' := M) (by decide +kernel) rfl ?_
    obtain ⟨u, hu, eu⟩ := and_low (x := v0) (c := 2147483647) (by decide)
    rw [eu]
    refine zT.run [(.istore 5, 0, 0, 0), (.aload_n 2, 0, 0, 0)] (pe := 42) (ls' := [some (.ref 0), some (.retAddr 998), some (.ref B.length), some (.int (nI n)), some (.int (nI i)), some (.int (nI u)), none, none]) (st' := [.ref B.length]) (M' := M) (by decide +kernel) rfl ?_
    refine zT.ldcS (k := 20) rfl rfl (by decide +kernel) ?_
    refine zT.widen (k := 1 + (1 + (1 + (1 + (1 + (5 * j + K)))))) (n := 500 + (500 + (500 + (500 + (500 + (2500 * j + D)))))) (by omega) (by omega) ?_
    refine zT.sb (kc := (1 + (1 + (1 + (1 + (5 * j + K)))))) (nc := (500 + (500 + (500 + (500 + (2500 * j + D)))))) (idx := 89) (av := [.retAddr (200 + 20)]) (st := []) (c_J4_appendS 20 (by decide) hS (by rw [htl, hl20]; omega)) (sbO hS) hcs (by simp [zLb, zVb]) (by simp [zVb]) rfl rfl k_J4_append_15ec4 rfl (zIn (w := 3118) (by decide +kernel) rfl) (by decide +kernel) (Nat.le_of_ble_eq_true rfl) (by decide +kernel) rfl ?_
    rintro _ sc1 N1 M1 ⟨rfl, hR⟩ h1 h2
    have hS1 := hR.congr h2
    have hM1 : ∀ o, o < B.length → M1 o = x o := fun o ho => (h1 o ho).trans (hM o ho)
    clear hR h1 h2
    show zT _ _ _ _ (47, _, [.ref B.length], _, _)
    refine zT.run [(.iconst 1, 0, 0, 0), (.iload 5, 0, 0, 0), (.bipush 40, 0, 0, 0)] (pe := 52) (ls' := [some (.ref 0), some (.retAddr 998), some (.ref B.length), some (.int (nI n)), some (.int (nI i)), some (.int (nI u)), none, none]) (st' := [.int 40, .int (nI u), .int 1, .ref B.length]) (M' := M1) (by decide +kernel) rfl ?_
    refine zT.run [(.irem, 0, 0, 0)] (pe := 53) (ls' := [some (.ref 0), some (.retAddr 998), some (.ref B.length), some (.int (nI n)), some (.int (nI i)), some (.int (nI u)), none, none]) (st' := [.int ((nI u) - (nI u) / 40 * 40), .int 1, .ref B.length]) (M' := M1) (by decide +kernel) rfl ?_
    rw [nI_rem (c := 40) (b := 40) rfl hu (by decide) (by decide)]
    refine zT.run [(.iadd, 0, 0, 0)] (pe := 54) (ls' := [some (.ref 0), some (.retAddr 998), some (.ref B.length), some (.int (nI n)), some (.int (nI i)), some (.int (nI u)), none, none]) (st' := [.int (1 + (nI (u % 40))), .ref B.length]) (M' := M1) (by decide +kernel) rfl ?_
    rw [show (1 : Int32) + nI (u % 40) = nI (1 + u % 40) from nI_add 1 _]
    have hA : 1 ≤ 1 + u % 40 ∧ 1 + u % 40 ≤ 40 := by omega
    generalize 1 + u % 40 = a at hA ⊢
    have hda : (dg a).length ≤ 2 := by rw [dg_len]; split <;> omega
    refine zT.sb (kc := (1 + (1 + (1 + (5 * j + K))))) (nc := (500 + (500 + (500 + (2500 * j + D))))) (idx := 93) (av := [.int (nI a)]) (st := []) (c_J4_appendI (by omega) hS1 (by rw [List.length_append, htl, hl20]; omega)) (sbO hS1) hcs (by simp [zLb, zVb]) (by simp [zVb]) rfl rfl k_J4_append_bf812 rfl (zIn (w := 3119) (by decide +kernel) rfl) (by decide +kernel) (Nat.le_of_ble_eq_true rfl) (by decide +kernel) rfl ?_
    rintro _ sc2 N2 M2 ⟨rfl, hR⟩ h1 h2
    have hS2 := hR.congr h2
    have hM2 : ∀ o, o < B.length → M2 o = x o := fun o ho => (h1 o ho).trans (hM1 o ho)
    clear hR h1 h2
    show zT _ _ _ _ (57, _, [.ref B.length], _, _)
    refine zT.run [(.bipush 32, 0, 0, 0)] (pe := 59) (ls' := [some (.ref 0), some (.retAddr 998), some (.ref B.length), some (.int (nI n)), some (.int (nI i)), some (.int (nI u)), none, none]) (st' := [.int 32, .ref B.length]) (M' := M2) (by decide +kernel) rfl ?_
    refine zT.sb (kc := (1 + (1 + (5 * j + K)))) (nc := (500 + (500 + (2500 * j + D)))) (idx := 96) (av := [.int (nI 32)]) (st := []) (c_J4_appendC (c := 32) (by decide) hS2 (by rw [List.length_append, List.length_append, htl, hl20]; omega)) (sbO hS2) hcs (by simp [zLb, zVb]) (by simp [zVb]) rfl rfl k_J4_append_cf468 rfl (zIn (w := 3144) (by decide +kernel) rfl) (by decide +kernel) (Nat.le_of_ble_eq_true rfl) (by decide +kernel) rfl ?_
    rintro _ sc3 N3 M3 ⟨rfl, hR⟩ h1 h2
    have hS3 := hR.congr h2
    have hM3 : ∀ o, o < B.length → M3 o = x o := fun o ho => (h1 o ho).trans (hM2 o ho)
    clear hR h1 h2
    show zT _ _ _ _ (62, _, [.ref B.length], _, _)
    refine zT.run [(.iload 5, 0, 0, 0), (.bipush 64, 0, 0, 0), (.idiv, 0, 0, 0)] (pe := 67) (ls' := [some (.ref 0), some (.retAddr 998), some (.ref B.length), some (.int (nI n)), some (.int (nI i)), some (.int (nI u)), none, none]) (st' := [.int ((nI u) / 64), .ref B.length]) (M' := M3) (by decide +kernel) rfl ?_
    rw [nI_div (c := 64) (b := 64) rfl hu (by decide) (by decide)]
    refine zT.run [(.iconst 5, 0, 0, 0), (.irem, 0, 0, 0)] (pe := 69) (ls' := [some (.ref 0), some (.retAddr 998), some (.ref B.length), some (.int (nI n)), some (.int (nI i)), some (.int (nI u)), none, none]) (st' := [.int ((nI (u / 64)) - (nI (u / 64)) / 5 * 5), .ref B.length]) (M' := M3) (by decide +kernel) rfl ?_
    rw [nI_rem (c := 5) (b := 5) rfl (by omega) (by decide) (by decide)]
    have hF : u / 64 % 5 ≤ 4 := by omega
    generalize u / 64 % 5 = f at hF ⊢
    have hdf : (dg f).length ≤ 2 := by rw [dg_len]; split <;> omega
    refine zT.sb (kc := (1 + (5 * j + K))) (nc := (500 + (2500 * j + D))) (idx := 93) (av := [.int (nI f)]) (st := []) (c_J4_appendI (by omega) hS3 (by rw [List.length_append, List.length_append, List.length_append, htl, hl20, show ([32] : List Nat).length = 1 from rfl]; omega)) (sbO hS3) hcs (by simp [zLb, zVb]) (by simp [zVb]) rfl rfl k_J4_append_bf812 rfl (zIn (w := 3119) (by decide +kernel) rfl) (by decide +kernel) (Nat.le_of_ble_eq_true rfl) (by decide +kernel) rfl ?_
    rintro _ sc4 N4 M4 ⟨rfl, hR⟩ h1 h2
    have hS4 := hR.congr h2
    have hM4 : ∀ o, o < B.length → M4 o = x o := fun o ho => (h1 o ho).trans (hM3 o ho)
    clear hR h1 h2
    show zT _ _ _ _ (72, _, [.ref B.length], _, _)
    refine zT.run [(.bipush 59, 0, 0, 0)] (pe := 74) (ls' := [some (.ref 0), some (.retAddr 998), some (.ref B.length), some (.int (nI n)), some (.int (nI i)), some (.int (nI u)), none, none]) (st' := [.int 59, .ref B.length]) (M' := M4) (by decide +kernel) rfl ?_
    refine zT.sb (kc := (5 * j + K)) (nc := (2500 * j + D)) (idx := 96) (av := [.int (nI 59)]) (st := []) (c_J4_appendC (c := 59) (by decide) hS4 (by rw [List.length_append, List.length_append, List.length_append, List.length_append, htl, hl20, show ([32] : List Nat).length = 1 from rfl]; omega)) (sbO hS4) hcs (by simp [zLb, zVb]) (by simp [zVb]) rfl rfl k_J4_append_cf468 rfl (zIn (w := 3144) (by decide +kernel) rfl) (by decide +kernel) (Nat.le_of_ble_eq_true rfl) (by decide +kernel) rfl ?_
    rintro _ sc5 N5 M5 ⟨rfl, hR⟩ h1 h2
    have hS5 := hR.congr h2
    have hM5 : ∀ o, o < B.length → M5 o = x o := fun o ho => (h1 o ho).trans (hM4 o ho)
    clear hR h1 h2
    show zT _ _ _ _ (77, _, [.ref B.length], _, _)
    refine zT.run [(.pop, 0, 0, 0), (.iinc 4 1, 0, 0, 0), (.goto (-59), 0, 0, 0)] (pe := 22) (ls' := [some (.ref 0), some (.retAddr 998), some (.ref B.length), some (.int (nI n)), some (.int ((nI i) + 1)), some (.int (nI u)), none, none]) (st' := []) (M' := M5) (by decide +kernel) rfl ?_
    rw [nI_1]
    have et : zTxt 15 ++ pcs ps ++ zTxt 20 ++ dg a ++ [32] ++ dg f ++ [59] = zTxt 15 ++ pcs (ps ++ [(a, f)]) := by
      rw [pcs_app]
      unfold pc
      simp only [List.append_assoc]
    rw [et] at hS5
    exact ih (i + 1) (ps ++ [(a, f)]) sc5 M5 _ (some (nI u)) (by omega) (by rw [List.length_append, hps]; rfl) (fun w hw => (List.mem_append.mp hw).elim (hok w) (fun h => by rw [List.mem_singleton.mp h]; exact ⟨hA.1, hA.2, hF⟩)) hS5 hM5
