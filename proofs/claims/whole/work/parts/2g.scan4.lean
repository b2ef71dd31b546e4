theorem e_X10_ends {ty : Nat} (M : zM) (x : Int32) (h600 : ty ≤ 600) (htk : zTkP ty M) (h : ¬ (g_X10_ends M x).1 = 0) : M 0 18 = 0 ∧ x = 0 ∧ M 0 16 = 1 ∧ (g_X10_ends M x).2 = M := by
  by_cases c1 : M 0 18 = 0
  · by_cases c2 : M 0 16 = 1
    · have e20 : j_X10_ends_20 M x = M := by unfold j_X10_ends_20; rw [if_pos c1, if_pos c2]
      by_cases c3 : x = 0
      · have e36 : j_X10_ends_36 M x = M := by unfold j_X10_ends_36; rw [e20, if_pos c1, if_pos c3]
        refine ⟨c1, c3, c2, ?_⟩
        unfold g_X10_ends
        rw [e36, if_pos c1]
      · exfalso
        have hw : ¬ g_X10_wrong M 4 0 18 = 0 := e_X10_wrong (k := 4) M h600 htk (by decide) (by decide)
        have e36 : j_X10_ends_36 M x = g_X10_wrong M 4 := by unfold j_X10_ends_36; rw [e20, if_pos c1, if_neg c3]
        apply h
        unfold g_X10_ends
        rw [e36, if_neg hw]
    · exfalso
      have hw : ¬ g_X10_wrong M 1 0 18 = 0 := e_X10_wrong (k := 1) M h600 htk (by decide) (by decide)
      have e20 : j_X10_ends_20 M x = g_X10_wrong M 1 := by unfold j_X10_ends_20; rw [if_pos c1, if_neg c2]
      have e36 : j_X10_ends_36 M x = g_X10_wrong M 1 := by unfold j_X10_ends_36; rw [e20, if_neg hw]
      apply h
      unfold g_X10_ends
      rw [e36, if_neg hw]
  · exfalso
    have e20 : j_X10_ends_20 M x = M := by unfold j_X10_ends_20; rw [if_neg c1]
    have e36 : j_X10_ends_36 M x = M := by unfold j_X10_ends_36; rw [e20, if_neg c1]
    apply h
    unfold g_X10_ends
    rw [e36, if_neg c1]
theorem lz_leading (M : zM) (n : Nat) (ti : Int32) (k : Nat) (h1 : k ≠ 12) (h2 : k ≠ 13) : (g_X10_leading M n ti).2 0 k = M 0 k := by
  have h : (r_X10_leading_14 M n ti).2 0 k = M 0 k := by
    refine zIt_inv (f := l_X10_leading_14 M n ti) (P := fun (_ : Nat) (s : Int32 × zM) => s.2 0 k = M 0 k) n _ ?_ ?_
    · show zU (zU M 0 12 (-1)) 0 13 0 0 k = M 0 k
      rw [zU_k h2, zU_k h1]
    · intro i hi s hs
      simp only [l_X10_leading_14]
      split
      · exact hs
      · show zU (zU s.2 0 13 _) 0 12 _ 0 k = M 0 k
        rw [zU_k h1, zU_k h2]
        exact hs
  unfold g_X10_leading
  (repeat' split) <;> exact h
theorem lz_chosenBy (M : zM) (n : Nat) (le ti : Int32) (k : Nat) (h1 : k ≠ 12) (h2 : k ≠ 13) : (g_X10_chosenBy M n le ti).2 0 k = M 0 k := by
  have h := lz_leading M n ti k h1 h2
  unfold g_X10_chosenBy
  (repeat' split) <;> exact h
theorem lz_chosenNow (M : zM) (n : Nat) (k : Nat) (h1 : k ≠ 12) (h2 : k ≠ 13) : (g_X10_chosenNow M n).2 0 k = M 0 k := by
  have h : g_X10_findVotes M n 0 = M 0 := fr_X10_findVotes M n 0 (by decide)
  unfold g_X10_chosenNow
  rw [← h]
  exact lz_chosenBy _ n _ _ k h1 h2
theorem lz_countIt (M : zM) (n oz : Nat) (k : Nat) (h1 : k ≠ 12) (h2 : k ≠ 13) : (g_X10_countIt M n oz).2 0 k = M 0 k := by
  have h := lz_chosenNow M n k h1 h2
  rw [← h]
  have h5 : r_X10_countIt_14 M n oz 0 = (g_X10_chosenNow M n).2 0 := by
    unfold r_X10_countIt_14
    rw [fr_l_X10_countIt_14 M n oz 0 (by decide), zU_ne (by decide)]
  have h6 : ∀ c, g_X10_addOutcome (r_X10_countIt_14 M n oz) n oz c 0 = r_X10_countIt_14 M n oz 0 := fun c => fr_X10_addOutcome _ n oz c 0 (by decide)
  unfold g_X10_countIt
  split
  · show g_X10_addOutcome (r_X10_countIt_14 M n oz) n oz _ 0 k = _
    rw [h6, h5]
  · show g_X10_addOutcome (r_X10_countIt_14 M n oz) n oz _ 0 k = _
    rw [h6, h5]
theorem tk_X10_countIt {ty : Nat} (M : zM) (n oz : Nat) (h600 : ty ≤ 600) (htk : zTkP ty M) : zTkP ty (g_X10_countIt M n oz).2 :=
  zTkP.of2 (lz_countIt M n oz 8 (by decide) (by decide)) (lz_countIt M n oz 14 (by decide) (by decide)) (lz_countIt M n oz 15 (by decide) (by decide)) htk
noncomputable abbrev yy_X10_isDeed : zY := (yX10_isDeed, cX10_isDeed, 3, (some Jvm.ClassFile.FieldType.boolean), 5, 108)
noncomputable def g_X10_isDeed (M : zM) (ty : Nat) : Int32 := (if (if (g_X10_isWord M ty 0) = 0 then (if (g_X10_isWord M ty 1) = 0 then (if (g_X10_isWord M ty 2) = 0 then (0 : Int32) else (1 : Int32)) else (1 : Int32)) else (1 : Int32)) = 0 then (if (if (g_X10_isWord M ty 3) = 0 then (if (g_X10_isWord M ty 4) = 0 then (if (g_X10_isWord M ty 5) = 0 then (if (g_X10_isWord M ty 6) = 0 then (if (g_X10_isWord M ty 7) = 0 then (if (g_X10_isWord M ty 8) = 0 then (if (g_X10_isWord M ty 9) = 0 then (if (g_X10_isWord M ty 10) = 0 then (0 : Int32) else (1 : Int32)) else (1 : Int32)) else (1 : Int32)) else (1 : Int32)) else (1 : Int32)) else (1 : Int32)) else (1 : Int32)) else (1 : Int32)) = 0 then (if (g_X10_isWord M ty 11) = 0 then (if (g_X10_isWord M ty 12) = 0 then (if (g_X10_isWord M ty 13) = 0 then (if (g_X10_isWord M ty 14) = 0 then 0 else 1) else 1) else 1) else 1) else 1) else 1)
set_option maxRecDepth 100000 in
theorem c_X10_isDeed (M : zM) (gp : Nat → Option Nat) (ty : Nat) (h600 : ty ≤ 600) (htk : zTkP ty M) : zC yy_X10_isDeed 0 0 [.ref 0] (sh_Model gp) M (some (.int (g_X10_isDeed M ty))) (sh_Model gp) M := by
  refine zC.of (by decide +kernel) rfl (Nat.le_of_ble_eq_true rfl) ?_
  refine zT.run [(.aload_n 0, 0, 0, 0)] (pe := 1) (ls' := [some (.ref 0), none, none]) (st' := [.ref 0]) (M' := M) (by decide +kernel) rfl ?_
  refine zT.ldcSW 20 rfl rfl (by decide +kernel) ?_
  refine zT.cV_own (o := 0) (idx := 264) (av := [.retAddr 200]) (rv := (some (.int (g_X10_isWord M ty 0)))) (st := []) (S1 := [.int (g_X10_isWord M ty 0)]) (c_X10_isWord M gp ty 0 h600 htk (by decide)) k_X10_isWord _ _ rfl rfl rfl (zIn (w := 6174) (by decide +kernel) rfl) (by decide +kernel) (by decide +kernel) rfl (Nat.le_of_ble_eq_true rfl) rfl ?_
  refine zT.join (35, [some (.ref 0), none, none], [.int (if (g_X10_isWord M ty 0) = 0 then (if (g_X10_isWord M ty 1) = 0 then (if (g_X10_isWord M ty 2) = 0 then (0 : Int32) else (1 : Int32)) else (1 : Int32)) else (1 : Int32))], (sh_Model gp), M) ?_ ?_
  · refine zT.zne (tgt := 30) (off := 23) (by decide +kernel) (by decide) (fun (c1 : ¬ (g_X10_isWord M ty 0) = 0) => ?_) (fun (c1 : (g_X10_isWord M ty 0) = 0) => ?_)
    · skip
      refine zT.run [(.iconst 1, 0, 0, 0), (.goto 4, 0, 0, 0)] (pe := 35) (ls' := [some (.ref 0), none, none]) (st' := [.int 1]) (M' := M) (by decide +kernel) rfl ?_
      exact zT.here (by simp only [if_neg c1]; try rfl)
    · skip
      refine zT.run [(.aload_n 0, 0, 0, 0)] (pe := 11) (ls' := [some (.ref 0), none, none]) (st' := [.ref 0]) (M' := M) (by decide +kernel) rfl ?_
      refine zT.ldcSW 21 rfl rfl (by decide +kernel) ?_
      refine zT.cV_own (o := 0) (idx := 264) (av := [.retAddr 201]) (rv := (some (.int (g_X10_isWord M ty 1)))) (st := []) (S1 := [.int (g_X10_isWord M ty 1)]) (c_X10_isWord M gp ty 1 h600 htk (by decide)) k_X10_isWord _ _ rfl rfl rfl (zIn (w := 6174) (by decide +kernel) rfl) (by decide +kernel) (by decide +kernel) rfl (Nat.le_of_ble_eq_true rfl) rfl ?_
      refine zT.zne (tgt := 30) (off := 13) (by decide +kernel) (by decide) (fun (c2 : ¬ (g_X10_isWord M ty 1) = 0) => ?_) (fun (c2 : (g_X10_isWord M ty 1) = 0) => ?_)
      · skip
        refine zT.run [(.iconst 1, 0, 0, 0), (.goto 4, 0, 0, 0)] (pe := 35) (ls' := [some (.ref 0), none, none]) (st' := [.int 1]) (M' := M) (by decide +kernel) rfl ?_
        exact zT.here (by simp only [if_pos c1, if_neg c2]; try rfl)
      · skip
        refine zT.run [(.aload_n 0, 0, 0, 0)] (pe := 21) (ls' := [some (.ref 0), none, none]) (st' := [.ref 0]) (M' := M) (by decide +kernel) rfl ?_
        refine zT.ldcSW 22 rfl rfl (by decide +kernel) ?_
        refine zT.cV_own (o := 0) (idx := 264) (av := [.retAddr 202]) (rv := (some (.int (g_X10_isWord M ty 2)))) (st := []) (S1 := [.int (g_X10_isWord M ty 2)]) (c_X10_isWord M gp ty 2 h600 htk (by decide)) k_X10_isWord _ _ rfl rfl rfl (zIn (w := 6174) (by decide +kernel) rfl) (by decide +kernel) (by decide +kernel) rfl (Nat.le_of_ble_eq_true rfl) rfl ?_
        refine zT.zeq (tgt := 34) (off := 7) (by decide +kernel) (by decide) (fun (c3 : (g_X10_isWord M ty 2) = 0) => ?_) (fun (c3 : ¬ (g_X10_isWord M ty 2) = 0) => ?_)
        · skip
          refine zT.run [(.iconst 0, 0, 0, 0)] (pe := 35) (ls' := [some (.ref 0), none, none]) (st' := [.int 0]) (M' := M) (by decide +kernel) rfl ?_
          exact zT.here (by simp only [if_pos c1, if_pos c2, if_pos c3]; try rfl)
        · skip
          refine zT.run [(.iconst 1, 0, 0, 0), (.goto 4, 0, 0, 0)] (pe := 35) (ls' := [some (.ref 0), none, none]) (st' := [.int 1]) (M' := M) (by decide +kernel) rfl ?_
          exact zT.here (by simp only [if_pos c1, if_pos c2, if_neg c3]; try rfl)
  · skip
    refine zT.run [(.istore_n 1, 0, 0, 0), (.aload_n 0, 0, 0, 0)] (pe := 37) (ls' := [some (.ref 0), some (.int (if (g_X10_isWord M ty 0) = 0 then (if (g_X10_isWord M ty 1) = 0 then (if (g_X10_isWord M ty 2) = 0 then (0 : Int32) else (1 : Int32)) else (1 : Int32)) else (1 : Int32))), none]) (st' := [.ref 0]) (M' := M) (by decide +kernel) rfl ?_
    refine zT.ldcSW 23 rfl rfl (by decide +kernel) ?_
    refine zT.cV_own (o := 0) (idx := 264) (av := [.retAddr 203]) (rv := (some (.int (g_X10_isWord M ty 3)))) (st := []) (S1 := [.int (g_X10_isWord M ty 3)]) (c_X10_isWord M gp ty 3 h600 htk (by decide)) k_X10_isWord _ _ rfl rfl rfl (zIn (w := 6174) (by decide +kernel) rfl) (by decide +kernel) (by decide +kernel) rfl (Nat.le_of_ble_eq_true rfl) rfl ?_
    refine zT.join (121, [some (.ref 0), some (.int (if (g_X10_isWord M ty 0) = 0 then (if (g_X10_isWord M ty 1) = 0 then (if (g_X10_isWord M ty 2) = 0 then (0 : Int32) else (1 : Int32)) else (1 : Int32)) else (1 : Int32))), none], [.int (if (g_X10_isWord M ty 3) = 0 then (if (g_X10_isWord M ty 4) = 0 then (if (g_X10_isWord M ty 5) = 0 then (if (g_X10_isWord M ty 6) = 0 then (if (g_X10_isWord M ty 7) = 0 then (if (g_X10_isWord M ty 8) = 0 then (if (g_X10_isWord M ty 9) = 0 then (if (g_X10_isWord M ty 10) = 0 then (0 : Int32) else (1 : Int32)) else (1 : Int32)) else (1 : Int32)) else (1 : Int32)) else (1 : Int32)) else (1 : Int32)) else (1 : Int32)) else (1 : Int32))], (sh_Model gp), M) ?_ ?_
    · refine zT.zne (tgt := 116) (off := 73) (by decide +kernel) (by decide) (fun (c4 : ¬ (g_X10_isWord M ty 3) = 0) => ?_) (fun (c4 : (g_X10_isWord M ty 3) = 0) => ?_)
      · skip
        refine zT.run [(.iconst 1, 0, 0, 0), (.goto 4, 0, 0, 0)] (pe := 121) (ls' := [some (.ref 0), some (.int (if (g_X10_isWord M ty 0) = 0 then (if (g_X10_isWord M ty 1) = 0 then (if (g_X10_isWord M ty 2) = 0 then (0 : Int32) else (1 : Int32)) else (1 : Int32)) else (1 : Int32))), none]) (st' := [.int 1]) (M' := M) (by decide +kernel) rfl ?_
        exact zT.here (by simp only [if_neg c4]; try rfl)
      · skip
        refine zT.run [(.aload_n 0, 0, 0, 0)] (pe := 47) (ls' := [some (.ref 0), some (.int (if (g_X10_isWord M ty 0) = 0 then (if (g_X10_isWord M ty 1) = 0 then (if (g_X10_isWord M ty 2) = 0 then (0 : Int32) else (1 : Int32)) else (1 : Int32)) else (1 : Int32))), none]) (st' := [.ref 0]) (M' := M) (by decide +kernel) rfl ?_
        refine zT.ldcSW 24 rfl rfl (by decide +kernel) ?_
        refine zT.cV_own (o := 0) (idx := 264) (av := [.retAddr 204]) (rv := (some (.int (g_X10_isWord M ty 4)))) (st := []) (S1 := [.int (g_X10_isWord M ty 4)]) (c_X10_isWord M gp ty 4 h600 htk (by decide)) k_X10_isWord _ _ rfl rfl rfl (zIn (w := 6174) (by decide +kernel) rfl) (by decide +kernel) (by decide +kernel) rfl (Nat.le_of_ble_eq_true rfl) rfl ?_
        refine zT.zne (tgt := 116) (off := 63) (by decide +kernel) (by decide) (fun (c5 : ¬ (g_X10_isWord M ty 4) = 0) => ?_) (fun (c5 : (g_X10_isWord M ty 4) = 0) => ?_)
        · skip
          refine zT.run [(.iconst 1, 0, 0, 0), (.goto 4, 0, 0, 0)] (pe := 121) (ls' := [some (.ref 0), some (.int (if (g_X10_isWord M ty 0) = 0 then (if (g_X10_isWord M ty 1) = 0 then (if (g_X10_isWord M ty 2) = 0 then (0 : Int32) else (1 : Int32)) else (1 : Int32)) else (1 : Int32))), none]) (st' := [.int 1]) (M' := M) (by decide +kernel) rfl ?_
          exact zT.here (by simp only [if_pos c4, if_neg c5]; try rfl)
        · skip
          refine zT.run [(.aload_n 0, 0, 0, 0)] (pe := 57) (ls' := [some (.ref 0), some (.int (if (g_X10_isWord M ty 0) = 0 then (if (g_X10_isWord M ty 1) = 0 then (if (g_X10_isWord M ty 2) = 0 then (0 : Int32) else (1 : Int32)) else (1 : Int32)) else (1 : Int32))), none]) (st' := [.ref 0]) (M' := M) (by decide +kernel) rfl ?_
          refine zT.ldcSW 25 rfl rfl (by decide +kernel) ?_
          refine zT.cV_own (o := 0) (idx := 264) (av := [.retAddr 205]) (rv := (some (.int (g_X10_isWord M ty 5)))) (st := []) (S1 := [.int (g_X10_isWord M ty 5)]) (c_X10_isWord M gp ty 5 h600 htk (by decide)) k_X10_isWord _ _ rfl rfl rfl (zIn (w := 6174) (by decide +kernel) rfl) (by decide +kernel) (by decide +kernel) rfl (Nat.le_of_ble_eq_true rfl) rfl ?_
          refine zT.zne (tgt := 116) (off := 53) (by decide +kernel) (by decide) (fun (c6 : ¬ (g_X10_isWord M ty 5) = 0) => ?_) (fun (c6 : (g_X10_isWord M ty 5) = 0) => ?_)
          · skip
            refine zT.run [(.iconst 1, 0, 0, 0), (.goto 4, 0, 0, 0)] (pe := 121) (ls' := [some (.ref 0), some (.int (if (g_X10_isWord M ty 0) = 0 then (if (g_X10_isWord M ty 1) = 0 then (if (g_X10_isWord M ty 2) = 0 then (0 : Int32) else (1 : Int32)) else (1 : Int32)) else (1 : Int32))), none]) (st' := [.int 1]) (M' := M) (by decide +kernel) rfl ?_
            exact zT.here (by simp only [if_pos c4, if_pos c5, if_neg c6]; try rfl)
          · skip
            refine zT.run [(.aload_n 0, 0, 0, 0)] (pe := 67) (ls' := [some (.ref 0), some (.int (if (g_X10_isWord M ty 0) = 0 then (if (g_X10_isWord M ty 1) = 0 then (if (g_X10_isWord M ty 2) = 0 then (0 : Int32) else (1 : Int32)) else (1 : Int32)) else (1 : Int32))), none]) (st' := [.ref 0]) (M' := M) (by decide +kernel) rfl ?_
            refine zT.ldcSW 26 rfl rfl (by decide +kernel) ?_
            refine zT.cV_own (o := 0) (idx := 264) (av := [.retAddr 206]) (rv := (some (.int (g_X10_isWord M ty 6)))) (st := []) (S1 := [.int (g_X10_isWord M ty 6)]) (c_X10_isWord M gp ty 6 h600 htk (by decide)) k_X10_isWord _ _ rfl rfl rfl (zIn (w := 6174) (by decide +kernel) rfl) (by decide +kernel) (by decide +kernel) rfl (Nat.le_of_ble_eq_true rfl) rfl ?_
            refine zT.zne (tgt := 116) (off := 43) (by decide +kernel) (by decide) (fun (c7 : ¬ (g_X10_isWord M ty 6) = 0) => ?_) (fun (c7 : (g_X10_isWord M ty 6) = 0) => ?_)
            · skip
              refine zT.run [(.iconst 1, 0, 0, 0), (.goto 4, 0, 0, 0)] (pe := 121) (ls' := [some (.ref 0), some (.int (if (g_X10_isWord M ty 0) = 0 then (if (g_X10_isWord M ty 1) = 0 then (if (g_X10_isWord M ty 2) = 0 then (0 : Int32) else (1 : Int32)) else (1 : Int32)) else (1 : Int32))), none]) (st' := [.int 1]) (M' := M) (by decide +kernel) rfl ?_
              exact zT.here (by simp only [if_pos c4, if_pos c5, if_pos c6, if_neg c7]; try rfl)
            · skip
              refine zT.run [(.aload_n 0, 0, 0, 0)] (pe := 77) (ls' := [some (.ref 0), some (.int (if (g_X10_isWord M ty 0) = 0 then (if (g_X10_isWord M ty 1) = 0 then (if (g_X10_isWord M ty 2) = 0 then (0 : Int32) else (1 : Int32)) else (1 : Int32)) else (1 : Int32))), none]) (st' := [.ref 0]) (M' := M) (by decide +kernel) rfl ?_
              refine zT.ldcSW 27 rfl rfl (by decide +kernel) ?_
              refine zT.cV_own (o := 0) (idx := 264) (av := [.retAddr 207]) (rv := (some (.int (g_X10_isWord M ty 7)))) (st := []) (S1 := [.int (g_X10_isWord M ty 7)]) (c_X10_isWord M gp ty 7 h600 htk (by decide)) k_X10_isWord _ _ rfl rfl rfl (zIn (w := 6174) (by decide +kernel) rfl) (by decide +kernel) (by decide +kernel) rfl (Nat.le_of_ble_eq_true rfl) rfl ?_
              refine zT.zne (tgt := 116) (off := 33) (by decide +kernel) (by decide) (fun (c8 : ¬ (g_X10_isWord M ty 7) = 0) => ?_) (fun (c8 : (g_X10_isWord M ty 7) = 0) => ?_)
              · skip
                refine zT.run [(.iconst 1, 0, 0, 0), (.goto 4, 0, 0, 0)] (pe := 121) (ls' := [some (.ref 0), some (.int (if (g_X10_isWord M ty 0) = 0 then (if (g_X10_isWord M ty 1) = 0 then (if (g_X10_isWord M ty 2) = 0 then (0 : Int32) else (1 : Int32)) else (1 : Int32)) else (1 : Int32))), none]) (st' := [.int 1]) (M' := M) (by decide +kernel) rfl ?_
                exact zT.here (by simp only [if_pos c4, if_pos c5, if_pos c6, if_pos c7, if_neg c8]; try rfl)
              · skip
                refine zT.run [(.aload_n 0, 0, 0, 0)] (pe := 87) (ls' := [some (.ref 0), some (.int (if (g_X10_isWord M ty 0) = 0 then (if (g_X10_isWord M ty 1) = 0 then (if (g_X10_isWord M ty 2) = 0 then (0 : Int32) else (1 : Int32)) else (1 : Int32)) else (1 : Int32))), none]) (st' := [.ref 0]) (M' := M) (by decide +kernel) rfl ?_
                refine zT.ldcSW 28 rfl rfl (by decide +kernel) ?_
                refine zT.cV_own (o := 0) (idx := 264) (av := [.retAddr 208]) (rv := (some (.int (g_X10_isWord M ty 8)))) (st := []) (S1 := [.int (g_X10_isWord M ty 8)]) (c_X10_isWord M gp ty 8 h600 htk (by decide)) k_X10_isWord _ _ rfl rfl rfl (zIn (w := 6174) (by decide +kernel) rfl) (by decide +kernel) (by decide +kernel) rfl (Nat.le_of_ble_eq_true rfl) rfl ?_
                refine zT.zne (tgt := 116) (off := 23) (by decide +kernel) (by decide) (fun (c9 : ¬ (g_X10_isWord M ty 8) = 0) => ?_) (fun (c9 : (g_X10_isWord M ty 8) = 0) => ?_)
                · skip
                  refine zT.run [(.iconst 1, 0, 0, 0), (.goto 4, 0, 0, 0)] (pe := 121) (ls' := [some (.ref 0), some (.int (if (g_X10_isWord M ty 0) = 0 then (if (g_X10_isWord M ty 1) = 0 then (if (g_X10_isWord M ty 2) = 0 then (0 : Int32) else (1 : Int32)) else (1 : Int32)) else (1 : Int32))), none]) (st' := [.int 1]) (M' := M) (by decide +kernel) rfl ?_
                  exact zT.here (by simp only [if_pos c4, if_pos c5, if_pos c6, if_pos c7, if_pos c8, if_neg c9]; try rfl)
                · skip
                  refine zT.run [(.aload_n 0, 0, 0, 0)] (pe := 97) (ls' := [some (.ref 0), some (.int (if (g_X10_isWord M ty 0) = 0 then (if (g_X10_isWord M ty 1) = 0 then (if (g_X10_isWord M ty 2) = 0 then (0 : Int32) else (1 : Int32)) else (1 : Int32)) else (1 : Int32))), none]) (st' := [.ref 0]) (M' := M) (by decide +kernel) rfl ?_
                  refine zT.ldcSW 29 rfl rfl (by decide +kernel) ?_
                  refine zT.cV_own (o := 0) (idx := 264) (av := [.retAddr 209]) (rv := (some (.int (g_X10_isWord M ty 9)))) (st := []) (S1 := [.int (g_X10_isWord M ty 9)]) (c_X10_isWord M gp ty 9 h600 htk (by decide)) k_X10_isWord _ _ rfl rfl rfl (zIn (w := 6174) (by decide +kernel) rfl) (by decide +kernel) (by decide +kernel) rfl (Nat.le_of_ble_eq_true rfl) rfl ?_
                  refine zT.zne (tgt := 116) (off := 13) (by decide +kernel) (by decide) (fun (c10 : ¬ (g_X10_isWord M ty 9) = 0) => ?_) (fun (c10 : (g_X10_isWord M ty 9) = 0) => ?_)
                  · skip
                    refine zT.run [(.iconst 1, 0, 0, 0), (.goto 4, 0, 0, 0)] (pe := 121) (ls' := [some (.ref 0), some (.int (if (g_X10_isWord M ty 0) = 0 then (if (g_X10_isWord M ty 1) = 0 then (if (g_X10_isWord M ty 2) = 0 then (0 : Int32) else (1 : Int32)) else (1 : Int32)) else (1 : Int32))), none]) (st' := [.int 1]) (M' := M) (by decide +kernel) rfl ?_
                    exact zT.here (by simp only [if_pos c4, if_pos c5, if_pos c6, if_pos c7, if_pos c8, if_pos c9, if_neg c10]; try rfl)
                  · skip
                    refine zT.run [(.aload_n 0, 0, 0, 0)] (pe := 107) (ls' := [some (.ref 0), some (.int (if (g_X10_isWord M ty 0) = 0 then (if (g_X10_isWord M ty 1) = 0 then (if (g_X10_isWord M ty 2) = 0 then (0 : Int32) else (1 : Int32)) else (1 : Int32)) else (1 : Int32))), none]) (st' := [.ref 0]) (M' := M) (by decide +kernel) rfl ?_
                    refine zT.ldcSW 30 rfl rfl (by decide +kernel) ?_
                    refine zT.cV_own (o := 0) (idx := 264) (av := [.retAddr 210]) (rv := (some (.int (g_X10_isWord M ty 10)))) (st := []) (S1 := [.int (g_X10_isWord M ty 10)]) (c_X10_isWord M gp ty 10 h600 htk (by decide)) k_X10_isWord _ _ rfl rfl rfl (zIn (w := 6174) (by decide +kernel) rfl) (by decide +kernel) (by decide +kernel) rfl (Nat.le_of_ble_eq_true rfl) rfl ?_
                    refine zT.zeq (tgt := 120) (off := 7) (by decide +kernel) (by decide) (fun (c11 : (g_X10_isWord M ty 10) = 0) => ?_) (fun (c11 : ¬ (g_X10_isWord M ty 10) = 0) => ?_)
                    · skip
                      refine zT.run [(.iconst 0, 0, 0, 0)] (pe := 121) (ls' := [some (.ref 0), some (.int (if (g_X10_isWord M ty 0) = 0 then (if (g_X10_isWord M ty 1) = 0 then (if (g_X10_isWord M ty 2) = 0 then (0 : Int32) else (1 : Int32)) else (1 : Int32)) else (1 : Int32))), none]) (st' := [.int 0]) (M' := M) (by decide +kernel) rfl ?_
                      exact zT.here (by simp only [if_pos c4, if_pos c5, if_pos c6, if_pos c7, if_pos c8, if_pos c9, if_pos c10, if_pos c11]; try rfl)
                    · skip
                      refine zT.run [(.iconst 1, 0, 0, 0), (.goto 4, 0, 0, 0)] (pe := 121) (ls' := [some (.ref 0), some (.int (if (g_X10_isWord M ty 0) = 0 then (if (g_X10_isWord M ty 1) = 0 then (if (g_X10_isWord M ty 2) = 0 then (0 : Int32) else (1 : Int32)) else (1 : Int32)) else (1 : Int32))), none]) (st' := [.int 1]) (M' := M) (by decide +kernel) rfl ?_
                      exact zT.here (by simp only [if_pos c4, if_pos c5, if_pos c6, if_pos c7, if_pos c8, if_pos c9, if_pos c10, if_neg c11]; try rfl)
    · skip
      refine zT.run [(.istore_n 2, 0, 0, 0), (.iload_n 1, 0, 0, 0)] (pe := 123) (ls' := [some (.ref 0), some (.int (if (g_X10_isWord M ty 0) = 0 then (if (g_X10_isWord M ty 1) = 0 then (if (g_X10_isWord M ty 2) = 0 then (0 : Int32) else (1 : Int32)) else (1 : Int32)) else (1 : Int32))), some (.int (if (g_X10_isWord M ty 3) = 0 then (if (g_X10_isWord M ty 4) = 0 then (if (g_X10_isWord M ty 5) = 0 then (if (g_X10_isWord M ty 6) = 0 then (if (g_X10_isWord M ty 7) = 0 then (if (g_X10_isWord M ty 8) = 0 then (if (g_X10_isWord M ty 9) = 0 then (if (g_X10_isWord M ty 10) = 0 then (0 : Int32) else (1 : Int32)) else (1 : Int32)) else (1 : Int32)) else (1 : Int32)) else (1 : Int32)) else (1 : Int32)) else (1 : Int32)) else (1 : Int32)))]) (st' := [.int (if (g_X10_isWord M ty 0) = 0 then (if (g_X10_isWord M ty 1) = 0 then (if (g_X10_isWord M ty 2) = 0 then (0 : Int32) else (1 : Int32)) else (1 : Int32)) else (1 : Int32))]) (M' := M) (by decide +kernel) rfl ?_
      refine zT.zne (tgt := 170) (off := 47) (by decide +kernel) (by decide) (fun (c12 : ¬ (if (g_X10_isWord M ty 0) = 0 then (if (g_X10_isWord M ty 1) = 0 then (if (g_X10_isWord M ty 2) = 0 then (0 : Int32) else (1 : Int32)) else (1 : Int32)) else (1 : Int32)) = 0) => ?_) (fun (c12 : (if (g_X10_isWord M ty 0) = 0 then (if (g_X10_isWord M ty 1) = 0 then (if (g_X10_isWord M ty 2) = 0 then (0 : Int32) else (1 : Int32)) else (1 : Int32)) else (1 : Int32)) = 0) => ?_)
      · skip
        refine zT.run [(.iconst 1, 0, 0, 0), (.goto 4, 0, 0, 0)] (pe := 175) (ls' := [some (.ref 0), some (.int (if (g_X10_isWord M ty 0) = 0 then (if (g_X10_isWord M ty 1) = 0 then (if (g_X10_isWord M ty 2) = 0 then (0 : Int32) else (1 : Int32)) else (1 : Int32)) else (1 : Int32))), some (.int (if (g_X10_isWord M ty 3) = 0 then (if (g_X10_isWord M ty 4) = 0 then (if (g_X10_isWord M ty 5) = 0 then (if (g_X10_isWord M ty 6) = 0 then (if (g_X10_isWord M ty 7) = 0 then (if (g_X10_isWord M ty 8) = 0 then (if (g_X10_isWord M ty 9) = 0 then (if (g_X10_isWord M ty 10) = 0 then (0 : Int32) else (1 : Int32)) else (1 : Int32)) else (1 : Int32)) else (1 : Int32)) else (1 : Int32)) else (1 : Int32)) else (1 : Int32)) else (1 : Int32)))]) (st' := [.int 1]) (M' := M) (by decide +kernel) rfl ?_
        exact zT.iret (ty := Jvm.ClassFile.FieldType.boolean) (by simp only [g_X10_isDeed, if_neg c12]; try rfl) rfl rfl rfl (by decide +kernel)
      · skip
        refine zT.run [(.iload_n 2, 0, 0, 0)] (pe := 127) (ls' := [some (.ref 0), some (.int (if (g_X10_isWord M ty 0) = 0 then (if (g_X10_isWord M ty 1) = 0 then (if (g_X10_isWord M ty 2) = 0 then (0 : Int32) else (1 : Int32)) else (1 : Int32)) else (1 : Int32))), some (.int (if (g_X10_isWord M ty 3) = 0 then (if (g_X10_isWord M ty 4) = 0 then (if (g_X10_isWord M ty 5) = 0 then (if (g_X10_isWord M ty 6) = 0 then (if (g_X10_isWord M ty 7) = 0 then (if (g_X10_isWord M ty 8) = 0 then (if (g_X10_isWord M ty 9) = 0 then (if (g_X10_isWord M ty 10) = 0 then (0 : Int32) else (1 : Int32)) else (1 : Int32)) else (1 : Int32)) else (1 : Int32)) else (1 : Int32)) else (1 : Int32)) else (1 : Int32)) else (1 : Int32)))]) (st' := [.int (if (g_X10_isWord M ty 3) = 0 then (if (g_X10_isWord M ty 4) = 0 then (if (g_X10_isWord M ty 5) = 0 then (if (g_X10_isWord M ty 6) = 0 then (if (g_X10_isWord M ty 7) = 0 then (if (g_X10_isWord M ty 8) = 0 then (if (g_X10_isWord M ty 9) = 0 then (if (g_X10_isWord M ty 10) = 0 then (0 : Int32) else (1 : Int32)) else (1 : Int32)) else (1 : Int32)) else (1 : Int32)) else (1 : Int32)) else (1 : Int32)) else (1 : Int32)) else (1 : Int32))]) (M' := M) (by decide +kernel) rfl ?_
        refine zT.zne (tgt := 170) (off := 43) (by decide +kernel) (by decide) (fun (c13 : ¬ (if (g_X10_isWord M ty 3) = 0 then (if (g_X10_isWord M ty 4) = 0 then (if (g_X10_isWord M ty 5) = 0 then (if (g_X10_isWord M ty 6) = 0 then (if (g_X10_isWord M ty 7) = 0 then (if (g_X10_isWord M ty 8) = 0 then (if (g_X10_isWord M ty 9) = 0 then (if (g_X10_isWord M ty 10) = 0 then (0 : Int32) else (1 : Int32)) else (1 : Int32)) else (1 : Int32)) else (1 : Int32)) else (1 : Int32)) else (1 : Int32)) else (1 : Int32)) else (1 : Int32)) = 0) => ?_) (fun (c13 : (if (g_X10_isWord M ty 3) = 0 then (if (g_X10_isWord M ty 4) = 0 then (if (g_X10_isWord M ty 5) = 0 then (if (g_X10_isWord M ty 6) = 0 then (if (g_X10_isWord M ty 7) = 0 then (if (g_X10_isWord M ty 8) = 0 then (if (g_X10_isWord M ty 9) = 0 then (if (g_X10_isWord M ty 10) = 0 then (0 : Int32) else (1 : Int32)) else (1 : Int32)) else (1 : Int32)) else (1 : Int32)) else (1 : Int32)) else (1 : Int32)) else (1 : Int32)) else (1 : Int32)) = 0) => ?_)
        · skip
          refine zT.run [(.iconst 1, 0, 0, 0), (.goto 4, 0, 0, 0)] (pe := 175) (ls' := [some (.ref 0), some (.int (if (g_X10_isWord M ty 0) = 0 then (if (g_X10_isWord M ty 1) = 0 then (if (g_X10_isWord M ty 2) = 0 then (0 : Int32) else (1 : Int32)) else (1 : Int32)) else (1 : Int32))), some (.int (if (g_X10_isWord M ty 3) = 0 then (if (g_X10_isWord M ty 4) = 0 then (if (g_X10_isWord M ty 5) = 0 then (if (g_X10_isWord M ty 6) = 0 then (if (g_X10_isWord M ty 7) = 0 then (if (g_X10_isWord M ty 8) = 0 then (if (g_X10_isWord M ty 9) = 0 then (if (g_X10_isWord M ty 10) = 0 then (0 : Int32) else (1 : Int32)) else (1 : Int32)) else (1 : Int32)) else (1 : Int32)) else (1 : Int32)) else (1 : Int32)) else (1 : Int32)) else (1 : Int32)))]) (st' := [.int 1]) (M' := M) (by decide +kernel) rfl ?_
          exact zT.iret (ty := Jvm.ClassFile.FieldType.boolean) (by simp only [g_X10_isDeed, if_pos c12, if_neg c13]; try rfl) rfl rfl rfl (by decide +kernel)
        · skip
          refine zT.run [(.aload_n 0, 0, 0, 0)] (pe := 131) (ls' := [some (.ref 0), some (.int (if (g_X10_isWord M ty 0) = 0 then (if (g_X10_isWord M ty 1) = 0 then (if (g_X10_isWord M ty 2) = 0 then (0 : Int32) else (1 : Int32)) else (1 : Int32)) else (1 : Int32))), some (.int (if (g_X10_isWord M ty 3) = 0 then (if (g_X10_isWord M ty 4) = 0 then (if (g_X10_isWord M ty 5) = 0 then (if (g_X10_isWord M ty 6) = 0 then (if (g_X10_isWord M ty 7) = 0 then (if (g_X10_isWord M ty 8) = 0 then (if (g_X10_isWord M ty 9) = 0 then (if (g_X10_isWord M ty 10) = 0 then (0 : Int32) else (1 : Int32)) else (1 : Int32)) else (1 : Int32)) else (1 : Int32)) else (1 : Int32)) else (1 : Int32)) else (1 : Int32)) else (1 : Int32)))]) (st' := [.ref 0]) (M' := M) (by decide +kernel) rfl ?_
          refine zT.ldcSW 31 rfl rfl (by decide +kernel) ?_
          refine zT.cV_own (o := 0) (idx := 264) (av := [.retAddr 211]) (rv := (some (.int (g_X10_isWord M ty 11)))) (st := []) (S1 := [.int (g_X10_isWord M ty 11)]) (c_X10_isWord M gp ty 11 h600 htk (by decide)) k_X10_isWord _ _ rfl rfl rfl (zIn (w := 6174) (by decide +kernel) rfl) (by decide +kernel) (by decide +kernel) rfl (Nat.le_of_ble_eq_true rfl) rfl ?_
          refine zT.zne (tgt := 170) (off := 33) (by decide +kernel) (by decide) (fun (c14 : ¬ (g_X10_isWord M ty 11) = 0) => ?_) (fun (c14 : (g_X10_isWord M ty 11) = 0) => ?_)
          · skip
            refine zT.run [(.iconst 1, 0, 0, 0), (.goto 4, 0, 0, 0)] (pe := 175) (ls' := [some (.ref 0), some (.int (if (g_X10_isWord M ty 0) = 0 then (if (g_X10_isWord M ty 1) = 0 then (if (g_X10_isWord M ty 2) = 0 then (0 : Int32) else (1 : Int32)) else (1 : Int32)) else (1 : Int32))), some (.int (if (g_X10_isWord M ty 3) = 0 then (if (g_X10_isWord M ty 4) = 0 then (if (g_X10_isWord M ty 5) = 0 then (if (g_X10_isWord M ty 6) = 0 then (if (g_X10_isWord M ty 7) = 0 then (if (g_X10_isWord M ty 8) = 0 then (if (g_X10_isWord M ty 9) = 0 then (if (g_X10_isWord M ty 10) = 0 then (0 : Int32) else (1 : Int32)) else (1 : Int32)) else (1 : Int32)) else (1 : Int32)) else (1 : Int32)) else (1 : Int32)) else (1 : Int32)) else (1 : Int32)))]) (st' := [.int 1]) (M' := M) (by decide +kernel) rfl ?_
            exact zT.iret (ty := Jvm.ClassFile.FieldType.boolean) (by simp only [g_X10_isDeed, if_pos c12, if_pos c13, if_neg c14]; try rfl) rfl rfl rfl (by decide +kernel)
          · skip
            refine zT.run [(.aload_n 0, 0, 0, 0)] (pe := 141) (ls' := [some (.ref 0), some (.int (if (g_X10_isWord M ty 0) = 0 then (if (g_X10_isWord M ty 1) = 0 then (if (g_X10_isWord M ty 2) = 0 then (0 : Int32) else (1 : Int32)) else (1 : Int32)) else (1 : Int32))), some (.int (if (g_X10_isWord M ty 3) = 0 then (if (g_X10_isWord M ty 4) = 0 then (if (g_X10_isWord M ty 5) = 0 then (if (g_X10_isWord M ty 6) = 0 then (if (g_X10_isWord M ty 7) = 0 then (if (g_X10_isWord M ty 8) = 0 then (if (g_X10_isWord M ty 9) = 0 then (if (g_X10_isWord M ty 10) = 0 then (0 : Int32) else (1 : Int32)) else (1 : Int32)) else (1 : Int32)) else (1 : Int32)) else (1 : Int32)) else (1 : Int32)) else (1 : Int32)) else (1 : Int32)))]) (st' := [.ref 0]) (M' := M) (by decide +kernel) rfl ?_
            refine zT.ldcSW 32 rfl rfl (by decide +kernel) ?_
            refine zT.cV_own (o := 0) (idx := 264) (av := [.retAddr 212]) (rv := (some (.int (g_X10_isWord M ty 12)))) (st := []) (S1 := [.int (g_X10_isWord M ty 12)]) (c_X10_isWord M gp ty 12 h600 htk (by decide)) k_X10_isWord _ _ rfl rfl rfl (zIn (w := 6174) (by decide +kernel) rfl) (by decide +kernel) (by decide +kernel) rfl (Nat.le_of_ble_eq_true rfl) rfl ?_
            refine zT.zne (tgt := 170) (off := 23) (by decide +kernel) (by decide) (fun (c15 : ¬ (g_X10_isWord M ty 12) = 0) => ?_) (fun (c15 : (g_X10_isWord M ty 12) = 0) => ?_)
            · skip
              refine zT.run [(.iconst 1, 0, 0, 0), (.goto 4, 0, 0, 0)] (pe := 175) (ls' := [some (.ref 0), some (.int (if (g_X10_isWord M ty 0) = 0 then (if (g_X10_isWord M ty 1) = 0 then (if (g_X10_isWord M ty 2) = 0 then (0 : Int32) else (1 : Int32)) else (1 : Int32)) else (1 : Int32))), some (.int (if (g_X10_isWord M ty 3) = 0 then (if (g_X10_isWord M ty 4) = 0 then (if (g_X10_isWord M ty 5) = 0 then (if (g_X10_isWord M ty 6) = 0 then (if (g_X10_isWord M ty 7) = 0 then (if (g_X10_isWord M ty 8) = 0 then (if (g_X10_isWord M ty 9) = 0 then (if (g_X10_isWord M ty 10) = 0 then (0 : Int32) else (1 : Int32)) else (1 : Int32)) else (1 : Int32)) else (1 : Int32)) else (1 : Int32)) else (1 : Int32)) else (1 : Int32)) else (1 : Int32)))]) (st' := [.int 1]) (M' := M) (by decide +kernel) rfl ?_
              exact zT.iret (ty := Jvm.ClassFile.FieldType.boolean) (by simp only [g_X10_isDeed, if_pos c12, if_pos c13, if_pos c14, if_neg c15]; try rfl) rfl rfl rfl (by decide +kernel)
            · skip
              refine zT.run [(.aload_n 0, 0, 0, 0)] (pe := 151) (ls' := [some (.ref 0), some (.int (if (g_X10_isWord M ty 0) = 0 then (if (g_X10_isWord M ty 1) = 0 then (if (g_X10_isWord M ty 2) = 0 then (0 : Int32) else (1 : Int32)) else (1 : Int32)) else (1 : Int32))), some (.int (if (g_X10_isWord M ty 3) = 0 then (if (g_X10_isWord M ty 4) = 0 then (if (g_X10_isWord M ty 5) = 0 then (if (g_X10_isWord M ty 6) = 0 then (if (g_X10_isWord M ty 7) = 0 then (if (g_X10_isWord M ty 8) = 0 then (if (g_X10_isWord M ty 9) = 0 then (if (g_X10_isWord M ty 10) = 0 then (0 : Int32) else (1 : Int32)) else (1 : Int32)) else (1 : Int32)) else (1 : Int32)) else (1 : Int32)) else (1 : Int32)) else (1 : Int32)) else (1 : Int32)))]) (st' := [.ref 0]) (M' := M) (by decide +kernel) rfl ?_
              refine zT.ldcSW 33 rfl rfl (by decide +kernel) ?_
              refine zT.cV_own (o := 0) (idx := 264) (av := [.retAddr 213]) (rv := (some (.int (g_X10_isWord M ty 13)))) (st := []) (S1 := [.int (g_X10_isWord M ty 13)]) (c_X10_isWord M gp ty 13 h600 htk (by decide)) k_X10_isWord _ _ rfl rfl rfl (zIn (w := 6174) (by decide +kernel) rfl) (by decide +kernel) (by decide +kernel) rfl (Nat.le_of_ble_eq_true rfl) rfl ?_
              refine zT.zne (tgt := 170) (off := 13) (by decide +kernel) (by decide) (fun (c16 : ¬ (g_X10_isWord M ty 13) = 0) => ?_) (fun (c16 : (g_X10_isWord M ty 13) = 0) => ?_)
              · skip
                refine zT.run [(.iconst 1, 0, 0, 0), (.goto 4, 0, 0, 0)] (pe := 175) (ls' := [some (.ref 0), some (.int (if (g_X10_isWord M ty 0) = 0 then (if (g_X10_isWord M ty 1) = 0 then (if (g_X10_isWord M ty 2) = 0 then (0 : Int32) else (1 : Int32)) else (1 : Int32)) else (1 : Int32))), some (.int (if (g_X10_isWord M ty 3) = 0 then (if (g_X10_isWord M ty 4) = 0 then (if (g_X10_isWord M ty 5) = 0 then (if (g_X10_isWord M ty 6) = 0 then (if (g_X10_isWord M ty 7) = 0 then (if (g_X10_isWord M ty 8) = 0 then (if (g_X10_isWord M ty 9) = 0 then (if (g_X10_isWord M ty 10) = 0 then (0 : Int32) else (1 : Int32)) else (1 : Int32)) else (1 : Int32)) else (1 : Int32)) else (1 : Int32)) else (1 : Int32)) else (1 : Int32)) else (1 : Int32)))]) (st' := [.int 1]) (M' := M) (by decide +kernel) rfl ?_
                exact zT.iret (ty := Jvm.ClassFile.FieldType.boolean) (by simp only [g_X10_isDeed, if_pos c12, if_pos c13, if_pos c14, if_pos c15, if_neg c16]; try rfl) rfl rfl rfl (by decide +kernel)
              · skip
                refine zT.run [(.aload_n 0, 0, 0, 0)] (pe := 161) (ls' := [some (.ref 0), some (.int (if (g_X10_isWord M ty 0) = 0 then (if (g_X10_isWord M ty 1) = 0 then (if (g_X10_isWord M ty 2) = 0 then (0 : Int32) else (1 : Int32)) else (1 : Int32)) else (1 : Int32))), some (.int (if (g_X10_isWord M ty 3) = 0 then (if (g_X10_isWord M ty 4) = 0 then (if (g_X10_isWord M ty 5) = 0 then (if (g_X10_isWord M ty 6) = 0 then (if (g_X10_isWord M ty 7) = 0 then (if (g_X10_isWord M ty 8) = 0 then (if (g_X10_isWord M ty 9) = 0 then (if (g_X10_isWord M ty 10) = 0 then (0 : Int32) else (1 : Int32)) else (1 : Int32)) else (1 : Int32)) else (1 : Int32)) else (1 : Int32)) else (1 : Int32)) else (1 : Int32)) else (1 : Int32)))]) (st' := [.ref 0]) (M' := M) (by decide +kernel) rfl ?_
                refine zT.ldcSW 34 rfl rfl (by decide +kernel) ?_
                refine zT.cV_own (o := 0) (idx := 264) (av := [.retAddr 214]) (rv := (some (.int (g_X10_isWord M ty 14)))) (st := []) (S1 := [.int (g_X10_isWord M ty 14)]) (c_X10_isWord M gp ty 14 h600 htk (by decide)) k_X10_isWord _ _ rfl rfl rfl (zIn (w := 6174) (by decide +kernel) rfl) (by decide +kernel) (by decide +kernel) rfl (Nat.le_of_ble_eq_true rfl) rfl ?_
                refine zT.zeq (tgt := 174) (off := 7) (by decide +kernel) (by decide) (fun (c17 : (g_X10_isWord M ty 14) = 0) => ?_) (fun (c17 : ¬ (g_X10_isWord M ty 14) = 0) => ?_)
                · skip
                  refine zT.run [(.iconst 0, 0, 0, 0)] (pe := 175) (ls' := [some (.ref 0), some (.int (if (g_X10_isWord M ty 0) = 0 then (if (g_X10_isWord M ty 1) = 0 then (if (g_X10_isWord M ty 2) = 0 then (0 : Int32) else (1 : Int32)) else (1 : Int32)) else (1 : Int32))), some (.int (if (g_X10_isWord M ty 3) = 0 then (if (g_X10_isWord M ty 4) = 0 then (if (g_X10_isWord M ty 5) = 0 then (if (g_X10_isWord M ty 6) = 0 then (if (g_X10_isWord M ty 7) = 0 then (if (g_X10_isWord M ty 8) = 0 then (if (g_X10_isWord M ty 9) = 0 then (if (g_X10_isWord M ty 10) = 0 then (0 : Int32) else (1 : Int32)) else (1 : Int32)) else (1 : Int32)) else (1 : Int32)) else (1 : Int32)) else (1 : Int32)) else (1 : Int32)) else (1 : Int32)))]) (st' := [.int 0]) (M' := M) (by decide +kernel) rfl ?_
                  exact zT.iret (ty := Jvm.ClassFile.FieldType.boolean) (by simp only [g_X10_isDeed, if_pos c12, if_pos c13, if_pos c14, if_pos c15, if_pos c16, if_pos c17]; try rfl) rfl rfl rfl (by decide +kernel)
                · skip
                  refine zT.run [(.iconst 1, 0, 0, 0), (.goto 4, 0, 0, 0)] (pe := 175) (ls' := [some (.ref 0), some (.int (if (g_X10_isWord M ty 0) = 0 then (if (g_X10_isWord M ty 1) = 0 then (if (g_X10_isWord M ty 2) = 0 then (0 : Int32) else (1 : Int32)) else (1 : Int32)) else (1 : Int32))), some (.int (if (g_X10_isWord M ty 3) = 0 then (if (g_X10_isWord M ty 4) = 0 then (if (g_X10_isWord M ty 5) = 0 then (if (g_X10_isWord M ty 6) = 0 then (if (g_X10_isWord M ty 7) = 0 then (if (g_X10_isWord M ty 8) = 0 then (if (g_X10_isWord M ty 9) = 0 then (if (g_X10_isWord M ty 10) = 0 then (0 : Int32) else (1 : Int32)) else (1 : Int32)) else (1 : Int32)) else (1 : Int32)) else (1 : Int32)) else (1 : Int32)) else (1 : Int32)) else (1 : Int32)))]) (st' := [.int 1]) (M' := M) (by decide +kernel) rfl ?_
                  exact zT.iret (ty := Jvm.ClassFile.FieldType.boolean) (by simp only [g_X10_isDeed, if_pos c12, if_pos c13, if_pos c14, if_pos c15, if_pos c16, if_neg c17]; try rfl) rfl rfl rfl (by decide +kernel)
theorem k_X10_isDeed : zCal yy_X10_isDeed 0 := ⟨⟨⟨⟨zIn (w := 6208) (by decide +kernel) rfl, zIn (w := 1012) (by decide +kernel) rfl⟩, by decide +kernel⟩, by decide +kernel⟩, ⟨zIn (w := 6207) (by decide +kernel) rfl, zIn (w := 69) (by decide +kernel) rfl⟩⟩
noncomputable abbrev yy_X10_setting : zY := (yX10_setting, cX10_setting, 3, none, 4, 84)
noncomputable def d_X10_setting_1 (M : zM) (ty : Nat) (w : Nat) : zM := (g_X10_scan M ty)
noncomputable def d_X10_setting_2 (M : zM) (ty : Nat) (w : Nat) : Int32 × zM := (g_X10_read (d_X10_setting_1 M ty w) ty (g_X10_leastOf (nI w)) (g_X10_mostOf (nI w)))
noncomputable def d_X10_setting_3 (M : zM) (ty : Nat) (w : Nat) : Int32 × zM := (g_X10_ends (d_X10_setting_2 M ty w).2 0)
noncomputable def g_X10_setting (M : zM) (ty : Nat) (w : Nat) : zM := (if (d_X10_setting_3 M ty w).1 = 0 then (d_X10_setting_3 M ty w).2 else (zU (d_X10_setting_3 M ty w).2 1 (1 + w) (d_X10_setting_2 M ty w).1))
set_option maxRecDepth 100000 in
theorem c_X10_setting (M : zM) (gp : Nat → Option Nat) (ty : Nat) (w : Nat) (h600 : ty ≤ 600) (htk : zTkP ty M) (h_w : w < 3) : zC yy_X10_setting 0 0 [.ref 0, .int (nI w)] (sh_Model gp) M none (sh_Model gp) (g_X10_setting M ty w) := by
  refine zC.of (by decide +kernel) rfl (Nat.le_of_ble_eq_true rfl) ?_
  refine zT.run [(.aload_n 0, 0, 0, 0)] (pe := 1) (ls' := [some (.ref 0), some (.int (nI w)), none]) (st' := [.ref 0]) (M' := M) (by decide +kernel) rfl ?_
  refine zT.cV_all (o := 0) (idx := 247) (av := []) (rv := none) (st := []) (S1 := []) (c_X10_scan M gp ty h600 htk.at) k_X10_scan _ _ rfl rfl rfl (zIn (w := 6161) (by decide +kernel) rfl) (by decide +kernel) (by decide +kernel) rfl (Nat.le_of_ble_eq_true rfl) rfl ?_
  obtain ⟨v1, hv1⟩ : ∃ v, v = (g_X10_scan M ty) := ⟨_, rfl⟩
  rw [← hv1]
  have ev1 : (d_X10_setting_1 M ty w) = v1 := by unfold d_X10_setting_1; exact hv1.symm
  have tk1 : zTkP ty v1 := by rw [hv1]; exact (tk_X10_scan M ty h600 htk)
  have lw1 : v1 1 = M 1 := by rw [hv1]; exact (fr_X10_scan M ty 1 (by decide))
  refine zT.run [(.aload_n 0, 0, 0, 0), (.iload_n 1, 0, 0, 0)] (pe := 6) (ls' := [some (.ref 0), some (.int (nI w)), none]) (st' := [.int (nI w), .ref 0]) (M' := v1) (by decide +kernel) rfl ?_
  refine zT.cS_nil (idx := 208) (av := [.int (nI w)]) (rv := (some (.int (g_X10_leastOf (nI w))))) (st := [.ref 0]) (S1 := [.int (g_X10_leastOf (nI w)), .ref 0]) (c_X10_leastOf (nI w)) k_X10_leastOf rfl (zIn (w := 6139) (by decide +kernel) rfl) (by decide +kernel) (by decide +kernel) rfl (Nat.le_of_ble_eq_true rfl) rfl ?_
  refine zT.run [(.iload_n 1, 0, 0, 0)] (pe := 10) (ls' := [some (.ref 0), some (.int (nI w)), none]) (st' := [.int (nI w), .int (g_X10_leastOf (nI w)), .ref 0]) (M' := v1) (by decide +kernel) rfl ?_
  refine zT.cS_nil (idx := 211) (av := [.int (nI w)]) (rv := (some (.int (g_X10_mostOf (nI w))))) (st := [.int (g_X10_leastOf (nI w)), .ref 0]) (S1 := [.int (g_X10_mostOf (nI w)), .int (g_X10_leastOf (nI w)), .ref 0]) (c_X10_mostOf (nI w)) k_X10_mostOf rfl (zIn (w := 6142) (by decide +kernel) rfl) (by decide +kernel) (by decide +kernel) rfl (Nat.le_of_ble_eq_true rfl) rfl ?_
  refine zT.cV_all (o := 0) (idx := 259) (av := [.int (g_X10_leastOf (nI w)), .int (g_X10_mostOf (nI w))]) (rv := (some (.int (g_X10_read v1 ty (g_X10_leastOf (nI w)) (g_X10_mostOf (nI w))).1))) (st := []) (S1 := [.int (g_X10_read v1 ty (g_X10_leastOf (nI w)) (g_X10_mostOf (nI w))).1]) (c_X10_read v1 gp ty (g_X10_leastOf (nI w)) (g_X10_mostOf (nI w)) h600 tk1) k_X10_read _ _ rfl rfl rfl (zIn (w := 6193) (by decide +kernel) rfl) (by decide +kernel) (by decide +kernel) rfl (Nat.le_of_ble_eq_true rfl) rfl ?_
  obtain ⟨v2, hv2⟩ : ∃ v, v = (g_X10_read v1 ty (g_X10_leastOf (nI w)) (g_X10_mostOf (nI w))) := ⟨_, rfl⟩
  rw [← hv2]
  have ev2 : (d_X10_setting_2 M ty w) = v2 := by unfold d_X10_setting_2; (try rw [ev1]); exact hv2.symm
  have tk2 : zTkP ty v2.2 := by rw [hv2]; exact (tk_X10_read v1 ty (g_X10_leastOf (nI w)) (g_X10_mostOf (nI w)) h600 tk1)
  have lw2 : v2.2 1 = M 1 := by rw [hv2]; exact ((fr_X10_read v1 ty (g_X10_leastOf (nI w)) (g_X10_mostOf (nI w)) 1 (by decide)).trans lw1)
  have rd2 : v2.2 0 18 = 0 → v1 0 18 = 0 := by rw [hv2]; exact fun h => (e_X10_read v1 ty (g_X10_leastOf (nI w)) (g_X10_mostOf (nI w)) h600 tk1 h).2.2
  refine zT.run [(.istore_n 2, 0, 0, 0), (.aload_n 0, 0, 0, 0), (.iconst 0, 0, 0, 0)] (pe := 19) (ls' := [some (.ref 0), some (.int (nI w)), some (.int v2.1)]) (st' := [.int 0, .ref 0]) (M' := v2.2) (by decide +kernel) rfl ?_
  refine zT.cV_all (o := 0) (idx := 306) (av := [.int 0]) (rv := (some (.int (g_X10_ends v2.2 0).1))) (st := []) (S1 := [.int (g_X10_ends v2.2 0).1]) (c_X10_ends v2.2 gp 0) k_X10_ends _ _ rfl rfl rfl (zIn (w := 6201) (by decide +kernel) rfl) (by decide +kernel) (by decide +kernel) rfl (Nat.le_of_ble_eq_true rfl) rfl ?_
  obtain ⟨v3, hv3⟩ : ∃ v, v = (g_X10_ends v2.2 0) := ⟨_, rfl⟩
  rw [← hv3]
  have ev3 : (d_X10_setting_3 M ty w) = v3 := by unfold d_X10_setting_3; (try rw [ev2]); exact hv3.symm
  have tk3 : zTkP ty v3.2 := by rw [hv3]; exact (tk_X10_ends v2.2 0 h600 tk2)
  have lw3 : v3.2 1 = M 1 := by rw [hv3]; exact ((fr_X10_ends v2.2 0 1 (by decide)).trans lw2)
  have en3 : ¬ v3.1 = 0 → v2.2 0 18 = 0 ∧ (0 : Int32) = 0 ∧ v3.2 = v2.2 := by rw [hv3]; exact fun h => ⟨(e_X10_ends v2.2 0 h600 tk2 h).1, (e_X10_ends v2.2 0 h600 tk2 h).2.1, (e_X10_ends v2.2 0 h600 tk2 h).2.2.2⟩
  refine zT.zeq (tgt := 34) (off := 12) (by decide +kernel) (by decide) (fun (c1 : v3.1 = 0) => ?_) (fun (c1 : ¬ v3.1 = 0) => ?_)
  · skip
    exact zT.vret (by unfold g_X10_setting; (try rw [ev1]); (try rw [ev2]); (try rw [ev3]); first | done | rw [if_pos c1] | rfl) rfl (by decide +kernel)
  · skip
    refine zT.run [(.aload_n 0, 0, 0, 0), (.getfield 9, 8, 1, 5150), (.iconst 1, 0, 0, 0), (.iload_n 1, 0, 0, 0), (.iadd, 0, 0, 0), (.iload_n 2, 0, 0, 0)] (pe := 33) (ls' := [some (.ref 0), some (.int (nI w)), some (.int v2.1)]) (st' := [.int v2.1, .int (1 + (nI w)), .ref 1]) (M' := v3.2) (by decide +kernel) rfl ?_
    refine zT.iast (n := 187) (k := (1 + w)) rfl (by show ((nI 1) + (nI w)) = nI (1 + w); simp only [pk_mul, nI_add]) (by omega) (by decide) (by decide +kernel) ?_
    exact zT.vret (by unfold g_X10_setting; (try rw [ev1]); (try rw [ev2]); (try rw [ev3]); first | done | rw [if_neg c1] | rfl) rfl (by decide +kernel)
theorem fr_X10_setting (M : zM) (ty : Nat) (w : Nat) (o : Nat) (ho : o ≠ 0 ∧ o ≠ 1) : (g_X10_setting M ty w) o = M o := by
  simp only [g_X10_setting]
  (repeat' split) <;> simp only [zU_ne ho.1, zU_ne ho.2, zUa_ne ho.1, zUa_ne ho.2, d_X10_setting_3, (fun (MM : zM) (x : Int32) => fr_X10_ends MM x o (by omega)), d_X10_setting_2, (fun (MM : zM) (ty : Nat) (lo : Int32) (hi : Int32) => fr_X10_read MM ty lo hi o (by omega)), d_X10_setting_1, (fun (MM : zM) (ty : Nat) => fr_X10_scan MM ty o (by omega))]
theorem k_X10_setting : zCal yy_X10_setting 1 := ⟨⟨⟨⟨zIn (w := 6231) (by decide +kernel) rfl, zIn (w := 1012) (by decide +kernel) rfl⟩, by decide +kernel⟩, by decide +kernel⟩, ⟨zIn (w := 6230) (by decide +kernel) rfl, zIn (w := 71) (by decide +kernel) rfl⟩⟩
theorem tk_X10_setting (M : zM) (ty : Nat) (w : Nat) (h600 : ty ≤ 600) (htk : zTkP ty M) : zTkP ty (g_X10_setting M ty w) := by
  obtain ⟨v1, hv1⟩ : ∃ v, v = (g_X10_scan M ty) := ⟨_, rfl⟩
  have ev1 : (d_X10_setting_1 M ty w) = v1 := by unfold d_X10_setting_1; exact hv1.symm
  have tkv1 : zTkP ty v1 := by rw [hv1]; exact (tk_X10_scan M ty h600 htk)
  obtain ⟨v2, hv2⟩ : ∃ v, v = (g_X10_read v1 ty (g_X10_leastOf (nI w)) (g_X10_mostOf (nI w))) := ⟨_, rfl⟩
  have ev2 : (d_X10_setting_2 M ty w) = v2 := by unfold d_X10_setting_2; (try rw [ev1]); exact hv2.symm
  have tkv2 : zTkP ty v2.2 := by rw [hv2]; exact (tk_X10_read v1 ty (g_X10_leastOf (nI w)) (g_X10_mostOf (nI w)) h600 tkv1)
  obtain ⟨v3, hv3⟩ : ∃ v, v = (g_X10_ends v2.2 0) := ⟨_, rfl⟩
  have ev3 : (d_X10_setting_3 M ty w) = v3 := by unfold d_X10_setting_3; (try rw [ev2]); exact hv3.symm
  have tkv3 : zTkP ty v3.2 := by rw [hv3]; exact (tk_X10_ends v2.2 0 h600 tkv2)
  unfold g_X10_setting
  (try rw [ev1])
  (try rw [ev2])
  (try rw [ev3])
  by_cases q1 : v3.1 = 0
  · rw [if_pos q1]
    exact tkv3
  · rw [if_neg q1]
    exact tkv3
noncomputable abbrev yy_X10_threeNumbers : zY := (yX10_threeNumbers, cX10_threeNumbers, 7, none, 5, 104)
noncomputable def d_X10_threeNumbers_1 (M : zM) (ty : Nat) (n : Nat) (b : Int32) : Int32 × zM := (g_X10_replicaHere M ty)
noncomputable def d_X10_threeNumbers_2 (M : zM) (ty : Nat) (n : Nat) (b : Int32) : Int32 × zM := (g_X10_replicaHere (d_X10_threeNumbers_1 M ty n b).2 ty)
noncomputable def d_X10_threeNumbers_3 (M : zM) (ty : Nat) (n : Nat) (b : Int32) : Int32 × zM := (g_X10_read (d_X10_threeNumbers_2 M ty n b).2 ty 0 999)
noncomputable def d_X10_threeNumbers_4 (M : zM) (ty : Nat) (n : Nat) (b : Int32) : Int32 × zM := (g_X10_ends (d_X10_threeNumbers_3 M ty n b).2 (if ((d_X10_threeNumbers_3 M ty n b).2 0 18) = 0 then (if b = 0 then (g_X10_noBreak (d_X10_threeNumbers_3 M ty n b).2 (d_X10_threeNumbers_1 M ty n b).1.toNatClampNeg) else (g_X10_noSeal (d_X10_threeNumbers_3 M ty n b).2 (d_X10_threeNumbers_1 M ty n b).1.toNatClampNeg)) else (0 : Int32)))
noncomputable def d_X10_threeNumbers_7 (M : zM) (ty : Nat) (n : Nat) (b : Int32) : Int32 × zM := (g_X10_breakIt (d_X10_threeNumbers_4 M ty n b).2 (d_X10_threeNumbers_1 M ty n b).1.toNatClampNeg (d_X10_threeNumbers_2 M ty n b).1.toNatClampNeg (d_X10_threeNumbers_3 M ty n b).1)
noncomputable def d_X10_threeNumbers_8 (M : zM) (ty : Nat) (n : Nat) (b : Int32) : Int32 × zM := (g_X10_sealIt (d_X10_threeNumbers_4 M ty n b).2 n (d_X10_threeNumbers_1 M ty n b).1.toNatClampNeg (g_X10_sealOf (d_X10_threeNumbers_2 M ty n b).1 (d_X10_threeNumbers_3 M ty n b).1 ((d_X10_threeNumbers_4 M ty n b).2 1 5)))
noncomputable def g_X10_threeNumbers (M : zM) (ty : Nat) (n : Nat) (b : Int32) : zM := (if (d_X10_threeNumbers_4 M ty n b).1 = 0 then (d_X10_threeNumbers_4 M ty n b).2 else (if b = 0 then (d_X10_threeNumbers_7 M ty n b).2 else (d_X10_threeNumbers_8 M ty n b).2))
set_option maxRecDepth 100000 in
theorem c_X10_threeNumbers (M : zM) (gp : Nat → Option Nat) (ty : Nat) (n : Nat) (b : Int32) (h600 : ty ≤ 600) (htk : zTkP ty M) (hn : M 1 0 = nI n) (h9 : n ≤ 9) (hd : zHd M) : zC yy_X10_threeNumbers 0 0 [.ref 0, .int b] (sh_Model gp) M none (sh_Model gp) (g_X10_threeNumbers M ty n b) := by
  refine zC.of (by decide +kernel) rfl (Nat.le_of_ble_eq_true rfl) ?_
  refine zT.run [(.aload_n 0, 0, 0, 0)] (pe := 1) (ls' := [some (.ref 0), some (.int b), none, none, none, none, none]) (st' := [.ref 0]) (M' := M) (by decide +kernel) rfl ?_
  refine zT.cV_all (o := 0) (idx := 316) (av := []) (rv := (some (.int (g_X10_replicaHere M ty).1))) (st := []) (S1 := [.int (g_X10_replicaHere M ty).1]) (c_X10_replicaHere M gp ty h600 htk) k_X10_replicaHere _ _ rfl rfl rfl (zIn (w := 6232) (by decide +kernel) rfl) (by decide +kernel) (by decide +kernel) rfl (Nat.le_of_ble_eq_true rfl) rfl ?_
  obtain ⟨v1, hv1⟩ : ∃ v, v = (g_X10_replicaHere M ty) := ⟨_, rfl⟩
  rw [← hv1]
  have ev1 : (d_X10_threeNumbers_1 M ty n b) = v1 := by unfold d_X10_threeNumbers_1; exact hv1.symm
  have tk1 : zTkP ty v1.2 := by rw [hv1]; exact (tk_X10_replicaHere M ty h600 htk)
  have lw1 : v1.2 1 = M 1 := by rw [hv1]; exact (fr_X10_replicaHere M ty 1 (by decide))
  have rh1 : v1.2 0 18 = 0 → v1.1 = nI v1.1.toNatClampNeg ∧ v1.1.toNatClampNeg < n ∧ M 0 18 = 0 := by rw [hv1]; exact e_X10_replicaHere M ty n h600 htk hn h9
  refine zT.run [(.istore_n 2, 0, 0, 0), (.aload_n 0, 0, 0, 0)] (pe := 6) (ls' := [some (.ref 0), some (.int b), some (.int v1.1), none, none, none, none]) (st' := [.ref 0]) (M' := v1.2) (by decide +kernel) rfl ?_
  refine zT.cV_all (o := 0) (idx := 316) (av := []) (rv := (some (.int (g_X10_replicaHere v1.2 ty).1))) (st := []) (S1 := [.int (g_X10_replicaHere v1.2 ty).1]) (c_X10_replicaHere v1.2 gp ty h600 tk1) k_X10_replicaHere _ _ rfl rfl rfl (zIn (w := 6232) (by decide +kernel) rfl) (by decide +kernel) (by decide +kernel) rfl (Nat.le_of_ble_eq_true rfl) rfl ?_
  obtain ⟨v2, hv2⟩ : ∃ v, v = (g_X10_replicaHere v1.2 ty) := ⟨_, rfl⟩
  rw [← hv2]
  have ev2 : (d_X10_threeNumbers_2 M ty n b) = v2 := by unfold d_X10_threeNumbers_2; (try rw [ev1]); exact hv2.symm
  have tk2 : zTkP ty v2.2 := by rw [hv2]; exact (tk_X10_replicaHere v1.2 ty h600 tk1)
  have lw2 : v2.2 1 = M 1 := by rw [hv2]; exact ((fr_X10_replicaHere v1.2 ty 1 (by decide)).trans lw1)
  have rh2 : v2.2 0 18 = 0 → v2.1 = nI v2.1.toNatClampNeg ∧ v2.1.toNatClampNeg < n ∧ v1.2 0 18 = 0 := by rw [hv2]; exact e_X10_replicaHere v1.2 ty n h600 tk1 ((congrFun lw1 0).trans hn) h9
  refine zT.run [(.istore_n 3, 0, 0, 0), (.aload_n 0, 0, 0, 0), (.iconst 0, 0, 0, 0), (.sipush 999, 0, 0, 0)] (pe := 15) (ls' := [some (.ref 0), some (.int b), some (.int v1.1), some (.int v2.1), none, none, none]) (st' := [.int 999, .int 0, .ref 0]) (M' := v2.2) (by decide +kernel) rfl ?_
  refine zT.cV_all (o := 0) (idx := 259) (av := [.int 0, .int 999]) (rv := (some (.int (g_X10_read v2.2 ty 0 999).1))) (st := []) (S1 := [.int (g_X10_read v2.2 ty 0 999).1]) (c_X10_read v2.2 gp ty 0 999 h600 tk2) k_X10_read _ _ rfl rfl rfl (zIn (w := 6193) (by decide +kernel) rfl) (by decide +kernel) (by decide +kernel) rfl (Nat.le_of_ble_eq_true rfl) rfl ?_
  obtain ⟨v3, hv3⟩ : ∃ v, v = (g_X10_read v2.2 ty 0 999) := ⟨_, rfl⟩
  rw [← hv3]
  have ev3 : (d_X10_threeNumbers_3 M ty n b) = v3 := by unfold d_X10_threeNumbers_3; (try rw [ev2]); exact hv3.symm
  have tk3 : zTkP ty v3.2 := by rw [hv3]; exact (tk_X10_read v2.2 ty 0 999 h600 tk2)
  have lw3 : v3.2 1 = M 1 := by rw [hv3]; exact ((fr_X10_read v2.2 ty 0 999 1 (by decide)).trans lw2)
  have rd3 : v3.2 0 18 = 0 → v2.2 0 18 = 0 := by rw [hv3]; exact fun h => (e_X10_read v2.2 ty 0 999 h600 tk2 h).2.2
  refine zT.run [(.istore 4, 0, 0, 0), (.aload_n 0, 0, 0, 0), (.getfield 235, 8, 18, 5167)] (pe := 24) (ls' := [some (.ref 0), some (.int b), some (.int v1.1), some (.int v2.1), some (.int v3.1), none, none]) (st' := [.int (v3.2 0 18)]) (M' := v3.2) (by decide +kernel) rfl ?_
  refine zT.join (48, [some (.ref 0), some (.int b), some (.int v1.1), some (.int v2.1), some (.int v3.1), none, none], [.int (if (v3.2 0 18) = 0 then (if b = 0 then (g_X10_noBreak v3.2 v1.1.toNatClampNeg) else (g_X10_noSeal v3.2 v1.1.toNatClampNeg)) else (0 : Int32))], (sh_Model gp), v3.2) ?_ ?_
  · refine zT.zeq (tgt := 31) (off := 7) (by decide +kernel) (by decide) (fun (c1 : (v3.2 0 18) = 0) => ?_) (fun (c1 : ¬ (v3.2 0 18) = 0) => ?_)
    · skip
      refine zT.run [(.iload_n 1, 0, 0, 0)] (pe := 32) (ls' := [some (.ref 0), some (.int b), some (.int v1.1), some (.int v2.1), some (.int v3.1), none, none]) (st' := [.int b]) (M' := v3.2) (by decide +kernel) rfl ?_
      refine zT.zeq (tgt := 43) (off := 11) (by decide +kernel) (by decide) (fun (c2 : b = 0) => ?_) (fun (c2 : ¬ b = 0) => ?_)
      · skip
        refine zT.run [(.aload_n 0, 0, 0, 0), (.iload_n 2, 0, 0, 0)] (pe := 45) (ls' := [some (.ref 0), some (.int b), some (.int v1.1), some (.int v2.1), some (.int v3.1), none, none]) (st' := [.int v1.1, .ref 0]) (M' := v3.2) (by decide +kernel) rfl ?_
        refine zT.eqS (congrArg (fun v : Int32 => ([.int v, .ref 0] : List Value)) (rh1 (rh2 (rd3 c1)).2.2).1) ?_
        refine zT.cV_own (o := 0) (idx := 179) (av := [.int (nI v1.1.toNatClampNeg)]) (rv := (some (.int (g_X10_noBreak v3.2 v1.1.toNatClampNeg)))) (st := []) (S1 := [.int (g_X10_noBreak v3.2 v1.1.toNatClampNeg)]) (c_X10_noBreak v3.2 gp v1.1.toNatClampNeg (zHd.of2 (congrFun lw3 4) (congrFun lw3 6) hd) (Nat.lt_of_lt_of_le (rh1 (rh2 (rd3 c1)).2.2).2.1 h9)) k_X10_noBreak _ _ rfl rfl rfl (zIn (w := 6043) (by decide +kernel) rfl) (by decide +kernel) (by decide +kernel) rfl (Nat.le_of_ble_eq_true rfl) rfl ?_
        exact zT.here (by simp only [if_pos c1, if_pos c2]; try rfl)
      · skip
        refine zT.run [(.aload_n 0, 0, 0, 0), (.iload_n 2, 0, 0, 0)] (pe := 37) (ls' := [some (.ref 0), some (.int b), some (.int v1.1), some (.int v2.1), some (.int v3.1), none, none]) (st' := [.int v1.1, .ref 0]) (M' := v3.2) (by decide +kernel) rfl ?_
        refine zT.eqS (congrArg (fun v : Int32 => ([.int v, .ref 0] : List Value)) (rh1 (rh2 (rd3 c1)).2.2).1) ?_
        refine zT.cV_own (o := 0) (idx := 170) (av := [.int (nI v1.1.toNatClampNeg)]) (rv := (some (.int (g_X10_noSeal v3.2 v1.1.toNatClampNeg)))) (st := []) (S1 := [.int (g_X10_noSeal v3.2 v1.1.toNatClampNeg)]) (c_X10_noSeal v3.2 gp v1.1.toNatClampNeg (zHd.of2 (congrFun lw3 4) (congrFun lw3 6) hd) (Nat.lt_of_lt_of_le (rh1 (rh2 (rd3 c1)).2.2).2.1 h9)) k_X10_noSeal _ _ rfl rfl rfl (zIn (w := 6011) (by decide +kernel) rfl) (by decide +kernel) (by decide +kernel) rfl (Nat.le_of_ble_eq_true rfl) rfl ?_
        refine zT.run [(.goto 8, 0, 0, 0)] (pe := 48) (ls' := [some (.ref 0), some (.int b), some (.int v1.1), some (.int v2.1), some (.int v3.1), none, none]) (st' := [.int (g_X10_noSeal v3.2 v1.1.toNatClampNeg)]) (M' := v3.2) (by decide +kernel) rfl ?_
        exact zT.here (by simp only [if_pos c1, if_neg c2]; try rfl)
    · skip
      refine zT.run [(.iconst 0, 0, 0, 0), (.goto 20, 0, 0, 0)] (pe := 48) (ls' := [some (.ref 0), some (.int b), some (.int v1.1), some (.int v2.1), some (.int v3.1), none, none]) (st' := [.int 0]) (M' := v3.2) (by decide +kernel) rfl ?_
      exact zT.here (by simp only [if_neg c1]; try rfl)
  · skip
    refine zT.run [(.istore 5, 0, 0, 0), (.aload_n 0, 0, 0, 0), (.iload 5, 0, 0, 0)] (pe := 53) (ls' := [some (.ref 0), some (.int b), some (.int v1.1), some (.int v2.1), some (.int v3.1), some (.int (if (v3.2 0 18) = 0 then (if b = 0 then (g_X10_noBreak v3.2 v1.1.toNatClampNeg) else (g_X10_noSeal v3.2 v1.1.toNatClampNeg)) else (0 : Int32))), none]) (st' := [.int (if (v3.2 0 18) = 0 then (if b = 0 then (g_X10_noBreak v3.2 v1.1.toNatClampNeg) else (g_X10_noSeal v3.2 v1.1.toNatClampNeg)) else (0 : Int32)), .ref 0]) (M' := v3.2) (by decide +kernel) rfl ?_
    refine zT.cV_all (o := 0) (idx := 306) (av := [.int (if (v3.2 0 18) = 0 then (if b = 0 then (g_X10_noBreak v3.2 v1.1.toNatClampNeg) else (g_X10_noSeal v3.2 v1.1.toNatClampNeg)) else (0 : Int32))]) (rv := (some (.int (g_X10_ends v3.2 (if (v3.2 0 18) = 0 then (if b = 0 then (g_X10_noBreak v3.2 v1.1.toNatClampNeg) else (g_X10_noSeal v3.2 v1.1.toNatClampNeg)) else (0 : Int32))).1))) (st := []) (S1 := [.int (g_X10_ends v3.2 (if (v3.2 0 18) = 0 then (if b = 0 then (g_X10_noBreak v3.2 v1.1.toNatClampNeg) else (g_X10_noSeal v3.2 v1.1.toNatClampNeg)) else (0 : Int32))).1]) (c_X10_ends v3.2 gp (if (v3.2 0 18) = 0 then (if b = 0 then (g_X10_noBreak v3.2 v1.1.toNatClampNeg) else (g_X10_noSeal v3.2 v1.1.toNatClampNeg)) else (0 : Int32))) k_X10_ends _ _ rfl rfl rfl (zIn (w := 6201) (by decide +kernel) rfl) (by decide +kernel) (by decide +kernel) rfl (Nat.le_of_ble_eq_true rfl) rfl ?_
    obtain ⟨v4, hv4⟩ : ∃ v, v = (g_X10_ends v3.2 (if (v3.2 0 18) = 0 then (if b = 0 then (g_X10_noBreak v3.2 v1.1.toNatClampNeg) else (g_X10_noSeal v3.2 v1.1.toNatClampNeg)) else (0 : Int32))) := ⟨_, rfl⟩
    rw [← hv4]
    have ev4 : (d_X10_threeNumbers_4 M ty n b) = v4 := by unfold d_X10_threeNumbers_4; (try rw [ev1]); (try rw [ev3]); exact hv4.symm
    have tk4 : zTkP ty v4.2 := by rw [hv4]; exact (tk_X10_ends v3.2 (if (v3.2 0 18) = 0 then (if b = 0 then (g_X10_noBreak v3.2 v1.1.toNatClampNeg) else (g_X10_noSeal v3.2 v1.1.toNatClampNeg)) else (0 : Int32)) h600 tk3)
    have lw4 : v4.2 1 = M 1 := by rw [hv4]; exact ((fr_X10_ends v3.2 (if (v3.2 0 18) = 0 then (if b = 0 then (g_X10_noBreak v3.2 v1.1.toNatClampNeg) else (g_X10_noSeal v3.2 v1.1.toNatClampNeg)) else (0 : Int32)) 1 (by decide)).trans lw3)
    have en4 : ¬ v4.1 = 0 → v3.2 0 18 = 0 ∧ ((if (v3.2 0 18) = 0 then (if b = 0 then (g_X10_noBreak v3.2 v1.1.toNatClampNeg) else (g_X10_noSeal v3.2 v1.1.toNatClampNeg)) else (0 : Int32)) : Int32) = 0 ∧ v4.2 = v3.2 := by rw [hv4]; exact fun h => ⟨(e_X10_ends v3.2 (if (v3.2 0 18) = 0 then (if b = 0 then (g_X10_noBreak v3.2 v1.1.toNatClampNeg) else (g_X10_noSeal v3.2 v1.1.toNatClampNeg)) else (0 : Int32)) h600 tk3 h).1, (e_X10_ends v3.2 (if (v3.2 0 18) = 0 then (if b = 0 then (g_X10_noBreak v3.2 v1.1.toNatClampNeg) else (g_X10_noSeal v3.2 v1.1.toNatClampNeg)) else (0 : Int32)) h600 tk3 h).2.1, (e_X10_ends v3.2 (if (v3.2 0 18) = 0 then (if b = 0 then (g_X10_noBreak v3.2 v1.1.toNatClampNeg) else (g_X10_noSeal v3.2 v1.1.toNatClampNeg)) else (0 : Int32)) h600 tk3 h).2.2.2⟩
    refine zT.zeq (tgt := 93) (off := 37) (by decide +kernel) (by decide) (fun (c3 : v4.1 = 0) => ?_) (fun (c3 : ¬ v4.1 = 0) => ?_)
    · skip
      exact zT.vret (by unfold g_X10_threeNumbers; (try rw [ev1]); (try rw [ev2]); (try rw [ev3]); (try rw [ev4]); first | done | rw [if_pos c3] | rfl) rfl (by decide +kernel)
    · skip
      refine zT.run [(.iload_n 1, 0, 0, 0)] (pe := 60) (ls' := [some (.ref 0), some (.int b), some (.int v1.1), some (.int v2.1), some (.int v3.1), some (.int (if (v3.2 0 18) = 0 then (if b = 0 then (g_X10_noBreak v3.2 v1.1.toNatClampNeg) else (g_X10_noSeal v3.2 v1.1.toNatClampNeg)) else (0 : Int32))), none]) (st' := [.int b]) (M' := v4.2) (by decide +kernel) rfl ?_
      refine zT.zeq (tgt := 83) (off := 23) (by decide +kernel) (by decide) (fun (c4 : b = 0) => ?_) (fun (c4 : ¬ b = 0) => ?_)
      · skip
        refine zT.run [(.aload_n 0, 0, 0, 0), (.iload_n 2, 0, 0, 0), (.iload_n 3, 0, 0, 0), (.iload 4, 0, 0, 0)] (pe := 88) (ls' := [some (.ref 0), some (.int b), some (.int v1.1), some (.int v2.1), some (.int v3.1), some (.int (if (v3.2 0 18) = 0 then (if b = 0 then (g_X10_noBreak v3.2 v1.1.toNatClampNeg) else (g_X10_noSeal v3.2 v1.1.toNatClampNeg)) else (0 : Int32))), none]) (st' := [.int v3.1, .int v2.1, .int v1.1, .ref 0]) (M' := v4.2) (by decide +kernel) rfl ?_
        refine zT.eqS (congrArg (fun v : Int32 => ([.int v3.1, .int v2.1, .int v, .ref 0] : List Value)) (rh1 (rh2 (rd3 (en4 c3).1)).2.2).1) ?_
        refine zT.eqS (congrArg (fun v : Int32 => ([.int v3.1, .int v, .int (nI v1.1.toNatClampNeg), .ref 0] : List Value)) (rh2 (rd3 (en4 c3).1)).1) ?_
        refine zT.cV_all (o := 0) (idx := 182) (av := [.int (nI v1.1.toNatClampNeg), .int (nI v2.1.toNatClampNeg), .int v3.1]) (rv := (some (.int (g_X10_breakIt v4.2 v1.1.toNatClampNeg v2.1.toNatClampNeg v3.1).1))) (st := []) (S1 := [.int (g_X10_breakIt v4.2 v1.1.toNatClampNeg v2.1.toNatClampNeg v3.1).1]) (c_X10_breakIt v4.2 gp v1.1.toNatClampNeg v2.1.toNatClampNeg v3.1 (Nat.lt_of_lt_of_le (rh1 (rh2 (rd3 (en4 c3).1)).2.2).2.1 h9) (Nat.lt_of_lt_of_le (rh2 (rd3 (en4 c3).1)).2.1 h9)) k_X10_breakIt _ _ rfl rfl rfl (zIn (w := 6047) (by decide +kernel) rfl) (by decide +kernel) (by decide +kernel) rfl (Nat.le_of_ble_eq_true rfl) rfl ?_
        obtain ⟨v7, hv7⟩ : ∃ v, v = (g_X10_breakIt v4.2 v1.1.toNatClampNeg v2.1.toNatClampNeg v3.1) := ⟨_, rfl⟩
        rw [← hv7]
        have ev7 : (d_X10_threeNumbers_7 M ty n b) = v7 := by unfold d_X10_threeNumbers_7; (try rw [ev1]); (try rw [ev2]); (try rw [ev3]); (try rw [ev4]); exact hv7.symm
        have tk7 : zTkP ty v7.2 := by rw [hv7]; exact zTkP.of (fr_X10_breakIt v4.2 v1.1.toNatClampNeg v2.1.toNatClampNeg v3.1 0 (by decide)) tk4
        refine zT.run [(.istore 6, 0, 0, 0)] (pe := 93) (ls' := [some (.ref 0), some (.int b), some (.int v1.1), some (.int v2.1), some (.int v3.1), some (.int (if (v3.2 0 18) = 0 then (if b = 0 then (g_X10_noBreak v3.2 v1.1.toNatClampNeg) else (g_X10_noSeal v3.2 v1.1.toNatClampNeg)) else (0 : Int32))), some (.int v7.1)]) (st' := []) (M' := v7.2) (by decide +kernel) rfl ?_
        exact zT.vret (by unfold g_X10_threeNumbers; (try rw [ev1]); (try rw [ev2]); (try rw [ev3]); (try rw [ev4]); (try rw [ev7]); first | done | rw [if_neg c3, if_pos c4] | rfl) rfl (by decide +kernel)
      · skip
        refine zT.run [(.aload_n 0, 0, 0, 0), (.iload_n 2, 0, 0, 0), (.iload_n 3, 0, 0, 0), (.iload 4, 0, 0, 0), (.aload_n 0, 0, 0, 0), (.getfield 9, 8, 1, 5150), (.iconst 5, 0, 0, 0)] (pe := 73) (ls' := [some (.ref 0), some (.int b), some (.int v1.1), some (.int v2.1), some (.int v3.1), some (.int (if (v3.2 0 18) = 0 then (if b = 0 then (g_X10_noBreak v3.2 v1.1.toNatClampNeg) else (g_X10_noSeal v3.2 v1.1.toNatClampNeg)) else (0 : Int32))), none]) (st' := [.int 5, .ref 1, .int v3.1, .int v2.1, .int v1.1, .ref 0]) (M' := v4.2) (by decide +kernel) rfl ?_
        refine zT.iald (n := 187) (k := 5) rfl rfl (by decide) (by decide) (by decide +kernel) ?_
        refine zT.cS_nil (idx := 53) (av := [.int v2.1, .int v3.1, .int (v4.2 1 5)]) (rv := (some (.int (g_X10_sealOf v2.1 v3.1 (v4.2 1 5))))) (st := [.int v1.1, .ref 0]) (S1 := [.int (g_X10_sealOf v2.1 v3.1 (v4.2 1 5)), .int v1.1, .ref 0]) (c_X10_sealOf v2.1 v3.1 (v4.2 1 5)) k_X10_sealOf rfl (zIn (w := 5128) (by decide +kernel) rfl) (by decide +kernel) (by decide +kernel) rfl (Nat.le_of_ble_eq_true rfl) rfl ?_
        refine zT.eqS (congrArg (fun v : Int32 => ([.int (g_X10_sealOf v2.1 v3.1 (v4.2 1 5)), .int v, .ref 0] : List Value)) (rh1 (rh2 (rd3 (en4 c3).1)).2.2).1) ?_
        refine zT.cV_all (o := 0) (idx := 57) (av := [.int (nI v1.1.toNatClampNeg), .int (g_X10_sealOf v2.1 v3.1 (v4.2 1 5))]) (rv := (some (.int (g_X10_sealIt v4.2 n v1.1.toNatClampNeg (g_X10_sealOf v2.1 v3.1 (v4.2 1 5))).1))) (st := []) (S1 := [.int (g_X10_sealIt v4.2 n v1.1.toNatClampNeg (g_X10_sealOf v2.1 v3.1 (v4.2 1 5))).1]) (c_X10_sealIt v4.2 gp n v1.1.toNatClampNeg (g_X10_sealOf v2.1 v3.1 (v4.2 1 5)) ((congrFun lw4 0).trans hn) h9 (Nat.lt_of_lt_of_le (rh1 (rh2 (rd3 (en4 c3).1)).2.2).2.1 h9)) k_X10_sealIt _ _ rfl rfl rfl (zIn (w := 5137) (by decide +kernel) rfl) (by decide +kernel) (by decide +kernel) rfl (Nat.le_of_ble_eq_true rfl) rfl ?_
        obtain ⟨v8, hv8⟩ : ∃ v, v = (g_X10_sealIt v4.2 n v1.1.toNatClampNeg (g_X10_sealOf v2.1 v3.1 (v4.2 1 5))) := ⟨_, rfl⟩
        rw [← hv8]
        have ev8 : (d_X10_threeNumbers_8 M ty n b) = v8 := by unfold d_X10_threeNumbers_8; (try rw [ev1]); (try rw [ev2]); (try rw [ev3]); (try rw [ev4]); exact hv8.symm
        have tk8 : zTkP ty v8.2 := by rw [hv8]; exact zTkP.of (fr_X10_sealIt v4.2 n v1.1.toNatClampNeg (g_X10_sealOf v2.1 v3.1 (v4.2 1 5)) 0 (by decide)) tk4
        refine zT.run [(.goto 11, 0, 0, 0), (.istore 6, 0, 0, 0)] (pe := 93) (ls' := [some (.ref 0), some (.int b), some (.int v1.1), some (.int v2.1), some (.int v3.1), some (.int (if (v3.2 0 18) = 0 then (if b = 0 then (g_X10_noBreak v3.2 v1.1.toNatClampNeg) else (g_X10_noSeal v3.2 v1.1.toNatClampNeg)) else (0 : Int32))), some (.int v8.1)]) (st' := []) (M' := v8.2) (by decide +kernel) rfl ?_
        exact zT.vret (by unfold g_X10_threeNumbers; (try rw [ev1]); (try rw [ev2]); (try rw [ev3]); (try rw [ev4]); (try rw [ev8]); first | done | rw [if_neg c3, if_neg c4] | rfl) rfl (by decide +kernel)
theorem fr_X10_threeNumbers (M : zM) (ty : Nat) (n : Nat) (b : Int32) (o : Nat) (ho : o ≠ 0 ∧ o ≠ 1) : (g_X10_threeNumbers M ty n b) o = M o := by
  simp only [g_X10_threeNumbers]
  (repeat' split) <;> simp only [zU_ne ho.1, zU_ne ho.2, zUa_ne ho.1, zUa_ne ho.2, d_X10_threeNumbers_4, (fun (MM : zM) (x : Int32) => fr_X10_ends MM x o (by omega)), d_X10_threeNumbers_3, (fun (MM : zM) (ty : Nat) (lo : Int32) (hi : Int32) => fr_X10_read MM ty lo hi o (by omega)), d_X10_threeNumbers_2, (fun (MM : zM) (ty : Nat) => fr_X10_replicaHere MM ty o (by omega)), d_X10_threeNumbers_1, d_X10_threeNumbers_7, (fun (MM : zM) (r : Nat) (cd : Nat) (x : Int32) => fr_X10_breakIt MM r cd x o (by omega)), d_X10_threeNumbers_8, (fun (MM : zM) (n : Nat) (r : Nat) (x : Int32) => fr_X10_sealIt MM n r x o (by omega))]
theorem lo_X10_threeNumbers (M : zM) (ty : Nat) (n : Nat) (b : Int32) (o : Nat) (ho : o < 10) : (g_X10_threeNumbers M ty n b) 1 o = M 1 o := by
  simp only [g_X10_threeNumbers]
  (repeat' split) <;> (try simp only [d_X10_threeNumbers_4, (fun (MM : zM) (x : Int32) => fr_X10_ends MM x 1 (by decide)), d_X10_threeNumbers_3, (fun (MM : zM) (ty : Nat) (lo : Int32) (hi : Int32) => fr_X10_read MM ty lo hi 1 (by decide)), d_X10_threeNumbers_2, (fun (MM : zM) (ty : Nat) => fr_X10_replicaHere MM ty 1 (by decide)), d_X10_threeNumbers_1, d_X10_threeNumbers_7, (fun (MM : zM) (r : Nat) (cd : Nat) (x : Int32) => lo_X10_breakIt MM r cd x o (by omega)), d_X10_threeNumbers_8, (fun (MM : zM) (n : Nat) (r : Nat) (x : Int32) => lo_X10_sealIt MM n r x o (by omega))])
theorem k_X10_threeNumbers : zCal yy_X10_threeNumbers 1 := ⟨⟨⟨⟨zIn (w := 6239) (by decide +kernel) rfl, zIn (w := 1012) (by decide +kernel) rfl⟩, by decide +kernel⟩, by decide +kernel⟩, ⟨zIn (w := 6238) (by decide +kernel) rfl, zIn (w := 73) (by decide +kernel) rfl⟩⟩
theorem tk_X10_threeNumbers (M : zM) (ty : Nat) (n : Nat) (b : Int32) (h600 : ty ≤ 600) (htk : zTkP ty M) : zTkP ty (g_X10_threeNumbers M ty n b) := by
  obtain ⟨v1, hv1⟩ : ∃ v, v = (g_X10_replicaHere M ty) := ⟨_, rfl⟩
  have ev1 : (d_X10_threeNumbers_1 M ty n b) = v1 := by unfold d_X10_threeNumbers_1; exact hv1.symm
  have tkv1 : zTkP ty v1.2 := by rw [hv1]; exact (tk_X10_replicaHere M ty h600 htk)
  obtain ⟨v2, hv2⟩ : ∃ v, v = (g_X10_replicaHere v1.2 ty) := ⟨_, rfl⟩
  have ev2 : (d_X10_threeNumbers_2 M ty n b) = v2 := by unfold d_X10_threeNumbers_2; (try rw [ev1]); exact hv2.symm
  have tkv2 : zTkP ty v2.2 := by rw [hv2]; exact (tk_X10_replicaHere v1.2 ty h600 tkv1)
  obtain ⟨v3, hv3⟩ : ∃ v, v = (g_X10_read v2.2 ty 0 999) := ⟨_, rfl⟩
  have ev3 : (d_X10_threeNumbers_3 M ty n b) = v3 := by unfold d_X10_threeNumbers_3; (try rw [ev2]); exact hv3.symm
  have tkv3 : zTkP ty v3.2 := by rw [hv3]; exact (tk_X10_read v2.2 ty 0 999 h600 tkv2)
  obtain ⟨v4, hv4⟩ : ∃ v, v = (g_X10_ends v3.2 (if (v3.2 0 18) = 0 then (if b = 0 then (g_X10_noBreak v3.2 v1.1.toNatClampNeg) else (g_X10_noSeal v3.2 v1.1.toNatClampNeg)) else (0 : Int32))) := ⟨_, rfl⟩
  have ev4 : (d_X10_threeNumbers_4 M ty n b) = v4 := by unfold d_X10_threeNumbers_4; (try rw [ev1]); (try rw [ev3]); exact hv4.symm
  have tkv4 : zTkP ty v4.2 := by rw [hv4]; exact (tk_X10_ends v3.2 (if (v3.2 0 18) = 0 then (if b = 0 then (g_X10_noBreak v3.2 v1.1.toNatClampNeg) else (g_X10_noSeal v3.2 v1.1.toNatClampNeg)) else (0 : Int32)) h600 tkv3)
  obtain ⟨v7, hv7⟩ : ∃ v, v = (g_X10_breakIt v4.2 v1.1.toNatClampNeg v2.1.toNatClampNeg v3.1) := ⟨_, rfl⟩
  have ev7 : (d_X10_threeNumbers_7 M ty n b) = v7 := by unfold d_X10_threeNumbers_7; (try rw [ev1]); (try rw [ev2]); (try rw [ev3]); (try rw [ev4]); exact hv7.symm
  have tkv7 : zTkP ty v7.2 := by rw [hv7]; exact zTkP.of (fr_X10_breakIt v4.2 v1.1.toNatClampNeg v2.1.toNatClampNeg v3.1 0 (by decide)) tkv4
  obtain ⟨v8, hv8⟩ : ∃ v, v = (g_X10_sealIt v4.2 n v1.1.toNatClampNeg (g_X10_sealOf v2.1 v3.1 (v4.2 1 5))) := ⟨_, rfl⟩
  have ev8 : (d_X10_threeNumbers_8 M ty n b) = v8 := by unfold d_X10_threeNumbers_8; (try rw [ev1]); (try rw [ev2]); (try rw [ev3]); (try rw [ev4]); exact hv8.symm
  have tkv8 : zTkP ty v8.2 := by rw [hv8]; exact zTkP.of (fr_X10_sealIt v4.2 n v1.1.toNatClampNeg (g_X10_sealOf v2.1 v3.1 (v4.2 1 5)) 0 (by decide)) tkv4
  unfold g_X10_threeNumbers
  (try rw [ev1])
  (try rw [ev2])
  (try rw [ev3])
  (try rw [ev4])
  (try rw [ev7])
  (try rw [ev8])
  by_cases q1 : v4.1 = 0
  · rw [if_pos q1]
    exact tkv4
  · rw [if_neg q1]
    by_cases q2 : b = 0
    · rw [if_pos q2]
      exact tkv7
    · rw [if_neg q2]
      exact tkv8
noncomputable abbrev yy_X10_bareDeed : zY := (yX10_bareDeed, cX10_bareDeed, 5, none, 5, 110)
noncomputable def d_X10_bareDeed_1 (M : zM) (ty : Nat) (n : Nat) (oz : Nat) : zM := (g_X10_goOn M ty)
noncomputable def d_X10_bareDeed_2 (M : zM) (ty : Nat) (n : Nat) (oz : Nat) : Int32 × zM := (g_X10_ends (d_X10_bareDeed_1 M ty n oz) (if ((d_X10_bareDeed_1 M ty n oz) 0 18) = 0 then (if (g_X10_isWord M ty 6) = 0 then (if (g_X10_isWord M ty 8) = 0 then (if ((d_X10_bareDeed_1 M ty n oz) 1 4) = 0 then (17 : Int32) else (0 : Int32)) else (g_X10_noCount (d_X10_bareDeed_1 M ty n oz) n)) else (g_X10_noClose (d_X10_bareDeed_1 M ty n oz) n)) else (0 : Int32)))
noncomputable def d_X10_bareDeed_3 (M : zM) (ty : Nat) (n : Nat) (oz : Nat) : Int32 × zM := (g_X10_closeIt (d_X10_bareDeed_2 M ty n oz).2 n)
noncomputable def d_X10_bareDeed_4 (M : zM) (ty : Nat) (n : Nat) (oz : Nat) : zM := (g_X10_goOn M ty)
noncomputable def d_X10_bareDeed_5 (M : zM) (ty : Nat) (n : Nat) (oz : Nat) : Int32 × zM := (g_X10_ends (d_X10_bareDeed_4 M ty n oz) (if ((d_X10_bareDeed_4 M ty n oz) 0 18) = 0 then (if (g_X10_isWord M ty 6) = 0 then (if (g_X10_isWord M ty 8) = 0 then (if ((d_X10_bareDeed_4 M ty n oz) 1 4) = 0 then (17 : Int32) else (0 : Int32)) else (g_X10_noCount (d_X10_bareDeed_4 M ty n oz) n)) else (g_X10_noClose (d_X10_bareDeed_4 M ty n oz) n)) else (0 : Int32)))
noncomputable def d_X10_bareDeed_6 (M : zM) (ty : Nat) (n : Nat) (oz : Nat) : Int32 × zM := (g_X10_countIt (d_X10_bareDeed_5 M ty n oz).2 n oz)
noncomputable def d_X10_bareDeed_7 (M : zM) (ty : Nat) (n : Nat) (oz : Nat) : zM := (g_X10_goOn M ty)
noncomputable def d_X10_bareDeed_8 (M : zM) (ty : Nat) (n : Nat) (oz : Nat) : Int32 × zM := (g_X10_ends (d_X10_bareDeed_7 M ty n oz) (if ((d_X10_bareDeed_7 M ty n oz) 0 18) = 0 then (if (g_X10_isWord M ty 6) = 0 then (if (g_X10_isWord M ty 8) = 0 then (if ((d_X10_bareDeed_7 M ty n oz) 1 4) = 0 then (17 : Int32) else (0 : Int32)) else (g_X10_noCount (d_X10_bareDeed_7 M ty n oz) n)) else (g_X10_noClose (d_X10_bareDeed_7 M ty n oz) n)) else (0 : Int32)))
noncomputable def d_X10_bareDeed_9 (M : zM) (ty : Nat) (n : Nat) (oz : Nat) : Int32 × zM := (g_X10_giveIt (d_X10_bareDeed_8 M ty n oz).2)
noncomputable def d_X10_bareDeed_10 (M : zM) (ty : Nat) (n : Nat) (oz : Nat) : zM := (g_X10_wrong M 1)
noncomputable def d_X10_bareDeed_11 (M : zM) (ty : Nat) (n : Nat) (oz : Nat) : zM := (g_X10_goOn (d_X10_bareDeed_10 M ty n oz) ty)
noncomputable def d_X10_bareDeed_12 (M : zM) (ty : Nat) (n : Nat) (oz : Nat) : Int32 × zM := (g_X10_ends (d_X10_bareDeed_11 M ty n oz) (if ((d_X10_bareDeed_11 M ty n oz) 0 18) = 0 then (if (g_X10_isWord M ty 6) = 0 then (if (g_X10_isWord M ty 8) = 0 then (if ((d_X10_bareDeed_11 M ty n oz) 1 4) = 0 then (17 : Int32) else (0 : Int32)) else (g_X10_noCount (d_X10_bareDeed_11 M ty n oz) n)) else (g_X10_noClose (d_X10_bareDeed_11 M ty n oz) n)) else (0 : Int32)))
noncomputable def d_X10_bareDeed_13 (M : zM) (ty : Nat) (n : Nat) (oz : Nat) : Int32 × zM := (g_X10_giveIt (d_X10_bareDeed_12 M ty n oz).2)
noncomputable def g_X10_bareDeed (M : zM) (ty : Nat) (n : Nat) (oz : Nat) : zM := (if (g_X10_isWord M ty 6) = 0 then (if (g_X10_isWord M ty 8) = 0 then (if (g_X10_isWord M ty 10) = 0 then (if (d_X10_bareDeed_12 M ty n oz).1 = 0 then (d_X10_bareDeed_12 M ty n oz).2 else (d_X10_bareDeed_13 M ty n oz).2) else (if (d_X10_bareDeed_8 M ty n oz).1 = 0 then (d_X10_bareDeed_8 M ty n oz).2 else (d_X10_bareDeed_9 M ty n oz).2)) else (if (d_X10_bareDeed_5 M ty n oz).1 = 0 then (d_X10_bareDeed_5 M ty n oz).2 else (d_X10_bareDeed_6 M ty n oz).2)) else (if (d_X10_bareDeed_2 M ty n oz).1 = 0 then (d_X10_bareDeed_2 M ty n oz).2 else (d_X10_bareDeed_3 M ty n oz).2))
set_option maxRecDepth 100000 in
theorem c_X10_bareDeed (M : zM) (gp : Nat → Option Nat) (ty : Nat) (n : Nat) (oz : Nat) (h600 : ty ≤ 600) (htk : zTkP ty M) (hn : M 1 0 = nI n) (h9 : n ≤ 9) (hd : zHd M) (hv : zHv M) (hoz : M 1 9 = nI oz) (h12 : oz ≤ 12) (hP : M 1 4 = 3 → 0 < oz) : zC yy_X10_bareDeed 0 0 [.ref 0] (sh_Model gp) M none (sh_Model gp) (g_X10_bareDeed M ty n oz) := by
  refine zC.of (by decide +kernel) rfl (Nat.le_of_ble_eq_true rfl) ?_
  refine zT.run [(.aload_n 0, 0, 0, 0)] (pe := 1) (ls' := [some (.ref 0), none, none, none, none]) (st' := [.ref 0]) (M' := M) (by decide +kernel) rfl ?_
  refine zT.ldcSW 26 rfl rfl (by decide +kernel) ?_
  refine zT.cV_own (o := 0) (idx := 264) (av := [.retAddr 206]) (rv := (some (.int (g_X10_isWord M ty 6)))) (st := []) (S1 := [.int (g_X10_isWord M ty 6)]) (c_X10_isWord M gp ty 6 h600 htk (by decide)) k_X10_isWord _ _ rfl rfl rfl (zIn (w := 6174) (by decide +kernel) rfl) (by decide +kernel) (by decide +kernel) rfl (Nat.le_of_ble_eq_true rfl) rfl ?_
  refine zT.run [(.istore_n 1, 0, 0, 0), (.aload_n 0, 0, 0, 0)] (pe := 9) (ls' := [some (.ref 0), some (.int (g_X10_isWord M ty 6)), none, none, none]) (st' := [.ref 0]) (M' := M) (by decide +kernel) rfl ?_
  refine zT.ldcSW 28 rfl rfl (by decide +kernel) ?_
  refine zT.cV_own (o := 0) (idx := 264) (av := [.retAddr 208]) (rv := (some (.int (g_X10_isWord M ty 8)))) (st := []) (S1 := [.int (g_X10_isWord M ty 8)]) (c_X10_isWord M gp ty 8 h600 htk (by decide)) k_X10_isWord _ _ rfl rfl rfl (zIn (w := 6174) (by decide +kernel) rfl) (by decide +kernel) (by decide +kernel) rfl (Nat.le_of_ble_eq_true rfl) rfl ?_
  refine zT.run [(.istore_n 2, 0, 0, 0), (.iload_n 1, 0, 0, 0)] (pe := 17) (ls' := [some (.ref 0), some (.int (g_X10_isWord M ty 6)), some (.int (g_X10_isWord M ty 8)), none, none]) (st' := [.int (g_X10_isWord M ty 6)]) (M' := M) (by decide +kernel) rfl ?_
  refine zT.zne (tgt := 39) (off := 22) (by decide +kernel) (by decide) (fun (c1 : ¬ (g_X10_isWord M ty 6) = 0) => ?_) (fun (c1 : (g_X10_isWord M ty 6) = 0) => ?_)
  · skip
    refine zT.run [(.aload_n 0, 0, 0, 0)] (pe := 40) (ls' := [some (.ref 0), some (.int (g_X10_isWord M ty 6)), some (.int (g_X10_isWord M ty 8)), none, none]) (st' := [.ref 0]) (M' := M) (by decide +kernel) rfl ?_
    refine zT.cV_all (o := 0) (idx := 256) (av := []) (rv := none) (st := []) (S1 := []) (c_X10_goOn M gp ty h600 htk) k_X10_goOn _ _ rfl rfl rfl (zIn (w := 6189) (by decide +kernel) rfl) (by decide +kernel) (by decide +kernel) rfl (Nat.le_of_ble_eq_true rfl) rfl ?_
    obtain ⟨v1, hv1⟩ : ∃ v, v = (g_X10_goOn M ty) := ⟨_, rfl⟩
    rw [← hv1]
    have ev1 : (d_X10_bareDeed_1 M ty n oz) = v1 := by unfold d_X10_bareDeed_1; exact hv1.symm
    have tk1 : zTkP ty v1 := by rw [hv1]; exact (tk_X10_goOn M ty h600 htk)
    have lw1 : v1 1 = M 1 := by rw [hv1]; exact (fr_X10_goOn M ty 1 (by decide))
    have go1 : v1 0 18 = 0 → M 0 18 = 0 := by rw [hv1, ke_X10_goOn M ty 18 (by decide) (by decide) (by decide) (by decide)]; exact fun h => h
    refine zT.run [(.aload_n 0, 0, 0, 0), (.getfield 235, 8, 18, 5167)] (pe := 47) (ls' := [some (.ref 0), some (.int (g_X10_isWord M ty 6)), some (.int (g_X10_isWord M ty 8)), none, none]) (st' := [.int (v1 0 18)]) (M' := v1) (by decide +kernel) rfl ?_
    refine zT.join (91, [some (.ref 0), some (.int (g_X10_isWord M ty 6)), some (.int (g_X10_isWord M ty 8)), none, none], [.int (if (v1 0 18) = 0 then (if (g_X10_isWord M ty 6) = 0 then (if (g_X10_isWord M ty 8) = 0 then (if (v1 1 4) = 0 then (17 : Int32) else (0 : Int32)) else (g_X10_noCount v1 n)) else (g_X10_noClose v1 n)) else (0 : Int32))], (sh_Model gp), v1) ?_ ?_
    · refine zT.zeq (tgt := 54) (off := 7) (by decide +kernel) (by decide) (fun (c2 : (v1 0 18) = 0) => ?_) (fun (c2 : ¬ (v1 0 18) = 0) => ?_)
      · skip
        refine zT.run [(.iload_n 1, 0, 0, 0)] (pe := 55) (ls' := [some (.ref 0), some (.int (g_X10_isWord M ty 6)), some (.int (g_X10_isWord M ty 8)), none, none]) (st' := [.int (g_X10_isWord M ty 6)]) (M' := v1) (by decide +kernel) rfl ?_
        refine zT.zeq (tgt := 65) (off := 10) (by decide +kernel) (by decide) (fun (c3 : (g_X10_isWord M ty 6) = 0) => ?_) (fun (c3 : ¬ (g_X10_isWord M ty 6) = 0) => ?_)
        · skip
          refine zT.run [(.iload_n 2, 0, 0, 0)] (pe := 66) (ls' := [some (.ref 0), some (.int (g_X10_isWord M ty 6)), some (.int (g_X10_isWord M ty 8)), none, none]) (st' := [.int (g_X10_isWord M ty 8)]) (M' := v1) (by decide +kernel) rfl ?_
          refine zT.zeq (tgt := 76) (off := 10) (by decide +kernel) (by decide) (fun (c4 : (g_X10_isWord M ty 8) = 0) => ?_) (fun (c4 : ¬ (g_X10_isWord M ty 8) = 0) => ?_)
          · skip
            refine zT.run [(.aload_n 0, 0, 0, 0), (.getfield 9, 8, 1, 5150), (.iconst 4, 0, 0, 0)] (pe := 81) (ls' := [some (.ref 0), some (.int (g_X10_isWord M ty 6)), some (.int (g_X10_isWord M ty 8)), none, none]) (st' := [.int 4, .ref 1]) (M' := v1) (by decide +kernel) rfl ?_
            refine zT.iald (n := 187) (k := 4) rfl rfl (by decide) (by decide) (by decide +kernel) ?_
            refine zT.zne (tgt := 90) (off := 8) (by decide +kernel) (by decide) (fun (c5 : ¬ (v1 1 4) = 0) => ?_) (fun (c5 : (v1 1 4) = 0) => ?_)
            · skip
              refine zT.run [(.iconst 0, 0, 0, 0)] (pe := 91) (ls' := [some (.ref 0), some (.int (g_X10_isWord M ty 6)), some (.int (g_X10_isWord M ty 8)), none, none]) (st' := [.int 0]) (M' := v1) (by decide +kernel) rfl ?_
              exact zT.here (by simp only [if_pos c2, if_pos c3, if_pos c4, if_neg c5]; try rfl)
            · skip
              refine zT.run [(.bipush 17, 0, 0, 0), (.goto 4, 0, 0, 0)] (pe := 91) (ls' := [some (.ref 0), some (.int (g_X10_isWord M ty 6)), some (.int (g_X10_isWord M ty 8)), none, none]) (st' := [.int 17]) (M' := v1) (by decide +kernel) rfl ?_
              exact zT.here (by simp only [if_pos c2, if_pos c3, if_pos c4, if_pos c5]; try rfl)
          · skip
            refine zT.run [(.aload_n 0, 0, 0, 0)] (pe := 70) (ls' := [some (.ref 0), some (.int (g_X10_isWord M ty 6)), some (.int (g_X10_isWord M ty 8)), none, none]) (st' := [.ref 0]) (M' := v1) (by decide +kernel) rfl ?_
            refine zT.cV_own (o := 0) (idx := 185) (av := []) (rv := (some (.int (g_X10_noCount v1 n)))) (st := []) (S1 := [.int (g_X10_noCount v1 n)]) (c_X10_noCount v1 gp n ((congrFun lw1 0).trans hn) h9 (zHd.of2 (congrFun lw1 4) (congrFun lw1 6) hd)) k_X10_noCount _ _ rfl rfl rfl (zIn (w := 6059) (by decide +kernel) rfl) (by decide +kernel) (by decide +kernel) rfl (Nat.le_of_ble_eq_true rfl) rfl ?_
            refine zT.run [(.goto 18, 0, 0, 0)] (pe := 91) (ls' := [some (.ref 0), some (.int (g_X10_isWord M ty 6)), some (.int (g_X10_isWord M ty 8)), none, none]) (st' := [.int (g_X10_noCount v1 n)]) (M' := v1) (by decide +kernel) rfl ?_
            exact zT.here (by simp only [if_pos c2, if_pos c3, if_neg c4]; try rfl)
        · skip
          refine zT.run [(.aload_n 0, 0, 0, 0)] (pe := 59) (ls' := [some (.ref 0), some (.int (g_X10_isWord M ty 6)), some (.int (g_X10_isWord M ty 8)), none, none]) (st' := [.ref 0]) (M' := v1) (by decide +kernel) rfl ?_
          refine zT.cV_own (o := 0) (idx := 173) (av := []) (rv := (some (.int (g_X10_noClose v1 n)))) (st := []) (S1 := [.int (g_X10_noClose v1 n)]) (c_X10_noClose v1 gp n ((congrFun lw1 0).trans hn) h9) k_X10_noClose _ _ rfl rfl rfl (zIn (w := 6027) (by decide +kernel) rfl) (by decide +kernel) (by decide +kernel) rfl (Nat.le_of_ble_eq_true rfl) rfl ?_
          refine zT.run [(.goto 29, 0, 0, 0)] (pe := 91) (ls' := [some (.ref 0), some (.int (g_X10_isWord M ty 6)), some (.int (g_X10_isWord M ty 8)), none, none]) (st' := [.int (g_X10_noClose v1 n)]) (M' := v1) (by decide +kernel) rfl ?_
          exact zT.here (by simp only [if_pos c2, if_neg c3]; try rfl)
      · skip
        refine zT.run [(.iconst 0, 0, 0, 0), (.goto 40, 0, 0, 0)] (pe := 91) (ls' := [some (.ref 0), some (.int (g_X10_isWord M ty 6)), some (.int (g_X10_isWord M ty 8)), none, none]) (st' := [.int 0]) (M' := v1) (by decide +kernel) rfl ?_
        exact zT.here (by simp only [if_neg c2]; try rfl)
    · skip
      refine zT.run [(.istore_n 3, 0, 0, 0), (.aload_n 0, 0, 0, 0), (.iload_n 3, 0, 0, 0)] (pe := 94) (ls' := [some (.ref 0), some (.int (g_X10_isWord M ty 6)), some (.int (g_X10_isWord M ty 8)), some (.int (if (v1 0 18) = 0 then (if (g_X10_isWord M ty 6) = 0 then (if (g_X10_isWord M ty 8) = 0 then (if (v1 1 4) = 0 then (17 : Int32) else (0 : Int32)) else (g_X10_noCount v1 n)) else (g_X10_noClose v1 n)) else (0 : Int32))), none]) (st' := [.int (if (v1 0 18) = 0 then (if (g_X10_isWord M ty 6) = 0 then (if (g_X10_isWord M ty 8) = 0 then (if (v1 1 4) = 0 then (17 : Int32) else (0 : Int32)) else (g_X10_noCount v1 n)) else (g_X10_noClose v1 n)) else (0 : Int32)), .ref 0]) (M' := v1) (by decide +kernel) rfl ?_
      refine zT.cV_all (o := 0) (idx := 306) (av := [.int (if (v1 0 18) = 0 then (if (g_X10_isWord M ty 6) = 0 then (if (g_X10_isWord M ty 8) = 0 then (if (v1 1 4) = 0 then (17 : Int32) else (0 : Int32)) else (g_X10_noCount v1 n)) else (g_X10_noClose v1 n)) else (0 : Int32))]) (rv := (some (.int (g_X10_ends v1 (if (v1 0 18) = 0 then (if (g_X10_isWord M ty 6) = 0 then (if (g_X10_isWord M ty 8) = 0 then (if (v1 1 4) = 0 then (17 : Int32) else (0 : Int32)) else (g_X10_noCount v1 n)) else (g_X10_noClose v1 n)) else (0 : Int32))).1))) (st := []) (S1 := [.int (g_X10_ends v1 (if (v1 0 18) = 0 then (if (g_X10_isWord M ty 6) = 0 then (if (g_X10_isWord M ty 8) = 0 then (if (v1 1 4) = 0 then (17 : Int32) else (0 : Int32)) else (g_X10_noCount v1 n)) else (g_X10_noClose v1 n)) else (0 : Int32))).1]) (c_X10_ends v1 gp (if (v1 0 18) = 0 then (if (g_X10_isWord M ty 6) = 0 then (if (g_X10_isWord M ty 8) = 0 then (if (v1 1 4) = 0 then (17 : Int32) else (0 : Int32)) else (g_X10_noCount v1 n)) else (g_X10_noClose v1 n)) else (0 : Int32))) k_X10_ends _ _ rfl rfl rfl (zIn (w := 6201) (by decide +kernel) rfl) (by decide +kernel) (by decide +kernel) rfl (Nat.le_of_ble_eq_true rfl) rfl ?_
      obtain ⟨v2, hv2⟩ : ∃ v, v = (g_X10_ends v1 (if (v1 0 18) = 0 then (if (g_X10_isWord M ty 6) = 0 then (if (g_X10_isWord M ty 8) = 0 then (if (v1 1 4) = 0 then (17 : Int32) else (0 : Int32)) else (g_X10_noCount v1 n)) else (g_X10_noClose v1 n)) else (0 : Int32))) := ⟨_, rfl⟩
      rw [← hv2]
      have ev2 : (d_X10_bareDeed_2 M ty n oz) = v2 := by unfold d_X10_bareDeed_2; (try rw [ev1]); exact hv2.symm
      have tk2 : zTkP ty v2.2 := by rw [hv2]; exact (tk_X10_ends v1 (if (v1 0 18) = 0 then (if (g_X10_isWord M ty 6) = 0 then (if (g_X10_isWord M ty 8) = 0 then (if (v1 1 4) = 0 then (17 : Int32) else (0 : Int32)) else (g_X10_noCount v1 n)) else (g_X10_noClose v1 n)) else (0 : Int32)) h600 tk1)
      have lw2 : v2.2 1 = M 1 := by rw [hv2]; exact ((fr_X10_ends v1 (if (v1 0 18) = 0 then (if (g_X10_isWord M ty 6) = 0 then (if (g_X10_isWord M ty 8) = 0 then (if (v1 1 4) = 0 then (17 : Int32) else (0 : Int32)) else (g_X10_noCount v1 n)) else (g_X10_noClose v1 n)) else (0 : Int32)) 1 (by decide)).trans lw1)
      have en2 : ¬ v2.1 = 0 → v1 0 18 = 0 ∧ ((if (v1 0 18) = 0 then (if (g_X10_isWord M ty 6) = 0 then (if (g_X10_isWord M ty 8) = 0 then (if (v1 1 4) = 0 then (17 : Int32) else (0 : Int32)) else (g_X10_noCount v1 n)) else (g_X10_noClose v1 n)) else (0 : Int32)) : Int32) = 0 ∧ v2.2 = v1 := by rw [hv2]; exact fun h => ⟨(e_X10_ends v1 (if (v1 0 18) = 0 then (if (g_X10_isWord M ty 6) = 0 then (if (g_X10_isWord M ty 8) = 0 then (if (v1 1 4) = 0 then (17 : Int32) else (0 : Int32)) else (g_X10_noCount v1 n)) else (g_X10_noClose v1 n)) else (0 : Int32)) h600 tk1 h).1, (e_X10_ends v1 (if (v1 0 18) = 0 then (if (g_X10_isWord M ty 6) = 0 then (if (g_X10_isWord M ty 8) = 0 then (if (v1 1 4) = 0 then (17 : Int32) else (0 : Int32)) else (g_X10_noCount v1 n)) else (g_X10_noClose v1 n)) else (0 : Int32)) h600 tk1 h).2.1, (e_X10_ends v1 (if (v1 0 18) = 0 then (if (g_X10_isWord M ty 6) = 0 then (if (g_X10_isWord M ty 8) = 0 then (if (v1 1 4) = 0 then (17 : Int32) else (0 : Int32)) else (g_X10_noCount v1 n)) else (g_X10_noClose v1 n)) else (0 : Int32)) h600 tk1 h).2.2.2⟩
      refine zT.zeq (tgt := 128) (off := 31) (by decide +kernel) (by decide) (fun (c6 : v2.1 = 0) => ?_) (fun (c6 : ¬ v2.1 = 0) => ?_)
      · skip
        exact zT.vret (by unfold g_X10_bareDeed; (try rw [ev1]); (try rw [ev2]); first | done | rw [if_neg c1, if_pos c6] | rfl) rfl (by decide +kernel)
      · skip
        refine zT.run [(.iload_n 1, 0, 0, 0)] (pe := 101) (ls' := [some (.ref 0), some (.int (g_X10_isWord M ty 6)), some (.int (g_X10_isWord M ty 8)), some (.int (if (v1 0 18) = 0 then (if (g_X10_isWord M ty 6) = 0 then (if (g_X10_isWord M ty 8) = 0 then (if (v1 1 4) = 0 then (17 : Int32) else (0 : Int32)) else (g_X10_noCount v1 n)) else (g_X10_noClose v1 n)) else (0 : Int32))), none]) (st' := [.int (g_X10_isWord M ty 6)]) (M' := v2.2) (by decide +kernel) rfl ?_
        refine zT.zeq (tgt := 111) (off := 10) (by decide +kernel) (by decide) (fun c => absurd c c1) (fun _ => ?_)
        refine zT.run [(.aload_n 0, 0, 0, 0)] (pe := 105) (ls' := [some (.ref 0), some (.int (g_X10_isWord M ty 6)), some (.int (g_X10_isWord M ty 8)), some (.int (if (v1 0 18) = 0 then (if (g_X10_isWord M ty 6) = 0 then (if (g_X10_isWord M ty 8) = 0 then (if (v1 1 4) = 0 then (17 : Int32) else (0 : Int32)) else (g_X10_noCount v1 n)) else (g_X10_noClose v1 n)) else (0 : Int32))), none]) (st' := [.ref 0]) (M' := v2.2) (by decide +kernel) rfl ?_
        refine zT.cV_all (o := 0) (idx := 176) (av := []) (rv := (some (.int (g_X10_closeIt v2.2 n).1))) (st := []) (S1 := [.int (g_X10_closeIt v2.2 n).1]) (c_X10_closeIt v2.2 gp n ((congrFun lw2 0).trans hn) h9) k_X10_closeIt _ _ rfl rfl rfl (zIn (w := 6035) (by decide +kernel) rfl) (by decide +kernel) (by decide +kernel) rfl (Nat.le_of_ble_eq_true rfl) rfl ?_
        obtain ⟨v3, hv3⟩ : ∃ v, v = (g_X10_closeIt v2.2 n) := ⟨_, rfl⟩
        rw [← hv3]
        have ev3 : (d_X10_bareDeed_3 M ty n oz) = v3 := by unfold d_X10_bareDeed_3; (try rw [ev2]); exact hv3.symm
        have tk3 : zTkP ty v3.2 := by rw [hv3]; exact zTkP.of (fr_X10_closeIt v2.2 n 0 (by decide)) tk2
        refine zT.run [(.goto 18, 0, 0, 0), (.istore 4, 0, 0, 0)] (pe := 128) (ls' := [some (.ref 0), some (.int (g_X10_isWord M ty 6)), some (.int (g_X10_isWord M ty 8)), some (.int (if (v1 0 18) = 0 then (if (g_X10_isWord M ty 6) = 0 then (if (g_X10_isWord M ty 8) = 0 then (if (v1 1 4) = 0 then (17 : Int32) else (0 : Int32)) else (g_X10_noCount v1 n)) else (g_X10_noClose v1 n)) else (0 : Int32))), some (.int v3.1)]) (st' := []) (M' := v3.2) (by decide +kernel) rfl ?_
        exact zT.vret (by unfold g_X10_bareDeed; (try rw [ev1]); (try rw [ev2]); (try rw [ev3]); first | done | rw [if_neg c1, if_neg c6] | rfl) rfl (by decide +kernel)
  · skip
    refine zT.run [(.iload_n 2, 0, 0, 0)] (pe := 21) (ls' := [some (.ref 0), some (.int (g_X10_isWord M ty 6)), some (.int (g_X10_isWord M ty 8)), none, none]) (st' := [.int (g_X10_isWord M ty 8)]) (M' := M) (by decide +kernel) rfl ?_
    refine zT.zne (tgt := 39) (off := 18) (by decide +kernel) (by decide) (fun (c7 : ¬ (g_X10_isWord M ty 8) = 0) => ?_) (fun (c7 : (g_X10_isWord M ty 8) = 0) => ?_)
    · skip
      refine zT.run [(.aload_n 0, 0, 0, 0)] (pe := 40) (ls' := [some (.ref 0), some (.int (g_X10_isWord M ty 6)), some (.int (g_X10_isWord M ty 8)), none, none]) (st' := [.ref 0]) (M' := M) (by decide +kernel) rfl ?_
      refine zT.cV_all (o := 0) (idx := 256) (av := []) (rv := none) (st := []) (S1 := []) (c_X10_goOn M gp ty h600 htk) k_X10_goOn _ _ rfl rfl rfl (zIn (w := 6189) (by decide +kernel) rfl) (by decide +kernel) (by decide +kernel) rfl (Nat.le_of_ble_eq_true rfl) rfl ?_
      obtain ⟨v4, hv4⟩ : ∃ v, v = (g_X10_goOn M ty) := ⟨_, rfl⟩
      rw [← hv4]
      have ev4 : (d_X10_bareDeed_4 M ty n oz) = v4 := by unfold d_X10_bareDeed_4; exact hv4.symm
      have tk4 : zTkP ty v4 := by rw [hv4]; exact (tk_X10_goOn M ty h600 htk)
      have lw4 : v4 1 = M 1 := by rw [hv4]; exact (fr_X10_goOn M ty 1 (by decide))
      have go4 : v4 0 18 = 0 → M 0 18 = 0 := by rw [hv4, ke_X10_goOn M ty 18 (by decide) (by decide) (by decide) (by decide)]; exact fun h => h
      refine zT.run [(.aload_n 0, 0, 0, 0), (.getfield 235, 8, 18, 5167)] (pe := 47) (ls' := [some (.ref 0), some (.int (g_X10_isWord M ty 6)), some (.int (g_X10_isWord M ty 8)), none, none]) (st' := [.int (v4 0 18)]) (M' := v4) (by decide +kernel) rfl ?_
      refine zT.join (91, [some (.ref 0), some (.int (g_X10_isWord M ty 6)), some (.int (g_X10_isWord M ty 8)), none, none], [.int (if (v4 0 18) = 0 then (if (g_X10_isWord M ty 6) = 0 then (if (g_X10_isWord M ty 8) = 0 then (if (v4 1 4) = 0 then (17 : Int32) else (0 : Int32)) else (g_X10_noCount v4 n)) else (g_X10_noClose v4 n)) else (0 : Int32))], (sh_Model gp), v4) ?_ ?_
      · refine zT.zeq (tgt := 54) (off := 7) (by decide +kernel) (by decide) (fun (c8 : (v4 0 18) = 0) => ?_) (fun (c8 : ¬ (v4 0 18) = 0) => ?_)
        · skip
          refine zT.run [(.iload_n 1, 0, 0, 0)] (pe := 55) (ls' := [some (.ref 0), some (.int (g_X10_isWord M ty 6)), some (.int (g_X10_isWord M ty 8)), none, none]) (st' := [.int (g_X10_isWord M ty 6)]) (M' := v4) (by decide +kernel) rfl ?_
          refine zT.zeq (tgt := 65) (off := 10) (by decide +kernel) (by decide) (fun (c9 : (g_X10_isWord M ty 6) = 0) => ?_) (fun (c9 : ¬ (g_X10_isWord M ty 6) = 0) => ?_)
          · skip
            refine zT.run [(.iload_n 2, 0, 0, 0)] (pe := 66) (ls' := [some (.ref 0), some (.int (g_X10_isWord M ty 6)), some (.int (g_X10_isWord M ty 8)), none, none]) (st' := [.int (g_X10_isWord M ty 8)]) (M' := v4) (by decide +kernel) rfl ?_
            refine zT.zeq (tgt := 76) (off := 10) (by decide +kernel) (by decide) (fun (c10 : (g_X10_isWord M ty 8) = 0) => ?_) (fun (c10 : ¬ (g_X10_isWord M ty 8) = 0) => ?_)
            · skip
              refine zT.run [(.aload_n 0, 0, 0, 0), (.getfield 9, 8, 1, 5150), (.iconst 4, 0, 0, 0)] (pe := 81) (ls' := [some (.ref 0), some (.int (g_X10_isWord M ty 6)), some (.int (g_X10_isWord M ty 8)), none, none]) (st' := [.int 4, .ref 1]) (M' := v4) (by decide +kernel) rfl ?_
              refine zT.iald (n := 187) (k := 4) rfl rfl (by decide) (by decide) (by decide +kernel) ?_
              refine zT.zne (tgt := 90) (off := 8) (by decide +kernel) (by decide) (fun (c11 : ¬ (v4 1 4) = 0) => ?_) (fun (c11 : (v4 1 4) = 0) => ?_)
              · skip
                refine zT.run [(.iconst 0, 0, 0, 0)] (pe := 91) (ls' := [some (.ref 0), some (.int (g_X10_isWord M ty 6)), some (.int (g_X10_isWord M ty 8)), none, none]) (st' := [.int 0]) (M' := v4) (by decide +kernel) rfl ?_
                exact zT.here (by simp only [if_pos c8, if_pos c9, if_pos c10, if_neg c11]; try rfl)
              · skip
                refine zT.run [(.bipush 17, 0, 0, 0), (.goto 4, 0, 0, 0)] (pe := 91) (ls' := [some (.ref 0), some (.int (g_X10_isWord M ty 6)), some (.int (g_X10_isWord M ty 8)), none, none]) (st' := [.int 17]) (M' := v4) (by decide +kernel) rfl ?_
                exact zT.here (by simp only [if_pos c8, if_pos c9, if_pos c10, if_pos c11]; try rfl)
            · skip
              refine zT.run [(.aload_n 0, 0, 0, 0)] (pe := 70) (ls' := [some (.ref 0), some (.int (g_X10_isWord M ty 6)), some (.int (g_X10_isWord M ty 8)), none, none]) (st' := [.ref 0]) (M' := v4) (by decide +kernel) rfl ?_
              refine zT.cV_own (o := 0) (idx := 185) (av := []) (rv := (some (.int (g_X10_noCount v4 n)))) (st := []) (S1 := [.int (g_X10_noCount v4 n)]) (c_X10_noCount v4 gp n ((congrFun lw4 0).trans hn) h9 (zHd.of2 (congrFun lw4 4) (congrFun lw4 6) hd)) k_X10_noCount _ _ rfl rfl rfl (zIn (w := 6059) (by decide +kernel) rfl) (by decide +kernel) (by decide +kernel) rfl (Nat.le_of_ble_eq_true rfl) rfl ?_
              refine zT.run [(.goto 18, 0, 0, 0)] (pe := 91) (ls' := [some (.ref 0), some (.int (g_X10_isWord M ty 6)), some (.int (g_X10_isWord M ty 8)), none, none]) (st' := [.int (g_X10_noCount v4 n)]) (M' := v4) (by decide +kernel) rfl ?_
              exact zT.here (by simp only [if_pos c8, if_pos c9, if_neg c10]; try rfl)
          · skip
            refine zT.run [(.aload_n 0, 0, 0, 0)] (pe := 59) (ls' := [some (.ref 0), some (.int (g_X10_isWord M ty 6)), some (.int (g_X10_isWord M ty 8)), none, none]) (st' := [.ref 0]) (M' := v4) (by decide +kernel) rfl ?_
            refine zT.cV_own (o := 0) (idx := 173) (av := []) (rv := (some (.int (g_X10_noClose v4 n)))) (st := []) (S1 := [.int (g_X10_noClose v4 n)]) (c_X10_noClose v4 gp n ((congrFun lw4 0).trans hn) h9) k_X10_noClose _ _ rfl rfl rfl (zIn (w := 6027) (by decide +kernel) rfl) (by decide +kernel) (by decide +kernel) rfl (Nat.le_of_ble_eq_true rfl) rfl ?_
            refine zT.run [(.goto 29, 0, 0, 0)] (pe := 91) (ls' := [some (.ref 0), some (.int (g_X10_isWord M ty 6)), some (.int (g_X10_isWord M ty 8)), none, none]) (st' := [.int (g_X10_noClose v4 n)]) (M' := v4) (by decide +kernel) rfl ?_
            exact zT.here (by simp only [if_pos c8, if_neg c9]; try rfl)
        · skip
          refine zT.run [(.iconst 0, 0, 0, 0), (.goto 40, 0, 0, 0)] (pe := 91) (ls' := [some (.ref 0), some (.int (g_X10_isWord M ty 6)), some (.int (g_X10_isWord M ty 8)), none, none]) (st' := [.int 0]) (M' := v4) (by decide +kernel) rfl ?_
          exact zT.here (by simp only [if_neg c8]; try rfl)
      · skip
        refine zT.run [(.istore_n 3, 0, 0, 0), (.aload_n 0, 0, 0, 0), (.iload_n 3, 0, 0, 0)] (pe := 94) (ls' := [some (.ref 0), some (.int (g_X10_isWord M ty 6)), some (.int (g_X10_isWord M ty 8)), some (.int (if (v4 0 18) = 0 then (if (g_X10_isWord M ty 6) = 0 then (if (g_X10_isWord M ty 8) = 0 then (if (v4 1 4) = 0 then (17 : Int32) else (0 : Int32)) else (g_X10_noCount v4 n)) else (g_X10_noClose v4 n)) else (0 : Int32))), none]) (st' := [.int (if (v4 0 18) = 0 then (if (g_X10_isWord M ty 6) = 0 then (if (g_X10_isWord M ty 8) = 0 then (if (v4 1 4) = 0 then (17 : Int32) else (0 : Int32)) else (g_X10_noCount v4 n)) else (g_X10_noClose v4 n)) else (0 : Int32)), .ref 0]) (M' := v4) (by decide +kernel) rfl ?_
        refine zT.cV_all (o := 0) (idx := 306) (av := [.int (if (v4 0 18) = 0 then (if (g_X10_isWord M ty 6) = 0 then (if (g_X10_isWord M ty 8) = 0 then (if (v4 1 4) = 0 then (17 : Int32) else (0 : Int32)) else (g_X10_noCount v4 n)) else (g_X10_noClose v4 n)) else (0 : Int32))]) (rv := (some (.int (g_X10_ends v4 (if (v4 0 18) = 0 then (if (g_X10_isWord M ty 6) = 0 then (if (g_X10_isWord M ty 8) = 0 then (if (v4 1 4) = 0 then (17 : Int32) else (0 : Int32)) else (g_X10_noCount v4 n)) else (g_X10_noClose v4 n)) else (0 : Int32))).1))) (st := []) (S1 := [.int (g_X10_ends v4 (if (v4 0 18) = 0 then (if (g_X10_isWord M ty 6) = 0 then (if (g_X10_isWord M ty 8) = 0 then (if (v4 1 4) = 0 then (17 : Int32) else (0 : Int32)) else (g_X10_noCount v4 n)) else (g_X10_noClose v4 n)) else (0 : Int32))).1]) (c_X10_ends v4 gp (if (v4 0 18) = 0 then (if (g_X10_isWord M ty 6) = 0 then (if (g_X10_isWord M ty 8) = 0 then (if (v4 1 4) = 0 then (17 : Int32) else (0 : Int32)) else (g_X10_noCount v4 n)) else (g_X10_noClose v4 n)) else (0 : Int32))) k_X10_ends _ _ rfl rfl rfl (zIn (w := 6201) (by decide +kernel) rfl) (by decide +kernel) (by decide +kernel) rfl (Nat.le_of_ble_eq_true rfl) rfl ?_
        obtain ⟨v5, hv5⟩ : ∃ v, v = (g_X10_ends v4 (if (v4 0 18) = 0 then (if (g_X10_isWord M ty 6) = 0 then (if (g_X10_isWord M ty 8) = 0 then (if (v4 1 4) = 0 then (17 : Int32) else (0 : Int32)) else (g_X10_noCount v4 n)) else (g_X10_noClose v4 n)) else (0 : Int32))) := ⟨_, rfl⟩
        rw [← hv5]
        have ev5 : (d_X10_bareDeed_5 M ty n oz) = v5 := by unfold d_X10_bareDeed_5; (try rw [ev4]); exact hv5.symm
        have tk5 : zTkP ty v5.2 := by rw [hv5]; exact (tk_X10_ends v4 (if (v4 0 18) = 0 then (if (g_X10_isWord M ty 6) = 0 then (if (g_X10_isWord M ty 8) = 0 then (if (v4 1 4) = 0 then (17 : Int32) else (0 : Int32)) else (g_X10_noCount v4 n)) else (g_X10_noClose v4 n)) else (0 : Int32)) h600 tk4)
        have lw5 : v5.2 1 = M 1 := by rw [hv5]; exact ((fr_X10_ends v4 (if (v4 0 18) = 0 then (if (g_X10_isWord M ty 6) = 0 then (if (g_X10_isWord M ty 8) = 0 then (if (v4 1 4) = 0 then (17 : Int32) else (0 : Int32)) else (g_X10_noCount v4 n)) else (g_X10_noClose v4 n)) else (0 : Int32)) 1 (by decide)).trans lw4)
        have en5 : ¬ v5.1 = 0 → v4 0 18 = 0 ∧ ((if (v4 0 18) = 0 then (if (g_X10_isWord M ty 6) = 0 then (if (g_X10_isWord M ty 8) = 0 then (if (v4 1 4) = 0 then (17 : Int32) else (0 : Int32)) else (g_X10_noCount v4 n)) else (g_X10_noClose v4 n)) else (0 : Int32)) : Int32) = 0 ∧ v5.2 = v4 := by rw [hv5]; exact fun h => ⟨(e_X10_ends v4 (if (v4 0 18) = 0 then (if (g_X10_isWord M ty 6) = 0 then (if (g_X10_isWord M ty 8) = 0 then (if (v4 1 4) = 0 then (17 : Int32) else (0 : Int32)) else (g_X10_noCount v4 n)) else (g_X10_noClose v4 n)) else (0 : Int32)) h600 tk4 h).1, (e_X10_ends v4 (if (v4 0 18) = 0 then (if (g_X10_isWord M ty 6) = 0 then (if (g_X10_isWord M ty 8) = 0 then (if (v4 1 4) = 0 then (17 : Int32) else (0 : Int32)) else (g_X10_noCount v4 n)) else (g_X10_noClose v4 n)) else (0 : Int32)) h600 tk4 h).2.1, (e_X10_ends v4 (if (v4 0 18) = 0 then (if (g_X10_isWord M ty 6) = 0 then (if (g_X10_isWord M ty 8) = 0 then (if (v4 1 4) = 0 then (17 : Int32) else (0 : Int32)) else (g_X10_noCount v4 n)) else (g_X10_noClose v4 n)) else (0 : Int32)) h600 tk4 h).2.2.2⟩
        refine zT.zeq (tgt := 128) (off := 31) (by decide +kernel) (by decide) (fun (c12 : v5.1 = 0) => ?_) (fun (c12 : ¬ v5.1 = 0) => ?_)
        · skip
          exact zT.vret (by unfold g_X10_bareDeed; (try rw [ev4]); (try rw [ev5]); first | done | rw [if_pos c1, if_neg c7, if_pos c12] | rfl) rfl (by decide +kernel)
        · skip
          refine zT.run [(.iload_n 1, 0, 0, 0)] (pe := 101) (ls' := [some (.ref 0), some (.int (g_X10_isWord M ty 6)), some (.int (g_X10_isWord M ty 8)), some (.int (if (v4 0 18) = 0 then (if (g_X10_isWord M ty 6) = 0 then (if (g_X10_isWord M ty 8) = 0 then (if (v4 1 4) = 0 then (17 : Int32) else (0 : Int32)) else (g_X10_noCount v4 n)) else (g_X10_noClose v4 n)) else (0 : Int32))), none]) (st' := [.int (g_X10_isWord M ty 6)]) (M' := v5.2) (by decide +kernel) rfl ?_
          refine zT.zeq (tgt := 111) (off := 10) (by decide +kernel) (by decide) (fun _ => ?_) (fun c => absurd c1 c)
          refine zT.run [(.iload_n 2, 0, 0, 0)] (pe := 112) (ls' := [some (.ref 0), some (.int (g_X10_isWord M ty 6)), some (.int (g_X10_isWord M ty 8)), some (.int (if (v4 0 18) = 0 then (if (g_X10_isWord M ty 6) = 0 then (if (g_X10_isWord M ty 8) = 0 then (if (v4 1 4) = 0 then (17 : Int32) else (0 : Int32)) else (g_X10_noCount v4 n)) else (g_X10_noClose v4 n)) else (0 : Int32))), none]) (st' := [.int (g_X10_isWord M ty 8)]) (M' := v5.2) (by decide +kernel) rfl ?_
          refine zT.zeq (tgt := 122) (off := 10) (by decide +kernel) (by decide) (fun c => absurd c c7) (fun _ => ?_)
          refine zT.run [(.aload_n 0, 0, 0, 0)] (pe := 116) (ls' := [some (.ref 0), some (.int (g_X10_isWord M ty 6)), some (.int (g_X10_isWord M ty 8)), some (.int (if (v4 0 18) = 0 then (if (g_X10_isWord M ty 6) = 0 then (if (g_X10_isWord M ty 8) = 0 then (if (v4 1 4) = 0 then (17 : Int32) else (0 : Int32)) else (g_X10_noCount v4 n)) else (g_X10_noClose v4 n)) else (0 : Int32))), none]) (st' := [.ref 0]) (M' := v5.2) (by decide +kernel) rfl ?_
          refine zT.cV_all (o := 0) (idx := 188) (av := []) (rv := (some (.int (g_X10_countIt v5.2 n oz).1))) (st := []) (S1 := [.int (g_X10_countIt v5.2 n oz).1]) (c_X10_countIt v5.2 gp n oz ((congrFun lw5 0).trans hn) h9 (zHv.of lw5 hv) ((congrFun lw5 9).trans hoz) h12 (zHk.of (congrFun (by rw [hv5]; exact (fr_X10_ends v4 (if (v4 0 18) = 0 then (if (g_X10_isWord M ty 6) = 0 then (if (g_X10_isWord M ty 8) = 0 then (if (v4 1 4) = 0 then (17 : Int32) else (0 : Int32)) else (g_X10_noCount v4 n)) else (g_X10_noClose v4 n)) else (0 : Int32)) 1 (by decide))) 6) (zHk_count (M := v4) (zHd.of2 (congrFun lw4 4) (congrFun lw4 6) hd) (by have h := (en5 c12).2.1; rw [if_pos (en5 c12).1] at h; (try simp only [if_pos c1, if_neg c7, if_neg c12] at h); exact h)))) k_X10_countIt _ _ rfl rfl rfl (zIn (w := 6063) (by decide +kernel) rfl) (by decide +kernel) (by decide +kernel) rfl (Nat.le_of_ble_eq_true rfl) rfl ?_
          obtain ⟨v6, hv6⟩ : ∃ v, v = (g_X10_countIt v5.2 n oz) := ⟨_, rfl⟩
          rw [← hv6]
          have ev6 : (d_X10_bareDeed_6 M ty n oz) = v6 := by unfold d_X10_bareDeed_6; (try rw [ev5]); exact hv6.symm
          have tk6 : zTkP ty v6.2 := by rw [hv6]; exact (tk_X10_countIt v5.2 n oz h600 tk5)
          refine zT.run [(.goto 7, 0, 0, 0), (.istore 4, 0, 0, 0)] (pe := 128) (ls' := [some (.ref 0), some (.int (g_X10_isWord M ty 6)), some (.int (g_X10_isWord M ty 8)), some (.int (if (v4 0 18) = 0 then (if (g_X10_isWord M ty 6) = 0 then (if (g_X10_isWord M ty 8) = 0 then (if (v4 1 4) = 0 then (17 : Int32) else (0 : Int32)) else (g_X10_noCount v4 n)) else (g_X10_noClose v4 n)) else (0 : Int32))), some (.int v6.1)]) (st' := []) (M' := v6.2) (by decide +kernel) rfl ?_
          exact zT.vret (by unfold g_X10_bareDeed; (try rw [ev4]); (try rw [ev5]); (try rw [ev6]); first | done | rw [if_pos c1, if_neg c7, if_neg c12] | rfl) rfl (by decide +kernel)
    · skip
      refine zT.run [(.aload_n 0, 0, 0, 0)] (pe := 25) (ls' := [some (.ref 0), some (.int (g_X10_isWord M ty 6)), some (.int (g_X10_isWord M ty 8)), none, none]) (st' := [.ref 0]) (M' := M) (by decide +kernel) rfl ?_
      refine zT.ldcSW 30 rfl rfl (by decide +kernel) ?_
      refine zT.cV_own (o := 0) (idx := 264) (av := [.retAddr 210]) (rv := (some (.int (g_X10_isWord M ty 10)))) (st := []) (S1 := [.int (g_X10_isWord M ty 10)]) (c_X10_isWord M gp ty 10 h600 htk (by decide)) k_X10_isWord _ _ rfl rfl rfl (zIn (w := 6174) (by decide +kernel) rfl) (by decide +kernel) (by decide +kernel) rfl (Nat.le_of_ble_eq_true rfl) rfl ?_
      refine zT.zne (tgt := 39) (off := 8) (by decide +kernel) (by decide) (fun (c13 : ¬ (g_X10_isWord M ty 10) = 0) => ?_) (fun (c13 : (g_X10_isWord M ty 10) = 0) => ?_)
      · skip
        refine zT.run [(.aload_n 0, 0, 0, 0)] (pe := 40) (ls' := [some (.ref 0), some (.int (g_X10_isWord M ty 6)), some (.int (g_X10_isWord M ty 8)), none, none]) (st' := [.ref 0]) (M' := M) (by decide +kernel) rfl ?_
        refine zT.cV_all (o := 0) (idx := 256) (av := []) (rv := none) (st := []) (S1 := []) (c_X10_goOn M gp ty h600 htk) k_X10_goOn _ _ rfl rfl rfl (zIn (w := 6189) (by decide +kernel) rfl) (by decide +kernel) (by decide +kernel) rfl (Nat.le_of_ble_eq_true rfl) rfl ?_
        obtain ⟨v7, hv7⟩ : ∃ v, v = (g_X10_goOn M ty) := ⟨_, rfl⟩
        rw [← hv7]
        have ev7 : (d_X10_bareDeed_7 M ty n oz) = v7 := by unfold d_X10_bareDeed_7; exact hv7.symm
        have tk7 : zTkP ty v7 := by rw [hv7]; exact (tk_X10_goOn M ty h600 htk)
        have lw7 : v7 1 = M 1 := by rw [hv7]; exact (fr_X10_goOn M ty 1 (by decide))
        have go7 : v7 0 18 = 0 → M 0 18 = 0 := by rw [hv7, ke_X10_goOn M ty 18 (by decide) (by decide) (by decide) (by decide)]; exact fun h => h
        refine zT.run [(.aload_n 0, 0, 0, 0), (.getfield 235, 8, 18, 5167)] (pe := 47) (ls' := [some (.ref 0), some (.int (g_X10_isWord M ty 6)), some (.int (g_X10_isWord M ty 8)), none, none]) (st' := [.int (v7 0 18)]) (M' := v7) (by decide +kernel) rfl ?_
        refine zT.join (91, [some (.ref 0), some (.int (g_X10_isWord M ty 6)), some (.int (g_X10_isWord M ty 8)), none, none], [.int (if (v7 0 18) = 0 then (if (g_X10_isWord M ty 6) = 0 then (if (g_X10_isWord M ty 8) = 0 then (if (v7 1 4) = 0 then (17 : Int32) else (0 : Int32)) else (g_X10_noCount v7 n)) else (g_X10_noClose v7 n)) else (0 : Int32))], (sh_Model gp), v7) ?_ ?_
        · refine zT.zeq (tgt := 54) (off := 7) (by decide +kernel) (by decide) (fun (c14 : (v7 0 18) = 0) => ?_) (fun (c14 : ¬ (v7 0 18) = 0) => ?_)
          · skip
            refine zT.run [(.iload_n 1, 0, 0, 0)] (pe := 55) (ls' := [some (.ref 0), some (.int (g_X10_isWord M ty 6)), some (.int (g_X10_isWord M ty 8)), none, none]) (st' := [.int (g_X10_isWord M ty 6)]) (M' := v7) (by decide +kernel) rfl ?_
            refine zT.zeq (tgt := 65) (off := 10) (by decide +kernel) (by decide) (fun (c15 : (g_X10_isWord M ty 6) = 0) => ?_) (fun (c15 : ¬ (g_X10_isWord M ty 6) = 0) => ?_)
            · skip
              refine zT.run [(.iload_n 2, 0, 0, 0)] (pe := 66) (ls' := [some (.ref 0), some (.int (g_X10_isWord M ty 6)), some (.int (g_X10_isWord M ty 8)), none, none]) (st' := [.int (g_X10_isWord M ty 8)]) (M' := v7) (by decide +kernel) rfl ?_
              refine zT.zeq (tgt := 76) (off := 10) (by decide +kernel) (by decide) (fun (c16 : (g_X10_isWord M ty 8) = 0) => ?_) (fun (c16 : ¬ (g_X10_isWord M ty 8) = 0) => ?_)
              · skip
                refine zT.run [(.aload_n 0, 0, 0, 0), (.getfield 9, 8, 1, 5150), (.iconst 4, 0, 0, 0)] (pe := 81) (ls' := [some (.ref 0), some (.int (g_X10_isWord M ty 6)), some (.int (g_X10_isWord M ty 8)), none, none]) (st' := [.int 4, .ref 1]) (M' := v7) (by decide +kernel) rfl ?_
                refine zT.iald (n := 187) (k := 4) rfl rfl (by decide) (by decide) (by decide +kernel) ?_
                refine zT.zne (tgt := 90) (off := 8) (by decide +kernel) (by decide) (fun (c17 : ¬ (v7 1 4) = 0) => ?_) (fun (c17 : (v7 1 4) = 0) => ?_)
                · skip
                  refine zT.run [(.iconst 0, 0, 0, 0)] (pe := 91) (ls' := [some (.ref 0), some (.int (g_X10_isWord M ty 6)), some (.int (g_X10_isWord M ty 8)), none, none]) (st' := [.int 0]) (M' := v7) (by decide +kernel) rfl ?_
                  exact zT.here (by simp only [if_pos c14, if_pos c15, if_pos c16, if_neg c17]; try rfl)
                · skip
                  refine zT.run [(.bipush 17, 0, 0, 0), (.goto 4, 0, 0, 0)] (pe := 91) (ls' := [some (.ref 0), some (.int (g_X10_isWord M ty 6)), some (.int (g_X10_isWord M ty 8)), none, none]) (st' := [.int 17]) (M' := v7) (by decide +kernel) rfl ?_
                  exact zT.here (by simp only [if_pos c14, if_pos c15, if_pos c16, if_pos c17]; try rfl)
              · skip
                refine zT.run [(.aload_n 0, 0, 0, 0)] (pe := 70) (ls' := [some (.ref 0), some (.int (g_X10_isWord M ty 6)), some (.int (g_X10_isWord M ty 8)), none, none]) (st' := [.ref 0]) (M' := v7) (by decide +kernel) rfl ?_
                refine zT.cV_own (o := 0) (idx := 185) (av := []) (rv := (some (.int (g_X10_noCount v7 n)))) (st := []) (S1 := [.int (g_X10_noCount v7 n)]) (c_X10_noCount v7 gp n ((congrFun lw7 0).trans hn) h9 (zHd.of2 (congrFun lw7 4) (congrFun lw7 6) hd)) k_X10_noCount _ _ rfl rfl rfl (zIn (w := 6059) (by decide +kernel) rfl) (by decide +kernel) (by decide +kernel) rfl (Nat.le_of_ble_eq_true rfl) rfl ?_
                refine zT.run [(.goto 18, 0, 0, 0)] (pe := 91) (ls' := [some (.ref 0), some (.int (g_X10_isWord M ty 6)), some (.int (g_X10_isWord M ty 8)), none, none]) (st' := [.int (g_X10_noCount v7 n)]) (M' := v7) (by decide +kernel) rfl ?_
                exact zT.here (by simp only [if_pos c14, if_pos c15, if_neg c16]; try rfl)
            · skip
              refine zT.run [(.aload_n 0, 0, 0, 0)] (pe := 59) (ls' := [some (.ref 0), some (.int (g_X10_isWord M ty 6)), some (.int (g_X10_isWord M ty 8)), none, none]) (st' := [.ref 0]) (M' := v7) (by decide +kernel) rfl ?_
              refine zT.cV_own (o := 0) (idx := 173) (av := []) (rv := (some (.int (g_X10_noClose v7 n)))) (st := []) (S1 := [.int (g_X10_noClose v7 n)]) (c_X10_noClose v7 gp n ((congrFun lw7 0).trans hn) h9) k_X10_noClose _ _ rfl rfl rfl (zIn (w := 6027) (by decide +kernel) rfl) (by decide +kernel) (by decide +kernel) rfl (Nat.le_of_ble_eq_true rfl) rfl ?_
              refine zT.run [(.goto 29, 0, 0, 0)] (pe := 91) (ls' := [some (.ref 0), some (.int (g_X10_isWord M ty 6)), some (.int (g_X10_isWord M ty 8)), none, none]) (st' := [.int (g_X10_noClose v7 n)]) (M' := v7) (by decide +kernel) rfl ?_
              exact zT.here (by simp only [if_pos c14, if_neg c15]; try rfl)
          · skip
            refine zT.run [(.iconst 0, 0, 0, 0), (.goto 40, 0, 0, 0)] (pe := 91) (ls' := [some (.ref 0), some (.int (g_X10_isWord M ty 6)), some (.int (g_X10_isWord M ty 8)), none, none]) (st' := [.int 0]) (M' := v7) (by decide +kernel) rfl ?_
            exact zT.here (by simp only [if_neg c14]; try rfl)
        · skip
          refine zT.run [(.istore_n 3, 0, 0, 0), (.aload_n 0, 0, 0, 0), (.iload_n 3, 0, 0, 0)] (pe := 94) (ls' := [some (.ref 0), some (.int (g_X10_isWord M ty 6)), some (.int (g_X10_isWord M ty 8)), some (.int (if (v7 0 18) = 0 then (if (g_X10_isWord M ty 6) = 0 then (if (g_X10_isWord M ty 8) = 0 then (if (v7 1 4) = 0 then (17 : Int32) else (0 : Int32)) else (g_X10_noCount v7 n)) else (g_X10_noClose v7 n)) else (0 : Int32))), none]) (st' := [.int (if (v7 0 18) = 0 then (if (g_X10_isWord M ty 6) = 0 then (if (g_X10_isWord M ty 8) = 0 then (if (v7 1 4) = 0 then (17 : Int32) else (0 : Int32)) else (g_X10_noCount v7 n)) else (g_X10_noClose v7 n)) else (0 : Int32)), .ref 0]) (M' := v7) (by decide +kernel) rfl ?_
          refine zT.cV_all (o := 0) (idx := 306) (av := [.int (if (v7 0 18) = 0 then (if (g_X10_isWord M ty 6) = 0 then (if (g_X10_isWord M ty 8) = 0 then (if (v7 1 4) = 0 then (17 : Int32) else (0 : Int32)) else (g_X10_noCount v7 n)) else (g_X10_noClose v7 n)) else (0 : Int32))]) (rv := (some (.int (g_X10_ends v7 (if (v7 0 18) = 0 then (if (g_X10_isWord M ty 6) = 0 then (if (g_X10_isWord M ty 8) = 0 then (if (v7 1 4) = 0 then (17 : Int32) else (0 : Int32)) else (g_X10_noCount v7 n)) else (g_X10_noClose v7 n)) else (0 : Int32))).1))) (st := []) (S1 := [.int (g_X10_ends v7 (if (v7 0 18) = 0 then (if (g_X10_isWord M ty 6) = 0 then (if (g_X10_isWord M ty 8) = 0 then (if (v7 1 4) = 0 then (17 : Int32) else (0 : Int32)) else (g_X10_noCount v7 n)) else (g_X10_noClose v7 n)) else (0 : Int32))).1]) (c_X10_ends v7 gp (if (v7 0 18) = 0 then (if (g_X10_isWord M ty 6) = 0 then (if (g_X10_isWord M ty 8) = 0 then (if (v7 1 4) = 0 then (17 : Int32) else (0 : Int32)) else (g_X10_noCount v7 n)) else (g_X10_noClose v7 n)) else (0 : Int32))) k_X10_ends _ _ rfl rfl rfl (zIn (w := 6201) (by decide +kernel) rfl) (by decide +kernel) (by decide +kernel) rfl (Nat.le_of_ble_eq_true rfl) rfl ?_
          obtain ⟨v8, hv8⟩ : ∃ v, v = (g_X10_ends v7 (if (v7 0 18) = 0 then (if (g_X10_isWord M ty 6) = 0 then (if (g_X10_isWord M ty 8) = 0 then (if (v7 1 4) = 0 then (17 : Int32) else (0 : Int32)) else (g_X10_noCount v7 n)) else (g_X10_noClose v7 n)) else (0 : Int32))) := ⟨_, rfl⟩
          rw [← hv8]
          have ev8 : (d_X10_bareDeed_8 M ty n oz) = v8 := by unfold d_X10_bareDeed_8; (try rw [ev7]); exact hv8.symm
          have tk8 : zTkP ty v8.2 := by rw [hv8]; exact (tk_X10_ends v7 (if (v7 0 18) = 0 then (if (g_X10_isWord M ty 6) = 0 then (if (g_X10_isWord M ty 8) = 0 then (if (v7 1 4) = 0 then (17 : Int32) else (0 : Int32)) else (g_X10_noCount v7 n)) else (g_X10_noClose v7 n)) else (0 : Int32)) h600 tk7)
          have lw8 : v8.2 1 = M 1 := by rw [hv8]; exact ((fr_X10_ends v7 (if (v7 0 18) = 0 then (if (g_X10_isWord M ty 6) = 0 then (if (g_X10_isWord M ty 8) = 0 then (if (v7 1 4) = 0 then (17 : Int32) else (0 : Int32)) else (g_X10_noCount v7 n)) else (g_X10_noClose v7 n)) else (0 : Int32)) 1 (by decide)).trans lw7)
          have en8 : ¬ v8.1 = 0 → v7 0 18 = 0 ∧ ((if (v7 0 18) = 0 then (if (g_X10_isWord M ty 6) = 0 then (if (g_X10_isWord M ty 8) = 0 then (if (v7 1 4) = 0 then (17 : Int32) else (0 : Int32)) else (g_X10_noCount v7 n)) else (g_X10_noClose v7 n)) else (0 : Int32)) : Int32) = 0 ∧ v8.2 = v7 := by rw [hv8]; exact fun h => ⟨(e_X10_ends v7 (if (v7 0 18) = 0 then (if (g_X10_isWord M ty 6) = 0 then (if (g_X10_isWord M ty 8) = 0 then (if (v7 1 4) = 0 then (17 : Int32) else (0 : Int32)) else (g_X10_noCount v7 n)) else (g_X10_noClose v7 n)) else (0 : Int32)) h600 tk7 h).1, (e_X10_ends v7 (if (v7 0 18) = 0 then (if (g_X10_isWord M ty 6) = 0 then (if (g_X10_isWord M ty 8) = 0 then (if (v7 1 4) = 0 then (17 : Int32) else (0 : Int32)) else (g_X10_noCount v7 n)) else (g_X10_noClose v7 n)) else (0 : Int32)) h600 tk7 h).2.1, (e_X10_ends v7 (if (v7 0 18) = 0 then (if (g_X10_isWord M ty 6) = 0 then (if (g_X10_isWord M ty 8) = 0 then (if (v7 1 4) = 0 then (17 : Int32) else (0 : Int32)) else (g_X10_noCount v7 n)) else (g_X10_noClose v7 n)) else (0 : Int32)) h600 tk7 h).2.2.2⟩
          refine zT.zeq (tgt := 128) (off := 31) (by decide +kernel) (by decide) (fun (c18 : v8.1 = 0) => ?_) (fun (c18 : ¬ v8.1 = 0) => ?_)
          · skip
            exact zT.vret (by unfold g_X10_bareDeed; (try rw [ev7]); (try rw [ev8]); first | done | rw [if_pos c1, if_pos c7, if_neg c13, if_pos c18] | rfl) rfl (by decide +kernel)
          · skip
            refine zT.run [(.iload_n 1, 0, 0, 0)] (pe := 101) (ls' := [some (.ref 0), some (.int (g_X10_isWord M ty 6)), some (.int (g_X10_isWord M ty 8)), some (.int (if (v7 0 18) = 0 then (if (g_X10_isWord M ty 6) = 0 then (if (g_X10_isWord M ty 8) = 0 then (if (v7 1 4) = 0 then (17 : Int32) else (0 : Int32)) else (g_X10_noCount v7 n)) else (g_X10_noClose v7 n)) else (0 : Int32))), none]) (st' := [.int (g_X10_isWord M ty 6)]) (M' := v8.2) (by decide +kernel) rfl ?_
            refine zT.zeq (tgt := 111) (off := 10) (by decide +kernel) (by decide) (fun _ => ?_) (fun c => absurd c1 c)
            refine zT.run [(.iload_n 2, 0, 0, 0)] (pe := 112) (ls' := [some (.ref 0), some (.int (g_X10_isWord M ty 6)), some (.int (g_X10_isWord M ty 8)), some (.int (if (v7 0 18) = 0 then (if (g_X10_isWord M ty 6) = 0 then (if (g_X10_isWord M ty 8) = 0 then (if (v7 1 4) = 0 then (17 : Int32) else (0 : Int32)) else (g_X10_noCount v7 n)) else (g_X10_noClose v7 n)) else (0 : Int32))), none]) (st' := [.int (g_X10_isWord M ty 8)]) (M' := v8.2) (by decide +kernel) rfl ?_
            refine zT.zeq (tgt := 122) (off := 10) (by decide +kernel) (by decide) (fun _ => ?_) (fun c => absurd c7 c)
            refine zT.run [(.aload_n 0, 0, 0, 0)] (pe := 123) (ls' := [some (.ref 0), some (.int (g_X10_isWord M ty 6)), some (.int (g_X10_isWord M ty 8)), some (.int (if (v7 0 18) = 0 then (if (g_X10_isWord M ty 6) = 0 then (if (g_X10_isWord M ty 8) = 0 then (if (v7 1 4) = 0 then (17 : Int32) else (0 : Int32)) else (g_X10_noCount v7 n)) else (g_X10_noClose v7 n)) else (0 : Int32))), none]) (st' := [.ref 0]) (M' := v8.2) (by decide +kernel) rfl ?_
            refine zT.cV_all (o := 0) (idx := 197) (av := []) (rv := (some (.int (g_X10_giveIt v8.2).1))) (st := []) (S1 := [.int (g_X10_giveIt v8.2).1]) (c_X10_giveIt v8.2 gp) k_X10_giveIt _ _ rfl rfl rfl (zIn (w := 6107) (by decide +kernel) rfl) (by decide +kernel) (by decide +kernel) rfl (Nat.le_of_ble_eq_true rfl) rfl ?_
            obtain ⟨v9, hv9⟩ : ∃ v, v = (g_X10_giveIt v8.2) := ⟨_, rfl⟩
            rw [← hv9]
            have ev9 : (d_X10_bareDeed_9 M ty n oz) = v9 := by unfold d_X10_bareDeed_9; (try rw [ev8]); exact hv9.symm
            have tk9 : zTkP ty v9.2 := by rw [hv9]; exact zTkP.of (fr_X10_giveIt v8.2 0 (by decide)) tk8
            refine zT.run [(.istore 4, 0, 0, 0)] (pe := 128) (ls' := [some (.ref 0), some (.int (g_X10_isWord M ty 6)), some (.int (g_X10_isWord M ty 8)), some (.int (if (v7 0 18) = 0 then (if (g_X10_isWord M ty 6) = 0 then (if (g_X10_isWord M ty 8) = 0 then (if (v7 1 4) = 0 then (17 : Int32) else (0 : Int32)) else (g_X10_noCount v7 n)) else (g_X10_noClose v7 n)) else (0 : Int32))), some (.int v9.1)]) (st' := []) (M' := v9.2) (by decide +kernel) rfl ?_
            exact zT.vret (by unfold g_X10_bareDeed; (try rw [ev7]); (try rw [ev8]); (try rw [ev9]); first | done | rw [if_pos c1, if_pos c7, if_neg c13, if_neg c18] | rfl) rfl (by decide +kernel)
      · skip
        refine zT.run [(.aload_n 0, 0, 0, 0), (.iconst 1, 0, 0, 0)] (pe := 36) (ls' := [some (.ref 0), some (.int (g_X10_isWord M ty 6)), some (.int (g_X10_isWord M ty 8)), none, none]) (st' := [.int 1, .ref 0]) (M' := M) (by decide +kernel) rfl ?_
        refine zT.cV_all (o := 0) (idx := 250) (av := [.int 1]) (rv := none) (st := []) (S1 := []) (c_X10_wrong M gp 1) k_X10_wrong _ _ rfl rfl rfl (zIn (w := 6185) (by decide +kernel) rfl) (by decide +kernel) (by decide +kernel) rfl (Nat.le_of_ble_eq_true rfl) rfl ?_
        obtain ⟨v10, hv10⟩ : ∃ v, v = (g_X10_wrong M 1) := ⟨_, rfl⟩
        rw [← hv10]
        have ev10 : (d_X10_bareDeed_10 M ty n oz) = v10 := by unfold d_X10_bareDeed_10; exact hv10.symm
        have tk10 : zTkP ty v10 := by rw [hv10]; exact (tk_X10_wrong M 1 h600 htk)
        have lw10 : v10 1 = M 1 := by rw [hv10]; exact (fr_X10_wrong M 1 1 (by decide))
        refine zT.run [(.aload_n 0, 0, 0, 0)] (pe := 40) (ls' := [some (.ref 0), some (.int (g_X10_isWord M ty 6)), some (.int (g_X10_isWord M ty 8)), none, none]) (st' := [.ref 0]) (M' := v10) (by decide +kernel) rfl ?_
        refine zT.cV_all (o := 0) (idx := 256) (av := []) (rv := none) (st := []) (S1 := []) (c_X10_goOn v10 gp ty h600 tk10) k_X10_goOn _ _ rfl rfl rfl (zIn (w := 6189) (by decide +kernel) rfl) (by decide +kernel) (by decide +kernel) rfl (Nat.le_of_ble_eq_true rfl) rfl ?_
        obtain ⟨v11, hv11⟩ : ∃ v, v = (g_X10_goOn v10 ty) := ⟨_, rfl⟩
        rw [← hv11]
        have ev11 : (d_X10_bareDeed_11 M ty n oz) = v11 := by unfold d_X10_bareDeed_11; (try rw [ev10]); exact hv11.symm
        have tk11 : zTkP ty v11 := by rw [hv11]; exact (tk_X10_goOn v10 ty h600 tk10)
        have lw11 : v11 1 = M 1 := by rw [hv11]; exact ((fr_X10_goOn v10 ty 1 (by decide)).trans lw10)
        have go11 : v11 0 18 = 0 → v10 0 18 = 0 := by rw [hv11, ke_X10_goOn v10 ty 18 (by decide) (by decide) (by decide) (by decide)]; exact fun h => h
        refine zT.run [(.aload_n 0, 0, 0, 0), (.getfield 235, 8, 18, 5167)] (pe := 47) (ls' := [some (.ref 0), some (.int (g_X10_isWord M ty 6)), some (.int (g_X10_isWord M ty 8)), none, none]) (st' := [.int (v11 0 18)]) (M' := v11) (by decide +kernel) rfl ?_
        refine zT.join (91, [some (.ref 0), some (.int (g_X10_isWord M ty 6)), some (.int (g_X10_isWord M ty 8)), none, none], [.int (if (v11 0 18) = 0 then (if (g_X10_isWord M ty 6) = 0 then (if (g_X10_isWord M ty 8) = 0 then (if (v11 1 4) = 0 then (17 : Int32) else (0 : Int32)) else (g_X10_noCount v11 n)) else (g_X10_noClose v11 n)) else (0 : Int32))], (sh_Model gp), v11) ?_ ?_
        · refine zT.zeq (tgt := 54) (off := 7) (by decide +kernel) (by decide) (fun (c19 : (v11 0 18) = 0) => ?_) (fun (c19 : ¬ (v11 0 18) = 0) => ?_)
          · skip
            refine zT.run [(.iload_n 1, 0, 0, 0)] (pe := 55) (ls' := [some (.ref 0), some (.int (g_X10_isWord M ty 6)), some (.int (g_X10_isWord M ty 8)), none, none]) (st' := [.int (g_X10_isWord M ty 6)]) (M' := v11) (by decide +kernel) rfl ?_
            refine zT.zeq (tgt := 65) (off := 10) (by decide +kernel) (by decide) (fun (c20 : (g_X10_isWord M ty 6) = 0) => ?_) (fun (c20 : ¬ (g_X10_isWord M ty 6) = 0) => ?_)
            · skip
              refine zT.run [(.iload_n 2, 0, 0, 0)] (pe := 66) (ls' := [some (.ref 0), some (.int (g_X10_isWord M ty 6)), some (.int (g_X10_isWord M ty 8)), none, none]) (st' := [.int (g_X10_isWord M ty 8)]) (M' := v11) (by decide +kernel) rfl ?_
              refine zT.zeq (tgt := 76) (off := 10) (by decide +kernel) (by decide) (fun (c21 : (g_X10_isWord M ty 8) = 0) => ?_) (fun (c21 : ¬ (g_X10_isWord M ty 8) = 0) => ?_)
              · skip
                refine zT.run [(.aload_n 0, 0, 0, 0), (.getfield 9, 8, 1, 5150), (.iconst 4, 0, 0, 0)] (pe := 81) (ls' := [some (.ref 0), some (.int (g_X10_isWord M ty 6)), some (.int (g_X10_isWord M ty 8)), none, none]) (st' := [.int 4, .ref 1]) (M' := v11) (by decide +kernel) rfl ?_
                refine zT.iald (n := 187) (k := 4) rfl rfl (by decide) (by decide) (by decide +kernel) ?_
                refine zT.zne (tgt := 90) (off := 8) (by decide +kernel) (by decide) (fun (c22 : ¬ (v11 1 4) = 0) => ?_) (fun (c22 : (v11 1 4) = 0) => ?_)
                · skip
                  refine zT.run [(.iconst 0, 0, 0, 0)] (pe := 91) (ls' := [some (.ref 0), some (.int (g_X10_isWord M ty 6)), some (.int (g_X10_isWord M ty 8)), none, none]) (st' := [.int 0]) (M' := v11) (by decide +kernel) rfl ?_
                  exact zT.here (by simp only [if_pos c19, if_pos c20, if_pos c21, if_neg c22]; try rfl)
                · skip
                  refine zT.run [(.bipush 17, 0, 0, 0), (.goto 4, 0, 0, 0)] (pe := 91) (ls' := [some (.ref 0), some (.int (g_X10_isWord M ty 6)), some (.int (g_X10_isWord M ty 8)), none, none]) (st' := [.int 17]) (M' := v11) (by decide +kernel) rfl ?_
                  exact zT.here (by simp only [if_pos c19, if_pos c20, if_pos c21, if_pos c22]; try rfl)
              · skip
                refine zT.run [(.aload_n 0, 0, 0, 0)] (pe := 70) (ls' := [some (.ref 0), some (.int (g_X10_isWord M ty 6)), some (.int (g_X10_isWord M ty 8)), none, none]) (st' := [.ref 0]) (M' := v11) (by decide +kernel) rfl ?_
                refine zT.cV_own (o := 0) (idx := 185) (av := []) (rv := (some (.int (g_X10_noCount v11 n)))) (st := []) (S1 := [.int (g_X10_noCount v11 n)]) (c_X10_noCount v11 gp n ((congrFun lw11 0).trans hn) h9 (zHd.of2 (congrFun lw11 4) (congrFun lw11 6) hd)) k_X10_noCount _ _ rfl rfl rfl (zIn (w := 6059) (by decide +kernel) rfl) (by decide +kernel) (by decide +kernel) rfl (Nat.le_of_ble_eq_true rfl) rfl ?_
                refine zT.run [(.goto 18, 0, 0, 0)] (pe := 91) (ls' := [some (.ref 0), some (.int (g_X10_isWord M ty 6)), some (.int (g_X10_isWord M ty 8)), none, none]) (st' := [.int (g_X10_noCount v11 n)]) (M' := v11) (by decide +kernel) rfl ?_
                exact zT.here (by simp only [if_pos c19, if_pos c20, if_neg c21]; try rfl)
            · skip
              refine zT.run [(.aload_n 0, 0, 0, 0)] (pe := 59) (ls' := [some (.ref 0), some (.int (g_X10_isWord M ty 6)), some (.int (g_X10_isWord M ty 8)), none, none]) (st' := [.ref 0]) (M' := v11) (by decide +kernel) rfl ?_
              refine zT.cV_own (o := 0) (idx := 173) (av := []) (rv := (some (.int (g_X10_noClose v11 n)))) (st := []) (S1 := [.int (g_X10_noClose v11 n)]) (c_X10_noClose v11 gp n ((congrFun lw11 0).trans hn) h9) k_X10_noClose _ _ rfl rfl rfl (zIn (w := 6027) (by decide +kernel) rfl) (by decide +kernel) (by decide +kernel) rfl (Nat.le_of_ble_eq_true rfl) rfl ?_
              refine zT.run [(.goto 29, 0, 0, 0)] (pe := 91) (ls' := [some (.ref 0), some (.int (g_X10_isWord M ty 6)), some (.int (g_X10_isWord M ty 8)), none, none]) (st' := [.int (g_X10_noClose v11 n)]) (M' := v11) (by decide +kernel) rfl ?_
              exact zT.here (by simp only [if_pos c19, if_neg c20]; try rfl)
          · skip
            refine zT.run [(.iconst 0, 0, 0, 0), (.goto 40, 0, 0, 0)] (pe := 91) (ls' := [some (.ref 0), some (.int (g_X10_isWord M ty 6)), some (.int (g_X10_isWord M ty 8)), none, none]) (st' := [.int 0]) (M' := v11) (by decide +kernel) rfl ?_
            exact zT.here (by simp only [if_neg c19]; try rfl)
        · skip
          refine zT.run [(.istore_n 3, 0, 0, 0), (.aload_n 0, 0, 0, 0), (.iload_n 3, 0, 0, 0)] (pe := 94) (ls' := [some (.ref 0), some (.int (g_X10_isWord M ty 6)), some (.int (g_X10_isWord M ty 8)), some (.int (if (v11 0 18) = 0 then (if (g_X10_isWord M ty 6) = 0 then (if (g_X10_isWord M ty 8) = 0 then (if (v11 1 4) = 0 then (17 : Int32) else (0 : Int32)) else (g_X10_noCount v11 n)) else (g_X10_noClose v11 n)) else (0 : Int32))), none]) (st' := [.int (if (v11 0 18) = 0 then (if (g_X10_isWord M ty 6) = 0 then (if (g_X10_isWord M ty 8) = 0 then (if (v11 1 4) = 0 then (17 : Int32) else (0 : Int32)) else (g_X10_noCount v11 n)) else (g_X10_noClose v11 n)) else (0 : Int32)), .ref 0]) (M' := v11) (by decide +kernel) rfl ?_
          refine zT.cV_all (o := 0) (idx := 306) (av := [.int (if (v11 0 18) = 0 then (if (g_X10_isWord M ty 6) = 0 then (if (g_X10_isWord M ty 8) = 0 then (if (v11 1 4) = 0 then (17 : Int32) else (0 : Int32)) else (g_X10_noCount v11 n)) else (g_X10_noClose v11 n)) else (0 : Int32))]) (rv := (some (.int (g_X10_ends v11 (if (v11 0 18) = 0 then (if (g_X10_isWord M ty 6) = 0 then (if (g_X10_isWord M ty 8) = 0 then (if (v11 1 4) = 0 then (17 : Int32) else (0 : Int32)) else (g_X10_noCount v11 n)) else (g_X10_noClose v11 n)) else (0 : Int32))).1))) (st := []) (S1 := [.int (g_X10_ends v11 (if (v11 0 18) = 0 then (if (g_X10_isWord M ty 6) = 0 then (if (g_X10_isWord M ty 8) = 0 then (if (v11 1 4) = 0 then (17 : Int32) else (0 : Int32)) else (g_X10_noCount v11 n)) else (g_X10_noClose v11 n)) else (0 : Int32))).1]) (c_X10_ends v11 gp (if (v11 0 18) = 0 then (if (g_X10_isWord M ty 6) = 0 then (if (g_X10_isWord M ty 8) = 0 then (if (v11 1 4) = 0 then (17 : Int32) else (0 : Int32)) else (g_X10_noCount v11 n)) else (g_X10_noClose v11 n)) else (0 : Int32))) k_X10_ends _ _ rfl rfl rfl (zIn (w := 6201) (by decide +kernel) rfl) (by decide +kernel) (by decide +kernel) rfl (Nat.le_of_ble_eq_true rfl) rfl ?_
          obtain ⟨v12, hv12⟩ : ∃ v, v = (g_X10_ends v11 (if (v11 0 18) = 0 then (if (g_X10_isWord M ty 6) = 0 then (if (g_X10_isWord M ty 8) = 0 then (if (v11 1 4) = 0 then (17 : Int32) else (0 : Int32)) else (g_X10_noCount v11 n)) else (g_X10_noClose v11 n)) else (0 : Int32))) := ⟨_, rfl⟩
          rw [← hv12]
          have ev12 : (d_X10_bareDeed_12 M ty n oz) = v12 := by unfold d_X10_bareDeed_12; (try rw [ev11]); exact hv12.symm
          have tk12 : zTkP ty v12.2 := by rw [hv12]; exact (tk_X10_ends v11 (if (v11 0 18) = 0 then (if (g_X10_isWord M ty 6) = 0 then (if (g_X10_isWord M ty 8) = 0 then (if (v11 1 4) = 0 then (17 : Int32) else (0 : Int32)) else (g_X10_noCount v11 n)) else (g_X10_noClose v11 n)) else (0 : Int32)) h600 tk11)
          have lw12 : v12.2 1 = M 1 := by rw [hv12]; exact ((fr_X10_ends v11 (if (v11 0 18) = 0 then (if (g_X10_isWord M ty 6) = 0 then (if (g_X10_isWord M ty 8) = 0 then (if (v11 1 4) = 0 then (17 : Int32) else (0 : Int32)) else (g_X10_noCount v11 n)) else (g_X10_noClose v11 n)) else (0 : Int32)) 1 (by decide)).trans lw11)
          have en12 : ¬ v12.1 = 0 → v11 0 18 = 0 ∧ ((if (v11 0 18) = 0 then (if (g_X10_isWord M ty 6) = 0 then (if (g_X10_isWord M ty 8) = 0 then (if (v11 1 4) = 0 then (17 : Int32) else (0 : Int32)) else (g_X10_noCount v11 n)) else (g_X10_noClose v11 n)) else (0 : Int32)) : Int32) = 0 ∧ v12.2 = v11 := by rw [hv12]; exact fun h => ⟨(e_X10_ends v11 (if (v11 0 18) = 0 then (if (g_X10_isWord M ty 6) = 0 then (if (g_X10_isWord M ty 8) = 0 then (if (v11 1 4) = 0 then (17 : Int32) else (0 : Int32)) else (g_X10_noCount v11 n)) else (g_X10_noClose v11 n)) else (0 : Int32)) h600 tk11 h).1, (e_X10_ends v11 (if (v11 0 18) = 0 then (if (g_X10_isWord M ty 6) = 0 then (if (g_X10_isWord M ty 8) = 0 then (if (v11 1 4) = 0 then (17 : Int32) else (0 : Int32)) else (g_X10_noCount v11 n)) else (g_X10_noClose v11 n)) else (0 : Int32)) h600 tk11 h).2.1, (e_X10_ends v11 (if (v11 0 18) = 0 then (if (g_X10_isWord M ty 6) = 0 then (if (g_X10_isWord M ty 8) = 0 then (if (v11 1 4) = 0 then (17 : Int32) else (0 : Int32)) else (g_X10_noCount v11 n)) else (g_X10_noClose v11 n)) else (0 : Int32)) h600 tk11 h).2.2.2⟩
          refine zT.zeq (tgt := 128) (off := 31) (by decide +kernel) (by decide) (fun (c23 : v12.1 = 0) => ?_) (fun (c23 : ¬ v12.1 = 0) => ?_)
          · skip
            exact zT.vret (by unfold g_X10_bareDeed; (try rw [ev10]); (try rw [ev11]); (try rw [ev12]); first | done | rw [if_pos c1, if_pos c7, if_pos c13, if_pos c23] | rfl) rfl (by decide +kernel)
          · skip
            refine zT.run [(.iload_n 1, 0, 0, 0)] (pe := 101) (ls' := [some (.ref 0), some (.int (g_X10_isWord M ty 6)), some (.int (g_X10_isWord M ty 8)), some (.int (if (v11 0 18) = 0 then (if (g_X10_isWord M ty 6) = 0 then (if (g_X10_isWord M ty 8) = 0 then (if (v11 1 4) = 0 then (17 : Int32) else (0 : Int32)) else (g_X10_noCount v11 n)) else (g_X10_noClose v11 n)) else (0 : Int32))), none]) (st' := [.int (g_X10_isWord M ty 6)]) (M' := v12.2) (by decide +kernel) rfl ?_
            refine zT.zeq (tgt := 111) (off := 10) (by decide +kernel) (by decide) (fun _ => ?_) (fun c => absurd c1 c)
            refine zT.run [(.iload_n 2, 0, 0, 0)] (pe := 112) (ls' := [some (.ref 0), some (.int (g_X10_isWord M ty 6)), some (.int (g_X10_isWord M ty 8)), some (.int (if (v11 0 18) = 0 then (if (g_X10_isWord M ty 6) = 0 then (if (g_X10_isWord M ty 8) = 0 then (if (v11 1 4) = 0 then (17 : Int32) else (0 : Int32)) else (g_X10_noCount v11 n)) else (g_X10_noClose v11 n)) else (0 : Int32))), none]) (st' := [.int (g_X10_isWord M ty 8)]) (M' := v12.2) (by decide +kernel) rfl ?_
            refine zT.zeq (tgt := 122) (off := 10) (by decide +kernel) (by decide) (fun _ => ?_) (fun c => absurd c7 c)
            refine zT.run [(.aload_n 0, 0, 0, 0)] (pe := 123) (ls' := [some (.ref 0), some (.int (g_X10_isWord M ty 6)), some (.int (g_X10_isWord M ty 8)), some (.int (if (v11 0 18) = 0 then (if (g_X10_isWord M ty 6) = 0 then (if (g_X10_isWord M ty 8) = 0 then (if (v11 1 4) = 0 then (17 : Int32) else (0 : Int32)) else (g_X10_noCount v11 n)) else (g_X10_noClose v11 n)) else (0 : Int32))), none]) (st' := [.ref 0]) (M' := v12.2) (by decide +kernel) rfl ?_
            refine zT.cV_all (o := 0) (idx := 197) (av := []) (rv := (some (.int (g_X10_giveIt v12.2).1))) (st := []) (S1 := [.int (g_X10_giveIt v12.2).1]) (c_X10_giveIt v12.2 gp) k_X10_giveIt _ _ rfl rfl rfl (zIn (w := 6107) (by decide +kernel) rfl) (by decide +kernel) (by decide +kernel) rfl (Nat.le_of_ble_eq_true rfl) rfl ?_
            obtain ⟨v13, hv13⟩ : ∃ v, v = (g_X10_giveIt v12.2) := ⟨_, rfl⟩
            rw [← hv13]
            have ev13 : (d_X10_bareDeed_13 M ty n oz) = v13 := by unfold d_X10_bareDeed_13; (try rw [ev12]); exact hv13.symm
            have tk13 : zTkP ty v13.2 := by rw [hv13]; exact zTkP.of (fr_X10_giveIt v12.2 0 (by decide)) tk12
            refine zT.run [(.istore 4, 0, 0, 0)] (pe := 128) (ls' := [some (.ref 0), some (.int (g_X10_isWord M ty 6)), some (.int (g_X10_isWord M ty 8)), some (.int (if (v11 0 18) = 0 then (if (g_X10_isWord M ty 6) = 0 then (if (g_X10_isWord M ty 8) = 0 then (if (v11 1 4) = 0 then (17 : Int32) else (0 : Int32)) else (g_X10_noCount v11 n)) else (g_X10_noClose v11 n)) else (0 : Int32))), some (.int v13.1)]) (st' := []) (M' := v13.2) (by decide +kernel) rfl ?_
            exact zT.vret (by unfold g_X10_bareDeed; (try rw [ev10]); (try rw [ev11]); (try rw [ev12]); (try rw [ev13]); first | done | rw [if_pos c1, if_pos c7, if_pos c13, if_neg c23] | rfl) rfl (by decide +kernel)
theorem fr_X10_bareDeed (M : zM) (ty : Nat) (n : Nat) (oz : Nat) (o : Nat) (ho : o ≠ 0 ∧ o ≠ 1 ∧ o ≠ 20) : (g_X10_bareDeed M ty n oz) o = M o := by
  simp only [g_X10_bareDeed]
  (repeat' split) <;> simp only [zU_ne ho.1, zU_ne ho.2.1, zU_ne ho.2.2, zUa_ne ho.1, zUa_ne ho.2.1, zUa_ne ho.2.2, d_X10_bareDeed_2, (fun (MM : zM) (x : Int32) => fr_X10_ends MM x o (by omega)), d_X10_bareDeed_1, (fun (MM : zM) (ty : Nat) => fr_X10_goOn MM ty o (by omega)), d_X10_bareDeed_3, (fun (MM : zM) (n : Nat) => fr_X10_closeIt MM n o (by omega)), d_X10_bareDeed_5, d_X10_bareDeed_4, d_X10_bareDeed_6, (fun (MM : zM) (n : Nat) (oz : Nat) => fr_X10_countIt MM n oz o (by omega)), d_X10_bareDeed_8, d_X10_bareDeed_7, d_X10_bareDeed_9, (fun (MM : zM) => fr_X10_giveIt MM o (by omega)), d_X10_bareDeed_12, d_X10_bareDeed_11, d_X10_bareDeed_10, (fun (MM : zM) (cd : Int32) => fr_X10_wrong MM cd o (by omega)), d_X10_bareDeed_13]
theorem lo_X10_bareDeed (M : zM) (ty : Nat) (n : Nat) (oz : Nat) (o : Nat) (ho : o < 10 ∧ o ≠ 4 ∧ o ≠ 9) : (g_X10_bareDeed M ty n oz) 1 o = M 1 o := by
  simp only [g_X10_bareDeed]
  (repeat' split) <;> (try simp only [d_X10_bareDeed_2, (fun (MM : zM) (x : Int32) => fr_X10_ends MM x 1 (by decide)), d_X10_bareDeed_1, (fun (MM : zM) (ty : Nat) => fr_X10_goOn MM ty 1 (by decide)), d_X10_bareDeed_3, (fun (MM : zM) (n : Nat) => lo_X10_closeIt MM n o (by omega)), d_X10_bareDeed_5, d_X10_bareDeed_4, d_X10_bareDeed_6, (fun (MM : zM) (n : Nat) (oz : Nat) => lo_X10_countIt MM n oz o (by omega)), d_X10_bareDeed_8, d_X10_bareDeed_7, d_X10_bareDeed_9, (fun (MM : zM) => lo_X10_giveIt MM o (by omega)), d_X10_bareDeed_12, d_X10_bareDeed_11, d_X10_bareDeed_10, (fun (MM : zM) (cd : Int32) => fr_X10_wrong MM cd 1 (by decide)), d_X10_bareDeed_13])
theorem k_X10_bareDeed : zCal yy_X10_bareDeed 0 := ⟨⟨⟨⟨zIn (w := 7003) (by decide +kernel) rfl, zIn (w := 1012) (by decide +kernel) rfl⟩, by decide +kernel⟩, by decide +kernel⟩, ⟨zIn (w := 7002) (by decide +kernel) rfl, zIn (w := 74) (by decide +kernel) rfl⟩⟩
theorem tk_X10_bareDeed (M : zM) (ty : Nat) (n : Nat) (oz : Nat) (h600 : ty ≤ 600) (htk : zTkP ty M) : zTkP ty (g_X10_bareDeed M ty n oz) := by
  obtain ⟨v1, hv1⟩ : ∃ v, v = (g_X10_goOn M ty) := ⟨_, rfl⟩
  have ev1 : (d_X10_bareDeed_1 M ty n oz) = v1 := by unfold d_X10_bareDeed_1; exact hv1.symm
  have tkv1 : zTkP ty v1 := by rw [hv1]; exact (tk_X10_goOn M ty h600 htk)
  obtain ⟨v2, hv2⟩ : ∃ v, v = (g_X10_ends v1 (if (v1 0 18) = 0 then (if (g_X10_isWord M ty 6) = 0 then (if (g_X10_isWord M ty 8) = 0 then (if (v1 1 4) = 0 then (17 : Int32) else (0 : Int32)) else (g_X10_noCount v1 n)) else (g_X10_noClose v1 n)) else (0 : Int32))) := ⟨_, rfl⟩
  have ev2 : (d_X10_bareDeed_2 M ty n oz) = v2 := by unfold d_X10_bareDeed_2; (try rw [ev1]); exact hv2.symm
  have tkv2 : zTkP ty v2.2 := by rw [hv2]; exact (tk_X10_ends v1 (if (v1 0 18) = 0 then (if (g_X10_isWord M ty 6) = 0 then (if (g_X10_isWord M ty 8) = 0 then (if (v1 1 4) = 0 then (17 : Int32) else (0 : Int32)) else (g_X10_noCount v1 n)) else (g_X10_noClose v1 n)) else (0 : Int32)) h600 tkv1)
  obtain ⟨v3, hv3⟩ : ∃ v, v = (g_X10_closeIt v2.2 n) := ⟨_, rfl⟩
  have ev3 : (d_X10_bareDeed_3 M ty n oz) = v3 := by unfold d_X10_bareDeed_3; (try rw [ev2]); exact hv3.symm
  have tkv3 : zTkP ty v3.2 := by rw [hv3]; exact zTkP.of (fr_X10_closeIt v2.2 n 0 (by decide)) tkv2
  obtain ⟨v4, hv4⟩ : ∃ v, v = (g_X10_goOn M ty) := ⟨_, rfl⟩
  have ev4 : (d_X10_bareDeed_4 M ty n oz) = v4 := by unfold d_X10_bareDeed_4; exact hv4.symm
  have tkv4 : zTkP ty v4 := by rw [hv4]; exact (tk_X10_goOn M ty h600 htk)
  obtain ⟨v5, hv5⟩ : ∃ v, v = (g_X10_ends v4 (if (v4 0 18) = 0 then (if (g_X10_isWord M ty 6) = 0 then (if (g_X10_isWord M ty 8) = 0 then (if (v4 1 4) = 0 then (17 : Int32) else (0 : Int32)) else (g_X10_noCount v4 n)) else (g_X10_noClose v4 n)) else (0 : Int32))) := ⟨_, rfl⟩
  have ev5 : (d_X10_bareDeed_5 M ty n oz) = v5 := by unfold d_X10_bareDeed_5; (try rw [ev4]); exact hv5.symm
  have tkv5 : zTkP ty v5.2 := by rw [hv5]; exact (tk_X10_ends v4 (if (v4 0 18) = 0 then (if (g_X10_isWord M ty 6) = 0 then (if (g_X10_isWord M ty 8) = 0 then (if (v4 1 4) = 0 then (17 : Int32) else (0 : Int32)) else (g_X10_noCount v4 n)) else (g_X10_noClose v4 n)) else (0 : Int32)) h600 tkv4)
  obtain ⟨v6, hv6⟩ : ∃ v, v = (g_X10_countIt v5.2 n oz) := ⟨_, rfl⟩
  have ev6 : (d_X10_bareDeed_6 M ty n oz) = v6 := by unfold d_X10_bareDeed_6; (try rw [ev5]); exact hv6.symm
  have tkv6 : zTkP ty v6.2 := by rw [hv6]; exact (tk_X10_countIt v5.2 n oz h600 tkv5)
  obtain ⟨v7, hv7⟩ : ∃ v, v = (g_X10_goOn M ty) := ⟨_, rfl⟩
  have ev7 : (d_X10_bareDeed_7 M ty n oz) = v7 := by unfold d_X10_bareDeed_7; exact hv7.symm
  have tkv7 : zTkP ty v7 := by rw [hv7]; exact (tk_X10_goOn M ty h600 htk)
  obtain ⟨v8, hv8⟩ : ∃ v, v = (g_X10_ends v7 (if (v7 0 18) = 0 then (if (g_X10_isWord M ty 6) = 0 then (if (g_X10_isWord M ty 8) = 0 then (if (v7 1 4) = 0 then (17 : Int32) else (0 : Int32)) else (g_X10_noCount v7 n)) else (g_X10_noClose v7 n)) else (0 : Int32))) := ⟨_, rfl⟩
  have ev8 : (d_X10_bareDeed_8 M ty n oz) = v8 := by unfold d_X10_bareDeed_8; (try rw [ev7]); exact hv8.symm
  have tkv8 : zTkP ty v8.2 := by rw [hv8]; exact (tk_X10_ends v7 (if (v7 0 18) = 0 then (if (g_X10_isWord M ty 6) = 0 then (if (g_X10_isWord M ty 8) = 0 then (if (v7 1 4) = 0 then (17 : Int32) else (0 : Int32)) else (g_X10_noCount v7 n)) else (g_X10_noClose v7 n)) else (0 : Int32)) h600 tkv7)
  obtain ⟨v9, hv9⟩ : ∃ v, v = (g_X10_giveIt v8.2) := ⟨_, rfl⟩
  have ev9 : (d_X10_bareDeed_9 M ty n oz) = v9 := by unfold d_X10_bareDeed_9; (try rw [ev8]); exact hv9.symm
  have tkv9 : zTkP ty v9.2 := by rw [hv9]; exact zTkP.of (fr_X10_giveIt v8.2 0 (by decide)) tkv8
  obtain ⟨v10, hv10⟩ : ∃ v, v = (g_X10_wrong M 1) := ⟨_, rfl⟩
  have ev10 : (d_X10_bareDeed_10 M ty n oz) = v10 := by unfold d_X10_bareDeed_10; exact hv10.symm
  have tkv10 : zTkP ty v10 := by rw [hv10]; exact (tk_X10_wrong M 1 h600 htk)
  obtain ⟨v11, hv11⟩ : ∃ v, v = (g_X10_goOn v10 ty) := ⟨_, rfl⟩
  have ev11 : (d_X10_bareDeed_11 M ty n oz) = v11 := by unfold d_X10_bareDeed_11; (try rw [ev10]); exact hv11.symm
  have tkv11 : zTkP ty v11 := by rw [hv11]; exact (tk_X10_goOn v10 ty h600 tkv10)
  obtain ⟨v12, hv12⟩ : ∃ v, v = (g_X10_ends v11 (if (v11 0 18) = 0 then (if (g_X10_isWord M ty 6) = 0 then (if (g_X10_isWord M ty 8) = 0 then (if (v11 1 4) = 0 then (17 : Int32) else (0 : Int32)) else (g_X10_noCount v11 n)) else (g_X10_noClose v11 n)) else (0 : Int32))) := ⟨_, rfl⟩
  have ev12 : (d_X10_bareDeed_12 M ty n oz) = v12 := by unfold d_X10_bareDeed_12; (try rw [ev11]); exact hv12.symm
  have tkv12 : zTkP ty v12.2 := by rw [hv12]; exact (tk_X10_ends v11 (if (v11 0 18) = 0 then (if (g_X10_isWord M ty 6) = 0 then (if (g_X10_isWord M ty 8) = 0 then (if (v11 1 4) = 0 then (17 : Int32) else (0 : Int32)) else (g_X10_noCount v11 n)) else (g_X10_noClose v11 n)) else (0 : Int32)) h600 tkv11)
  obtain ⟨v13, hv13⟩ : ∃ v, v = (g_X10_giveIt v12.2) := ⟨_, rfl⟩
  have ev13 : (d_X10_bareDeed_13 M ty n oz) = v13 := by unfold d_X10_bareDeed_13; (try rw [ev12]); exact hv13.symm
  have tkv13 : zTkP ty v13.2 := by rw [hv13]; exact zTkP.of (fr_X10_giveIt v12.2 0 (by decide)) tkv12
  unfold g_X10_bareDeed
  (try rw [ev1])
  (try rw [ev2])
  (try rw [ev3])
  (try rw [ev4])
  (try rw [ev5])
  (try rw [ev6])
  (try rw [ev7])
  (try rw [ev8])
  (try rw [ev9])
  (try rw [ev10])
  (try rw [ev11])
  (try rw [ev12])
  (try rw [ev13])
  by_cases q1 : (g_X10_isWord M ty 6) = 0
  · rw [if_pos q1]
    by_cases q2 : (g_X10_isWord M ty 8) = 0
    · rw [if_pos q2]
      by_cases q3 : (g_X10_isWord M ty 10) = 0
      · rw [if_pos q3]
        by_cases q4 : v12.1 = 0
        · rw [if_pos q4]
          exact tkv12
        · rw [if_neg q4]
          exact tkv13
      · rw [if_neg q3]
        by_cases q5 : v8.1 = 0
        · rw [if_pos q5]
          exact tkv8
        · rw [if_neg q5]
          exact tkv9
    · rw [if_neg q2]
      by_cases q6 : v5.1 = 0
      · rw [if_pos q6]
        exact tkv5
      · rw [if_neg q6]
        exact tkv6
  · rw [if_neg q1]
    by_cases q7 : v2.1 = 0
    · rw [if_pos q7]
      exact tkv2
    · rw [if_neg q7]
      exact tkv3
