theorem zFst_ex {β : Type} {f : Nat → Option β} {d : β} : ∀ (k i : Nat), (∃ r, i ≤ r ∧ r < i + k ∧ f r ≠ none) → ∃ r b, i ≤ r ∧ r < i + k ∧ f r = some b ∧ zFst f d k i = b ∧ ∀ j, i ≤ j → j < r → f j = none
  | 0, i, ⟨r, h1, h2, _⟩ => absurd h2 (by omega)
  | k + 1, i, ⟨r, h1, h2, h3⟩ => by
    cases e : f i with
    | some b => exact ⟨i, b, Nat.le_refl _, by omega, e, by simp only [zFst, e], fun j a b => absurd b (by omega)⟩
    | none =>
      have hr : i + 1 ≤ r := by
        rcases Nat.lt_or_ge i r with h | h
        · exact h
        · exact absurd (by rw [show r = i by omega]; exact e) h3
      obtain ⟨r', b, g1, g2, g3, g4, g5⟩ := zFst_ex (f := f) (d := d) k (i + 1) ⟨r, hr, by omega, h3⟩
      refine ⟨r', b, by omega, by omega, g3, by simp only [zFst, e]; exact g4, fun j a b => ?_⟩
      rcases Nat.eq_or_lt_of_le a with h | h
      · rw [← h]; exact e
      · exact g5 j h b
theorem zFst_no {β : Type} {f : Nat → Option β} {d : β} : ∀ (k i : Nat), (∀ r, i ≤ r → r < i + k → f r = none) → zFst f d k i = d
  | 0, i, _ => rfl
  | k + 1, i, h => by
    simp only [zFst, h i (Nat.le_refl _) (by omega)]
    exact zFst_no k (i + 1) (fun r a b => h r (by omega) (by omega))
noncomputable abbrev yy_X10_firstOfMost : zY := (yX10_firstOfMost, cX10_firstOfMost, 2, (some Jvm.ClassFile.FieldType.int), 1, 21)
noncomputable def f_X10_firstOfMost_2 (M : zM) (n : Nat) (i1 : Nat) : Option Int32 := (if (g_X10_isOnRoll M (nI i1)) = 0 then none else (if (M 0 12) ≤ (M 20 i1) then (some (nI i1)) else none))
theorem zFm {M : zM} {n : Nat} (hx : ∃ r, r < n ∧ f_X10_firstOfMost_2 M n r ≠ none) (h9 : n ≤ 9) : ¬ zFst (f_X10_firstOfMost_2 M n) (-1 : Int32) n 0 = -1 := by
  obtain ⟨r, h1, h2⟩ := hx
  obtain ⟨r', b, g1, g2, g3, g4, -⟩ := zFst_ex (f := f_X10_firstOfMost_2 M n) (d := (-1 : Int32)) n 0 ⟨r, Nat.zero_le _, by omega, h2⟩
  rw [g4]
  simp only [f_X10_firstOfMost_2] at g3
  (repeat' split at g3) <;> first
    | (have e := Option.some.inj g3
       rw [← e]
       exact fun q => nI_pos (n := r') (by omega) (by rw [q]; decide))
    | cases g3
noncomputable def g_X10_firstOfMost (M : zM) (n : Nat) : Int32 := (zFst (f_X10_firstOfMost_2 M n) (-1 : Int32) n 0)
set_option maxRecDepth 100000 in
theorem c_X10_firstOfMost (M : zM) (gp : Nat → Option Nat) (n : Nat) (hn : M 1 0 = nI n) (h9 : n ≤ 9) (hx : ∃ r, r < n ∧ f_X10_firstOfMost_2 M n r ≠ none) : zC yy_X10_firstOfMost 0 0 [.ref 0] (sh_Model gp) M (some (.int (g_X10_firstOfMost M n))) (sh_Model gp) M := by
  refine zC.of (by decide +kernel) rfl (Nat.le_of_ble_eq_true rfl) ?_
  refine zT.run [(.iconst 0, 0, 0, 0), (.istore_n 1, 0, 0, 0)] (pe := 2) (ls' := [some (.ref 0), some (.int 0)]) (st' := []) (M' := M) (by decide +kernel) rfl ?_
  refine zT.fst (f_X10_firstOfMost_2 M n) (-1 : Int32) n (fun (i : Nat) => (2, [some (.ref 0), some (.int (nI i))], [], (sh_Model gp), M)) (R := (zFst (f_X10_firstOfMost_2 M n) (-1 : Int32) n 0)) rfl (fun i1 hi1 k1 kk1 => ?_) (fun k1 => ?_)
  · skip
    show zT _ _ _ _ (2, [some (.ref 0), some (.int (nI i1))], [], (sh_Model gp), M)
    refine zT.run [(.aload_n 0, 0, 0, 0), (.iload_n 1, 0, 0, 0)] (pe := 4) (ls' := [some (.ref 0), some (.int (nI i1))]) (st' := [.int (nI i1), .ref 0]) (M' := M) (by decide +kernel) rfl ?_
    refine zT.cV_own (o := 0) (idx := 106) (av := [.int (nI i1)]) (rv := (some (.int (g_X10_isOnRoll M (nI i1))))) (st := []) (S1 := [.int (g_X10_isOnRoll M (nI i1))]) (c_X10_isOnRoll M gp (nI i1)) k_X10_isOnRoll _ _ rfl rfl rfl (zIn (w := 5145) (by decide +kernel) rfl) (by decide +kernel) (by decide +kernel) rfl (Nat.le_of_ble_eq_true rfl) rfl ?_
    refine zT.zeq (tgt := 23) (off := 16) (by decide +kernel) (by decide) (fun (c1 : (g_X10_isOnRoll M (nI i1)) = 0) => ?_) (fun (c1 : ¬ (g_X10_isOnRoll M (nI i1)) = 0) => ?_)
    · skip
      refine zT.run [(.iinc 1 1, 0, 0, 0), (.goto (-24), 0, 0, 0)] (pe := 2) (ls' := [some (.ref 0), some (.int ((nI i1) + 1))]) (st' := []) (M' := M) (by decide +kernel) rfl ?_
      exact zT.eq (by simp only [nI_succ, zDl]; try rfl) (k1 (by simp only [f_X10_firstOfMost_2, if_pos c1]))
    · skip
      refine zT.run [(.aload_n 0, 0, 0, 0), (.getfield 35, 8, 11, 5160), (.iload_n 1, 0, 0, 0)] (pe := 15) (ls' := [some (.ref 0), some (.int (nI i1))]) (st' := [.int (nI i1), .ref 20]) (M' := M) (by decide +kernel) rfl ?_
      refine zT.iald (n := 9) (k := i1) rfl rfl (by omega) (by decide) (by decide +kernel) ?_
      refine zT.run [(.aload_n 0, 0, 0, 0), (.getfield 109, 8, 12, 5161)] (pe := 20) (ls' := [some (.ref 0), some (.int (nI i1))]) (st' := [.int (M 0 12), .int (M 20 i1)]) (M' := M) (by decide +kernel) rfl ?_
      refine zT.cge (tgt := 29) (off := 9) (by decide +kernel) (by decide) (fun (c2 : (M 0 12) ≤ (M 20 i1)) => ?_) (fun (c2 : ¬ (M 0 12) ≤ (M 20 i1)) => ?_)
      · skip
        refine zT.run [(.iload_n 1, 0, 0, 0)] (pe := 30) (ls' := [some (.ref 0), some (.int (nI i1))]) (st' := [.int (nI i1)]) (M' := M) (by decide +kernel) rfl ?_
        exact zT.iret (ty := Jvm.ClassFile.FieldType.int) ((show _ = (zFst (f_X10_firstOfMost_2 M n) (-1 : Int32) n 0) from (by simp only [g_X10_firstOfMost]; try rfl)).trans (kk1 _ (by simp only [f_X10_firstOfMost_2, if_neg c1, if_pos c2]))) rfl rfl rfl (by decide +kernel)
      · skip
        refine zT.run [(.iinc 1 1, 0, 0, 0), (.goto (-24), 0, 0, 0)] (pe := 2) (ls' := [some (.ref 0), some (.int ((nI i1) + 1))]) (st' := []) (M' := M) (by decide +kernel) rfl ?_
        exact zT.eq (by simp only [nI_succ, zDl]; try rfl) (k1 (by simp only [f_X10_firstOfMost_2, if_neg c1, if_neg c2]))
  · skip
    exact absurd k1 (zFm hx h9)
theorem k_X10_firstOfMost : zCal yy_X10_firstOfMost 0 := ⟨⟨⟨⟨zIn (w := 7091) (by decide +kernel) rfl, zIn (w := 1012) (by decide +kernel) rfl⟩, by decide +kernel⟩, by decide +kernel⟩, ⟨zIn (w := 7090) (by decide +kernel) rfl, zIn (w := 81) (by decide +kernel) rfl⟩⟩
theorem zOnR {M M' : zM} (e : M' 1 = M 1) (x : Int32) : g_X10_isOnRoll M' x = g_X10_isOnRoll M x := by
  simp only [g_X10_isOnRoll, e]
theorem e_most (N : zM) (n : Nat) (ti : Int32) (h9 : n ≤ 9) (hw : zVo n N) (hr : ∃ r, r < n ∧ ¬ g_X10_isOnRoll N (nI r) = 0) :
    ∃ r, r < n ∧ ¬ g_X10_isOnRoll N (nI r) = 0 ∧ N 20 r = (r_X10_leading_14 N n ti).2 0 12 := by
  have h := zIt_inv (f := l_X10_leading_14 N n ti) (P := fun (i : Nat) (s : Int32 × zM) => s.2 1 = N 1 ∧ s.2 20 = N 20 ∧ ((∃ r, r < i ∧ ¬ g_X10_isOnRoll N (nI r) = 0) → ∃ r, r < i ∧ ¬ g_X10_isOnRoll N (nI r) = 0 ∧ N 20 r = s.2 0 12) ∧ ((¬ ∃ r, r < i ∧ ¬ g_X10_isOnRoll N (nI r) = 0) → s.2 0 12 = -1)) n ((-1), (zU (zU N 0 12 (-1)) 0 13 0)) ⟨rfl, rfl, fun ⟨r, h, _⟩ => absurd h (Nat.not_lt_zero _), fun _ => rfl⟩ ?_
  · exact h.2.2.1 hr
  · intro i hi s ⟨h1, h2, h3, h4⟩
    simp only [l_X10_leading_14]
    rw [zOnR h1, h2]
    by_cases c : g_X10_isOnRoll N (nI i) = 0
    · simp only [if_pos c]
      refine ⟨h1, h2, fun ⟨r, a, b⟩ => ?_, fun a => h4 fun ⟨r, p, q⟩ => a ⟨r, by omega, q⟩⟩
      have : r ≠ i := fun e => b (by rw [e]; exact c)
      obtain ⟨r', p, q⟩ := h3 ⟨r, by omega, b⟩
      exact ⟨r', by omega, q⟩
    · simp only [if_neg c]
      refine ⟨by rw [zU_ne (by decide), zU_ne (by decide)]; exact h1, by rw [zU_ne (by decide), zU_ne (by decide)]; exact h2, fun _ => ?_, fun a => absurd ⟨i, Nat.lt_succ_self i, c⟩ a⟩
      by_cases d : N 20 i ≤ s.2 0 12
      · have hex : ∃ r, r < i ∧ ¬ g_X10_isOnRoll N (nI r) = 0 := by
          by_cases x : ∃ r, r < i ∧ ¬ g_X10_isOnRoll N (nI r) = 0
          · exact x
          · exfalso
            rw [h4 x] at d
            obtain ⟨v, a, b⟩ := hw i hi
            rw [b] at d
            exact nI_pos (n := v) (by omega) (Int32.lt_of_le_of_lt d (by decide))
        obtain ⟨r', p, q1, q2⟩ := h3 hex
        refine ⟨r', by omega, q1, ?_⟩
        show N 20 r' = (if N 20 i ≤ s.2 0 12 then s.2 0 12 else N 20 i)
        rw [if_pos d]
        exact q2
      · refine ⟨i, by omega, c, ?_⟩
        show N 20 i = (if N 20 i ≤ s.2 0 12 then s.2 0 12 else N 20 i)
        rw [if_neg d]
theorem e_first (N : zM) (n : Nat) (ti : Int32) (h9 : n ≤ 9) (hw : zVo n N) (hr : ∃ r, r < n ∧ ¬ g_X10_isOnRoll N (nI r) = 0) : ∃ r, r < n ∧ f_X10_firstOfMost_2 (g_X10_leading N n ti).2 n r ≠ none := by
  obtain ⟨r, a, b, c⟩ := e_most N n ti h9 hw hr
  have e : (g_X10_leading N n ti).2 = (r_X10_leading_14 N n ti).2 := by
    simp only [g_X10_leading]
    (repeat' split) <;> rfl
  refine ⟨r, a, ?_⟩
  rw [e]
  simp only [f_X10_firstOfMost_2]
  have f1 : (r_X10_leading_14 N n ti).2 1 = N 1 := fr_l_X10_leading_14 N n ti 1 (by decide) n _
  rw [zOnR f1, if_neg b]
  rw [show (r_X10_leading_14 N n ti).2 20 = N 20 from fr_l_X10_leading_14 N n ti 20 (by decide) n _, c, if_pos (Int32.le_refl _)]
  exact fun h => by cases h
noncomputable abbrev yy_X10_why : zY := (yX10_why, cX10_why, 5, (some Jvm.ClassFile.FieldType.int), 3, 67)
noncomputable def g_X10_why (M : zM) (gq : Nat → Nat) (pc : Nat) (n : Nat) (oz : Nat) (r : Nat) (d : Int32) : Int32 × zM := (if d = 0 then ((g_X10_reasonOf (zU M 0 0 0) n oz r).1, (g_X10_reasonOf (zU M 0 0 0) n oz r).2) else (if 4 ≤ (g_X10_reasonOf (zU M 0 0 0) n oz r).1 then (if (g_X10_reasonOf (zU M 0 0 0) n oz r).1 = 6 then (((g_X10_leading (g_X10_reasonOf (zU M 0 0 0) n oz r).2 n (g_X10_outcomeOf (g_X10_reasonOf (zU M 0 0 0) n oz r).2 oz 0 7)).2 0 13), (g_X10_leading (g_X10_reasonOf (zU M 0 0 0) n oz r).2 n (g_X10_outcomeOf (g_X10_reasonOf (zU M 0 0 0) n oz r).2 oz 0 7)).2) else (if (g_X10_reasonOf (zU M 0 0 0) n oz r).1 = 7 then (((g_X10_outcomeOf (g_X10_leading (g_X10_reasonOf (zU M 0 0 0) n oz r).2 n (g_X10_outcomeOf (g_X10_reasonOf (zU M 0 0 0) n oz r).2 oz 0 7)).2 oz 0 6) - ((g_X10_leading (g_X10_reasonOf (zU M 0 0 0) n oz r).2 n (g_X10_outcomeOf (g_X10_reasonOf (zU M 0 0 0) n oz r).2 oz 0 7)).2 20 r)), (g_X10_leading (g_X10_reasonOf (zU M 0 0 0) n oz r).2 n (g_X10_outcomeOf (g_X10_reasonOf (zU M 0 0 0) n oz r).2 oz 0 7)).2) else (if (g_X10_leading (g_X10_reasonOf (zU M 0 0 0) n oz r).2 n (g_X10_outcomeOf (g_X10_reasonOf (zU M 0 0 0) n oz r).2 oz 0 7)).1 = (-1) then ((g_X10_firstOfMost (g_X10_leading (g_X10_reasonOf (zU M 0 0 0) n oz r).2 n (g_X10_outcomeOf (g_X10_reasonOf (zU M 0 0 0) n oz r).2 oz 0 7)).2 n), (g_X10_leading (g_X10_reasonOf (zU M 0 0 0) n oz r).2 n (g_X10_outcomeOf (g_X10_reasonOf (zU M 0 0 0) n oz r).2 oz 0 7)).2) else ((g_X10_leading (g_X10_reasonOf (zU M 0 0 0) n oz r).2 n (g_X10_outcomeOf (g_X10_reasonOf (zU M 0 0 0) n oz r).2 oz 0 7)).1, (g_X10_leading (g_X10_reasonOf (zU M 0 0 0) n oz r).2 n (g_X10_outcomeOf (g_X10_reasonOf (zU M 0 0 0) n oz r).2 oz 0 7)).2)))) else ((-1), (g_X10_reasonOf (zU M 0 0 0) n oz r).2)))
set_option maxRecDepth 100000 in
theorem c_X10_why (M : zM) (gq : Nat → Nat) (pc : Nat) (n : Nat) (oz : Nat) (r : Nat) (d : Int32) (hM : M 0 3 = nI pc) (hpc : pc ≤ 10) (hq : zPm gq) (hn : M 1 0 = nI n) (h9 : n ≤ 9) (hv : zHv M) (hoz : M 1 9 = nI oz) (h12 : oz ≤ 12) (h_r : r < n) (hx1 : ¬ d < 0) (hx2 : d ≤ 1) : zC yy_X10_why 0 0 [.ref 0, .int (nI r), .int d] (sh_Model (zGp gq)) M (some (.int (g_X10_why M gq pc n oz r d).1)) (sh_Model (zGp gq)) (g_X10_why M gq pc n oz r d).2 := by
  refine zC.of (by decide +kernel) rfl (Nat.le_of_ble_eq_true rfl) ?_
  refine zT.run [(.aload_n 0, 0, 0, 0), (.iconst 0, 0, 0, 0), (.putfield 61, 8, 0, 5149), (.aload_n 0, 0, 0, 0), (.iload_n 1, 0, 0, 0)] (pe := 7) (ls' := [some (.ref 0), some (.int (nI r)), some (.int d), none, none]) (st' := [.int (nI r), .ref 0]) (M' := (zU M 0 0 0)) (by decide +kernel) rfl ?_
  refine zT.cV_own (o := 0) (idx := 160) (av := [.int (nI r)]) (rv := (some (.int 0))) (st := []) (S1 := [.int 0]) (c_X10_noReplica_ok (zU M 0 0 0) (zGp gq) n r hn h9 h_r) k_X10_noReplica _ _ rfl rfl rfl (zIn (w := 5216) (by decide +kernel) rfl) (by decide +kernel) (by decide +kernel) rfl (Nat.le_of_ble_eq_true rfl) rfl ?_
  refine zT.zne (tgt := 24) (off := 14) (by decide +kernel) (by decide) (fun c => absurd (by decide) c) (fun _ => ?_)
  refine zT.run [(.aload_n 0, 0, 0, 0), (.iload_n 2, 0, 0, 0), (.iconst 0, 0, 0, 0), (.iconst 1, 0, 0, 0), (.iconst 2, 0, 0, 0)] (pe := 18) (ls' := [some (.ref 0), some (.int (nI r)), some (.int d), none, none]) (st' := [.int 2, .int 1, .int 0, .int d, .ref 0]) (M' := (zU M 0 0 0)) (by decide +kernel) rfl ?_
  refine zT.cV_own (o := 0) (idx := 72) (av := [.int d, .int 0, .int 1, .int 2]) (rv := (some (.int 0))) (st := []) (S1 := [.int 0]) (c_X10_bad_ok (zU M 0 0 0) (zGp gq) d 0 1 2 hx1 hx2) k_X10_bad _ _ rfl rfl rfl (zIn (w := 5220) (by decide +kernel) rfl) (by decide +kernel) (by decide +kernel) rfl (Nat.le_of_ble_eq_true rfl) rfl ?_
  refine zT.zeq (tgt := 26) (off := 5) (by decide +kernel) (by decide) (fun _ => ?_) (fun c => absurd (by decide) c)
  refine zT.run [(.aload_n 0, 0, 0, 0), (.iload_n 1, 0, 0, 0)] (pe := 28) (ls' := [some (.ref 0), some (.int (nI r)), some (.int d), none, none]) (st' := [.int (nI r), .ref 0]) (M' := (zU M 0 0 0)) (by decide +kernel) rfl ?_
  refine zT.cV_all (o := 0) (idx := 341) (av := [.int (nI r)]) (rv := (some (.int (g_X10_reasonOf (zU M 0 0 0) n oz r).1))) (st := []) (S1 := [.int (g_X10_reasonOf (zU M 0 0 0) n oz r).1]) (c_X10_reasonOf (zU M 0 0 0) (zGp gq) n oz r hn h9 hv hoz h12 (by omega)) k_X10_reasonOf _ _ rfl rfl rfl (zIn (w := 7084) (by decide +kernel) rfl) (by decide +kernel) (by decide +kernel) rfl (Nat.le_of_ble_eq_true rfl) rfl ?_
  refine zT.run [(.istore_n 3, 0, 0, 0), (.iload_n 2, 0, 0, 0)] (pe := 33) (ls' := [some (.ref 0), some (.int (nI r)), some (.int d), some (.int (g_X10_reasonOf (zU M 0 0 0) n oz r).1), none]) (st' := [.int d]) (M' := (g_X10_reasonOf (zU M 0 0 0) n oz r).2) (by decide +kernel) rfl ?_
  refine zT.zne (tgt := 38) (off := 5) (by decide +kernel) (by decide) (fun (c1 : ¬ d = 0) => ?_) (fun (c1 : d = 0) => ?_)
  · skip
    refine zT.run [(.iload_n 3, 0, 0, 0), (.iconst 4, 0, 0, 0)] (pe := 40) (ls' := [some (.ref 0), some (.int (nI r)), some (.int d), some (.int (g_X10_reasonOf (zU M 0 0 0) n oz r).1), none]) (st' := [.int 4, .int (g_X10_reasonOf (zU M 0 0 0) n oz r).1]) (M' := (g_X10_reasonOf (zU M 0 0 0) n oz r).2) (by decide +kernel) rfl ?_
    refine zT.cge (tgt := 45) (off := 5) (by decide +kernel) (by decide) (fun (c2 : 4 ≤ (g_X10_reasonOf (zU M 0 0 0) n oz r).1) => ?_) (fun (c2 : ¬ 4 ≤ (g_X10_reasonOf (zU M 0 0 0) n oz r).1) => ?_)
    · skip
      refine zT.run [(.aload_n 0, 0, 0, 0), (.aload_n 0, 0, 0, 0), (.iconst 0, 0, 0, 0), (.bipush 7, 0, 0, 0)] (pe := 50) (ls' := [some (.ref 0), some (.int (nI r)), some (.int d), some (.int (g_X10_reasonOf (zU M 0 0 0) n oz r).1), none]) (st' := [.int 7, .int 0, .ref 0, .ref 0]) (M' := (g_X10_reasonOf (zU M 0 0 0) n oz r).2) (by decide +kernel) rfl ?_
      refine zT.cV_own (o := 0) (idx := 150) (av := [.int (nI 0), .int (nI 7)]) (rv := (some (.int (g_X10_outcomeOf (g_X10_reasonOf (zU M 0 0 0) n oz r).2 oz 0 7)))) (st := [.ref 0]) (S1 := [.int (g_X10_outcomeOf (g_X10_reasonOf (zU M 0 0 0) n oz r).2 oz 0 7), .ref 0]) (c_X10_outcomeOf (g_X10_reasonOf (zU M 0 0 0) n oz r).2 (zGp gq) oz 0 7 ((congrFun (fr_X10_reasonOf (zU M 0 0 0) n oz r 1 (by decide)) 9).trans hoz) h12 (zOz hoz (e_X10_reasonOf (zU M 0 0 0) n oz r h9 (Int32.not_lt.mpr (by assumption))).2.1) (by decide)) k_X10_outcomeOf _ _ rfl rfl rfl (zIn (w := 6095) (by decide +kernel) rfl) (by decide +kernel) (by decide +kernel) rfl (Nat.le_of_ble_eq_true rfl) rfl ?_
      refine zT.cV_all (o := 0) (idx := 115) (av := [.int (g_X10_outcomeOf (g_X10_reasonOf (zU M 0 0 0) n oz r).2 oz 0 7)]) (rv := (some (.int (g_X10_leading (g_X10_reasonOf (zU M 0 0 0) n oz r).2 n (g_X10_outcomeOf (g_X10_reasonOf (zU M 0 0 0) n oz r).2 oz 0 7)).1))) (st := []) (S1 := [.int (g_X10_leading (g_X10_reasonOf (zU M 0 0 0) n oz r).2 n (g_X10_outcomeOf (g_X10_reasonOf (zU M 0 0 0) n oz r).2 oz 0 7)).1]) (c_X10_leading (g_X10_reasonOf (zU M 0 0 0) n oz r).2 (zGp gq) n (g_X10_outcomeOf (g_X10_reasonOf (zU M 0 0 0) n oz r).2 oz 0 7) ((congrFun (fr_X10_reasonOf (zU M 0 0 0) n oz r 1 (by decide)) 0).trans hn) h9 (e_X10_reasonOf (zU M 0 0 0) n oz r h9 (Int32.not_lt.mpr (by assumption))).1) k_X10_leading _ _ rfl rfl rfl (zIn (w := 6079) (by decide +kernel) rfl) (by decide +kernel) (by decide +kernel) rfl (Nat.le_of_ble_eq_true rfl) rfl ?_
      refine zT.run [(.istore 4, 0, 0, 0), (.iload_n 3, 0, 0, 0)] (pe := 59) (ls' := [some (.ref 0), some (.int (nI r)), some (.int d), some (.int (g_X10_reasonOf (zU M 0 0 0) n oz r).1), some (.int (g_X10_leading (g_X10_reasonOf (zU M 0 0 0) n oz r).2 n (g_X10_outcomeOf (g_X10_reasonOf (zU M 0 0 0) n oz r).2 oz 0 7)).1)]) (st' := [.int (g_X10_reasonOf (zU M 0 0 0) n oz r).1]) (M' := (g_X10_leading (g_X10_reasonOf (zU M 0 0 0) n oz r).2 n (g_X10_outcomeOf (g_X10_reasonOf (zU M 0 0 0) n oz r).2 oz 0 7)).2) (by decide +kernel) rfl ?_
      by_cases c3 : (g_X10_reasonOf (zU M 0 0 0) n oz r).1 = 6
      · skip
        refine zT.look (tgt := 84) (off := 25) (dflt := 45) (ps := #[(6, 25), (7, 30)]) (len := 25) (by decide +kernel) (by decide) (by rw [c3]; decide) (by decide) ?_
        refine zT.run [(.aload_n 0, 0, 0, 0), (.getfield 112, 8, 13, 5162)] (pe := 88) (ls' := [some (.ref 0), some (.int (nI r)), some (.int d), some (.int (g_X10_reasonOf (zU M 0 0 0) n oz r).1), some (.int (g_X10_leading (g_X10_reasonOf (zU M 0 0 0) n oz r).2 n (g_X10_outcomeOf (g_X10_reasonOf (zU M 0 0 0) n oz r).2 oz 0 7)).1)]) (st' := [.int ((g_X10_leading (g_X10_reasonOf (zU M 0 0 0) n oz r).2 n (g_X10_outcomeOf (g_X10_reasonOf (zU M 0 0 0) n oz r).2 oz 0 7)).2 0 13)]) (M' := (g_X10_leading (g_X10_reasonOf (zU M 0 0 0) n oz r).2 n (g_X10_outcomeOf (g_X10_reasonOf (zU M 0 0 0) n oz r).2 oz 0 7)).2) (by decide +kernel) rfl ?_
        exact zT.iret (ty := Jvm.ClassFile.FieldType.int) (by simp only [g_X10_why, if_neg c1, if_pos c2, if_pos c3]; try rfl) (by simp only [g_X10_why, if_neg c1, if_pos c2, if_pos c3]; try rfl) rfl rfl (by decide +kernel)
      · skip
        by_cases c4 : (g_X10_reasonOf (zU M 0 0 0) n oz r).1 = 7
        · skip
          refine zT.look (tgt := 89) (off := 30) (dflt := 45) (ps := #[(6, 25), (7, 30)]) (len := 25) (by decide +kernel) (by decide) (by rw [c4]; decide) (by decide) ?_
          refine zT.run [(.aload_n 0, 0, 0, 0), (.iconst 0, 0, 0, 0), (.bipush 6, 0, 0, 0)] (pe := 93) (ls' := [some (.ref 0), some (.int (nI r)), some (.int d), some (.int (g_X10_reasonOf (zU M 0 0 0) n oz r).1), some (.int (g_X10_leading (g_X10_reasonOf (zU M 0 0 0) n oz r).2 n (g_X10_outcomeOf (g_X10_reasonOf (zU M 0 0 0) n oz r).2 oz 0 7)).1)]) (st' := [.int 6, .int 0, .ref 0]) (M' := (g_X10_leading (g_X10_reasonOf (zU M 0 0 0) n oz r).2 n (g_X10_outcomeOf (g_X10_reasonOf (zU M 0 0 0) n oz r).2 oz 0 7)).2) (by decide +kernel) rfl ?_
          refine zT.cV_own (o := 0) (idx := 150) (av := [.int (nI 0), .int (nI 6)]) (rv := (some (.int (g_X10_outcomeOf (g_X10_leading (g_X10_reasonOf (zU M 0 0 0) n oz r).2 n (g_X10_outcomeOf (g_X10_reasonOf (zU M 0 0 0) n oz r).2 oz 0 7)).2 oz 0 6)))) (st := []) (S1 := [.int (g_X10_outcomeOf (g_X10_leading (g_X10_reasonOf (zU M 0 0 0) n oz r).2 n (g_X10_outcomeOf (g_X10_reasonOf (zU M 0 0 0) n oz r).2 oz 0 7)).2 oz 0 6)]) (c_X10_outcomeOf (g_X10_leading (g_X10_reasonOf (zU M 0 0 0) n oz r).2 n (g_X10_outcomeOf (g_X10_reasonOf (zU M 0 0 0) n oz r).2 oz 0 7)).2 (zGp gq) oz 0 6 (((congrFun (fr_X10_leading (g_X10_reasonOf (zU M 0 0 0) n oz r).2 n (g_X10_outcomeOf (g_X10_reasonOf (zU M 0 0 0) n oz r).2 oz 0 7) 1 (by decide)) 9).trans (congrFun (fr_X10_reasonOf (zU M 0 0 0) n oz r 1 (by decide)) 9)).trans hoz) h12 (zOz hoz (e_X10_reasonOf (zU M 0 0 0) n oz r h9 (Int32.not_lt.mpr (by assumption))).2.1) (by decide)) k_X10_outcomeOf _ _ rfl rfl rfl (zIn (w := 6095) (by decide +kernel) rfl) (by decide +kernel) (by decide +kernel) rfl (Nat.le_of_ble_eq_true rfl) rfl ?_
          refine zT.run [(.aload_n 0, 0, 0, 0), (.getfield 35, 8, 11, 5160), (.iload_n 1, 0, 0, 0)] (pe := 101) (ls' := [some (.ref 0), some (.int (nI r)), some (.int d), some (.int (g_X10_reasonOf (zU M 0 0 0) n oz r).1), some (.int (g_X10_leading (g_X10_reasonOf (zU M 0 0 0) n oz r).2 n (g_X10_outcomeOf (g_X10_reasonOf (zU M 0 0 0) n oz r).2 oz 0 7)).1)]) (st' := [.int (nI r), .ref 20, .int (g_X10_outcomeOf (g_X10_leading (g_X10_reasonOf (zU M 0 0 0) n oz r).2 n (g_X10_outcomeOf (g_X10_reasonOf (zU M 0 0 0) n oz r).2 oz 0 7)).2 oz 0 6)]) (M' := (g_X10_leading (g_X10_reasonOf (zU M 0 0 0) n oz r).2 n (g_X10_outcomeOf (g_X10_reasonOf (zU M 0 0 0) n oz r).2 oz 0 7)).2) (by decide +kernel) rfl ?_
          refine zT.iald (n := 9) (k := r) rfl rfl (by omega) (by decide) (by decide +kernel) ?_
          refine zT.run [(.isub, 0, 0, 0)] (pe := 103) (ls' := [some (.ref 0), some (.int (nI r)), some (.int d), some (.int (g_X10_reasonOf (zU M 0 0 0) n oz r).1), some (.int (g_X10_leading (g_X10_reasonOf (zU M 0 0 0) n oz r).2 n (g_X10_outcomeOf (g_X10_reasonOf (zU M 0 0 0) n oz r).2 oz 0 7)).1)]) (st' := [.int ((g_X10_outcomeOf (g_X10_leading (g_X10_reasonOf (zU M 0 0 0) n oz r).2 n (g_X10_outcomeOf (g_X10_reasonOf (zU M 0 0 0) n oz r).2 oz 0 7)).2 oz 0 6) - ((g_X10_leading (g_X10_reasonOf (zU M 0 0 0) n oz r).2 n (g_X10_outcomeOf (g_X10_reasonOf (zU M 0 0 0) n oz r).2 oz 0 7)).2 20 r))]) (M' := (g_X10_leading (g_X10_reasonOf (zU M 0 0 0) n oz r).2 n (g_X10_outcomeOf (g_X10_reasonOf (zU M 0 0 0) n oz r).2 oz 0 7)).2) (by decide +kernel) rfl ?_
          exact zT.iret (ty := Jvm.ClassFile.FieldType.int) (by simp only [g_X10_why, if_neg c1, if_pos c2, if_neg c3, if_pos c4]; try rfl) (by simp only [g_X10_why, if_neg c1, if_pos c2, if_neg c3, if_pos c4]; try rfl) rfl rfl (by decide +kernel)
        · skip
          refine zT.look (tgt := 104) (off := 45) (dflt := 45) (ps := #[(6, 25), (7, 30)]) (len := 25) (by decide +kernel) (by decide) (by simp only [Op.lookupswitch.offset_cons, Op.lookupswitch.offset_nil]; rw [if_neg (fun e => zNe (v := 6) rfl c3 e.symm), if_neg (fun e => zNe (v := 7) rfl c4 e.symm)]) (by decide) ?_
          refine zT.run [(.iload 4, 0, 0, 0), (.iconst (-1), 0, 0, 0)] (pe := 107) (ls' := [some (.ref 0), some (.int (nI r)), some (.int d), some (.int (g_X10_reasonOf (zU M 0 0 0) n oz r).1), some (.int (g_X10_leading (g_X10_reasonOf (zU M 0 0 0) n oz r).2 n (g_X10_outcomeOf (g_X10_reasonOf (zU M 0 0 0) n oz r).2 oz 0 7)).1)]) (st' := [.int (-1), .int (g_X10_leading (g_X10_reasonOf (zU M 0 0 0) n oz r).2 n (g_X10_outcomeOf (g_X10_reasonOf (zU M 0 0 0) n oz r).2 oz 0 7)).1]) (M' := (g_X10_leading (g_X10_reasonOf (zU M 0 0 0) n oz r).2 n (g_X10_outcomeOf (g_X10_reasonOf (zU M 0 0 0) n oz r).2 oz 0 7)).2) (by decide +kernel) rfl ?_
          refine zT.cne (tgt := 117) (off := 10) (by decide +kernel) (by decide) (fun (c5 : ¬ (g_X10_leading (g_X10_reasonOf (zU M 0 0 0) n oz r).2 n (g_X10_outcomeOf (g_X10_reasonOf (zU M 0 0 0) n oz r).2 oz 0 7)).1 = (-1)) => ?_) (fun (c5 : (g_X10_leading (g_X10_reasonOf (zU M 0 0 0) n oz r).2 n (g_X10_outcomeOf (g_X10_reasonOf (zU M 0 0 0) n oz r).2 oz 0 7)).1 = (-1)) => ?_)
          · skip
            refine zT.run [(.iload 4, 0, 0, 0)] (pe := 119) (ls' := [some (.ref 0), some (.int (nI r)), some (.int d), some (.int (g_X10_reasonOf (zU M 0 0 0) n oz r).1), some (.int (g_X10_leading (g_X10_reasonOf (zU M 0 0 0) n oz r).2 n (g_X10_outcomeOf (g_X10_reasonOf (zU M 0 0 0) n oz r).2 oz 0 7)).1)]) (st' := [.int (g_X10_leading (g_X10_reasonOf (zU M 0 0 0) n oz r).2 n (g_X10_outcomeOf (g_X10_reasonOf (zU M 0 0 0) n oz r).2 oz 0 7)).1]) (M' := (g_X10_leading (g_X10_reasonOf (zU M 0 0 0) n oz r).2 n (g_X10_outcomeOf (g_X10_reasonOf (zU M 0 0 0) n oz r).2 oz 0 7)).2) (by decide +kernel) rfl ?_
            exact zT.iret (ty := Jvm.ClassFile.FieldType.int) (by simp only [g_X10_why, if_neg c1, if_pos c2, if_neg c3, if_neg c4, if_neg c5]; try rfl) (by simp only [g_X10_why, if_neg c1, if_pos c2, if_neg c3, if_neg c4, if_neg c5]; try rfl) rfl rfl (by decide +kernel)
          · skip
            refine zT.run [(.aload_n 0, 0, 0, 0)] (pe := 111) (ls' := [some (.ref 0), some (.int (nI r)), some (.int d), some (.int (g_X10_reasonOf (zU M 0 0 0) n oz r).1), some (.int (g_X10_leading (g_X10_reasonOf (zU M 0 0 0) n oz r).2 n (g_X10_outcomeOf (g_X10_reasonOf (zU M 0 0 0) n oz r).2 oz 0 7)).1)]) (st' := [.ref 0]) (M' := (g_X10_leading (g_X10_reasonOf (zU M 0 0 0) n oz r).2 n (g_X10_outcomeOf (g_X10_reasonOf (zU M 0 0 0) n oz r).2 oz 0 7)).2) (by decide +kernel) rfl ?_
            refine zT.cV_own (o := 0) (idx := 344) (av := []) (rv := (some (.int (g_X10_firstOfMost (g_X10_leading (g_X10_reasonOf (zU M 0 0 0) n oz r).2 n (g_X10_outcomeOf (g_X10_reasonOf (zU M 0 0 0) n oz r).2 oz 0 7)).2 n)))) (st := []) (S1 := [.int (g_X10_firstOfMost (g_X10_leading (g_X10_reasonOf (zU M 0 0 0) n oz r).2 n (g_X10_outcomeOf (g_X10_reasonOf (zU M 0 0 0) n oz r).2 oz 0 7)).2 n)]) (c_X10_firstOfMost (g_X10_leading (g_X10_reasonOf (zU M 0 0 0) n oz r).2 n (g_X10_outcomeOf (g_X10_reasonOf (zU M 0 0 0) n oz r).2 oz 0 7)).2 (zGp gq) n (((congrFun (fr_X10_leading (g_X10_reasonOf (zU M 0 0 0) n oz r).2 n (g_X10_outcomeOf (g_X10_reasonOf (zU M 0 0 0) n oz r).2 oz 0 7) 1 (by decide)) 0).trans (congrFun (fr_X10_reasonOf (zU M 0 0 0) n oz r 1 (by decide)) 0)).trans hn) h9 (e_first (g_X10_reasonOf (zU M 0 0 0) n oz r).2 n _ h9 (e_X10_reasonOf (zU M 0 0 0) n oz r h9 (Int32.not_lt.mpr (by assumption))).1 ⟨r, h_r, (by rw [zOnR (fr_X10_reasonOf (zU M 0 0 0) n oz r 1 (by decide))]; exact (e_X10_reasonOf (zU M 0 0 0) n oz r h9 (Int32.not_lt.mpr (by assumption))).2.2)⟩)) k_X10_firstOfMost _ _ rfl rfl rfl (zIn (w := 7088) (by decide +kernel) rfl) (by decide +kernel) (by decide +kernel) rfl (Nat.le_of_ble_eq_true rfl) rfl ?_
            refine zT.run [(.goto 5, 0, 0, 0)] (pe := 119) (ls' := [some (.ref 0), some (.int (nI r)), some (.int d), some (.int (g_X10_reasonOf (zU M 0 0 0) n oz r).1), some (.int (g_X10_leading (g_X10_reasonOf (zU M 0 0 0) n oz r).2 n (g_X10_outcomeOf (g_X10_reasonOf (zU M 0 0 0) n oz r).2 oz 0 7)).1)]) (st' := [.int (g_X10_firstOfMost (g_X10_leading (g_X10_reasonOf (zU M 0 0 0) n oz r).2 n (g_X10_outcomeOf (g_X10_reasonOf (zU M 0 0 0) n oz r).2 oz 0 7)).2 n)]) (M' := (g_X10_leading (g_X10_reasonOf (zU M 0 0 0) n oz r).2 n (g_X10_outcomeOf (g_X10_reasonOf (zU M 0 0 0) n oz r).2 oz 0 7)).2) (by decide +kernel) rfl ?_
            exact zT.iret (ty := Jvm.ClassFile.FieldType.int) (by simp only [g_X10_why, if_neg c1, if_pos c2, if_neg c3, if_neg c4, if_pos c5]; try rfl) (by simp only [g_X10_why, if_neg c1, if_pos c2, if_neg c3, if_neg c4, if_pos c5]; try rfl) rfl rfl (by decide +kernel)
    · skip
      refine zT.run [(.iconst (-1), 0, 0, 0)] (pe := 44) (ls' := [some (.ref 0), some (.int (nI r)), some (.int d), some (.int (g_X10_reasonOf (zU M 0 0 0) n oz r).1), none]) (st' := [.int (-1)]) (M' := (g_X10_reasonOf (zU M 0 0 0) n oz r).2) (by decide +kernel) rfl ?_
      exact zT.iret (ty := Jvm.ClassFile.FieldType.int) (by simp only [g_X10_why, if_neg c1, if_neg c2]; try rfl) (by simp only [g_X10_why, if_neg c1, if_neg c2]; try rfl) rfl rfl (by decide +kernel)
  · skip
    refine zT.run [(.iload_n 3, 0, 0, 0)] (pe := 37) (ls' := [some (.ref 0), some (.int (nI r)), some (.int d), some (.int (g_X10_reasonOf (zU M 0 0 0) n oz r).1), none]) (st' := [.int (g_X10_reasonOf (zU M 0 0 0) n oz r).1]) (M' := (g_X10_reasonOf (zU M 0 0 0) n oz r).2) (by decide +kernel) rfl ?_
    exact zT.iret (ty := Jvm.ClassFile.FieldType.int) (by simp only [g_X10_why, if_pos c1]; try rfl) (by simp only [g_X10_why, if_pos c1]; try rfl) rfl rfl (by decide +kernel)
theorem k_X10_why : zCal yy_X10_why 2 := ⟨⟨⟨⟨zIn (w := 7083) (by decide +kernel) rfl, zIn (w := 1012) (by decide +kernel) rfl⟩, by decide +kernel⟩, by decide +kernel⟩, ⟨zIn (w := 7081) (by decide +kernel) rfl, zIn (w := 7082) (by decide +kernel) rfl⟩⟩
