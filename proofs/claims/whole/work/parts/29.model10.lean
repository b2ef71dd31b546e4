noncomputable abbrev yy_X10_canWin : zY := (yX10_canWin, cX10_canWin, 4, (some Jvm.ClassFile.FieldType.boolean), 3, 68)
noncomputable def l_X10_canWin_31 (M : zM) (gq : Nat → Nat) (pc : Nat) (n : Nat) (r : Nat) (i1 : Nat) (s1 : zM) : zM := (zU s1 20 r ((s1 20 r) + (if (if (g_X10_isOnRoll s1 (nI i1)) = 0 then (0 : Int32) else (if (g_X10_of s1 i1 6) = 1 then (if (g_X10_isReached s1 i1) = 0 then (0 : Int32) else (1 : Int32)) else (0 : Int32))) = 0 then (0 : Int32) else (if (g_X10_spoiling s1 i1 r) = 0 then (1 : Int32) else (0 : Int32)))))
theorem fr_l_X10_canWin_31 (M : zM) (gq : Nat → Nat) (pc : Nat) (n : Nat) (r : Nat) (o : Nat) (ho : o ≠ 20) : ∀ (k : Nat) (s : zM), (zIt (l_X10_canWin_31 M gq pc n r) k s) o = s o := by
  intro k
  induction k with
  | zero => intro s; rfl
  | succ k ih =>
    intro s
    rw [← ih s]
    show (l_X10_canWin_31 M gq pc n r k (zIt (l_X10_canWin_31 M gq pc n r) k s)) o = _
    generalize zIt (l_X10_canWin_31 M gq pc n r) k s = t
    simp only [l_X10_canWin_31]
    (repeat' split) <;> simp only [zU_ne ho]
noncomputable def r_X10_canWin_31 (M : zM) (gq : Nat → Nat) (pc : Nat) (n : Nat) (r : Nat) : zM := (zIt (l_X10_canWin_31 M gq pc n r) n (g_X10_findVotes (zU M 0 0 0) n))
theorem e_canWin (M : zM) (gq : Nat → Nat) (pc n r : Nat) (h9 : n ≤ 9) : zVo n (r_X10_canWin_31 M gq pc n r) := by
  have h : ∀ r', r' < n → ∃ v, v ≤ n + n ∧ r_X10_canWin_31 M gq pc n r 20 r' = nI v := by
    refine zIt_inv (P := fun (i : Nat) (s : zM) => ∀ r', r' < n → ∃ v, v ≤ n + i ∧ s 20 r' = nI v) n _ (e2_X10_findVotes _ n h9) ?_
    intro i hi s h r' hr
    obtain ⟨v, a, b⟩ := h r' hr
    have hX : ∀ X : Int32, (X = 0 ∨ X = 1) → ∃ v, v ≤ n + (i + 1) ∧ zU s 20 r (s 20 r + X) 20 r' = nI v := by
      intro X hX
      by_cases e : r' = r
      · subst e
        rw [zU_eq]
        simp only [if_true]
        rw [b]
        rcases hX with rfl | rfl
        · exact ⟨v, by omega, by rw [show (0 : Int32) = nI 0 from rfl, nI_add]; rfl⟩
        · exact ⟨v + 1, by omega, by rw [show (1 : Int32) = nI 1 from rfl, nI_add]⟩
      · rw [zU_k e]
        exact ⟨v, by omega, b⟩
    simp only [l_X10_canWin_31]
    refine hX _ ?_
    (repeat' split) <;> first | exact Or.inl rfl | exact Or.inr rfl
  intro r' hr
  obtain ⟨v, a, b⟩ := h r' hr
  exact ⟨v, by omega, b⟩
noncomputable def g_X10_canWin (M : zM) (gq : Nat → Nat) (pc : Nat) (n : Nat) (r : Nat) : Int32 × zM := (if (M 1 4) = 2 then (if (g_X10_chosenBy (r_X10_canWin_31 M gq pc n r) n ((r_X10_canWin_31 M gq pc n r) 1 1) ((r_X10_canWin_31 M gq pc n r) 1 2)).1 = (nI r) then (1, (g_X10_chosenBy (r_X10_canWin_31 M gq pc n r) n ((r_X10_canWin_31 M gq pc n r) 1 1) ((r_X10_canWin_31 M gq pc n r) 1 2)).2) else (0, (g_X10_chosenBy (r_X10_canWin_31 M gq pc n r) n ((r_X10_canWin_31 M gq pc n r) 1 1) ((r_X10_canWin_31 M gq pc n r) 1 2)).2)) else (0, (zU M 0 0 0)))
set_option maxRecDepth 100000 in
theorem c_X10_canWin (M : zM) (gq : Nat → Nat) (pc : Nat) (n : Nat) (r : Nat) (hM : M 0 3 = nI pc) (hpc : pc ≤ 10) (hq : zPm gq) (hn : M 1 0 = nI n) (h9 : n ≤ 9) (hv : zHv M) (hd : zHd M) (h_r : r < n) : zC yy_X10_canWin 0 0 [.ref 0, .int (nI r)] (sh_Model (zGp gq)) M (some (.int (g_X10_canWin M gq pc n r).1)) (sh_Model (zGp gq)) (g_X10_canWin M gq pc n r).2 := by
  refine zC.of (by decide +kernel) rfl (Nat.le_of_ble_eq_true rfl) ?_
  refine zT.run [(.aload_n 0, 0, 0, 0), (.iconst 0, 0, 0, 0), (.putfield 61, 8, 0, 5149), (.aload_n 0, 0, 0, 0), (.iload_n 1, 0, 0, 0)] (pe := 7) (ls' := [some (.ref 0), some (.int (nI r)), none, none]) (st' := [.int (nI r), .ref 0]) (M' := (zU M 0 0 0)) (by decide +kernel) rfl ?_
  refine zT.cV_own (o := 0) (idx := 160) (av := [.int (nI r)]) (rv := (some (.int 0))) (st := []) (S1 := [.int 0]) (c_X10_noReplica_ok (zU M 0 0 0) (zGp gq) n r hn h9 h_r) k_X10_noReplica _ _ rfl rfl rfl (zIn (w := 5216) (by decide +kernel) rfl) (by decide +kernel) (by decide +kernel) rfl (Nat.le_of_ble_eq_true rfl) rfl ?_
  refine zT.zne (tgt := 23) (off := 13) (by decide +kernel) (by decide) (fun c => absurd (by decide) c) (fun _ => ?_)
  refine zT.run [(.aload_n 0, 0, 0, 0), (.getfield 9, 8, 1, 5150), (.iconst 4, 0, 0, 0)] (pe := 18) (ls' := [some (.ref 0), some (.int (nI r)), none, none]) (st' := [.int 4, .ref 1]) (M' := (zU M 0 0 0)) (by decide +kernel) rfl ?_
  refine zT.iald (n := 187) (k := 4) rfl rfl (by decide) (by decide) (by decide +kernel) ?_
  refine zT.run [(.iconst 2, 0, 0, 0)] (pe := 20) (ls' := [some (.ref 0), some (.int (nI r)), none, none]) (st' := [.int 2, .int (M 1 4)]) (M' := (zU M 0 0 0)) (by decide +kernel) rfl ?_
  refine zT.ceq (tgt := 25) (off := 5) (by decide +kernel) (by decide) (fun (c1 : (M 1 4) = 2) => ?_) (fun (c1 : ¬ (M 1 4) = 2) => ?_)
  · skip
    refine zT.run [(.aload_n 0, 0, 0, 0)] (pe := 26) (ls' := [some (.ref 0), some (.int (nI r)), none, none]) (st' := [.ref 0]) (M' := (zU M 0 0 0)) (by decide +kernel) rfl ?_
    refine zT.cV_all (o := 0) (idx := 118) (av := []) (rv := none) (st := []) (S1 := []) (c_X10_findVotes (zU M 0 0 0) (zGp gq) n hn h9 hv) k_X10_findVotes _ _ rfl rfl rfl (zIn (w := 6071) (by decide +kernel) rfl) (by decide +kernel) (by decide +kernel) rfl (Nat.le_of_ble_eq_true rfl) rfl ?_
    refine zT.run [(.iconst 0, 0, 0, 0), (.istore_n 2, 0, 0, 0)] (pe := 31) (ls' := [some (.ref 0), some (.int (nI r)), some (.int 0), none]) (st' := []) (M' := (g_X10_findVotes (zU M 0 0 0) n)) (by decide +kernel) rfl ?_
    refine zT.loop (l_X10_canWin_31 M gq pc n r) (fun (i : Nat) (s : zM) => (31, [some (.ref 0), some (.int (nI r)), some (.int (nI i)), none], [], (sh_Model (zGp gq)), s)) n (g_X10_findVotes (zU M 0 0 0) n) (fun i1 hi1 k1 => ?_) ?_
    · skip
      generalize hs1 : zIt (l_X10_canWin_31 M gq pc n r) i1 (g_X10_findVotes (zU M 0 0 0) n) = s1 at k1 ⊢
      have hm1 : ∀ o : Nat, (o ≠ 20) → s1 o = (g_X10_findVotes (zU M 0 0 0) n) o := fun o ho => by rw [← hs1]; exact fr_l_X10_canWin_31 M gq pc n r o ho i1 (g_X10_findVotes (zU M 0 0 0) n)
      have hl1 : ∀ o : Nat, o < 10 → s1 1 o = (g_X10_findVotes (zU M 0 0 0) n) 1 o := fun o _ => congrFun (hm1 1 (by decide)) o
      show zT _ _ _ _ (31, [some (.ref 0), some (.int (nI r)), some (.int (nI i1)), none], [], (sh_Model (zGp gq)), s1)
      refine zT.run [(.iload_n 2, 0, 0, 0), (.aload_n 0, 0, 0, 0), (.getfield 9, 8, 1, 5150), (.iconst 0, 0, 0, 0)] (pe := 37) (ls' := [some (.ref 0), some (.int (nI r)), some (.int (nI i1)), none]) (st' := [.int 0, .ref 1, .int (nI i1)]) (M' := s1) (by decide +kernel) rfl ?_
      refine zT.iald (n := 187) (k := 0) rfl rfl (by decide) (by decide) (by decide +kernel) ?_
      refine zT.cge (tgt := 107) (off := 69) (by decide +kernel) (by decide) (fun c => absurd c (zGeN (n := n) (((hl1 0 (by decide)).trans (congrFun (fr_X10_findVotes (zU M 0 0 0) n 1 (by decide)) 0)).trans hn) (by omega) (by omega))) (fun _ => ?_)
      refine zT.run [(.aload_n 0, 0, 0, 0), (.iload_n 2, 0, 0, 0)] (pe := 43) (ls' := [some (.ref 0), some (.int (nI r)), some (.int (nI i1)), none]) (st' := [.int (nI i1), .ref 0]) (M' := s1) (by decide +kernel) rfl ?_
      refine zT.cV_own (o := 0) (idx := 106) (av := [.int (nI i1)]) (rv := (some (.int (g_X10_isOnRoll s1 (nI i1))))) (st := []) (S1 := [.int (g_X10_isOnRoll s1 (nI i1))]) (c_X10_isOnRoll s1 (zGp gq) (nI i1)) k_X10_isOnRoll _ _ rfl rfl rfl (zIn (w := 5145) (by decide +kernel) rfl) (by decide +kernel) (by decide +kernel) rfl (Nat.le_of_ble_eq_true rfl) rfl ?_
      refine zT.join (73, [some (.ref 0), some (.int (nI r)), some (.int (nI i1)), none], [.int (if (g_X10_isOnRoll s1 (nI i1)) = 0 then (0 : Int32) else (if (g_X10_of s1 i1 6) = 1 then (if (g_X10_isReached s1 i1) = 0 then (0 : Int32) else (1 : Int32)) else (0 : Int32)))], (sh_Model (zGp gq)), s1) ?_ ?_
      · refine zT.zeq (tgt := 72) (off := 26) (by decide +kernel) (by decide) (fun (c2 : (g_X10_isOnRoll s1 (nI i1)) = 0) => ?_) (fun (c2 : ¬ (g_X10_isOnRoll s1 (nI i1)) = 0) => ?_)
        · skip
          refine zT.run [(.iconst 0, 0, 0, 0)] (pe := 73) (ls' := [some (.ref 0), some (.int (nI r)), some (.int (nI i1)), none]) (st' := [.int 0]) (M' := s1) (by decide +kernel) rfl ?_
          exact zT.here (by simp only [if_pos c2]; try rfl)
        · skip
          refine zT.run [(.aload_n 0, 0, 0, 0), (.iload_n 2, 0, 0, 0), (.bipush 6, 0, 0, 0)] (pe := 53) (ls' := [some (.ref 0), some (.int (nI r)), some (.int (nI i1)), none]) (st' := [.int 6, .int (nI i1), .ref 0]) (M' := s1) (by decide +kernel) rfl ?_
          refine zT.cV_own (o := 0) (idx := 80) (av := [.int (nI i1), .int (nI 6)]) (rv := (some (.int (g_X10_of s1 i1 6)))) (st := []) (S1 := [.int (g_X10_of s1 i1 6)]) (c_X10_of s1 (zGp gq) i1 6 (by omega) (by decide)) k_X10_of _ _ rfl rfl rfl (zIn (w := 5108) (by decide +kernel) rfl) (by decide +kernel) (by decide +kernel) rfl (Nat.le_of_ble_eq_true rfl) rfl ?_
          refine zT.run [(.iconst 1, 0, 0, 0)] (pe := 57) (ls' := [some (.ref 0), some (.int (nI r)), some (.int (nI i1)), none]) (st' := [.int 1, .int (g_X10_of s1 i1 6)]) (M' := s1) (by decide +kernel) rfl ?_
          refine zT.cne (tgt := 72) (off := 15) (by decide +kernel) (by decide) (fun (c3 : ¬ (g_X10_of s1 i1 6) = 1) => ?_) (fun (c3 : (g_X10_of s1 i1 6) = 1) => ?_)
          · skip
            refine zT.run [(.iconst 0, 0, 0, 0)] (pe := 73) (ls' := [some (.ref 0), some (.int (nI r)), some (.int (nI i1)), none]) (st' := [.int 0]) (M' := s1) (by decide +kernel) rfl ?_
            exact zT.here (by simp only [if_neg c2, if_neg c3]; try rfl)
          · skip
            refine zT.run [(.aload_n 0, 0, 0, 0), (.iload_n 2, 0, 0, 0)] (pe := 62) (ls' := [some (.ref 0), some (.int (nI r)), some (.int (nI i1)), none]) (st' := [.int (nI i1), .ref 0]) (M' := s1) (by decide +kernel) rfl ?_
            refine zT.cV_own (o := 0) (idx := 133) (av := [.int (nI i1)]) (rv := (some (.int (g_X10_isReached s1 i1)))) (st := []) (S1 := [.int (g_X10_isReached s1 i1)]) (c_X10_isReached s1 (zGp gq) i1 (zHd.of2 ((hl1 4 (by decide)).trans (congrFun (fr_X10_findVotes (zU M 0 0 0) n 1 (by decide)) 4)) ((hl1 6 (by decide)).trans (congrFun (fr_X10_findVotes (zU M 0 0 0) n 1 (by decide)) 6)) hd) (by omega)) k_X10_isReached _ _ rfl rfl rfl (zIn (w := 6015) (by decide +kernel) rfl) (by decide +kernel) (by decide +kernel) rfl (Nat.le_of_ble_eq_true rfl) rfl ?_
            refine zT.zeq (tgt := 72) (off := 7) (by decide +kernel) (by decide) (fun (c4 : (g_X10_isReached s1 i1) = 0) => ?_) (fun (c4 : ¬ (g_X10_isReached s1 i1) = 0) => ?_)
            · skip
              refine zT.run [(.iconst 0, 0, 0, 0)] (pe := 73) (ls' := [some (.ref 0), some (.int (nI r)), some (.int (nI i1)), none]) (st' := [.int 0]) (M' := s1) (by decide +kernel) rfl ?_
              exact zT.here (by simp only [if_neg c2, if_pos c3, if_pos c4]; try rfl)
            · skip
              refine zT.run [(.iconst 1, 0, 0, 0), (.goto 4, 0, 0, 0)] (pe := 73) (ls' := [some (.ref 0), some (.int (nI r)), some (.int (nI i1)), none]) (st' := [.int 1]) (M' := s1) (by decide +kernel) rfl ?_
              exact zT.here (by simp only [if_neg c2, if_pos c3, if_neg c4]; try rfl)
      · skip
        refine zT.run [(.istore_n 3, 0, 0, 0), (.aload_n 0, 0, 0, 0), (.getfield 35, 8, 11, 5160), (.iload_n 1, 0, 0, 0), (.dup2, 0, 0, 0)] (pe := 80) (ls' := [some (.ref 0), some (.int (nI r)), some (.int (nI i1)), some (.int (if (g_X10_isOnRoll s1 (nI i1)) = 0 then (0 : Int32) else (if (g_X10_of s1 i1 6) = 1 then (if (g_X10_isReached s1 i1) = 0 then (0 : Int32) else (1 : Int32)) else (0 : Int32))))]) (st' := [.int (nI r), .ref 20, .int (nI r), .ref 20]) (M' := s1) (by decide +kernel) rfl ?_
        refine zT.iald (n := 9) (k := r) rfl rfl (by omega) (by decide) (by decide +kernel) ?_
        refine zT.run [(.iload_n 3, 0, 0, 0)] (pe := 82) (ls' := [some (.ref 0), some (.int (nI r)), some (.int (nI i1)), some (.int (if (g_X10_isOnRoll s1 (nI i1)) = 0 then (0 : Int32) else (if (g_X10_of s1 i1 6) = 1 then (if (g_X10_isReached s1 i1) = 0 then (0 : Int32) else (1 : Int32)) else (0 : Int32))))]) (st' := [.int (if (g_X10_isOnRoll s1 (nI i1)) = 0 then (0 : Int32) else (if (g_X10_of s1 i1 6) = 1 then (if (g_X10_isReached s1 i1) = 0 then (0 : Int32) else (1 : Int32)) else (0 : Int32))), .int (s1 20 r), .int (nI r), .ref 20]) (M' := s1) (by decide +kernel) rfl ?_
        refine zT.join (99, [some (.ref 0), some (.int (nI r)), some (.int (nI i1)), some (.int (if (g_X10_isOnRoll s1 (nI i1)) = 0 then (0 : Int32) else (if (g_X10_of s1 i1 6) = 1 then (if (g_X10_isReached s1 i1) = 0 then (0 : Int32) else (1 : Int32)) else (0 : Int32))))], [.int (if (if (g_X10_isOnRoll s1 (nI i1)) = 0 then (0 : Int32) else (if (g_X10_of s1 i1 6) = 1 then (if (g_X10_isReached s1 i1) = 0 then (0 : Int32) else (1 : Int32)) else (0 : Int32))) = 0 then (0 : Int32) else (if (g_X10_spoiling s1 i1 r) = 0 then (1 : Int32) else (0 : Int32))), .int (s1 20 r), .int (nI r), .ref 20], (sh_Model (zGp gq)), s1) ?_ ?_
        · refine zT.zeq (tgt := 98) (off := 16) (by decide +kernel) (by decide) (fun (c5 : (if (g_X10_isOnRoll s1 (nI i1)) = 0 then (0 : Int32) else (if (g_X10_of s1 i1 6) = 1 then (if (g_X10_isReached s1 i1) = 0 then (0 : Int32) else (1 : Int32)) else (0 : Int32))) = 0) => ?_) (fun (c5 : ¬ (if (g_X10_isOnRoll s1 (nI i1)) = 0 then (0 : Int32) else (if (g_X10_of s1 i1 6) = 1 then (if (g_X10_isReached s1 i1) = 0 then (0 : Int32) else (1 : Int32)) else (0 : Int32))) = 0) => ?_)
          · skip
            refine zT.run [(.iconst 0, 0, 0, 0)] (pe := 99) (ls' := [some (.ref 0), some (.int (nI r)), some (.int (nI i1)), some (.int (if (g_X10_isOnRoll s1 (nI i1)) = 0 then (0 : Int32) else (if (g_X10_of s1 i1 6) = 1 then (if (g_X10_isReached s1 i1) = 0 then (0 : Int32) else (1 : Int32)) else (0 : Int32))))]) (st' := [.int 0, .int (s1 20 r), .int (nI r), .ref 20]) (M' := s1) (by decide +kernel) rfl ?_
            exact zT.here (by simp only [if_pos c5]; try rfl)
          · skip
            refine zT.run [(.aload_n 0, 0, 0, 0), (.iload_n 2, 0, 0, 0), (.iload_n 1, 0, 0, 0)] (pe := 88) (ls' := [some (.ref 0), some (.int (nI r)), some (.int (nI i1)), some (.int (if (g_X10_isOnRoll s1 (nI i1)) = 0 then (0 : Int32) else (if (g_X10_of s1 i1 6) = 1 then (if (g_X10_isReached s1 i1) = 0 then (0 : Int32) else (1 : Int32)) else (0 : Int32))))]) (st' := [.int (nI r), .int (nI i1), .ref 0, .int (s1 20 r), .int (nI r), .ref 20]) (M' := s1) (by decide +kernel) rfl ?_
            refine zT.cV_own (o := 0) (idx := 140) (av := [.int (nI i1), .int (nI r)]) (rv := (some (.int (g_X10_spoiling s1 i1 r)))) (st := [.int (s1 20 r), .int (nI r), .ref 20]) (S1 := [.int (g_X10_spoiling s1 i1 r), .int (s1 20 r), .int (nI r), .ref 20]) (c_X10_spoiling s1 (zGp gq) i1 r (by omega) (by omega)) k_X10_spoiling _ _ rfl rfl rfl (zIn (w := 6051) (by decide +kernel) rfl) (by decide +kernel) (by decide +kernel) rfl (Nat.le_of_ble_eq_true rfl) rfl ?_
            refine zT.zne (tgt := 98) (off := 7) (by decide +kernel) (by decide) (fun (c6 : ¬ (g_X10_spoiling s1 i1 r) = 0) => ?_) (fun (c6 : (g_X10_spoiling s1 i1 r) = 0) => ?_)
            · skip
              refine zT.run [(.iconst 0, 0, 0, 0)] (pe := 99) (ls' := [some (.ref 0), some (.int (nI r)), some (.int (nI i1)), some (.int (if (g_X10_isOnRoll s1 (nI i1)) = 0 then (0 : Int32) else (if (g_X10_of s1 i1 6) = 1 then (if (g_X10_isReached s1 i1) = 0 then (0 : Int32) else (1 : Int32)) else (0 : Int32))))]) (st' := [.int 0, .int (s1 20 r), .int (nI r), .ref 20]) (M' := s1) (by decide +kernel) rfl ?_
              exact zT.here (by simp only [if_neg c5, if_neg c6]; try rfl)
            · skip
              refine zT.run [(.iconst 1, 0, 0, 0), (.goto 4, 0, 0, 0)] (pe := 99) (ls' := [some (.ref 0), some (.int (nI r)), some (.int (nI i1)), some (.int (if (g_X10_isOnRoll s1 (nI i1)) = 0 then (0 : Int32) else (if (g_X10_of s1 i1 6) = 1 then (if (g_X10_isReached s1 i1) = 0 then (0 : Int32) else (1 : Int32)) else (0 : Int32))))]) (st' := [.int 1, .int (s1 20 r), .int (nI r), .ref 20]) (M' := s1) (by decide +kernel) rfl ?_
              exact zT.here (by simp only [if_neg c5, if_pos c6]; try rfl)
        · skip
          refine zT.run [(.iadd, 0, 0, 0)] (pe := 100) (ls' := [some (.ref 0), some (.int (nI r)), some (.int (nI i1)), some (.int (if (g_X10_isOnRoll s1 (nI i1)) = 0 then (0 : Int32) else (if (g_X10_of s1 i1 6) = 1 then (if (g_X10_isReached s1 i1) = 0 then (0 : Int32) else (1 : Int32)) else (0 : Int32))))]) (st' := [.int ((s1 20 r) + (if (if (g_X10_isOnRoll s1 (nI i1)) = 0 then (0 : Int32) else (if (g_X10_of s1 i1 6) = 1 then (if (g_X10_isReached s1 i1) = 0 then (0 : Int32) else (1 : Int32)) else (0 : Int32))) = 0 then (0 : Int32) else (if (g_X10_spoiling s1 i1 r) = 0 then (1 : Int32) else (0 : Int32)))), .int (nI r), .ref 20]) (M' := s1) (by decide +kernel) rfl ?_
          refine zT.iast (n := 9) (k := r) rfl rfl (by omega) (by decide) (by decide +kernel) ?_
          refine zT.run [(.iinc 2 1, 0, 0, 0), (.goto (-73), 0, 0, 0)] (pe := 31) (ls' := [some (.ref 0), some (.int (nI r)), some (.int ((nI i1) + 1)), some (.int (if (g_X10_isOnRoll s1 (nI i1)) = 0 then (0 : Int32) else (if (g_X10_of s1 i1 6) = 1 then (if (g_X10_isReached s1 i1) = 0 then (0 : Int32) else (1 : Int32)) else (0 : Int32))))]) (st' := []) (M' := (zU s1 20 r ((s1 20 r) + (if (if (g_X10_isOnRoll s1 (nI i1)) = 0 then (0 : Int32) else (if (g_X10_of s1 i1 6) = 1 then (if (g_X10_isReached s1 i1) = 0 then (0 : Int32) else (1 : Int32)) else (0 : Int32))) = 0 then (0 : Int32) else (if (g_X10_spoiling s1 i1 r) = 0 then (1 : Int32) else (0 : Int32)))))) (by decide +kernel) rfl ?_
          refine zT.drop 3 ?_
          exact zT.eq (by simp only [l_X10_canWin_31, nI_succ, zDl]; try rfl) k1
    · skip
      show zT _ _ _ _ (31, [some (.ref 0), some (.int (nI r)), some (.int (nI n)), none], [], (sh_Model (zGp gq)), (r_X10_canWin_31 M gq pc n r))
      refine zT.run [(.iload_n 2, 0, 0, 0), (.aload_n 0, 0, 0, 0), (.getfield 9, 8, 1, 5150), (.iconst 0, 0, 0, 0)] (pe := 37) (ls' := [some (.ref 0), some (.int (nI r)), some (.int (nI n)), none]) (st' := [.int 0, .ref 1, .int (nI n)]) (M' := (r_X10_canWin_31 M gq pc n r)) (by decide +kernel) rfl ?_
      refine zT.iald (n := 187) (k := 0) rfl rfl (by decide) (by decide) (by decide +kernel) ?_
      refine zT.cge (tgt := 107) (off := 69) (by decide +kernel) (by decide) (fun _ => ?_) (fun c => absurd (zGeY (n := n) (((congrFun (fr_l_X10_canWin_31 M gq pc n r 1 (by decide) n (g_X10_findVotes (zU M 0 0 0) n)) 0).trans (congrFun (fr_X10_findVotes (zU M 0 0 0) n 1 (by decide)) 0)).trans hn)) c)
      refine zT.run [(.aload_n 0, 0, 0, 0), (.aload_n 0, 0, 0, 0), (.getfield 9, 8, 1, 5150), (.iconst 1, 0, 0, 0)] (pe := 113) (ls' := [some (.ref 0), some (.int (nI r)), some (.int (nI n)), none]) (st' := [.int 1, .ref 1, .ref 0]) (M' := (r_X10_canWin_31 M gq pc n r)) (by decide +kernel) rfl ?_
      refine zT.iald (n := 187) (k := 1) rfl rfl (by decide) (by decide) (by decide +kernel) ?_
      refine zT.run [(.aload_n 0, 0, 0, 0), (.getfield 9, 8, 1, 5150), (.iconst 2, 0, 0, 0)] (pe := 119) (ls' := [some (.ref 0), some (.int (nI r)), some (.int (nI n)), none]) (st' := [.int 2, .ref 1, .int ((r_X10_canWin_31 M gq pc n r) 1 1), .ref 0]) (M' := (r_X10_canWin_31 M gq pc n r)) (by decide +kernel) rfl ?_
      refine zT.iald (n := 187) (k := 2) rfl rfl (by decide) (by decide) (by decide +kernel) ?_
      refine zT.cV_all (o := 0) (idx := 121) (av := [.int ((r_X10_canWin_31 M gq pc n r) 1 1), .int ((r_X10_canWin_31 M gq pc n r) 1 2)]) (rv := (some (.int (g_X10_chosenBy (r_X10_canWin_31 M gq pc n r) n ((r_X10_canWin_31 M gq pc n r) 1 1) ((r_X10_canWin_31 M gq pc n r) 1 2)).1))) (st := []) (S1 := [.int (g_X10_chosenBy (r_X10_canWin_31 M gq pc n r) n ((r_X10_canWin_31 M gq pc n r) 1 1) ((r_X10_canWin_31 M gq pc n r) 1 2)).1]) (c_X10_chosenBy (r_X10_canWin_31 M gq pc n r) (zGp gq) n ((r_X10_canWin_31 M gq pc n r) 1 1) ((r_X10_canWin_31 M gq pc n r) 1 2) (((congrFun (fr_l_X10_canWin_31 M gq pc n r 1 (by decide) n (g_X10_findVotes (zU M 0 0 0) n)) 0).trans (congrFun (fr_X10_findVotes (zU M 0 0 0) n 1 (by decide)) 0)).trans hn) h9 (e_canWin M gq pc n r h9)) k_X10_chosenBy _ _ rfl rfl rfl (zIn (w := 6075) (by decide +kernel) rfl) (by decide +kernel) (by decide +kernel) rfl (Nat.le_of_ble_eq_true rfl) rfl ?_
      refine zT.run [(.iload_n 1, 0, 0, 0)] (pe := 124) (ls' := [some (.ref 0), some (.int (nI r)), some (.int (nI n)), none]) (st' := [.int (nI r), .int (g_X10_chosenBy (r_X10_canWin_31 M gq pc n r) n ((r_X10_canWin_31 M gq pc n r) 1 1) ((r_X10_canWin_31 M gq pc n r) 1 2)).1]) (M' := (g_X10_chosenBy (r_X10_canWin_31 M gq pc n r) n ((r_X10_canWin_31 M gq pc n r) 1 1) ((r_X10_canWin_31 M gq pc n r) 1 2)).2) (by decide +kernel) rfl ?_
      refine zT.cne (tgt := 131) (off := 7) (by decide +kernel) (by decide) (fun (c7 : ¬ (g_X10_chosenBy (r_X10_canWin_31 M gq pc n r) n ((r_X10_canWin_31 M gq pc n r) 1 1) ((r_X10_canWin_31 M gq pc n r) 1 2)).1 = (nI r)) => ?_) (fun (c7 : (g_X10_chosenBy (r_X10_canWin_31 M gq pc n r) n ((r_X10_canWin_31 M gq pc n r) 1 1) ((r_X10_canWin_31 M gq pc n r) 1 2)).1 = (nI r)) => ?_)
      · skip
        refine zT.run [(.iconst 0, 0, 0, 0)] (pe := 132) (ls' := [some (.ref 0), some (.int (nI r)), some (.int (nI n)), none]) (st' := [.int 0]) (M' := (g_X10_chosenBy (r_X10_canWin_31 M gq pc n r) n ((r_X10_canWin_31 M gq pc n r) 1 1) ((r_X10_canWin_31 M gq pc n r) 1 2)).2) (by decide +kernel) rfl ?_
        exact zT.iret (ty := Jvm.ClassFile.FieldType.boolean) (by simp only [g_X10_canWin, if_pos c1, if_neg c7]; try rfl) (by simp only [g_X10_canWin, if_pos c1, if_neg c7]; try rfl) rfl rfl (by decide +kernel)
      · skip
        refine zT.run [(.iconst 1, 0, 0, 0), (.goto 4, 0, 0, 0)] (pe := 132) (ls' := [some (.ref 0), some (.int (nI r)), some (.int (nI n)), none]) (st' := [.int 1]) (M' := (g_X10_chosenBy (r_X10_canWin_31 M gq pc n r) n ((r_X10_canWin_31 M gq pc n r) 1 1) ((r_X10_canWin_31 M gq pc n r) 1 2)).2) (by decide +kernel) rfl ?_
        exact zT.iret (ty := Jvm.ClassFile.FieldType.boolean) (by simp only [g_X10_canWin, if_pos c1, if_pos c7]; try rfl) (by simp only [g_X10_canWin, if_pos c1, if_pos c7]; try rfl) rfl rfl (by decide +kernel)
  · skip
    refine zT.run [(.iconst 0, 0, 0, 0)] (pe := 24) (ls' := [some (.ref 0), some (.int (nI r)), none, none]) (st' := [.int 0]) (M' := (zU M 0 0 0)) (by decide +kernel) rfl ?_
    exact zT.iret (ty := Jvm.ClassFile.FieldType.boolean) (by simp only [g_X10_canWin, if_neg c1]; try rfl) (by simp only [g_X10_canWin, if_neg c1]; try rfl) rfl rfl (by decide +kernel)
theorem k_X10_canWin : zCal yy_X10_canWin 1 := ⟨⟨⟨⟨zIn (w := 7059) (by decide +kernel) rfl, zIn (w := 1012) (by decide +kernel) rfl⟩, by decide +kernel⟩, by decide +kernel⟩, ⟨zIn (w := 7057) (by decide +kernel) rfl, zIn (w := 7058) (by decide +kernel) rfl⟩⟩
noncomputable abbrev yy_X10_reasonOf : zY := (yX10_reasonOf, cX10_reasonOf, 3, (some Jvm.ClassFile.FieldType.int), 2, 45)
noncomputable def g_X10_reasonOf (M : zM) (n : Nat) (oz : Nat) (r : Nat) : Int32 × zM := (if (M 1 9) = 0 then (1, M) else (if (g_X10_outcomeOf M oz 0 1) = (nI r) then (0, M) else (if (M 1 4) = 3 then (if (M 1 5) = (g_X10_outcomeOf M oz 0 0) then (if (g_X10_isOnRoll M (nI r)) = 0 then (3, M) else (if ((g_X10_leading (g_X10_findVotes M n) n (g_X10_outcomeOf (g_X10_findVotes M n) oz 0 7)).2 0 12) ≤ ((g_X10_leading (g_X10_findVotes M n) n (g_X10_outcomeOf (g_X10_findVotes M n) oz 0 7)).2 20 r) then (if (g_X10_leading (g_X10_findVotes M n) n (g_X10_outcomeOf (g_X10_findVotes M n) oz 0 7)).1 = (-1) then (6, (g_X10_leading (g_X10_findVotes M n) n (g_X10_outcomeOf (g_X10_findVotes M n) oz 0 7)).2) else (if (g_X10_leading (g_X10_findVotes M n) n (g_X10_outcomeOf (g_X10_findVotes M n) oz 0 7)).1 = (nI r) then (7, (g_X10_leading (g_X10_findVotes M n) n (g_X10_outcomeOf (g_X10_findVotes M n) oz 0 7)).2) else (5, (g_X10_leading (g_X10_findVotes M n) n (g_X10_outcomeOf (g_X10_findVotes M n) oz 0 7)).2))) else (4, (g_X10_leading (g_X10_findVotes M n) n (g_X10_outcomeOf (g_X10_findVotes M n) oz 0 7)).2))) else (2, M)) else (2, M))))
set_option maxRecDepth 100000 in
theorem c_X10_reasonOf (M : zM) (gp : Nat → Option Nat) (n : Nat) (oz : Nat) (r : Nat) (hn : M 1 0 = nI n) (h9 : n ≤ 9) (hv : zHv M) (hoz : M 1 9 = nI oz) (h12 : oz ≤ 12) (h_r : r < 9) : zC yy_X10_reasonOf 0 0 [.ref 0, .int (nI r)] (sh_Model gp) M (some (.int (g_X10_reasonOf M n oz r).1)) (sh_Model gp) (g_X10_reasonOf M n oz r).2 := by
  refine zC.of (by decide +kernel) rfl (Nat.le_of_ble_eq_true rfl) ?_
  refine zT.run [(.aload_n 0, 0, 0, 0), (.getfield 9, 8, 1, 5150), (.bipush 9, 0, 0, 0)] (pe := 6) (ls' := [some (.ref 0), some (.int (nI r)), none]) (st' := [.int 9, .ref 1]) (M' := M) (by decide +kernel) rfl ?_
  refine zT.iald (n := 187) (k := 9) rfl rfl (by decide) (by decide) (by decide +kernel) ?_
  refine zT.zne (tgt := 12) (off := 5) (by decide +kernel) (by decide) (fun (c1 : ¬ (M 1 9) = 0) => ?_) (fun (c1 : (M 1 9) = 0) => ?_)
  · skip
    refine zT.run [(.aload_n 0, 0, 0, 0), (.iconst 0, 0, 0, 0), (.iconst 1, 0, 0, 0)] (pe := 15) (ls' := [some (.ref 0), some (.int (nI r)), none]) (st' := [.int 1, .int 0, .ref 0]) (M' := M) (by decide +kernel) rfl ?_
    refine zT.cV_own (o := 0) (idx := 150) (av := [.int (nI 0), .int (nI 1)]) (rv := (some (.int (g_X10_outcomeOf M oz 0 1)))) (st := []) (S1 := [.int (g_X10_outcomeOf M oz 0 1)]) (c_X10_outcomeOf M gp oz 0 1 hoz h12 (zOz hoz (by assumption)) (by decide)) k_X10_outcomeOf _ _ rfl rfl rfl (zIn (w := 6095) (by decide +kernel) rfl) (by decide +kernel) (by decide +kernel) rfl (Nat.le_of_ble_eq_true rfl) rfl ?_
    refine zT.run [(.iload_n 1, 0, 0, 0)] (pe := 19) (ls' := [some (.ref 0), some (.int (nI r)), none]) (st' := [.int (nI r), .int (g_X10_outcomeOf M oz 0 1)]) (M' := M) (by decide +kernel) rfl ?_
    refine zT.cne (tgt := 24) (off := 5) (by decide +kernel) (by decide) (fun (c2 : ¬ (g_X10_outcomeOf M oz 0 1) = (nI r)) => ?_) (fun (c2 : (g_X10_outcomeOf M oz 0 1) = (nI r)) => ?_)
    · skip
      refine zT.run [(.aload_n 0, 0, 0, 0), (.getfield 9, 8, 1, 5150), (.iconst 4, 0, 0, 0)] (pe := 29) (ls' := [some (.ref 0), some (.int (nI r)), none]) (st' := [.int 4, .ref 1]) (M' := M) (by decide +kernel) rfl ?_
      refine zT.iald (n := 187) (k := 4) rfl rfl (by decide) (by decide) (by decide +kernel) ?_
      refine zT.run [(.iconst 3, 0, 0, 0)] (pe := 31) (ls' := [some (.ref 0), some (.int (nI r)), none]) (st' := [.int 3, .int (M 1 4)]) (M' := M) (by decide +kernel) rfl ?_
      refine zT.cne (tgt := 49) (off := 18) (by decide +kernel) (by decide) (fun (c3 : ¬ (M 1 4) = 3) => ?_) (fun (c3 : (M 1 4) = 3) => ?_)
      · skip
        refine zT.run [(.iconst 2, 0, 0, 0)] (pe := 50) (ls' := [some (.ref 0), some (.int (nI r)), none]) (st' := [.int 2]) (M' := M) (by decide +kernel) rfl ?_
        exact zT.iret (ty := Jvm.ClassFile.FieldType.int) (by simp only [g_X10_reasonOf, if_neg c1, if_neg c2, if_neg c3]; try rfl) (by simp only [g_X10_reasonOf, if_neg c1, if_neg c2, if_neg c3]; try rfl) rfl rfl (by decide +kernel)
      · skip
        refine zT.run [(.aload_n 0, 0, 0, 0), (.getfield 9, 8, 1, 5150), (.iconst 5, 0, 0, 0)] (pe := 39) (ls' := [some (.ref 0), some (.int (nI r)), none]) (st' := [.int 5, .ref 1]) (M' := M) (by decide +kernel) rfl ?_
        refine zT.iald (n := 187) (k := 5) rfl rfl (by decide) (by decide) (by decide +kernel) ?_
        refine zT.run [(.aload_n 0, 0, 0, 0), (.iconst 0, 0, 0, 0), (.iconst 0, 0, 0, 0)] (pe := 43) (ls' := [some (.ref 0), some (.int (nI r)), none]) (st' := [.int 0, .int 0, .ref 0, .int (M 1 5)]) (M' := M) (by decide +kernel) rfl ?_
        refine zT.cV_own (o := 0) (idx := 150) (av := [.int (nI 0), .int (nI 0)]) (rv := (some (.int (g_X10_outcomeOf M oz 0 0)))) (st := [.int (M 1 5)]) (S1 := [.int (g_X10_outcomeOf M oz 0 0), .int (M 1 5)]) (c_X10_outcomeOf M gp oz 0 0 hoz h12 (zOz hoz (by assumption)) (by decide)) k_X10_outcomeOf _ _ rfl rfl rfl (zIn (w := 6095) (by decide +kernel) rfl) (by decide +kernel) (by decide +kernel) rfl (Nat.le_of_ble_eq_true rfl) rfl ?_
        refine zT.ceq (tgt := 51) (off := 5) (by decide +kernel) (by decide) (fun (c4 : (M 1 5) = (g_X10_outcomeOf M oz 0 0)) => ?_) (fun (c4 : ¬ (M 1 5) = (g_X10_outcomeOf M oz 0 0)) => ?_)
        · skip
          refine zT.run [(.aload_n 0, 0, 0, 0), (.iload_n 1, 0, 0, 0)] (pe := 53) (ls' := [some (.ref 0), some (.int (nI r)), none]) (st' := [.int (nI r), .ref 0]) (M' := M) (by decide +kernel) rfl ?_
          refine zT.cV_own (o := 0) (idx := 106) (av := [.int (nI r)]) (rv := (some (.int (g_X10_isOnRoll M (nI r))))) (st := []) (S1 := [.int (g_X10_isOnRoll M (nI r))]) (c_X10_isOnRoll M gp (nI r)) k_X10_isOnRoll _ _ rfl rfl rfl (zIn (w := 5145) (by decide +kernel) rfl) (by decide +kernel) (by decide +kernel) rfl (Nat.le_of_ble_eq_true rfl) rfl ?_
          refine zT.zne (tgt := 61) (off := 5) (by decide +kernel) (by decide) (fun (c5 : ¬ (g_X10_isOnRoll M (nI r)) = 0) => ?_) (fun (c5 : (g_X10_isOnRoll M (nI r)) = 0) => ?_)
          · skip
            refine zT.run [(.aload_n 0, 0, 0, 0)] (pe := 62) (ls' := [some (.ref 0), some (.int (nI r)), none]) (st' := [.ref 0]) (M' := M) (by decide +kernel) rfl ?_
            refine zT.cV_all (o := 0) (idx := 118) (av := []) (rv := none) (st := []) (S1 := []) (c_X10_findVotes M gp n hn h9 hv) k_X10_findVotes _ _ rfl rfl rfl (zIn (w := 6071) (by decide +kernel) rfl) (by decide +kernel) (by decide +kernel) rfl (Nat.le_of_ble_eq_true rfl) rfl ?_
            refine zT.run [(.aload_n 0, 0, 0, 0), (.aload_n 0, 0, 0, 0), (.iconst 0, 0, 0, 0), (.bipush 7, 0, 0, 0)] (pe := 70) (ls' := [some (.ref 0), some (.int (nI r)), none]) (st' := [.int 7, .int 0, .ref 0, .ref 0]) (M' := (g_X10_findVotes M n)) (by decide +kernel) rfl ?_
            refine zT.cV_own (o := 0) (idx := 150) (av := [.int (nI 0), .int (nI 7)]) (rv := (some (.int (g_X10_outcomeOf (g_X10_findVotes M n) oz 0 7)))) (st := [.ref 0]) (S1 := [.int (g_X10_outcomeOf (g_X10_findVotes M n) oz 0 7), .ref 0]) (c_X10_outcomeOf (g_X10_findVotes M n) gp oz 0 7 ((congrFun (fr_X10_findVotes M n 1 (by decide)) 9).trans hoz) h12 (zOz hoz (by assumption)) (by decide)) k_X10_outcomeOf _ _ rfl rfl rfl (zIn (w := 6095) (by decide +kernel) rfl) (by decide +kernel) (by decide +kernel) rfl (Nat.le_of_ble_eq_true rfl) rfl ?_
            refine zT.cV_all (o := 0) (idx := 115) (av := [.int (g_X10_outcomeOf (g_X10_findVotes M n) oz 0 7)]) (rv := (some (.int (g_X10_leading (g_X10_findVotes M n) n (g_X10_outcomeOf (g_X10_findVotes M n) oz 0 7)).1))) (st := []) (S1 := [.int (g_X10_leading (g_X10_findVotes M n) n (g_X10_outcomeOf (g_X10_findVotes M n) oz 0 7)).1]) (c_X10_leading (g_X10_findVotes M n) gp n (g_X10_outcomeOf (g_X10_findVotes M n) oz 0 7) ((congrFun (fr_X10_findVotes M n 1 (by decide)) 0).trans hn) h9 (e_X10_findVotes M n h9)) k_X10_leading _ _ rfl rfl rfl (zIn (w := 6079) (by decide +kernel) rfl) (by decide +kernel) (by decide +kernel) rfl (Nat.le_of_ble_eq_true rfl) rfl ?_
            refine zT.run [(.istore_n 2, 0, 0, 0), (.aload_n 0, 0, 0, 0), (.getfield 35, 8, 11, 5160), (.iload_n 1, 0, 0, 0)] (pe := 82) (ls' := [some (.ref 0), some (.int (nI r)), some (.int (g_X10_leading (g_X10_findVotes M n) n (g_X10_outcomeOf (g_X10_findVotes M n) oz 0 7)).1)]) (st' := [.int (nI r), .ref 20]) (M' := (g_X10_leading (g_X10_findVotes M n) n (g_X10_outcomeOf (g_X10_findVotes M n) oz 0 7)).2) (by decide +kernel) rfl ?_
            refine zT.iald (n := 9) (k := r) rfl rfl (by omega) (by decide) (by decide +kernel) ?_
            refine zT.run [(.aload_n 0, 0, 0, 0), (.getfield 109, 8, 12, 5161)] (pe := 87) (ls' := [some (.ref 0), some (.int (nI r)), some (.int (g_X10_leading (g_X10_findVotes M n) n (g_X10_outcomeOf (g_X10_findVotes M n) oz 0 7)).1)]) (st' := [.int ((g_X10_leading (g_X10_findVotes M n) n (g_X10_outcomeOf (g_X10_findVotes M n) oz 0 7)).2 0 12), .int ((g_X10_leading (g_X10_findVotes M n) n (g_X10_outcomeOf (g_X10_findVotes M n) oz 0 7)).2 20 r)]) (M' := (g_X10_leading (g_X10_findVotes M n) n (g_X10_outcomeOf (g_X10_findVotes M n) oz 0 7)).2) (by decide +kernel) rfl ?_
            refine zT.cge (tgt := 92) (off := 5) (by decide +kernel) (by decide) (fun (c6 : ((g_X10_leading (g_X10_findVotes M n) n (g_X10_outcomeOf (g_X10_findVotes M n) oz 0 7)).2 0 12) ≤ ((g_X10_leading (g_X10_findVotes M n) n (g_X10_outcomeOf (g_X10_findVotes M n) oz 0 7)).2 20 r)) => ?_) (fun (c6 : ¬ ((g_X10_leading (g_X10_findVotes M n) n (g_X10_outcomeOf (g_X10_findVotes M n) oz 0 7)).2 0 12) ≤ ((g_X10_leading (g_X10_findVotes M n) n (g_X10_outcomeOf (g_X10_findVotes M n) oz 0 7)).2 20 r)) => ?_)
            · skip
              refine zT.run [(.iload_n 2, 0, 0, 0), (.iconst (-1), 0, 0, 0)] (pe := 94) (ls' := [some (.ref 0), some (.int (nI r)), some (.int (g_X10_leading (g_X10_findVotes M n) n (g_X10_outcomeOf (g_X10_findVotes M n) oz 0 7)).1)]) (st' := [.int (-1), .int (g_X10_leading (g_X10_findVotes M n) n (g_X10_outcomeOf (g_X10_findVotes M n) oz 0 7)).1]) (M' := (g_X10_leading (g_X10_findVotes M n) n (g_X10_outcomeOf (g_X10_findVotes M n) oz 0 7)).2) (by decide +kernel) rfl ?_
              refine zT.cne (tgt := 102) (off := 8) (by decide +kernel) (by decide) (fun (c7 : ¬ (g_X10_leading (g_X10_findVotes M n) n (g_X10_outcomeOf (g_X10_findVotes M n) oz 0 7)).1 = (-1)) => ?_) (fun (c7 : (g_X10_leading (g_X10_findVotes M n) n (g_X10_outcomeOf (g_X10_findVotes M n) oz 0 7)).1 = (-1)) => ?_)
              · skip
                refine zT.run [(.iload_n 2, 0, 0, 0), (.iload_n 1, 0, 0, 0)] (pe := 104) (ls' := [some (.ref 0), some (.int (nI r)), some (.int (g_X10_leading (g_X10_findVotes M n) n (g_X10_outcomeOf (g_X10_findVotes M n) oz 0 7)).1)]) (st' := [.int (nI r), .int (g_X10_leading (g_X10_findVotes M n) n (g_X10_outcomeOf (g_X10_findVotes M n) oz 0 7)).1]) (M' := (g_X10_leading (g_X10_findVotes M n) n (g_X10_outcomeOf (g_X10_findVotes M n) oz 0 7)).2) (by decide +kernel) rfl ?_
                refine zT.cne (tgt := 112) (off := 8) (by decide +kernel) (by decide) (fun (c8 : ¬ (g_X10_leading (g_X10_findVotes M n) n (g_X10_outcomeOf (g_X10_findVotes M n) oz 0 7)).1 = (nI r)) => ?_) (fun (c8 : (g_X10_leading (g_X10_findVotes M n) n (g_X10_outcomeOf (g_X10_findVotes M n) oz 0 7)).1 = (nI r)) => ?_)
                · skip
                  refine zT.run [(.iconst 5, 0, 0, 0)] (pe := 113) (ls' := [some (.ref 0), some (.int (nI r)), some (.int (g_X10_leading (g_X10_findVotes M n) n (g_X10_outcomeOf (g_X10_findVotes M n) oz 0 7)).1)]) (st' := [.int 5]) (M' := (g_X10_leading (g_X10_findVotes M n) n (g_X10_outcomeOf (g_X10_findVotes M n) oz 0 7)).2) (by decide +kernel) rfl ?_
                  exact zT.iret (ty := Jvm.ClassFile.FieldType.int) (by simp only [g_X10_reasonOf, if_neg c1, if_neg c2, if_pos c3, if_pos c4, if_neg c5, if_pos c6, if_neg c7, if_neg c8]; try rfl) (by simp only [g_X10_reasonOf, if_neg c1, if_neg c2, if_pos c3, if_pos c4, if_neg c5, if_pos c6, if_neg c7, if_neg c8]; try rfl) rfl rfl (by decide +kernel)
                · skip
                  refine zT.run [(.bipush 7, 0, 0, 0), (.goto 4, 0, 0, 0)] (pe := 113) (ls' := [some (.ref 0), some (.int (nI r)), some (.int (g_X10_leading (g_X10_findVotes M n) n (g_X10_outcomeOf (g_X10_findVotes M n) oz 0 7)).1)]) (st' := [.int 7]) (M' := (g_X10_leading (g_X10_findVotes M n) n (g_X10_outcomeOf (g_X10_findVotes M n) oz 0 7)).2) (by decide +kernel) rfl ?_
                  exact zT.iret (ty := Jvm.ClassFile.FieldType.int) (by simp only [g_X10_reasonOf, if_neg c1, if_neg c2, if_pos c3, if_pos c4, if_neg c5, if_pos c6, if_neg c7, if_pos c8]; try rfl) (by simp only [g_X10_reasonOf, if_neg c1, if_neg c2, if_pos c3, if_pos c4, if_neg c5, if_pos c6, if_neg c7, if_pos c8]; try rfl) rfl rfl (by decide +kernel)
              · skip
                refine zT.run [(.bipush 6, 0, 0, 0), (.goto 14, 0, 0, 0)] (pe := 113) (ls' := [some (.ref 0), some (.int (nI r)), some (.int (g_X10_leading (g_X10_findVotes M n) n (g_X10_outcomeOf (g_X10_findVotes M n) oz 0 7)).1)]) (st' := [.int 6]) (M' := (g_X10_leading (g_X10_findVotes M n) n (g_X10_outcomeOf (g_X10_findVotes M n) oz 0 7)).2) (by decide +kernel) rfl ?_
                exact zT.iret (ty := Jvm.ClassFile.FieldType.int) (by simp only [g_X10_reasonOf, if_neg c1, if_neg c2, if_pos c3, if_pos c4, if_neg c5, if_pos c6, if_pos c7]; try rfl) (by simp only [g_X10_reasonOf, if_neg c1, if_neg c2, if_pos c3, if_pos c4, if_neg c5, if_pos c6, if_pos c7]; try rfl) rfl rfl (by decide +kernel)
            · skip
              refine zT.run [(.iconst 4, 0, 0, 0)] (pe := 91) (ls' := [some (.ref 0), some (.int (nI r)), some (.int (g_X10_leading (g_X10_findVotes M n) n (g_X10_outcomeOf (g_X10_findVotes M n) oz 0 7)).1)]) (st' := [.int 4]) (M' := (g_X10_leading (g_X10_findVotes M n) n (g_X10_outcomeOf (g_X10_findVotes M n) oz 0 7)).2) (by decide +kernel) rfl ?_
              exact zT.iret (ty := Jvm.ClassFile.FieldType.int) (by simp only [g_X10_reasonOf, if_neg c1, if_neg c2, if_pos c3, if_pos c4, if_neg c5, if_neg c6]; try rfl) (by simp only [g_X10_reasonOf, if_neg c1, if_neg c2, if_pos c3, if_pos c4, if_neg c5, if_neg c6]; try rfl) rfl rfl (by decide +kernel)
          · skip
            refine zT.run [(.iconst 3, 0, 0, 0)] (pe := 60) (ls' := [some (.ref 0), some (.int (nI r)), none]) (st' := [.int 3]) (M' := M) (by decide +kernel) rfl ?_
            exact zT.iret (ty := Jvm.ClassFile.FieldType.int) (by simp only [g_X10_reasonOf, if_neg c1, if_neg c2, if_pos c3, if_pos c4, if_pos c5]; try rfl) (by simp only [g_X10_reasonOf, if_neg c1, if_neg c2, if_pos c3, if_pos c4, if_pos c5]; try rfl) rfl rfl (by decide +kernel)
        · skip
          refine zT.run [(.iconst 2, 0, 0, 0)] (pe := 50) (ls' := [some (.ref 0), some (.int (nI r)), none]) (st' := [.int 2]) (M' := M) (by decide +kernel) rfl ?_
          exact zT.iret (ty := Jvm.ClassFile.FieldType.int) (by simp only [g_X10_reasonOf, if_neg c1, if_neg c2, if_pos c3, if_neg c4]; try rfl) (by simp only [g_X10_reasonOf, if_neg c1, if_neg c2, if_pos c3, if_neg c4]; try rfl) rfl rfl (by decide +kernel)
    · skip
      refine zT.run [(.iconst 0, 0, 0, 0)] (pe := 23) (ls' := [some (.ref 0), some (.int (nI r)), none]) (st' := [.int 0]) (M' := M) (by decide +kernel) rfl ?_
      exact zT.iret (ty := Jvm.ClassFile.FieldType.int) (by simp only [g_X10_reasonOf, if_neg c1, if_pos c2]; try rfl) (by simp only [g_X10_reasonOf, if_neg c1, if_pos c2]; try rfl) rfl rfl (by decide +kernel)
  · skip
    refine zT.run [(.iconst 1, 0, 0, 0)] (pe := 11) (ls' := [some (.ref 0), some (.int (nI r)), none]) (st' := [.int 1]) (M' := M) (by decide +kernel) rfl ?_
    exact zT.iret (ty := Jvm.ClassFile.FieldType.int) (by simp only [g_X10_reasonOf, if_pos c1]; try rfl) (by simp only [g_X10_reasonOf, if_pos c1]; try rfl) rfl rfl (by decide +kernel)
theorem fr_X10_reasonOf (M : zM) (n : Nat) (oz : Nat) (r : Nat) (o : Nat) (ho : o ≠ 0 ∧ o ≠ 20) : (g_X10_reasonOf M n oz r).2 o = M o := by
  simp only [g_X10_reasonOf]
  (repeat' split) <;> simp only [zU_ne ho.1, zU_ne ho.2, zUa_ne ho.1, zUa_ne ho.2, (fun (MM : zM) (n : Nat) (ti : Int32) => fr_X10_leading MM n ti o (by omega)), (fun (MM : zM) (n : Nat) => fr_X10_findVotes MM n o (by omega))]
theorem k_X10_reasonOf : zCal yy_X10_reasonOf 1 := ⟨⟨⟨⟨zIn (w := 7087) (by decide +kernel) rfl, zIn (w := 1012) (by decide +kernel) rfl⟩, by decide +kernel⟩, by decide +kernel⟩, ⟨zIn (w := 7086) (by decide +kernel) rfl, zIn (w := 80) (by decide +kernel) rfl⟩⟩
theorem e_X10_reasonOf (M : zM) (n oz r : Nat) (h9 : n ≤ 9) (h : ¬ (g_X10_reasonOf M n oz r).1 < 4) : zVo n (g_X10_reasonOf M n oz r).2 ∧ ¬ M 1 9 = 0 ∧ ¬ g_X10_isOnRoll M (nI r) = 0 := by
  have hz : zVo n (g_X10_leading (g_X10_findVotes M n) n (g_X10_outcomeOf (g_X10_findVotes M n) oz 0 7)).2 := (e_X10_findVotes M n h9).of (fr_X10_leading _ n _ 20 (by decide))
  simp only [g_X10_reasonOf] at h ⊢
  by_cases c1 : M 1 9 = 0
  · rw [if_pos c1] at h
    exact absurd (by decide : (1 : Int32) < 4) h
  rw [if_neg c1] at h ⊢
  by_cases c2 : g_X10_outcomeOf M oz 0 1 = nI r
  · rw [if_pos c2] at h
    exact absurd (by decide : (0 : Int32) < 4) h
  rw [if_neg c2] at h ⊢
  by_cases c3 : M 1 4 = 3
  case neg =>
    rw [if_neg c3] at h
    exact absurd (by decide : (2 : Int32) < 4) h
  rw [if_pos c3] at h ⊢
  by_cases c4 : M 1 5 = g_X10_outcomeOf M oz 0 0
  case neg =>
    rw [if_neg c4] at h
    exact absurd (by decide : (2 : Int32) < 4) h
  rw [if_pos c4] at h ⊢
  by_cases c5 : g_X10_isOnRoll M (nI r) = 0
  · rw [if_pos c5] at h
    exact absurd (by decide : (3 : Int32) < 4) h
  rw [if_neg c5]
  refine ⟨?_, c1, c5⟩
  (repeat' split) <;> exact hz
