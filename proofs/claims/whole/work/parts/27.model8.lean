theorem z09 {w : Int32} {k : Nat} (hk : k < 100) (h1 : ¬ w < 0) (h2 : w ≤ nI k) : w = nI w.toNatClampNeg ∧ w.toNatClampNeg ≤ k := by
  obtain ⟨j, hj, rfl⟩ := nI_of h1
  rw [nI_clamp hj]
  exact ⟨rfl, (nI_leI hj (by omega)).mp h2⟩
theorem zW8 {w : Int32} (h1 : ¬ w < 0) (h2 : w ≤ 9) (c : ¬ w = 9) : w.toNatClampNeg < 9 := by
  obtain ⟨j, hj, rfl⟩ := nI_of h1
  rw [nI_clamp hj]
  have := (nI_leI (b := 9) hj (by decide)).mp h2
  have : j ≠ 9 := fun e => c (by rw [e]; rfl)
  omega
noncomputable abbrev yy_X10_replica : zY := (yX10_replica, cX10_replica, 3, (some Jvm.ClassFile.FieldType.int), 3, 65)
noncomputable def g_X10_replica (M : zM) (gq : Nat → Nat) (pc : Nat) (n : Nat) (r : Nat) (w : Int32) : Int32 × zM := (if w = 6 then (if (g_X10_isOnRoll (g_X10_findVotes (zU M 0 0 0) n) (nI r)) = 0 then ((-1), (g_X10_findVotes (zU M 0 0 0) n)) else ((g_X10_of (g_X10_findVotes (zU M 0 0 0) n) r 6), (g_X10_findVotes (zU M 0 0 0) n))) else (if w = 7 then (if (g_X10_isOnRoll (g_X10_findVotes (zU M 0 0 0) n) (nI r)) = 0 then ((-1), (g_X10_findVotes (zU M 0 0 0) n)) else (if (g_X10_of (g_X10_findVotes (zU M 0 0 0) n) r 6) < 2 then ((-1), (g_X10_findVotes (zU M 0 0 0) n)) else ((g_X10_of (g_X10_findVotes (zU M 0 0 0) n) r 7), (g_X10_findVotes (zU M 0 0 0) n)))) else (if w = 8 then (((g_X10_findVotes (zU M 0 0 0) n) 20 r), (g_X10_findVotes (zU M 0 0 0) n)) else (if w = 9 then (if (g_X10_isReached (g_X10_findVotes (zU M 0 0 0) n) r) = 0 then (0, (g_X10_findVotes (zU M 0 0 0) n)) else (1, (g_X10_findVotes (zU M 0 0 0) n))) else ((g_X10_of (g_X10_findVotes (zU M 0 0 0) n) r w.toNatClampNeg), (g_X10_findVotes (zU M 0 0 0) n))))))
set_option maxRecDepth 100000 in
theorem c_X10_replica (M : zM) (gq : Nat → Nat) (pc : Nat) (n : Nat) (r : Nat) (w : Int32) (hM : M 0 3 = nI pc) (hpc : pc ≤ 10) (hq : zPm gq) (hn : M 1 0 = nI n) (h9 : n ≤ 9) (hv : zHv M) (hd : zHd M) (h_r : r < n) (hx1 : ¬ w < 0) (hx2 : w ≤ 9) : zC yy_X10_replica 0 0 [.ref 0, .int (nI r), .int w] (sh_Model (zGp gq)) M (some (.int (g_X10_replica M gq pc n r w).1)) (sh_Model (zGp gq)) (g_X10_replica M gq pc n r w).2 := by
  refine zC.of (by decide +kernel) rfl (Nat.le_of_ble_eq_true rfl) ?_
  refine zT.run [(.aload_n 0, 0, 0, 0), (.iconst 0, 0, 0, 0), (.putfield 61, 8, 0, 5149), (.aload_n 0, 0, 0, 0), (.iload_n 1, 0, 0, 0)] (pe := 7) (ls' := [some (.ref 0), some (.int (nI r)), some (.int w)]) (st' := [.int (nI r), .ref 0]) (M' := (zU M 0 0 0)) (by decide +kernel) rfl ?_
  refine zT.cV_own (o := 0) (idx := 160) (av := [.int (nI r)]) (rv := (some (.int 0))) (st := []) (S1 := [.int 0]) (c_X10_noReplica_ok (zU M 0 0 0) (zGp gq) n r hn h9 h_r) k_X10_noReplica _ _ rfl rfl rfl (zIn (w := 5216) (by decide +kernel) rfl) (by decide +kernel) (by decide +kernel) rfl (Nat.le_of_ble_eq_true rfl) rfl ?_
  refine zT.zne (tgt := 25) (off := 15) (by decide +kernel) (by decide) (fun c => absurd (by decide) c) (fun _ => ?_)
  refine zT.run [(.aload_n 0, 0, 0, 0), (.iload_n 2, 0, 0, 0), (.iconst 0, 0, 0, 0), (.bipush 9, 0, 0, 0), (.iconst 2, 0, 0, 0)] (pe := 19) (ls' := [some (.ref 0), some (.int (nI r)), some (.int w)]) (st' := [.int 2, .int 9, .int 0, .int w, .ref 0]) (M' := (zU M 0 0 0)) (by decide +kernel) rfl ?_
  refine zT.cV_own (o := 0) (idx := 72) (av := [.int w, .int 0, .int 9, .int 2]) (rv := (some (.int 0))) (st := []) (S1 := [.int 0]) (c_X10_bad_ok (zU M 0 0 0) (zGp gq) w 0 9 2 hx1 hx2) k_X10_bad _ _ rfl rfl rfl (zIn (w := 5220) (by decide +kernel) rfl) (by decide +kernel) (by decide +kernel) rfl (Nat.le_of_ble_eq_true rfl) rfl ?_
  refine zT.zeq (tgt := 27) (off := 5) (by decide +kernel) (by decide) (fun _ => ?_) (fun c => absurd (by decide) c)
  refine zT.run [(.aload_n 0, 0, 0, 0)] (pe := 28) (ls' := [some (.ref 0), some (.int (nI r)), some (.int w)]) (st' := [.ref 0]) (M' := (zU M 0 0 0)) (by decide +kernel) rfl ?_
  refine zT.cV_all (o := 0) (idx := 118) (av := []) (rv := none) (st := []) (S1 := []) (c_X10_findVotes (zU M 0 0 0) (zGp gq) n hn h9 hv) k_X10_findVotes _ _ rfl rfl rfl (zIn (w := 6071) (by decide +kernel) rfl) (by decide +kernel) (by decide +kernel) rfl (Nat.le_of_ble_eq_true rfl) rfl ?_
  refine zT.run [(.iload_n 2, 0, 0, 0)] (pe := 32) (ls' := [some (.ref 0), some (.int (nI r)), some (.int w)]) (st' := [.int w]) (M' := (g_X10_findVotes (zU M 0 0 0) n)) (by decide +kernel) rfl ?_
  by_cases c1 : w = 6
  · skip
    refine zT.tabEq (v := 6) c1 (tgt := 64) (off := 32) (dflt := 104) (lo := 6) (hi := 9) (offs := #[32, 52, 83, 90]) (len := 32) (by decide +kernel) (by decide) (by decide) (by decide) (by decide) ?_
    refine zT.run [(.aload_n 0, 0, 0, 0), (.iload_n 1, 0, 0, 0)] (pe := 66) (ls' := [some (.ref 0), some (.int (nI r)), some (.int w)]) (st' := [.int (nI r), .ref 0]) (M' := (g_X10_findVotes (zU M 0 0 0) n)) (by decide +kernel) rfl ?_
    refine zT.cV_own (o := 0) (idx := 106) (av := [.int (nI r)]) (rv := (some (.int (g_X10_isOnRoll (g_X10_findVotes (zU M 0 0 0) n) (nI r))))) (st := []) (S1 := [.int (g_X10_isOnRoll (g_X10_findVotes (zU M 0 0 0) n) (nI r))]) (c_X10_isOnRoll (g_X10_findVotes (zU M 0 0 0) n) (zGp gq) (nI r)) k_X10_isOnRoll _ _ rfl rfl rfl (zIn (w := 5145) (by decide +kernel) rfl) (by decide +kernel) (by decide +kernel) rfl (Nat.le_of_ble_eq_true rfl) rfl ?_
    refine zT.zeq (tgt := 82) (off := 13) (by decide +kernel) (by decide) (fun (c2 : (g_X10_isOnRoll (g_X10_findVotes (zU M 0 0 0) n) (nI r)) = 0) => ?_) (fun (c2 : ¬ (g_X10_isOnRoll (g_X10_findVotes (zU M 0 0 0) n) (nI r)) = 0) => ?_)
    · skip
      refine zT.run [(.iconst (-1), 0, 0, 0)] (pe := 83) (ls' := [some (.ref 0), some (.int (nI r)), some (.int w)]) (st' := [.int (-1)]) (M' := (g_X10_findVotes (zU M 0 0 0) n)) (by decide +kernel) rfl ?_
      exact zT.iret (ty := Jvm.ClassFile.FieldType.int) (by simp only [g_X10_replica, if_pos c1, if_pos c2]; try rfl) (by simp only [g_X10_replica, if_pos c1, if_pos c2]; try rfl) rfl rfl (by decide +kernel)
    · skip
      refine zT.run [(.aload_n 0, 0, 0, 0), (.iload_n 1, 0, 0, 0), (.bipush 6, 0, 0, 0)] (pe := 76) (ls' := [some (.ref 0), some (.int (nI r)), some (.int w)]) (st' := [.int 6, .int (nI r), .ref 0]) (M' := (g_X10_findVotes (zU M 0 0 0) n)) (by decide +kernel) rfl ?_
      refine zT.cV_own (o := 0) (idx := 80) (av := [.int (nI r), .int (nI 6)]) (rv := (some (.int (g_X10_of (g_X10_findVotes (zU M 0 0 0) n) r 6)))) (st := []) (S1 := [.int (g_X10_of (g_X10_findVotes (zU M 0 0 0) n) r 6)]) (c_X10_of (g_X10_findVotes (zU M 0 0 0) n) (zGp gq) r 6 (by omega) (by decide)) k_X10_of _ _ rfl rfl rfl (zIn (w := 5108) (by decide +kernel) rfl) (by decide +kernel) (by decide +kernel) rfl (Nat.le_of_ble_eq_true rfl) rfl ?_
      refine zT.run [(.goto 4, 0, 0, 0)] (pe := 83) (ls' := [some (.ref 0), some (.int (nI r)), some (.int w)]) (st' := [.int (g_X10_of (g_X10_findVotes (zU M 0 0 0) n) r 6)]) (M' := (g_X10_findVotes (zU M 0 0 0) n)) (by decide +kernel) rfl ?_
      exact zT.iret (ty := Jvm.ClassFile.FieldType.int) (by simp only [g_X10_replica, if_pos c1, if_neg c2]; try rfl) (by simp only [g_X10_replica, if_pos c1, if_neg c2]; try rfl) rfl rfl (by decide +kernel)
  · skip
    by_cases c3 : w = 7
    · skip
      refine zT.tabEq (v := 7) c3 (tgt := 84) (off := 52) (dflt := 104) (lo := 6) (hi := 9) (offs := #[32, 52, 83, 90]) (len := 32) (by decide +kernel) (by decide) (by decide) (by decide) (by decide) ?_
      refine zT.run [(.aload_n 0, 0, 0, 0), (.iload_n 1, 0, 0, 0)] (pe := 86) (ls' := [some (.ref 0), some (.int (nI r)), some (.int w)]) (st' := [.int (nI r), .ref 0]) (M' := (g_X10_findVotes (zU M 0 0 0) n)) (by decide +kernel) rfl ?_
      refine zT.cV_own (o := 0) (idx := 106) (av := [.int (nI r)]) (rv := (some (.int (g_X10_isOnRoll (g_X10_findVotes (zU M 0 0 0) n) (nI r))))) (st := []) (S1 := [.int (g_X10_isOnRoll (g_X10_findVotes (zU M 0 0 0) n) (nI r))]) (c_X10_isOnRoll (g_X10_findVotes (zU M 0 0 0) n) (zGp gq) (nI r)) k_X10_isOnRoll _ _ rfl rfl rfl (zIn (w := 5145) (by decide +kernel) rfl) (by decide +kernel) (by decide +kernel) rfl (Nat.le_of_ble_eq_true rfl) rfl ?_
      refine zT.zeq (tgt := 113) (off := 24) (by decide +kernel) (by decide) (fun (c4 : (g_X10_isOnRoll (g_X10_findVotes (zU M 0 0 0) n) (nI r)) = 0) => ?_) (fun (c4 : ¬ (g_X10_isOnRoll (g_X10_findVotes (zU M 0 0 0) n) (nI r)) = 0) => ?_)
      · skip
        refine zT.run [(.iconst (-1), 0, 0, 0)] (pe := 114) (ls' := [some (.ref 0), some (.int (nI r)), some (.int w)]) (st' := [.int (-1)]) (M' := (g_X10_findVotes (zU M 0 0 0) n)) (by decide +kernel) rfl ?_
        exact zT.iret (ty := Jvm.ClassFile.FieldType.int) (by simp only [g_X10_replica, if_neg c1, if_pos c3, if_pos c4]; try rfl) (by simp only [g_X10_replica, if_neg c1, if_pos c3, if_pos c4]; try rfl) rfl rfl (by decide +kernel)
      · skip
        refine zT.run [(.aload_n 0, 0, 0, 0), (.iload_n 1, 0, 0, 0), (.bipush 6, 0, 0, 0)] (pe := 96) (ls' := [some (.ref 0), some (.int (nI r)), some (.int w)]) (st' := [.int 6, .int (nI r), .ref 0]) (M' := (g_X10_findVotes (zU M 0 0 0) n)) (by decide +kernel) rfl ?_
        refine zT.cV_own (o := 0) (idx := 80) (av := [.int (nI r), .int (nI 6)]) (rv := (some (.int (g_X10_of (g_X10_findVotes (zU M 0 0 0) n) r 6)))) (st := []) (S1 := [.int (g_X10_of (g_X10_findVotes (zU M 0 0 0) n) r 6)]) (c_X10_of (g_X10_findVotes (zU M 0 0 0) n) (zGp gq) r 6 (by omega) (by decide)) k_X10_of _ _ rfl rfl rfl (zIn (w := 5108) (by decide +kernel) rfl) (by decide +kernel) (by decide +kernel) rfl (Nat.le_of_ble_eq_true rfl) rfl ?_
        refine zT.run [(.iconst 2, 0, 0, 0)] (pe := 100) (ls' := [some (.ref 0), some (.int (nI r)), some (.int w)]) (st' := [.int 2, .int (g_X10_of (g_X10_findVotes (zU M 0 0 0) n) r 6)]) (M' := (g_X10_findVotes (zU M 0 0 0) n)) (by decide +kernel) rfl ?_
        refine zT.clt (tgt := 113) (off := 13) (by decide +kernel) (by decide) (fun (c5 : (g_X10_of (g_X10_findVotes (zU M 0 0 0) n) r 6) < 2) => ?_) (fun (c5 : ¬ (g_X10_of (g_X10_findVotes (zU M 0 0 0) n) r 6) < 2) => ?_)
        · skip
          refine zT.run [(.iconst (-1), 0, 0, 0)] (pe := 114) (ls' := [some (.ref 0), some (.int (nI r)), some (.int w)]) (st' := [.int (-1)]) (M' := (g_X10_findVotes (zU M 0 0 0) n)) (by decide +kernel) rfl ?_
          exact zT.iret (ty := Jvm.ClassFile.FieldType.int) (by simp only [g_X10_replica, if_neg c1, if_pos c3, if_neg c4, if_pos c5]; try rfl) (by simp only [g_X10_replica, if_neg c1, if_pos c3, if_neg c4, if_pos c5]; try rfl) rfl rfl (by decide +kernel)
        · skip
          refine zT.run [(.aload_n 0, 0, 0, 0), (.iload_n 1, 0, 0, 0), (.bipush 7, 0, 0, 0)] (pe := 107) (ls' := [some (.ref 0), some (.int (nI r)), some (.int w)]) (st' := [.int 7, .int (nI r), .ref 0]) (M' := (g_X10_findVotes (zU M 0 0 0) n)) (by decide +kernel) rfl ?_
          refine zT.cV_own (o := 0) (idx := 80) (av := [.int (nI r), .int (nI 7)]) (rv := (some (.int (g_X10_of (g_X10_findVotes (zU M 0 0 0) n) r 7)))) (st := []) (S1 := [.int (g_X10_of (g_X10_findVotes (zU M 0 0 0) n) r 7)]) (c_X10_of (g_X10_findVotes (zU M 0 0 0) n) (zGp gq) r 7 (by omega) (by decide)) k_X10_of _ _ rfl rfl rfl (zIn (w := 5108) (by decide +kernel) rfl) (by decide +kernel) (by decide +kernel) rfl (Nat.le_of_ble_eq_true rfl) rfl ?_
          refine zT.run [(.goto 4, 0, 0, 0)] (pe := 114) (ls' := [some (.ref 0), some (.int (nI r)), some (.int w)]) (st' := [.int (g_X10_of (g_X10_findVotes (zU M 0 0 0) n) r 7)]) (M' := (g_X10_findVotes (zU M 0 0 0) n)) (by decide +kernel) rfl ?_
          exact zT.iret (ty := Jvm.ClassFile.FieldType.int) (by simp only [g_X10_replica, if_neg c1, if_pos c3, if_neg c4, if_neg c5]; try rfl) (by simp only [g_X10_replica, if_neg c1, if_pos c3, if_neg c4, if_neg c5]; try rfl) rfl rfl (by decide +kernel)
    · skip
      by_cases c6 : w = 8
      · skip
        refine zT.tabEq (v := 8) c6 (tgt := 115) (off := 83) (dflt := 104) (lo := 6) (hi := 9) (offs := #[32, 52, 83, 90]) (len := 32) (by decide +kernel) (by decide) (by decide) (by decide) (by decide) ?_
        refine zT.run [(.aload_n 0, 0, 0, 0), (.getfield 35, 8, 11, 5160), (.iload_n 1, 0, 0, 0)] (pe := 120) (ls' := [some (.ref 0), some (.int (nI r)), some (.int w)]) (st' := [.int (nI r), .ref 20]) (M' := (g_X10_findVotes (zU M 0 0 0) n)) (by decide +kernel) rfl ?_
        refine zT.iald (n := 9) (k := r) rfl rfl (by omega) (by decide) (by decide +kernel) ?_
        exact zT.iret (ty := Jvm.ClassFile.FieldType.int) (by simp only [g_X10_replica, if_neg c1, if_neg c3, if_pos c6]; try rfl) (by simp only [g_X10_replica, if_neg c1, if_neg c3, if_pos c6]; try rfl) rfl rfl (by decide +kernel)
      · skip
        by_cases c7 : w = 9
        · skip
          refine zT.tabEq (v := 9) c7 (tgt := 122) (off := 90) (dflt := 104) (lo := 6) (hi := 9) (offs := #[32, 52, 83, 90]) (len := 32) (by decide +kernel) (by decide) (by decide) (by decide) (by decide) ?_
          refine zT.run [(.aload_n 0, 0, 0, 0), (.iload_n 1, 0, 0, 0)] (pe := 124) (ls' := [some (.ref 0), some (.int (nI r)), some (.int w)]) (st' := [.int (nI r), .ref 0]) (M' := (g_X10_findVotes (zU M 0 0 0) n)) (by decide +kernel) rfl ?_
          refine zT.cV_own (o := 0) (idx := 133) (av := [.int (nI r)]) (rv := (some (.int (g_X10_isReached (g_X10_findVotes (zU M 0 0 0) n) r)))) (st := []) (S1 := [.int (g_X10_isReached (g_X10_findVotes (zU M 0 0 0) n) r)]) (c_X10_isReached (g_X10_findVotes (zU M 0 0 0) n) (zGp gq) r (zHd.of2 (congrFun (fr_X10_findVotes (zU M 0 0 0) n 1 (by decide)) 4) (congrFun (fr_X10_findVotes (zU M 0 0 0) n 1 (by decide)) 6) hd) (by omega)) k_X10_isReached _ _ rfl rfl rfl (zIn (w := 6015) (by decide +kernel) rfl) (by decide +kernel) (by decide +kernel) rfl (Nat.le_of_ble_eq_true rfl) rfl ?_
          refine zT.zeq (tgt := 134) (off := 7) (by decide +kernel) (by decide) (fun (c8 : (g_X10_isReached (g_X10_findVotes (zU M 0 0 0) n) r) = 0) => ?_) (fun (c8 : ¬ (g_X10_isReached (g_X10_findVotes (zU M 0 0 0) n) r) = 0) => ?_)
          · skip
            refine zT.run [(.iconst 0, 0, 0, 0)] (pe := 135) (ls' := [some (.ref 0), some (.int (nI r)), some (.int w)]) (st' := [.int 0]) (M' := (g_X10_findVotes (zU M 0 0 0) n)) (by decide +kernel) rfl ?_
            exact zT.iret (ty := Jvm.ClassFile.FieldType.int) (by simp only [g_X10_replica, if_neg c1, if_neg c3, if_neg c6, if_pos c7, if_pos c8]; try rfl) (by simp only [g_X10_replica, if_neg c1, if_neg c3, if_neg c6, if_pos c7, if_pos c8]; try rfl) rfl rfl (by decide +kernel)
          · skip
            refine zT.run [(.iconst 1, 0, 0, 0), (.goto 4, 0, 0, 0)] (pe := 135) (ls' := [some (.ref 0), some (.int (nI r)), some (.int w)]) (st' := [.int 1]) (M' := (g_X10_findVotes (zU M 0 0 0) n)) (by decide +kernel) rfl ?_
            exact zT.iret (ty := Jvm.ClassFile.FieldType.int) (by simp only [g_X10_replica, if_neg c1, if_neg c3, if_neg c6, if_pos c7, if_neg c8]; try rfl) (by simp only [g_X10_replica, if_neg c1, if_neg c3, if_neg c6, if_pos c7, if_neg c8]; try rfl) rfl rfl (by decide +kernel)
        · skip
          refine zT.tabDef (tgt := 136) (dflt := 104) (lo := 6) (hi := 9) (offs := #[32, 52, 83, 90]) (len := 32) (by decide +kernel) (by intro k h1 h2; rcases (show k = 6 ∨ k = 7 ∨ k = 8 ∨ k = 9 by omega) with rfl | rfl | rfl | rfl; exact Or.inr (zNe rfl c1); exact Or.inr (zNe rfl c3); exact Or.inr (zNe rfl c6); exact Or.inr (zNe rfl c7)) (by decide) ?_
          refine zT.run [(.aload_n 0, 0, 0, 0), (.iload_n 1, 0, 0, 0), (.iload_n 2, 0, 0, 0)] (pe := 139) (ls' := [some (.ref 0), some (.int (nI r)), some (.int w)]) (st' := [.int w, .int (nI r), .ref 0]) (M' := (g_X10_findVotes (zU M 0 0 0) n)) (by decide +kernel) rfl ?_
          refine zT.eqS (congrArg (fun v : Int32 => ([.int v, .int (nI r), .ref 0] : List Value)) (z09 (k := 9) (by decide) hx1 hx2).1) ?_
          refine zT.cV_own (o := 0) (idx := 80) (av := [.int (nI r), .int (nI w.toNatClampNeg)]) (rv := (some (.int (g_X10_of (g_X10_findVotes (zU M 0 0 0) n) r w.toNatClampNeg)))) (st := []) (S1 := [.int (g_X10_of (g_X10_findVotes (zU M 0 0 0) n) r w.toNatClampNeg)]) (c_X10_of (g_X10_findVotes (zU M 0 0 0) n) (zGp gq) r w.toNatClampNeg (by omega) (zW8 hx1 hx2 (by assumption))) k_X10_of _ _ rfl rfl rfl (zIn (w := 5108) (by decide +kernel) rfl) (by decide +kernel) (by decide +kernel) rfl (Nat.le_of_ble_eq_true rfl) rfl ?_
          exact zT.iret (ty := Jvm.ClassFile.FieldType.int) (by simp only [g_X10_replica, if_neg c1, if_neg c3, if_neg c6, if_neg c7]; try rfl) (by simp only [g_X10_replica, if_neg c1, if_neg c3, if_neg c6, if_neg c7]; try rfl) rfl rfl (by decide +kernel)
theorem k_X10_replica : zCal yy_X10_replica 2 := ⟨⟨⟨⟨zIn (w := 7035) (by decide +kernel) rfl, zIn (w := 1012) (by decide +kernel) rfl⟩, by decide +kernel⟩, by decide +kernel⟩, ⟨zIn (w := 7033) (by decide +kernel) rfl, zIn (w := 7034) (by decide +kernel) rfl⟩⟩
noncomputable abbrev yy_X10_outcome : zY := (yX10_outcome, cX10_outcome, 3, (some Jvm.ClassFile.FieldType.int), 1, 24)
noncomputable def g_X10_outcome (M : zM) (gq : Nat → Nat) (pc : Nat) (oz : Nat) (bk : Int32) (w : Int32) : Int32 × zM := (if bk < 0 then ((-1), (zU M 0 0 0)) else (if bk < (M 1 9) then ((g_X10_outcomeOf (zU M 0 0 0) oz bk.toNatClampNeg w.toNatClampNeg), (zU M 0 0 0)) else ((-1), (zU M 0 0 0))))
set_option maxRecDepth 100000 in
theorem c_X10_outcome (M : zM) (gq : Nat → Nat) (pc : Nat) (oz : Nat) (bk : Int32) (w : Int32) (hM : M 0 3 = nI pc) (hpc : pc ≤ 10) (hq : zPm gq) (hoz : M 1 9 = nI oz) (h12 : oz ≤ 12) (hx1 : ¬ w < 0) (hx2 : w ≤ 5) : zC yy_X10_outcome 0 0 [.ref 0, .int bk, .int w] (sh_Model (zGp gq)) M (some (.int (g_X10_outcome M gq pc oz bk w).1)) (sh_Model (zGp gq)) (g_X10_outcome M gq pc oz bk w).2 := by
  refine zC.of (by decide +kernel) rfl (Nat.le_of_ble_eq_true rfl) ?_
  refine zT.run [(.aload_n 0, 0, 0, 0), (.iconst 0, 0, 0, 0), (.putfield 61, 8, 0, 5149), (.aload_n 0, 0, 0, 0), (.iload_n 2, 0, 0, 0), (.iconst 0, 0, 0, 0), (.iconst 5, 0, 0, 0), (.iconst 1, 0, 0, 0)] (pe := 10) (ls' := [some (.ref 0), some (.int bk), some (.int w)]) (st' := [.int 1, .int 5, .int 0, .int w, .ref 0]) (M' := (zU M 0 0 0)) (by decide +kernel) rfl ?_
  refine zT.cV_own (o := 0) (idx := 72) (av := [.int w, .int 0, .int 5, .int 1]) (rv := (some (.int 0))) (st := []) (S1 := [.int 0]) (c_X10_bad_ok (zU M 0 0 0) (zGp gq) w 0 5 1 hx1 hx2) k_X10_bad _ _ rfl rfl rfl (zIn (w := 5220) (by decide +kernel) rfl) (by decide +kernel) (by decide +kernel) rfl (Nat.le_of_ble_eq_true rfl) rfl ?_
  refine zT.zeq (tgt := 18) (off := 5) (by decide +kernel) (by decide) (fun _ => ?_) (fun c => absurd (by decide) c)
  refine zT.run [(.iload_n 1, 0, 0, 0)] (pe := 19) (ls' := [some (.ref 0), some (.int bk), some (.int w)]) (st' := [.int bk]) (M' := (zU M 0 0 0)) (by decide +kernel) rfl ?_
  refine zT.zlt (tgt := 33) (off := 14) (by decide +kernel) (by decide) (fun (c1 : bk < 0) => ?_) (fun (c1 : ¬ bk < 0) => ?_)
  · skip
    refine zT.run [(.iconst (-1), 0, 0, 0), (.goto 9, 0, 0, 0)] (pe := 43) (ls' := [some (.ref 0), some (.int bk), some (.int w)]) (st' := [.int (-1)]) (M' := (zU M 0 0 0)) (by decide +kernel) rfl ?_
    exact zT.iret (ty := Jvm.ClassFile.FieldType.int) (by simp only [g_X10_outcome, if_pos c1]; try rfl) (by simp only [g_X10_outcome, if_pos c1]; try rfl) rfl rfl (by decide +kernel)
  · skip
    refine zT.run [(.iload_n 1, 0, 0, 0), (.aload_n 0, 0, 0, 0), (.getfield 9, 8, 1, 5150), (.bipush 9, 0, 0, 0)] (pe := 29) (ls' := [some (.ref 0), some (.int bk), some (.int w)]) (st' := [.int 9, .ref 1, .int bk]) (M' := (zU M 0 0 0)) (by decide +kernel) rfl ?_
    refine zT.iald (n := 187) (k := 9) rfl rfl (by decide) (by decide) (by decide +kernel) ?_
    refine zT.clt (tgt := 37) (off := 7) (by decide +kernel) (by decide) (fun (c2 : bk < (M 1 9)) => ?_) (fun (c2 : ¬ bk < (M 1 9)) => ?_)
    · skip
      refine zT.run [(.aload_n 0, 0, 0, 0), (.iload_n 1, 0, 0, 0), (.iload_n 2, 0, 0, 0)] (pe := 40) (ls' := [some (.ref 0), some (.int bk), some (.int w)]) (st' := [.int w, .int bk, .ref 0]) (M' := (zU M 0 0 0)) (by decide +kernel) rfl ?_
      refine zT.eqS (congrArg (fun v : Int32 => ([.int w, .int v, .ref 0] : List Value)) (zBk hoz (by omega) (by assumption) (by assumption)).1) ?_
      refine zT.eqS (congrArg (fun v : Int32 => ([.int v, .int (nI bk.toNatClampNeg), .ref 0] : List Value)) (z09 (k := 5) (by decide) hx1 hx2).1) ?_
      refine zT.cV_own (o := 0) (idx := 150) (av := [.int (nI bk.toNatClampNeg), .int (nI w.toNatClampNeg)]) (rv := (some (.int (g_X10_outcomeOf (zU M 0 0 0) oz bk.toNatClampNeg w.toNatClampNeg)))) (st := []) (S1 := [.int (g_X10_outcomeOf (zU M 0 0 0) oz bk.toNatClampNeg w.toNatClampNeg)]) (c_X10_outcomeOf (zU M 0 0 0) (zGp gq) oz bk.toNatClampNeg w.toNatClampNeg hoz h12 (zBk hoz (by omega) (by assumption) (by assumption)).2 (by have := (z09 (k := 5) (by decide) hx1 hx2).2; omega)) k_X10_outcomeOf _ _ rfl rfl rfl (zIn (w := 6095) (by decide +kernel) rfl) (by decide +kernel) (by decide +kernel) rfl (Nat.le_of_ble_eq_true rfl) rfl ?_
      exact zT.iret (ty := Jvm.ClassFile.FieldType.int) (by simp only [g_X10_outcome, if_neg c1, if_pos c2]; try rfl) (by simp only [g_X10_outcome, if_neg c1, if_pos c2]; try rfl) rfl rfl (by decide +kernel)
    · skip
      refine zT.run [(.iconst (-1), 0, 0, 0), (.goto 9, 0, 0, 0)] (pe := 43) (ls' := [some (.ref 0), some (.int bk), some (.int w)]) (st' := [.int (-1)]) (M' := (zU M 0 0 0)) (by decide +kernel) rfl ?_
      exact zT.iret (ty := Jvm.ClassFile.FieldType.int) (by simp only [g_X10_outcome, if_neg c1, if_neg c2]; try rfl) (by simp only [g_X10_outcome, if_neg c1, if_neg c2]; try rfl) rfl rfl (by decide +kernel)
theorem k_X10_outcome : zCal yy_X10_outcome 2 := ⟨⟨⟨⟨zIn (w := 7043) (by decide +kernel) rfl, zIn (w := 1012) (by decide +kernel) rfl⟩, by decide +kernel⟩, by decide +kernel⟩, ⟨zIn (w := 7041) (by decide +kernel) rfl, zIn (w := 7042) (by decide +kernel) rfl⟩⟩
noncomputable abbrev yy_X10_vital : zY := (yX10_vital, cX10_vital, 4, (some Jvm.ClassFile.FieldType.int), 4, 89)
noncomputable def l_X10_vital_22 (M : zM) (gq : Nat → Nat) (pc : Nat) (n : Nat) (i1 : Nat) (s1 : Int32 × zM) : Int32 × zM := (if (if (g_X10_callersNow (zU M 0 0 0) n) = 0 then (0 : Int32) else (1 : Int32)) = 0 then (s1.1, s1.2) else (if (g_X10_isUp s1.2 i1) = 0 then (s1.1, s1.2) else ((s1.1 ||| (if (g_X10_callersNow (g_X10_put s1.2 i1 2 0) n) = 0 then (1 <<< ((nI i1) &&& 31)) else (0 : Int32))), (g_X10_put (g_X10_put s1.2 i1 2 0) i1 2 1))))
theorem fr_l_X10_vital_22 (M : zM) (gq : Nat → Nat) (pc : Nat) (n : Nat) (o : Nat) (ho : o ≠ 1) : ∀ (k : Nat) (s : Int32 × zM), (zIt (l_X10_vital_22 M gq pc n) k s).2 o = s.2 o := by
  intro k
  induction k with
  | zero => intro s; rfl
  | succ k ih =>
    intro s
    rw [← ih s]
    show (l_X10_vital_22 M gq pc n k (zIt (l_X10_vital_22 M gq pc n) k s)).2 o = _
    generalize zIt (l_X10_vital_22 M gq pc n) k s = t
    simp only [l_X10_vital_22]
    (repeat' split) <;> simp only [zU_ne ho, (fun (MM : zM) (r : Nat) (w : Nat) (v : Int32) => fr_X10_put MM r w v o (by omega)), (fun (MM : zM) (r : Nat) (w : Nat) (v : Int32) => fr_X10_put MM r w v o (by omega))]
theorem lo_l_X10_vital_22 (M : zM) (gq : Nat → Nat) (pc : Nat) (n : Nat) (o : Nat) (ho : o < 10) : ∀ (k : Nat) (s : Int32 × zM), (zIt (l_X10_vital_22 M gq pc n) k s).2 1 o = s.2 1 o := by
  intro k
  induction k with
  | zero => intro s; rfl
  | succ k ih =>
    intro s
    rw [← ih s]
    show (l_X10_vital_22 M gq pc n k (zIt (l_X10_vital_22 M gq pc n) k s)).2 1 o = _
    generalize zIt (l_X10_vital_22 M gq pc n) k s = t
    simp only [l_X10_vital_22]
    (repeat' split) <;> (try simp only [(fun (MM : zM) (r : Nat) (w : Nat) (v : Int32) => lo_X10_put MM r w v o (by omega))])
noncomputable def r_X10_vital_22 (M : zM) (gq : Nat → Nat) (pc : Nat) (n : Nat) : Int32 × zM := (zIt (l_X10_vital_22 M gq pc n) n (0, (zU M 0 0 0)))
noncomputable def g_X10_vital (M : zM) (gq : Nat → Nat) (pc : Nat) (n : Nat) : Int32 × zM := ((r_X10_vital_22 M gq pc n).1, (r_X10_vital_22 M gq pc n).2)
set_option maxRecDepth 100000 in
theorem c_X10_vital (M : zM) (gq : Nat → Nat) (pc : Nat) (n : Nat) (hM : M 0 3 = nI pc) (hpc : pc ≤ 10) (hq : zPm gq) (hn : M 1 0 = nI n) (h9 : n ≤ 9) : zC yy_X10_vital 0 0 [.ref 0] (sh_Model (zGp gq)) M (some (.int (g_X10_vital M gq pc n).1)) (sh_Model (zGp gq)) (g_X10_vital M gq pc n).2 := by
  refine zC.of (by decide +kernel) rfl (Nat.le_of_ble_eq_true rfl) ?_
  refine zT.run [(.aload_n 0, 0, 0, 0), (.iconst 0, 0, 0, 0), (.putfield 61, 8, 0, 5149), (.iconst 0, 0, 0, 0), (.istore_n 1, 0, 0, 0), (.aload_n 0, 0, 0, 0)] (pe := 8) (ls' := [some (.ref 0), some (.int 0), none, none]) (st' := [.ref 0]) (M' := (zU M 0 0 0)) (by decide +kernel) rfl ?_
  refine zT.cV_own (o := 0) (idx := 338) (av := []) (rv := (some (.int (g_X10_callersNow (zU M 0 0 0) n)))) (st := []) (S1 := [.int (g_X10_callersNow (zU M 0 0 0) n)]) (c_X10_callersNow (zU M 0 0 0) (zGp gq) n hn h9) k_X10_callersNow _ _ rfl rfl rfl (zIn (w := 7072) (by decide +kernel) rfl) (by decide +kernel) (by decide +kernel) rfl (Nat.le_of_ble_eq_true rfl) rfl ?_
  refine zT.join (19, [some (.ref 0), some (.int 0), none, none], [.int (if (g_X10_callersNow (zU M 0 0 0) n) = 0 then (0 : Int32) else (1 : Int32))], (sh_Model (zGp gq)), (zU M 0 0 0)) ?_ ?_
  · refine zT.zeq (tgt := 18) (off := 7) (by decide +kernel) (by decide) (fun (c1 : (g_X10_callersNow (zU M 0 0 0) n) = 0) => ?_) (fun (c1 : ¬ (g_X10_callersNow (zU M 0 0 0) n) = 0) => ?_)
    · skip
      refine zT.run [(.iconst 0, 0, 0, 0)] (pe := 19) (ls' := [some (.ref 0), some (.int 0), none, none]) (st' := [.int 0]) (M' := (zU M 0 0 0)) (by decide +kernel) rfl ?_
      exact zT.here (by simp only [if_pos c1]; try rfl)
    · skip
      refine zT.run [(.iconst 1, 0, 0, 0), (.goto 4, 0, 0, 0)] (pe := 19) (ls' := [some (.ref 0), some (.int 0), none, none]) (st' := [.int 1]) (M' := (zU M 0 0 0)) (by decide +kernel) rfl ?_
      exact zT.here (by simp only [if_neg c1]; try rfl)
  · skip
    refine zT.run [(.istore_n 2, 0, 0, 0), (.iconst 0, 0, 0, 0), (.istore_n 3, 0, 0, 0)] (pe := 22) (ls' := [some (.ref 0), some (.int 0), some (.int (if (g_X10_callersNow (zU M 0 0 0) n) = 0 then (0 : Int32) else (1 : Int32))), some (.int 0)]) (st' := []) (M' := (zU M 0 0 0)) (by decide +kernel) rfl ?_
    refine zT.loop (l_X10_vital_22 M gq pc n) (fun (i : Nat) (s : Int32 × zM) => (22, [some (.ref 0), some (.int s.1), some (.int (if (g_X10_callersNow (zU M 0 0 0) n) = 0 then (0 : Int32) else (1 : Int32))), some (.int (nI i))], [], (sh_Model (zGp gq)), s.2)) n (0, (zU M 0 0 0)) (fun i1 hi1 k1 => ?_) ?_
    · skip
      generalize hs1 : zIt (l_X10_vital_22 M gq pc n) i1 (0, (zU M 0 0 0)) = s1 at k1 ⊢
      have hm1 : ∀ o : Nat, (o ≠ 1) → s1.2 o = (zU M 0 0 0) o := fun o ho => by rw [← hs1]; exact fr_l_X10_vital_22 M gq pc n o ho i1 (0, (zU M 0 0 0))
      have hl1 : ∀ o : Nat, (o < 10) → s1.2 1 o = (zU M 0 0 0) 1 o := fun o ho => by rw [← hs1]; exact lo_l_X10_vital_22 M gq pc n o ho i1 (0, (zU M 0 0 0))
      show zT _ _ _ _ (22, [some (.ref 0), some (.int s1.1), some (.int (if (g_X10_callersNow (zU M 0 0 0) n) = 0 then (0 : Int32) else (1 : Int32))), some (.int (nI i1))], [], (sh_Model (zGp gq)), s1.2)
      refine zT.run [(.iload_n 3, 0, 0, 0), (.aload_n 0, 0, 0, 0), (.getfield 9, 8, 1, 5150), (.iconst 0, 0, 0, 0)] (pe := 28) (ls' := [some (.ref 0), some (.int s1.1), some (.int (if (g_X10_callersNow (zU M 0 0 0) n) = 0 then (0 : Int32) else (1 : Int32))), some (.int (nI i1))]) (st' := [.int 0, .ref 1, .int (nI i1)]) (M' := s1.2) (by decide +kernel) rfl ?_
      refine zT.iald (n := 187) (k := 0) rfl rfl (by decide) (by decide) (by decide +kernel) ?_
      refine zT.cge (tgt := 81) (off := 52) (by decide +kernel) (by decide) (fun c => absurd c (zGeN (n := n) ((hl1 0 (by decide)).trans hn) (by omega) (by omega))) (fun _ => ?_)
      refine zT.run [(.iload_n 2, 0, 0, 0)] (pe := 33) (ls' := [some (.ref 0), some (.int s1.1), some (.int (if (g_X10_callersNow (zU M 0 0 0) n) = 0 then (0 : Int32) else (1 : Int32))), some (.int (nI i1))]) (st' := [.int (if (g_X10_callersNow (zU M 0 0 0) n) = 0 then (0 : Int32) else (1 : Int32))]) (M' := s1.2) (by decide +kernel) rfl ?_
      refine zT.zeq (tgt := 75) (off := 42) (by decide +kernel) (by decide) (fun (c2 : (if (g_X10_callersNow (zU M 0 0 0) n) = 0 then (0 : Int32) else (1 : Int32)) = 0) => ?_) (fun (c2 : ¬ (if (g_X10_callersNow (zU M 0 0 0) n) = 0 then (0 : Int32) else (1 : Int32)) = 0) => ?_)
      · skip
        refine zT.run [(.iinc 3 1, 0, 0, 0), (.goto (-56), 0, 0, 0)] (pe := 22) (ls' := [some (.ref 0), some (.int s1.1), some (.int (if (g_X10_callersNow (zU M 0 0 0) n) = 0 then (0 : Int32) else (1 : Int32))), some (.int ((nI i1) + 1))]) (st' := []) (M' := s1.2) (by decide +kernel) rfl ?_
        exact zT.eq (by simp only [l_X10_vital_22, if_pos c2, nI_succ, zDl]; try rfl) k1
      · skip
        refine zT.run [(.aload_n 0, 0, 0, 0), (.iload_n 3, 0, 0, 0)] (pe := 38) (ls' := [some (.ref 0), some (.int s1.1), some (.int (if (g_X10_callersNow (zU M 0 0 0) n) = 0 then (0 : Int32) else (1 : Int32))), some (.int (nI i1))]) (st' := [.int (nI i1), .ref 0]) (M' := s1.2) (by decide +kernel) rfl ?_
        refine zT.cV_own (o := 0) (idx := 86) (av := [.int (nI i1)]) (rv := (some (.int (g_X10_isUp s1.2 i1)))) (st := []) (S1 := [.int (g_X10_isUp s1.2 i1)]) (c_X10_isUp s1.2 (zGp gq) i1 (by omega)) k_X10_isUp _ _ rfl rfl rfl (zIn (w := 5120) (by decide +kernel) rfl) (by decide +kernel) (by decide +kernel) rfl (Nat.le_of_ble_eq_true rfl) rfl ?_
        refine zT.zeq (tgt := 75) (off := 34) (by decide +kernel) (by decide) (fun (c3 : (g_X10_isUp s1.2 i1) = 0) => ?_) (fun (c3 : ¬ (g_X10_isUp s1.2 i1) = 0) => ?_)
        · skip
          refine zT.run [(.iinc 3 1, 0, 0, 0), (.goto (-56), 0, 0, 0)] (pe := 22) (ls' := [some (.ref 0), some (.int s1.1), some (.int (if (g_X10_callersNow (zU M 0 0 0) n) = 0 then (0 : Int32) else (1 : Int32))), some (.int ((nI i1) + 1))]) (st' := []) (M' := s1.2) (by decide +kernel) rfl ?_
          exact zT.eq (by simp only [l_X10_vital_22, if_neg c2, if_pos c3, nI_succ, zDl]; try rfl) k1
        · skip
          refine zT.run [(.aload_n 0, 0, 0, 0), (.iload_n 3, 0, 0, 0), (.iconst 2, 0, 0, 0), (.iconst 0, 0, 0, 0)] (pe := 48) (ls' := [some (.ref 0), some (.int s1.1), some (.int (if (g_X10_callersNow (zU M 0 0 0) n) = 0 then (0 : Int32) else (1 : Int32))), some (.int (nI i1))]) (st' := [.int 0, .int 2, .int (nI i1), .ref 0]) (M' := s1.2) (by decide +kernel) rfl ?_
          refine zT.cV_all (o := 0) (idx := 76) (av := [.int (nI i1), .int (nI 2), .int 0]) (rv := none) (st := []) (S1 := []) (c_X10_put s1.2 (zGp gq) i1 2 0 (by omega) (by decide)) k_X10_put _ _ rfl rfl rfl (zIn (w := 5100) (by decide +kernel) rfl) (by decide +kernel) (by decide +kernel) rfl (Nat.le_of_ble_eq_true rfl) rfl ?_
          refine zT.run [(.iload_n 1, 0, 0, 0), (.aload_n 0, 0, 0, 0)] (pe := 53) (ls' := [some (.ref 0), some (.int s1.1), some (.int (if (g_X10_callersNow (zU M 0 0 0) n) = 0 then (0 : Int32) else (1 : Int32))), some (.int (nI i1))]) (st' := [.ref 0, .int s1.1]) (M' := (g_X10_put s1.2 i1 2 0)) (by decide +kernel) rfl ?_
          refine zT.cV_own (o := 0) (idx := 338) (av := []) (rv := (some (.int (g_X10_callersNow (g_X10_put s1.2 i1 2 0) n)))) (st := [.int s1.1]) (S1 := [.int (g_X10_callersNow (g_X10_put s1.2 i1 2 0) n), .int s1.1]) (c_X10_callersNow (g_X10_put s1.2 i1 2 0) (zGp gq) n (((lo_X10_put s1.2 i1 2 0 0 (by decide)).trans (hl1 0 (by decide))).trans hn) h9) k_X10_callersNow _ _ rfl rfl rfl (zIn (w := 7072) (by decide +kernel) rfl) (by decide +kernel) (by decide +kernel) rfl (Nat.le_of_ble_eq_true rfl) rfl ?_
          refine zT.join (66, [some (.ref 0), some (.int s1.1), some (.int (if (g_X10_callersNow (zU M 0 0 0) n) = 0 then (0 : Int32) else (1 : Int32))), some (.int (nI i1))], [.int (if (g_X10_callersNow (g_X10_put s1.2 i1 2 0) n) = 0 then (1 <<< ((nI i1) &&& 31)) else (0 : Int32)), .int s1.1], (sh_Model (zGp gq)), (g_X10_put s1.2 i1 2 0)) ?_ ?_
          · refine zT.zne (tgt := 65) (off := 9) (by decide +kernel) (by decide) (fun (c4 : ¬ (g_X10_callersNow (g_X10_put s1.2 i1 2 0) n) = 0) => ?_) (fun (c4 : (g_X10_callersNow (g_X10_put s1.2 i1 2 0) n) = 0) => ?_)
            · skip
              refine zT.run [(.iconst 0, 0, 0, 0)] (pe := 66) (ls' := [some (.ref 0), some (.int s1.1), some (.int (if (g_X10_callersNow (zU M 0 0 0) n) = 0 then (0 : Int32) else (1 : Int32))), some (.int (nI i1))]) (st' := [.int 0, .int s1.1]) (M' := (g_X10_put s1.2 i1 2 0)) (by decide +kernel) rfl ?_
              exact zT.here (by simp only [if_neg c4]; try rfl)
            · skip
              refine zT.run [(.iconst 1, 0, 0, 0), (.iload_n 3, 0, 0, 0), (.ishl, 0, 0, 0), (.goto 4, 0, 0, 0)] (pe := 66) (ls' := [some (.ref 0), some (.int s1.1), some (.int (if (g_X10_callersNow (zU M 0 0 0) n) = 0 then (0 : Int32) else (1 : Int32))), some (.int (nI i1))]) (st' := [.int (1 <<< ((nI i1) &&& 31)), .int s1.1]) (M' := (g_X10_put s1.2 i1 2 0)) (by decide +kernel) rfl ?_
              exact zT.here (by simp only [if_pos c4]; try rfl)
          · skip
            refine zT.run [(.ior, 0, 0, 0), (.istore_n 1, 0, 0, 0), (.aload_n 0, 0, 0, 0), (.iload_n 3, 0, 0, 0), (.iconst 2, 0, 0, 0), (.iconst 1, 0, 0, 0)] (pe := 72) (ls' := [some (.ref 0), some (.int (s1.1 ||| (if (g_X10_callersNow (g_X10_put s1.2 i1 2 0) n) = 0 then (1 <<< ((nI i1) &&& 31)) else (0 : Int32)))), some (.int (if (g_X10_callersNow (zU M 0 0 0) n) = 0 then (0 : Int32) else (1 : Int32))), some (.int (nI i1))]) (st' := [.int 1, .int 2, .int (nI i1), .ref 0]) (M' := (g_X10_put s1.2 i1 2 0)) (by decide +kernel) rfl ?_
            refine zT.cV_all (o := 0) (idx := 76) (av := [.int (nI i1), .int (nI 2), .int 1]) (rv := none) (st := []) (S1 := []) (c_X10_put (g_X10_put s1.2 i1 2 0) (zGp gq) i1 2 1 (by omega) (by decide)) k_X10_put _ _ rfl rfl rfl (zIn (w := 5100) (by decide +kernel) rfl) (by decide +kernel) (by decide +kernel) rfl (Nat.le_of_ble_eq_true rfl) rfl ?_
            refine zT.run [(.iinc 3 1, 0, 0, 0), (.goto (-56), 0, 0, 0)] (pe := 22) (ls' := [some (.ref 0), some (.int (s1.1 ||| (if (g_X10_callersNow (g_X10_put s1.2 i1 2 0) n) = 0 then (1 <<< ((nI i1) &&& 31)) else (0 : Int32)))), some (.int (if (g_X10_callersNow (zU M 0 0 0) n) = 0 then (0 : Int32) else (1 : Int32))), some (.int ((nI i1) + 1))]) (st' := []) (M' := (g_X10_put (g_X10_put s1.2 i1 2 0) i1 2 1)) (by decide +kernel) rfl ?_
            exact zT.eq (by simp only [l_X10_vital_22, if_neg c2, if_neg c3, nI_succ, zDl]; try rfl) k1
    · skip
      show zT _ _ _ _ (22, [some (.ref 0), some (.int (r_X10_vital_22 M gq pc n).1), some (.int (if (g_X10_callersNow (zU M 0 0 0) n) = 0 then (0 : Int32) else (1 : Int32))), some (.int (nI n))], [], (sh_Model (zGp gq)), (r_X10_vital_22 M gq pc n).2)
      refine zT.run [(.iload_n 3, 0, 0, 0), (.aload_n 0, 0, 0, 0), (.getfield 9, 8, 1, 5150), (.iconst 0, 0, 0, 0)] (pe := 28) (ls' := [some (.ref 0), some (.int (r_X10_vital_22 M gq pc n).1), some (.int (if (g_X10_callersNow (zU M 0 0 0) n) = 0 then (0 : Int32) else (1 : Int32))), some (.int (nI n))]) (st' := [.int 0, .ref 1, .int (nI n)]) (M' := (r_X10_vital_22 M gq pc n).2) (by decide +kernel) rfl ?_
      refine zT.iald (n := 187) (k := 0) rfl rfl (by decide) (by decide) (by decide +kernel) ?_
      refine zT.cge (tgt := 81) (off := 52) (by decide +kernel) (by decide) (fun _ => ?_) (fun c => absurd (zGeY (n := n) ((lo_l_X10_vital_22 M gq pc n 0 (by decide) n (0, (zU M 0 0 0))).trans hn)) c)
      refine zT.run [(.iload_n 1, 0, 0, 0)] (pe := 82) (ls' := [some (.ref 0), some (.int (r_X10_vital_22 M gq pc n).1), some (.int (if (g_X10_callersNow (zU M 0 0 0) n) = 0 then (0 : Int32) else (1 : Int32))), some (.int (nI n))]) (st' := [.int (r_X10_vital_22 M gq pc n).1]) (M' := (r_X10_vital_22 M gq pc n).2) (by decide +kernel) rfl ?_
      exact zT.iret (ty := Jvm.ClassFile.FieldType.int) (by simp only [g_X10_vital]; try rfl) (by simp only [g_X10_vital]; try rfl) rfl rfl (by decide +kernel)
theorem k_X10_vital : zCal yy_X10_vital 0 := ⟨⟨⟨⟨zIn (w := 7079) (by decide +kernel) rfl, zIn (w := 1012) (by decide +kernel) rfl⟩, by decide +kernel⟩, by decide +kernel⟩, ⟨zIn (w := 7077) (by decide +kernel) rfl, zIn (w := 7078) (by decide +kernel) rfl⟩⟩
noncomputable abbrev yy_X10_wrongVotes : zY := (yX10_wrongVotes, cX10_wrongVotes, 4, (some Jvm.ClassFile.FieldType.int), 1, 22)
noncomputable def l_X10_wrongVotes_88 (M : zM) (n : Nat) (i1 : Nat) (s1 : Int32) (i2 : Nat) (s2 : Int32) : Int32 := (s2 + (if (((g_X10_of M i1 5) >>> ((nI i2) &&& 31)) &&& 1) = (((g_X10_of M i2 5) >>> ((nI i1) &&& 31)) &&& 1) then (0 : Int32) else (1 : Int32)))
noncomputable def r_X10_wrongVotes_88 (M : zM) (n : Nat) (i1 : Nat) (s1 : Int32) : Int32 := (zIt (l_X10_wrongVotes_88 M n i1 s1) i1 ((s1 + (if (g_X10_isOnRoll M (nI i1)) = 0 then (0 : Int32) else (if (g_X10_of M i1 6) = 2 then (if (g_X10_isOnRoll M (g_X10_of M i1 7)) = 0 then (1 : Int32) else (0 : Int32)) else (0 : Int32)))) + (if (g_X10_isOnRoll M (nI i1)) = 0 then (0 : Int32) else (if (g_X10_of M i1 3) = (M 1 5) then (0 : Int32) else (1 : Int32)))))
noncomputable def l_X10_wrongVotes_4 (M : zM) (n : Nat) (i1 : Nat) (s1 : Int32) : Int32 := (r_X10_wrongVotes_88 M n i1 s1)
noncomputable def g_X10_wrongVotes (M : zM) (n : Nat) : Int32 := (zIt (l_X10_wrongVotes_4 M n) n 0)
set_option maxRecDepth 100000 in
theorem c_X10_wrongVotes (M : zM) (gp : Nat → Option Nat) (n : Nat) (hn : M 1 0 = nI n) (h9 : n ≤ 9) : zC yy_X10_wrongVotes 0 0 [.ref 0] (sh_Model gp) M (some (.int (g_X10_wrongVotes M n))) (sh_Model gp) M := by
  refine zC.of (by decide +kernel) rfl (Nat.le_of_ble_eq_true rfl) ?_
  refine zT.run [(.iconst 0, 0, 0, 0), (.istore_n 1, 0, 0, 0), (.iconst 0, 0, 0, 0), (.istore_n 2, 0, 0, 0)] (pe := 4) (ls' := [some (.ref 0), some (.int 0), some (.int 0), none]) (st' := []) (M' := M) (by decide +kernel) rfl ?_
  refine zT.loop (l_X10_wrongVotes_4 M n) (fun (i : Nat) (s : Int32) => (4, [some (.ref 0), some (.int s), some (.int (nI i)), none], [], (sh_Model gp), M)) n 0 (fun i1 hi1 k1 => ?_) ?_
  · skip
    generalize hs1 : zIt (l_X10_wrongVotes_4 M n) i1 0 = s1 at k1 ⊢
    show zT _ _ _ _ (4, [some (.ref 0), some (.int s1), some (.int (nI i1)), none], [], (sh_Model gp), M)
    refine zT.run [(.iload_n 2, 0, 0, 0), (.aload_n 0, 0, 0, 0), (.getfield 9, 8, 1, 5150), (.iconst 0, 0, 0, 0)] (pe := 10) (ls' := [some (.ref 0), some (.int s1), some (.int (nI i1)), none]) (st' := [.int 0, .ref 1, .int (nI i1)]) (M' := M) (by decide +kernel) rfl ?_
    refine zT.iald (n := 187) (k := 0) rfl rfl (by decide) (by decide) (by decide +kernel) ?_
    refine zT.cge (tgt := 136) (off := 125) (by decide +kernel) (by decide) (fun c => absurd c (zGeN (n := n) hn (by omega) (by omega))) (fun _ => ?_)
    refine zT.run [(.iload_n 1, 0, 0, 0), (.aload_n 0, 0, 0, 0), (.iload_n 2, 0, 0, 0)] (pe := 17) (ls' := [some (.ref 0), some (.int s1), some (.int (nI i1)), none]) (st' := [.int (nI i1), .ref 0, .int s1]) (M' := M) (by decide +kernel) rfl ?_
    refine zT.cV_own (o := 0) (idx := 106) (av := [.int (nI i1)]) (rv := (some (.int (g_X10_isOnRoll M (nI i1))))) (st := [.int s1]) (S1 := [.int (g_X10_isOnRoll M (nI i1)), .int s1]) (c_X10_isOnRoll M gp (nI i1)) k_X10_isOnRoll _ _ rfl rfl rfl (zIn (w := 5145) (by decide +kernel) rfl) (by decide +kernel) (by decide +kernel) rfl (Nat.le_of_ble_eq_true rfl) rfl ?_
    refine zT.join (53, [some (.ref 0), some (.int s1), some (.int (nI i1)), none], [.int (if (g_X10_isOnRoll M (nI i1)) = 0 then (0 : Int32) else (if (g_X10_of M i1 6) = 2 then (if (g_X10_isOnRoll M (g_X10_of M i1 7)) = 0 then (1 : Int32) else (0 : Int32)) else (0 : Int32))), .int s1], (sh_Model gp), M) ?_ ?_
    · refine zT.zeq (tgt := 52) (off := 32) (by decide +kernel) (by decide) (fun (c1 : (g_X10_isOnRoll M (nI i1)) = 0) => ?_) (fun (c1 : ¬ (g_X10_isOnRoll M (nI i1)) = 0) => ?_)
      · skip
        refine zT.run [(.iconst 0, 0, 0, 0)] (pe := 53) (ls' := [some (.ref 0), some (.int s1), some (.int (nI i1)), none]) (st' := [.int 0, .int s1]) (M' := M) (by decide +kernel) rfl ?_
        exact zT.here (by simp only [if_pos c1]; try rfl)
      · skip
        refine zT.run [(.aload_n 0, 0, 0, 0), (.iload_n 2, 0, 0, 0), (.bipush 6, 0, 0, 0)] (pe := 27) (ls' := [some (.ref 0), some (.int s1), some (.int (nI i1)), none]) (st' := [.int 6, .int (nI i1), .ref 0, .int s1]) (M' := M) (by decide +kernel) rfl ?_
        refine zT.cV_own (o := 0) (idx := 80) (av := [.int (nI i1), .int (nI 6)]) (rv := (some (.int (g_X10_of M i1 6)))) (st := [.int s1]) (S1 := [.int (g_X10_of M i1 6), .int s1]) (c_X10_of M gp i1 6 (by omega) (by decide)) k_X10_of _ _ rfl rfl rfl (zIn (w := 5108) (by decide +kernel) rfl) (by decide +kernel) (by decide +kernel) rfl (Nat.le_of_ble_eq_true rfl) rfl ?_
        refine zT.run [(.iconst 2, 0, 0, 0)] (pe := 31) (ls' := [some (.ref 0), some (.int s1), some (.int (nI i1)), none]) (st' := [.int 2, .int (g_X10_of M i1 6), .int s1]) (M' := M) (by decide +kernel) rfl ?_
        refine zT.cne (tgt := 52) (off := 21) (by decide +kernel) (by decide) (fun (c2 : ¬ (g_X10_of M i1 6) = 2) => ?_) (fun (c2 : (g_X10_of M i1 6) = 2) => ?_)
        · skip
          refine zT.run [(.iconst 0, 0, 0, 0)] (pe := 53) (ls' := [some (.ref 0), some (.int s1), some (.int (nI i1)), none]) (st' := [.int 0, .int s1]) (M' := M) (by decide +kernel) rfl ?_
          exact zT.here (by simp only [if_neg c1, if_neg c2]; try rfl)
        · skip
          refine zT.run [(.aload_n 0, 0, 0, 0), (.aload_n 0, 0, 0, 0), (.iload_n 2, 0, 0, 0), (.bipush 7, 0, 0, 0)] (pe := 39) (ls' := [some (.ref 0), some (.int s1), some (.int (nI i1)), none]) (st' := [.int 7, .int (nI i1), .ref 0, .ref 0, .int s1]) (M' := M) (by decide +kernel) rfl ?_
          refine zT.cV_own (o := 0) (idx := 80) (av := [.int (nI i1), .int (nI 7)]) (rv := (some (.int (g_X10_of M i1 7)))) (st := [.ref 0, .int s1]) (S1 := [.int (g_X10_of M i1 7), .ref 0, .int s1]) (c_X10_of M gp i1 7 (by omega) (by decide)) k_X10_of _ _ rfl rfl rfl (zIn (w := 5108) (by decide +kernel) rfl) (by decide +kernel) (by decide +kernel) rfl (Nat.le_of_ble_eq_true rfl) rfl ?_
          refine zT.cV_own (o := 0) (idx := 106) (av := [.int (g_X10_of M i1 7)]) (rv := (some (.int (g_X10_isOnRoll M (g_X10_of M i1 7))))) (st := [.int s1]) (S1 := [.int (g_X10_isOnRoll M (g_X10_of M i1 7)), .int s1]) (c_X10_isOnRoll M gp (g_X10_of M i1 7)) k_X10_isOnRoll _ _ rfl rfl rfl (zIn (w := 5145) (by decide +kernel) rfl) (by decide +kernel) (by decide +kernel) rfl (Nat.le_of_ble_eq_true rfl) rfl ?_
          refine zT.zne (tgt := 52) (off := 7) (by decide +kernel) (by decide) (fun (c3 : ¬ (g_X10_isOnRoll M (g_X10_of M i1 7)) = 0) => ?_) (fun (c3 : (g_X10_isOnRoll M (g_X10_of M i1 7)) = 0) => ?_)
          · skip
            refine zT.run [(.iconst 0, 0, 0, 0)] (pe := 53) (ls' := [some (.ref 0), some (.int s1), some (.int (nI i1)), none]) (st' := [.int 0, .int s1]) (M' := M) (by decide +kernel) rfl ?_
            exact zT.here (by simp only [if_neg c1, if_pos c2, if_neg c3]; try rfl)
          · skip
            refine zT.run [(.iconst 1, 0, 0, 0), (.goto 4, 0, 0, 0)] (pe := 53) (ls' := [some (.ref 0), some (.int s1), some (.int (nI i1)), none]) (st' := [.int 1, .int s1]) (M' := M) (by decide +kernel) rfl ?_
            exact zT.here (by simp only [if_neg c1, if_pos c2, if_pos c3]; try rfl)
    · skip
      refine zT.run [(.iadd, 0, 0, 0), (.istore_n 1, 0, 0, 0), (.iload_n 1, 0, 0, 0), (.aload_n 0, 0, 0, 0), (.iload_n 2, 0, 0, 0)] (pe := 58) (ls' := [some (.ref 0), some (.int (s1 + (if (g_X10_isOnRoll M (nI i1)) = 0 then (0 : Int32) else (if (g_X10_of M i1 6) = 2 then (if (g_X10_isOnRoll M (g_X10_of M i1 7)) = 0 then (1 : Int32) else (0 : Int32)) else (0 : Int32))))), some (.int (nI i1)), none]) (st' := [.int (nI i1), .ref 0, .int (s1 + (if (g_X10_isOnRoll M (nI i1)) = 0 then (0 : Int32) else (if (g_X10_of M i1 6) = 2 then (if (g_X10_isOnRoll M (g_X10_of M i1 7)) = 0 then (1 : Int32) else (0 : Int32)) else (0 : Int32))))]) (M' := M) (by decide +kernel) rfl ?_
      refine zT.cV_own (o := 0) (idx := 106) (av := [.int (nI i1)]) (rv := (some (.int (g_X10_isOnRoll M (nI i1))))) (st := [.int (s1 + (if (g_X10_isOnRoll M (nI i1)) = 0 then (0 : Int32) else (if (g_X10_of M i1 6) = 2 then (if (g_X10_isOnRoll M (g_X10_of M i1 7)) = 0 then (1 : Int32) else (0 : Int32)) else (0 : Int32))))]) (S1 := [.int (g_X10_isOnRoll M (nI i1)), .int (s1 + (if (g_X10_isOnRoll M (nI i1)) = 0 then (0 : Int32) else (if (g_X10_of M i1 6) = 2 then (if (g_X10_isOnRoll M (g_X10_of M i1 7)) = 0 then (1 : Int32) else (0 : Int32)) else (0 : Int32))))]) (c_X10_isOnRoll M gp (nI i1)) k_X10_isOnRoll _ _ rfl rfl rfl (zIn (w := 5145) (by decide +kernel) rfl) (by decide +kernel) (by decide +kernel) rfl (Nat.le_of_ble_eq_true rfl) rfl ?_
      refine zT.join (84, [some (.ref 0), some (.int (s1 + (if (g_X10_isOnRoll M (nI i1)) = 0 then (0 : Int32) else (if (g_X10_of M i1 6) = 2 then (if (g_X10_isOnRoll M (g_X10_of M i1 7)) = 0 then (1 : Int32) else (0 : Int32)) else (0 : Int32))))), some (.int (nI i1)), none], [.int (if (g_X10_isOnRoll M (nI i1)) = 0 then (0 : Int32) else (if (g_X10_of M i1 3) = (M 1 5) then (0 : Int32) else (1 : Int32))), .int (s1 + (if (g_X10_isOnRoll M (nI i1)) = 0 then (0 : Int32) else (if (g_X10_of M i1 6) = 2 then (if (g_X10_isOnRoll M (g_X10_of M i1 7)) = 0 then (1 : Int32) else (0 : Int32)) else (0 : Int32))))], (sh_Model gp), M) ?_ ?_
      · refine zT.zeq (tgt := 83) (off := 22) (by decide +kernel) (by decide) (fun (c4 : (g_X10_isOnRoll M (nI i1)) = 0) => ?_) (fun (c4 : ¬ (g_X10_isOnRoll M (nI i1)) = 0) => ?_)
        · skip
          refine zT.run [(.iconst 0, 0, 0, 0)] (pe := 84) (ls' := [some (.ref 0), some (.int (s1 + (if (g_X10_isOnRoll M (nI i1)) = 0 then (0 : Int32) else (if (g_X10_of M i1 6) = 2 then (if (g_X10_isOnRoll M (g_X10_of M i1 7)) = 0 then (1 : Int32) else (0 : Int32)) else (0 : Int32))))), some (.int (nI i1)), none]) (st' := [.int 0, .int (s1 + (if (g_X10_isOnRoll M (nI i1)) = 0 then (0 : Int32) else (if (g_X10_of M i1 6) = 2 then (if (g_X10_isOnRoll M (g_X10_of M i1 7)) = 0 then (1 : Int32) else (0 : Int32)) else (0 : Int32))))]) (M' := M) (by decide +kernel) rfl ?_
          exact zT.here (by simp only [if_pos c4]; try rfl)
        · skip
          refine zT.run [(.aload_n 0, 0, 0, 0), (.iload_n 2, 0, 0, 0), (.iconst 3, 0, 0, 0)] (pe := 67) (ls' := [some (.ref 0), some (.int (s1 + (if (g_X10_isOnRoll M (nI i1)) = 0 then (0 : Int32) else (if (g_X10_of M i1 6) = 2 then (if (g_X10_isOnRoll M (g_X10_of M i1 7)) = 0 then (1 : Int32) else (0 : Int32)) else (0 : Int32))))), some (.int (nI i1)), none]) (st' := [.int 3, .int (nI i1), .ref 0, .int (s1 + (if (g_X10_isOnRoll M (nI i1)) = 0 then (0 : Int32) else (if (g_X10_of M i1 6) = 2 then (if (g_X10_isOnRoll M (g_X10_of M i1 7)) = 0 then (1 : Int32) else (0 : Int32)) else (0 : Int32))))]) (M' := M) (by decide +kernel) rfl ?_
          refine zT.cV_own (o := 0) (idx := 80) (av := [.int (nI i1), .int (nI 3)]) (rv := (some (.int (g_X10_of M i1 3)))) (st := [.int (s1 + (if (g_X10_isOnRoll M (nI i1)) = 0 then (0 : Int32) else (if (g_X10_of M i1 6) = 2 then (if (g_X10_isOnRoll M (g_X10_of M i1 7)) = 0 then (1 : Int32) else (0 : Int32)) else (0 : Int32))))]) (S1 := [.int (g_X10_of M i1 3), .int (s1 + (if (g_X10_isOnRoll M (nI i1)) = 0 then (0 : Int32) else (if (g_X10_of M i1 6) = 2 then (if (g_X10_isOnRoll M (g_X10_of M i1 7)) = 0 then (1 : Int32) else (0 : Int32)) else (0 : Int32))))]) (c_X10_of M gp i1 3 (by omega) (by decide)) k_X10_of _ _ rfl rfl rfl (zIn (w := 5108) (by decide +kernel) rfl) (by decide +kernel) (by decide +kernel) rfl (Nat.le_of_ble_eq_true rfl) rfl ?_
          refine zT.run [(.aload_n 0, 0, 0, 0), (.getfield 9, 8, 1, 5150), (.iconst 5, 0, 0, 0)] (pe := 75) (ls' := [some (.ref 0), some (.int (s1 + (if (g_X10_isOnRoll M (nI i1)) = 0 then (0 : Int32) else (if (g_X10_of M i1 6) = 2 then (if (g_X10_isOnRoll M (g_X10_of M i1 7)) = 0 then (1 : Int32) else (0 : Int32)) else (0 : Int32))))), some (.int (nI i1)), none]) (st' := [.int 5, .ref 1, .int (g_X10_of M i1 3), .int (s1 + (if (g_X10_isOnRoll M (nI i1)) = 0 then (0 : Int32) else (if (g_X10_of M i1 6) = 2 then (if (g_X10_isOnRoll M (g_X10_of M i1 7)) = 0 then (1 : Int32) else (0 : Int32)) else (0 : Int32))))]) (M' := M) (by decide +kernel) rfl ?_
          refine zT.iald (n := 187) (k := 5) rfl rfl (by decide) (by decide) (by decide +kernel) ?_
          refine zT.ceq (tgt := 83) (off := 7) (by decide +kernel) (by decide) (fun (c5 : (g_X10_of M i1 3) = (M 1 5)) => ?_) (fun (c5 : ¬ (g_X10_of M i1 3) = (M 1 5)) => ?_)
          · skip
            refine zT.run [(.iconst 0, 0, 0, 0)] (pe := 84) (ls' := [some (.ref 0), some (.int (s1 + (if (g_X10_isOnRoll M (nI i1)) = 0 then (0 : Int32) else (if (g_X10_of M i1 6) = 2 then (if (g_X10_isOnRoll M (g_X10_of M i1 7)) = 0 then (1 : Int32) else (0 : Int32)) else (0 : Int32))))), some (.int (nI i1)), none]) (st' := [.int 0, .int (s1 + (if (g_X10_isOnRoll M (nI i1)) = 0 then (0 : Int32) else (if (g_X10_of M i1 6) = 2 then (if (g_X10_isOnRoll M (g_X10_of M i1 7)) = 0 then (1 : Int32) else (0 : Int32)) else (0 : Int32))))]) (M' := M) (by decide +kernel) rfl ?_
            exact zT.here (by simp only [if_neg c4, if_pos c5]; try rfl)
          · skip
            refine zT.run [(.iconst 1, 0, 0, 0), (.goto 4, 0, 0, 0)] (pe := 84) (ls' := [some (.ref 0), some (.int (s1 + (if (g_X10_isOnRoll M (nI i1)) = 0 then (0 : Int32) else (if (g_X10_of M i1 6) = 2 then (if (g_X10_isOnRoll M (g_X10_of M i1 7)) = 0 then (1 : Int32) else (0 : Int32)) else (0 : Int32))))), some (.int (nI i1)), none]) (st' := [.int 1, .int (s1 + (if (g_X10_isOnRoll M (nI i1)) = 0 then (0 : Int32) else (if (g_X10_of M i1 6) = 2 then (if (g_X10_isOnRoll M (g_X10_of M i1 7)) = 0 then (1 : Int32) else (0 : Int32)) else (0 : Int32))))]) (M' := M) (by decide +kernel) rfl ?_
            exact zT.here (by simp only [if_neg c4, if_neg c5]; try rfl)
      · skip
        refine zT.run [(.iadd, 0, 0, 0), (.istore_n 1, 0, 0, 0), (.iconst 0, 0, 0, 0), (.istore_n 3, 0, 0, 0)] (pe := 88) (ls' := [some (.ref 0), some (.int ((s1 + (if (g_X10_isOnRoll M (nI i1)) = 0 then (0 : Int32) else (if (g_X10_of M i1 6) = 2 then (if (g_X10_isOnRoll M (g_X10_of M i1 7)) = 0 then (1 : Int32) else (0 : Int32)) else (0 : Int32)))) + (if (g_X10_isOnRoll M (nI i1)) = 0 then (0 : Int32) else (if (g_X10_of M i1 3) = (M 1 5) then (0 : Int32) else (1 : Int32))))), some (.int (nI i1)), some (.int 0)]) (st' := []) (M' := M) (by decide +kernel) rfl ?_
        refine zT.loop (l_X10_wrongVotes_88 M n i1 s1) (fun (i : Nat) (s : Int32) => (88, [some (.ref 0), some (.int s), some (.int (nI i1)), some (.int (nI i))], [], (sh_Model gp), M)) i1 ((s1 + (if (g_X10_isOnRoll M (nI i1)) = 0 then (0 : Int32) else (if (g_X10_of M i1 6) = 2 then (if (g_X10_isOnRoll M (g_X10_of M i1 7)) = 0 then (1 : Int32) else (0 : Int32)) else (0 : Int32)))) + (if (g_X10_isOnRoll M (nI i1)) = 0 then (0 : Int32) else (if (g_X10_of M i1 3) = (M 1 5) then (0 : Int32) else (1 : Int32)))) (fun i2 hi2 k2 => ?_) ?_
        · skip
          generalize hs2 : zIt (l_X10_wrongVotes_88 M n i1 s1) i2 ((s1 + (if (g_X10_isOnRoll M (nI i1)) = 0 then (0 : Int32) else (if (g_X10_of M i1 6) = 2 then (if (g_X10_isOnRoll M (g_X10_of M i1 7)) = 0 then (1 : Int32) else (0 : Int32)) else (0 : Int32)))) + (if (g_X10_isOnRoll M (nI i1)) = 0 then (0 : Int32) else (if (g_X10_of M i1 3) = (M 1 5) then (0 : Int32) else (1 : Int32)))) = s2 at k2 ⊢
          show zT _ _ _ _ (88, [some (.ref 0), some (.int s2), some (.int (nI i1)), some (.int (nI i2))], [], (sh_Model gp), M)
          refine zT.run [(.iload_n 3, 0, 0, 0), (.iload_n 2, 0, 0, 0)] (pe := 90) (ls' := [some (.ref 0), some (.int s2), some (.int (nI i1)), some (.int (nI i2))]) (st' := [.int (nI i1), .int (nI i2)]) (M' := M) (by decide +kernel) rfl ?_
          refine zT.cge (tgt := 130) (off := 40) (by decide +kernel) (by decide) (fun c => absurd c (zGeN (n := i1) rfl (by omega) (by omega))) (fun _ => ?_)
          refine zT.run [(.iload_n 1, 0, 0, 0), (.aload_n 0, 0, 0, 0), (.iload_n 2, 0, 0, 0), (.iconst 5, 0, 0, 0)] (pe := 97) (ls' := [some (.ref 0), some (.int s2), some (.int (nI i1)), some (.int (nI i2))]) (st' := [.int 5, .int (nI i1), .ref 0, .int s2]) (M' := M) (by decide +kernel) rfl ?_
          refine zT.cV_own (o := 0) (idx := 80) (av := [.int (nI i1), .int (nI 5)]) (rv := (some (.int (g_X10_of M i1 5)))) (st := [.int s2]) (S1 := [.int (g_X10_of M i1 5), .int s2]) (c_X10_of M gp i1 5 (by omega) (by decide)) k_X10_of _ _ rfl rfl rfl (zIn (w := 5108) (by decide +kernel) rfl) (by decide +kernel) (by decide +kernel) rfl (Nat.le_of_ble_eq_true rfl) rfl ?_
          refine zT.run [(.iload_n 3, 0, 0, 0), (.ishr, 0, 0, 0), (.iconst 1, 0, 0, 0), (.iand, 0, 0, 0), (.aload_n 0, 0, 0, 0), (.iload_n 3, 0, 0, 0), (.iconst 5, 0, 0, 0)] (pe := 107) (ls' := [some (.ref 0), some (.int s2), some (.int (nI i1)), some (.int (nI i2))]) (st' := [.int 5, .int (nI i2), .ref 0, .int (((g_X10_of M i1 5) >>> ((nI i2) &&& 31)) &&& 1), .int s2]) (M' := M) (by decide +kernel) rfl ?_
          refine zT.cV_own (o := 0) (idx := 80) (av := [.int (nI i2), .int (nI 5)]) (rv := (some (.int (g_X10_of M i2 5)))) (st := [.int (((g_X10_of M i1 5) >>> ((nI i2) &&& 31)) &&& 1), .int s2]) (S1 := [.int (g_X10_of M i2 5), .int (((g_X10_of M i1 5) >>> ((nI i2) &&& 31)) &&& 1), .int s2]) (c_X10_of M gp i2 5 (by omega) (by decide)) k_X10_of _ _ rfl rfl rfl (zIn (w := 5108) (by decide +kernel) rfl) (by decide +kernel) (by decide +kernel) rfl (Nat.le_of_ble_eq_true rfl) rfl ?_
          refine zT.run [(.iload_n 2, 0, 0, 0), (.ishr, 0, 0, 0), (.iconst 1, 0, 0, 0), (.iand, 0, 0, 0)] (pe := 114) (ls' := [some (.ref 0), some (.int s2), some (.int (nI i1)), some (.int (nI i2))]) (st' := [.int (((g_X10_of M i2 5) >>> ((nI i1) &&& 31)) &&& 1), .int (((g_X10_of M i1 5) >>> ((nI i2) &&& 31)) &&& 1), .int s2]) (M' := M) (by decide +kernel) rfl ?_
          refine zT.join (122, [some (.ref 0), some (.int s2), some (.int (nI i1)), some (.int (nI i2))], [.int (if (((g_X10_of M i1 5) >>> ((nI i2) &&& 31)) &&& 1) = (((g_X10_of M i2 5) >>> ((nI i1) &&& 31)) &&& 1) then (0 : Int32) else (1 : Int32)), .int s2], (sh_Model gp), M) ?_ ?_
          · refine zT.ceq (tgt := 121) (off := 7) (by decide +kernel) (by decide) (fun (c6 : (((g_X10_of M i1 5) >>> ((nI i2) &&& 31)) &&& 1) = (((g_X10_of M i2 5) >>> ((nI i1) &&& 31)) &&& 1)) => ?_) (fun (c6 : ¬ (((g_X10_of M i1 5) >>> ((nI i2) &&& 31)) &&& 1) = (((g_X10_of M i2 5) >>> ((nI i1) &&& 31)) &&& 1)) => ?_)
            · skip
              refine zT.run [(.iconst 0, 0, 0, 0)] (pe := 122) (ls' := [some (.ref 0), some (.int s2), some (.int (nI i1)), some (.int (nI i2))]) (st' := [.int 0, .int s2]) (M' := M) (by decide +kernel) rfl ?_
              exact zT.here (by simp only [if_pos c6]; try rfl)
            · skip
              refine zT.run [(.iconst 1, 0, 0, 0), (.goto 4, 0, 0, 0)] (pe := 122) (ls' := [some (.ref 0), some (.int s2), some (.int (nI i1)), some (.int (nI i2))]) (st' := [.int 1, .int s2]) (M' := M) (by decide +kernel) rfl ?_
              exact zT.here (by simp only [if_neg c6]; try rfl)
          · skip
            refine zT.run [(.iadd, 0, 0, 0), (.istore_n 1, 0, 0, 0), (.iinc 3 1, 0, 0, 0), (.goto (-39), 0, 0, 0)] (pe := 88) (ls' := [some (.ref 0), some (.int (s2 + (if (((g_X10_of M i1 5) >>> ((nI i2) &&& 31)) &&& 1) = (((g_X10_of M i2 5) >>> ((nI i1) &&& 31)) &&& 1) then (0 : Int32) else (1 : Int32)))), some (.int (nI i1)), some (.int ((nI i2) + 1))]) (st' := []) (M' := M) (by decide +kernel) rfl ?_
            exact zT.eq (by simp only [l_X10_wrongVotes_88, nI_succ, zDl]; try rfl) k2
        · skip
          show zT _ _ _ _ (88, [some (.ref 0), some (.int (r_X10_wrongVotes_88 M n i1 s1)), some (.int (nI i1)), some (.int (nI i1))], [], (sh_Model gp), M)
          refine zT.run [(.iload_n 3, 0, 0, 0), (.iload_n 2, 0, 0, 0)] (pe := 90) (ls' := [some (.ref 0), some (.int (r_X10_wrongVotes_88 M n i1 s1)), some (.int (nI i1)), some (.int (nI i1))]) (st' := [.int (nI i1), .int (nI i1)]) (M' := M) (by decide +kernel) rfl ?_
          refine zT.cge (tgt := 130) (off := 40) (by decide +kernel) (by decide) (fun _ => ?_) (fun c => absurd (zGeY (n := i1) rfl) c)
          refine zT.run [(.iinc 2 1, 0, 0, 0), (.goto (-129), 0, 0, 0)] (pe := 4) (ls' := [some (.ref 0), some (.int (r_X10_wrongVotes_88 M n i1 s1)), some (.int ((nI i1) + 1)), some (.int (nI i1))]) (st' := []) (M' := M) (by decide +kernel) rfl ?_
          refine zT.drop 3 ?_
          exact zT.eq (by simp only [l_X10_wrongVotes_4, nI_succ, zDl]; try rfl) k1
  · skip
    show zT _ _ _ _ (4, [some (.ref 0), some (.int (zIt (l_X10_wrongVotes_4 M n) n 0)), some (.int (nI n)), none], [], (sh_Model gp), M)
    refine zT.run [(.iload_n 2, 0, 0, 0), (.aload_n 0, 0, 0, 0), (.getfield 9, 8, 1, 5150), (.iconst 0, 0, 0, 0)] (pe := 10) (ls' := [some (.ref 0), some (.int (zIt (l_X10_wrongVotes_4 M n) n 0)), some (.int (nI n)), none]) (st' := [.int 0, .ref 1, .int (nI n)]) (M' := M) (by decide +kernel) rfl ?_
    refine zT.iald (n := 187) (k := 0) rfl rfl (by decide) (by decide) (by decide +kernel) ?_
    refine zT.cge (tgt := 136) (off := 125) (by decide +kernel) (by decide) (fun _ => ?_) (fun c => absurd (zGeY (n := n) hn) c)
    refine zT.run [(.iload_n 1, 0, 0, 0)] (pe := 137) (ls' := [some (.ref 0), some (.int (zIt (l_X10_wrongVotes_4 M n) n 0)), some (.int (nI n)), none]) (st' := [.int (zIt (l_X10_wrongVotes_4 M n) n 0)]) (M' := M) (by decide +kernel) rfl ?_
    exact zT.iret (ty := Jvm.ClassFile.FieldType.int) (by simp only [g_X10_wrongVotes]; try rfl) rfl rfl rfl (by decide +kernel)
theorem k_X10_wrongVotes : zCal yy_X10_wrongVotes 0 := ⟨⟨⟨⟨zIn (w := 7102) (by decide +kernel) rfl, zIn (w := 1012) (by decide +kernel) rfl⟩, by decide +kernel⟩, by decide +kernel⟩, ⟨zIn (w := 7101) (by decide +kernel) rfl, zIn (w := 82) (by decide +kernel) rfl⟩⟩
noncomputable abbrev yy_X10_gap : zY := (yX10_gap, cX10_gap, 3, (some Jvm.ClassFile.FieldType.int), 2, 45)
noncomputable def l_X10_gap_58 (M : zM) (gq : Nat → Nat) (pc : Nat) (n : Nat) (oz : Nat) (i1 : Nat) (s1 : Int32) : Int32 := (s1 + (if (g_X10_outcomeOf (zU M 0 0 0) oz i1 0) ≤ (g_X10_outcomeOf (zU M 0 0 0) oz (i1 + 1) 0) then (1 : Int32) else (0 : Int32)))
noncomputable def r_X10_gap_58 (M : zM) (gq : Nat → Nat) (pc : Nat) (n : Nat) (oz : Nat) : Int32 := (zIt (l_X10_gap_58 M gq pc n oz) (oz - 1) (if (M 1 4) = 0 then (0 : Int32) else (g_X10_size (((((g_X10_ones (M 1 7)) - (g_X10_votesOf (zU M 0 0 0) n 0)) - (g_X10_votesOf (zU M 0 0 0) n 1)) - (g_X10_votesOf (zU M 0 0 0) n 2)) - (g_X10_votesOf (zU M 0 0 0) n 3)))))
noncomputable def g_X10_gap (M : zM) (gq : Nat → Nat) (pc : Nat) (n : Nat) (oz : Nat) : Int32 × zM := (((r_X10_gap_58 M gq pc n oz) + (g_X10_wrongVotes (zU M 0 0 0) n)), (zU M 0 0 0))
set_option maxRecDepth 100000 in
theorem c_X10_gap (M : zM) (gq : Nat → Nat) (pc : Nat) (n : Nat) (oz : Nat) (hM : M 0 3 = nI pc) (hpc : pc ≤ 10) (hq : zPm gq) (hn : M 1 0 = nI n) (h9 : n ≤ 9) (hoz : M 1 9 = nI oz) (h12 : oz ≤ 12) : zC yy_X10_gap 0 0 [.ref 0] (sh_Model (zGp gq)) M (some (.int (g_X10_gap M gq pc n oz).1)) (sh_Model (zGp gq)) (g_X10_gap M gq pc n oz).2 := by
  refine zC.of (by decide +kernel) rfl (Nat.le_of_ble_eq_true rfl) ?_
  refine zT.run [(.aload_n 0, 0, 0, 0), (.iconst 0, 0, 0, 0), (.putfield 61, 8, 0, 5149), (.aload_n 0, 0, 0, 0), (.getfield 9, 8, 1, 5150), (.iconst 4, 0, 0, 0)] (pe := 10) (ls' := [some (.ref 0), none, none]) (st' := [.int 4, .ref 1]) (M' := (zU M 0 0 0)) (by decide +kernel) rfl ?_
  refine zT.iald (n := 187) (k := 4) rfl rfl (by decide) (by decide) (by decide +kernel) ?_
  refine zT.join (55, [some (.ref 0), none, none], [.int (if (M 1 4) = 0 then (0 : Int32) else (g_X10_size (((((g_X10_ones (M 1 7)) - (g_X10_votesOf (zU M 0 0 0) n 0)) - (g_X10_votesOf (zU M 0 0 0) n 1)) - (g_X10_votesOf (zU M 0 0 0) n 2)) - (g_X10_votesOf (zU M 0 0 0) n 3))))], (sh_Model (zGp gq)), (zU M 0 0 0)) ?_ ?_
  · refine zT.zne (tgt := 18) (off := 7) (by decide +kernel) (by decide) (fun (c1 : ¬ (M 1 4) = 0) => ?_) (fun (c1 : (M 1 4) = 0) => ?_)
    · skip
      refine zT.run [(.aload_n 0, 0, 0, 0), (.getfield 9, 8, 1, 5150), (.bipush 7, 0, 0, 0)] (pe := 24) (ls' := [some (.ref 0), none, none]) (st' := [.int 7, .ref 1]) (M' := (zU M 0 0 0)) (by decide +kernel) rfl ?_
      refine zT.iald (n := 187) (k := 7) rfl rfl (by decide) (by decide) (by decide +kernel) ?_
      refine zT.cS_nil (idx := 83) (av := [.int (M 1 7)]) (rv := (some (.int (g_X10_ones (M 1 7))))) (st := []) (S1 := [.int (g_X10_ones (M 1 7))]) (c_X10_ones (M 1 7)) k_X10_ones rfl (zIn (w := 5232) (by decide +kernel) rfl) (by decide +kernel) (by decide +kernel) rfl (Nat.le_of_ble_eq_true rfl) rfl ?_
      refine zT.run [(.aload_n 0, 0, 0, 0), (.iconst 0, 0, 0, 0)] (pe := 30) (ls' := [some (.ref 0), none, none]) (st' := [.int 0, .ref 0, .int (g_X10_ones (M 1 7))]) (M' := (zU M 0 0 0)) (by decide +kernel) rfl ?_
      refine zT.cV_own (o := 0) (idx := 124) (av := [.int 0]) (rv := (some (.int (g_X10_votesOf (zU M 0 0 0) n 0)))) (st := [.int (g_X10_ones (M 1 7))]) (S1 := [.int (g_X10_votesOf (zU M 0 0 0) n 0), .int (g_X10_ones (M 1 7))]) (c_X10_votesOf (zU M 0 0 0) (zGp gq) n 0 hn h9) k_X10_votesOf _ _ rfl rfl rfl (zIn (w := 5141) (by decide +kernel) rfl) (by decide +kernel) (by decide +kernel) rfl (Nat.le_of_ble_eq_true rfl) rfl ?_
      refine zT.run [(.isub, 0, 0, 0), (.aload_n 0, 0, 0, 0), (.iconst 1, 0, 0, 0)] (pe := 36) (ls' := [some (.ref 0), none, none]) (st' := [.int 1, .ref 0, .int ((g_X10_ones (M 1 7)) - (g_X10_votesOf (zU M 0 0 0) n 0))]) (M' := (zU M 0 0 0)) (by decide +kernel) rfl ?_
      refine zT.cV_own (o := 0) (idx := 124) (av := [.int 1]) (rv := (some (.int (g_X10_votesOf (zU M 0 0 0) n 1)))) (st := [.int ((g_X10_ones (M 1 7)) - (g_X10_votesOf (zU M 0 0 0) n 0))]) (S1 := [.int (g_X10_votesOf (zU M 0 0 0) n 1), .int ((g_X10_ones (M 1 7)) - (g_X10_votesOf (zU M 0 0 0) n 0))]) (c_X10_votesOf (zU M 0 0 0) (zGp gq) n 1 hn h9) k_X10_votesOf _ _ rfl rfl rfl (zIn (w := 5141) (by decide +kernel) rfl) (by decide +kernel) (by decide +kernel) rfl (Nat.le_of_ble_eq_true rfl) rfl ?_
      refine zT.run [(.isub, 0, 0, 0), (.aload_n 0, 0, 0, 0), (.iconst 2, 0, 0, 0)] (pe := 42) (ls' := [some (.ref 0), none, none]) (st' := [.int 2, .ref 0, .int (((g_X10_ones (M 1 7)) - (g_X10_votesOf (zU M 0 0 0) n 0)) - (g_X10_votesOf (zU M 0 0 0) n 1))]) (M' := (zU M 0 0 0)) (by decide +kernel) rfl ?_
      refine zT.cV_own (o := 0) (idx := 124) (av := [.int 2]) (rv := (some (.int (g_X10_votesOf (zU M 0 0 0) n 2)))) (st := [.int (((g_X10_ones (M 1 7)) - (g_X10_votesOf (zU M 0 0 0) n 0)) - (g_X10_votesOf (zU M 0 0 0) n 1))]) (S1 := [.int (g_X10_votesOf (zU M 0 0 0) n 2), .int (((g_X10_ones (M 1 7)) - (g_X10_votesOf (zU M 0 0 0) n 0)) - (g_X10_votesOf (zU M 0 0 0) n 1))]) (c_X10_votesOf (zU M 0 0 0) (zGp gq) n 2 hn h9) k_X10_votesOf _ _ rfl rfl rfl (zIn (w := 5141) (by decide +kernel) rfl) (by decide +kernel) (by decide +kernel) rfl (Nat.le_of_ble_eq_true rfl) rfl ?_
      refine zT.run [(.isub, 0, 0, 0), (.aload_n 0, 0, 0, 0), (.iconst 3, 0, 0, 0)] (pe := 48) (ls' := [some (.ref 0), none, none]) (st' := [.int 3, .ref 0, .int ((((g_X10_ones (M 1 7)) - (g_X10_votesOf (zU M 0 0 0) n 0)) - (g_X10_votesOf (zU M 0 0 0) n 1)) - (g_X10_votesOf (zU M 0 0 0) n 2))]) (M' := (zU M 0 0 0)) (by decide +kernel) rfl ?_
      refine zT.cV_own (o := 0) (idx := 124) (av := [.int 3]) (rv := (some (.int (g_X10_votesOf (zU M 0 0 0) n 3)))) (st := [.int ((((g_X10_ones (M 1 7)) - (g_X10_votesOf (zU M 0 0 0) n 0)) - (g_X10_votesOf (zU M 0 0 0) n 1)) - (g_X10_votesOf (zU M 0 0 0) n 2))]) (S1 := [.int (g_X10_votesOf (zU M 0 0 0) n 3), .int ((((g_X10_ones (M 1 7)) - (g_X10_votesOf (zU M 0 0 0) n 0)) - (g_X10_votesOf (zU M 0 0 0) n 1)) - (g_X10_votesOf (zU M 0 0 0) n 2))]) (c_X10_votesOf (zU M 0 0 0) (zGp gq) n 3 hn h9) k_X10_votesOf _ _ rfl rfl rfl (zIn (w := 5141) (by decide +kernel) rfl) (by decide +kernel) (by decide +kernel) rfl (Nat.le_of_ble_eq_true rfl) rfl ?_
      refine zT.run [(.isub, 0, 0, 0)] (pe := 52) (ls' := [some (.ref 0), none, none]) (st' := [.int (((((g_X10_ones (M 1 7)) - (g_X10_votesOf (zU M 0 0 0) n 0)) - (g_X10_votesOf (zU M 0 0 0) n 1)) - (g_X10_votesOf (zU M 0 0 0) n 2)) - (g_X10_votesOf (zU M 0 0 0) n 3))]) (M' := (zU M 0 0 0)) (by decide +kernel) rfl ?_
      refine zT.cS_nil (idx := 347) (av := [.int (((((g_X10_ones (M 1 7)) - (g_X10_votesOf (zU M 0 0 0) n 0)) - (g_X10_votesOf (zU M 0 0 0) n 1)) - (g_X10_votesOf (zU M 0 0 0) n 2)) - (g_X10_votesOf (zU M 0 0 0) n 3))]) (rv := (some (.int (g_X10_size (((((g_X10_ones (M 1 7)) - (g_X10_votesOf (zU M 0 0 0) n 0)) - (g_X10_votesOf (zU M 0 0 0) n 1)) - (g_X10_votesOf (zU M 0 0 0) n 2)) - (g_X10_votesOf (zU M 0 0 0) n 3)))))) (st := []) (S1 := [.int (g_X10_size (((((g_X10_ones (M 1 7)) - (g_X10_votesOf (zU M 0 0 0) n 0)) - (g_X10_votesOf (zU M 0 0 0) n 1)) - (g_X10_votesOf (zU M 0 0 0) n 2)) - (g_X10_votesOf (zU M 0 0 0) n 3)))]) (c_X10_size (((((g_X10_ones (M 1 7)) - (g_X10_votesOf (zU M 0 0 0) n 0)) - (g_X10_votesOf (zU M 0 0 0) n 1)) - (g_X10_votesOf (zU M 0 0 0) n 2)) - (g_X10_votesOf (zU M 0 0 0) n 3))) k_X10_size rfl (zIn (w := 7096) (by decide +kernel) rfl) (by decide +kernel) (by decide +kernel) rfl (Nat.le_of_ble_eq_true rfl) rfl ?_
      exact zT.here (by simp only [if_neg c1]; try rfl)
    · skip
      refine zT.run [(.iconst 0, 0, 0, 0), (.goto 40, 0, 0, 0)] (pe := 55) (ls' := [some (.ref 0), none, none]) (st' := [.int 0]) (M' := (zU M 0 0 0)) (by decide +kernel) rfl ?_
      exact zT.here (by simp only [if_pos c1]; try rfl)
  · skip
    refine zT.run [(.istore_n 1, 0, 0, 0), (.iconst 1, 0, 0, 0), (.istore_n 2, 0, 0, 0)] (pe := 58) (ls' := [some (.ref 0), some (.int (if (M 1 4) = 0 then (0 : Int32) else (g_X10_size (((((g_X10_ones (M 1 7)) - (g_X10_votesOf (zU M 0 0 0) n 0)) - (g_X10_votesOf (zU M 0 0 0) n 1)) - (g_X10_votesOf (zU M 0 0 0) n 2)) - (g_X10_votesOf (zU M 0 0 0) n 3))))), some (.int 1)]) (st' := []) (M' := (zU M 0 0 0)) (by decide +kernel) rfl ?_
    refine zT.loop (l_X10_gap_58 M gq pc n oz) (fun (i : Nat) (s : Int32) => (58, [some (.ref 0), some (.int s), some (.int (nI (i + 1)))], [], (sh_Model (zGp gq)), (zU M 0 0 0))) (oz - 1) (if (M 1 4) = 0 then (0 : Int32) else (g_X10_size (((((g_X10_ones (M 1 7)) - (g_X10_votesOf (zU M 0 0 0) n 0)) - (g_X10_votesOf (zU M 0 0 0) n 1)) - (g_X10_votesOf (zU M 0 0 0) n 2)) - (g_X10_votesOf (zU M 0 0 0) n 3)))) (fun i1 hi1 k1 => ?_) ?_
    · skip
      generalize hs1 : zIt (l_X10_gap_58 M gq pc n oz) i1 (if (M 1 4) = 0 then (0 : Int32) else (g_X10_size (((((g_X10_ones (M 1 7)) - (g_X10_votesOf (zU M 0 0 0) n 0)) - (g_X10_votesOf (zU M 0 0 0) n 1)) - (g_X10_votesOf (zU M 0 0 0) n 2)) - (g_X10_votesOf (zU M 0 0 0) n 3)))) = s1 at k1 ⊢
      show zT _ _ _ _ (58, [some (.ref 0), some (.int s1), some (.int (nI (i1 + 1)))], [], (sh_Model (zGp gq)), (zU M 0 0 0))
      refine zT.run [(.iload_n 2, 0, 0, 0), (.aload_n 0, 0, 0, 0), (.getfield 9, 8, 1, 5150), (.bipush 9, 0, 0, 0)] (pe := 65) (ls' := [some (.ref 0), some (.int s1), some (.int (nI (i1 + 1)))]) (st' := [.int 9, .ref 1, .int (nI (i1 + 1))]) (M' := (zU M 0 0 0)) (by decide +kernel) rfl ?_
      refine zT.iald (n := 187) (k := 9) rfl rfl (by decide) (by decide) (by decide +kernel) ?_
      refine zT.cge (tgt := 100) (off := 34) (by decide +kernel) (by decide) (fun c => absurd c (zGeN (n := oz) hoz (by omega) (by omega))) (fun _ => ?_)
      refine zT.run [(.iload_n 1, 0, 0, 0), (.aload_n 0, 0, 0, 0), (.iload_n 2, 0, 0, 0), (.iconst 0, 0, 0, 0)] (pe := 73) (ls' := [some (.ref 0), some (.int s1), some (.int (nI (i1 + 1)))]) (st' := [.int 0, .int (nI (i1 + 1)), .ref 0, .int s1]) (M' := (zU M 0 0 0)) (by decide +kernel) rfl ?_
      refine zT.cV_own (o := 0) (idx := 150) (av := [.int (nI (i1 + 1)), .int (nI 0)]) (rv := (some (.int (g_X10_outcomeOf (zU M 0 0 0) oz (i1 + 1) 0)))) (st := [.int s1]) (S1 := [.int (g_X10_outcomeOf (zU M 0 0 0) oz (i1 + 1) 0), .int s1]) (c_X10_outcomeOf (zU M 0 0 0) (zGp gq) oz (i1 + 1) 0 hoz h12 (by omega) (by decide)) k_X10_outcomeOf _ _ rfl rfl rfl (zIn (w := 6095) (by decide +kernel) rfl) (by decide +kernel) (by decide +kernel) rfl (Nat.le_of_ble_eq_true rfl) rfl ?_
      refine zT.run [(.aload_n 0, 0, 0, 0), (.iload_n 2, 0, 0, 0), (.iconst 1, 0, 0, 0), (.isub, 0, 0, 0), (.iconst 0, 0, 0, 0)] (pe := 81) (ls' := [some (.ref 0), some (.int s1), some (.int (nI (i1 + 1)))]) (st' := [.int 0, .int ((nI (i1 + 1)) - 1), .ref 0, .int (g_X10_outcomeOf (zU M 0 0 0) oz (i1 + 1) 0), .int s1]) (M' := (zU M 0 0 0)) (by decide +kernel) rfl ?_
      refine zT.eqS (congrArg (fun v : Int32 => ([.int 0, .int v, .ref 0, .int (g_X10_outcomeOf (zU M 0 0 0) oz (i1 + 1) 0), .int s1] : List Value)) (nI_pred _)) ?_
      refine zT.cV_own (o := 0) (idx := 150) (av := [.int (nI i1), .int (nI 0)]) (rv := (some (.int (g_X10_outcomeOf (zU M 0 0 0) oz i1 0)))) (st := [.int (g_X10_outcomeOf (zU M 0 0 0) oz (i1 + 1) 0), .int s1]) (S1 := [.int (g_X10_outcomeOf (zU M 0 0 0) oz i1 0), .int (g_X10_outcomeOf (zU M 0 0 0) oz (i1 + 1) 0), .int s1]) (c_X10_outcomeOf (zU M 0 0 0) (zGp gq) oz i1 0 hoz h12 (by omega) (by decide)) k_X10_outcomeOf _ _ rfl rfl rfl (zIn (w := 6095) (by decide +kernel) rfl) (by decide +kernel) (by decide +kernel) rfl (Nat.le_of_ble_eq_true rfl) rfl ?_
      refine zT.join (92, [some (.ref 0), some (.int s1), some (.int (nI (i1 + 1)))], [.int (if (g_X10_outcomeOf (zU M 0 0 0) oz i1 0) ≤ (g_X10_outcomeOf (zU M 0 0 0) oz (i1 + 1) 0) then (1 : Int32) else (0 : Int32)), .int s1], (sh_Model (zGp gq)), (zU M 0 0 0)) ?_ ?_
      · refine zT.cge (tgt := 91) (off := 7) (by decide +kernel) (by decide) (fun (c2 : (g_X10_outcomeOf (zU M 0 0 0) oz i1 0) ≤ (g_X10_outcomeOf (zU M 0 0 0) oz (i1 + 1) 0)) => ?_) (fun (c2 : ¬ (g_X10_outcomeOf (zU M 0 0 0) oz i1 0) ≤ (g_X10_outcomeOf (zU M 0 0 0) oz (i1 + 1) 0)) => ?_)
        · skip
          refine zT.run [(.iconst 1, 0, 0, 0)] (pe := 92) (ls' := [some (.ref 0), some (.int s1), some (.int (nI (i1 + 1)))]) (st' := [.int 1, .int s1]) (M' := (zU M 0 0 0)) (by decide +kernel) rfl ?_
          exact zT.here (by simp only [if_pos c2]; try rfl)
        · skip
          refine zT.run [(.iconst 0, 0, 0, 0), (.goto 4, 0, 0, 0)] (pe := 92) (ls' := [some (.ref 0), some (.int s1), some (.int (nI (i1 + 1)))]) (st' := [.int 0, .int s1]) (M' := (zU M 0 0 0)) (by decide +kernel) rfl ?_
          exact zT.here (by simp only [if_neg c2]; try rfl)
      · skip
        refine zT.run [(.iadd, 0, 0, 0), (.istore_n 1, 0, 0, 0), (.iinc 2 1, 0, 0, 0), (.goto (-39), 0, 0, 0)] (pe := 58) (ls' := [some (.ref 0), some (.int (s1 + (if (g_X10_outcomeOf (zU M 0 0 0) oz i1 0) ≤ (g_X10_outcomeOf (zU M 0 0 0) oz (i1 + 1) 0) then (1 : Int32) else (0 : Int32)))), some (.int ((nI (i1 + 1)) + 1))]) (st' := []) (M' := (zU M 0 0 0)) (by decide +kernel) rfl ?_
        exact zT.eq (by simp only [l_X10_gap_58, nI_succ, zDl]; try rfl) k1
    · skip
      show zT _ _ _ _ (58, [some (.ref 0), some (.int (r_X10_gap_58 M gq pc n oz)), some (.int (nI ((oz - 1) + 1)))], [], (sh_Model (zGp gq)), (zU M 0 0 0))
      refine zT.run [(.iload_n 2, 0, 0, 0), (.aload_n 0, 0, 0, 0), (.getfield 9, 8, 1, 5150), (.bipush 9, 0, 0, 0)] (pe := 65) (ls' := [some (.ref 0), some (.int (r_X10_gap_58 M gq pc n oz)), some (.int (nI ((oz - 1) + 1)))]) (st' := [.int 9, .ref 1, .int (nI ((oz - 1) + 1))]) (M' := (zU M 0 0 0)) (by decide +kernel) rfl ?_
      refine zT.iald (n := 187) (k := 9) rfl rfl (by decide) (by decide) (by decide +kernel) ?_
      refine zT.cge (tgt := 100) (off := 34) (by decide +kernel) (by decide) (fun _ => ?_) (fun c => absurd (zGeL (n := oz) hoz (by omega) (by omega)) c)
      refine zT.run [(.iload_n 1, 0, 0, 0), (.aload_n 0, 0, 0, 0)] (pe := 102) (ls' := [some (.ref 0), some (.int (r_X10_gap_58 M gq pc n oz)), some (.int (nI ((oz - 1) + 1)))]) (st' := [.ref 0, .int (r_X10_gap_58 M gq pc n oz)]) (M' := (zU M 0 0 0)) (by decide +kernel) rfl ?_
      refine zT.cV_own (o := 0) (idx := 350) (av := []) (rv := (some (.int (g_X10_wrongVotes (zU M 0 0 0) n)))) (st := [.int (r_X10_gap_58 M gq pc n oz)]) (S1 := [.int (g_X10_wrongVotes (zU M 0 0 0) n), .int (r_X10_gap_58 M gq pc n oz)]) (c_X10_wrongVotes (zU M 0 0 0) (zGp gq) n hn h9) k_X10_wrongVotes _ _ rfl rfl rfl (zIn (w := 7099) (by decide +kernel) rfl) (by decide +kernel) (by decide +kernel) rfl (Nat.le_of_ble_eq_true rfl) rfl ?_
      refine zT.run [(.iadd, 0, 0, 0)] (pe := 106) (ls' := [some (.ref 0), some (.int (r_X10_gap_58 M gq pc n oz)), some (.int (nI ((oz - 1) + 1)))]) (st' := [.int ((r_X10_gap_58 M gq pc n oz) + (g_X10_wrongVotes (zU M 0 0 0) n))]) (M' := (zU M 0 0 0)) (by decide +kernel) rfl ?_
      exact zT.iret (ty := Jvm.ClassFile.FieldType.int) (by simp only [g_X10_gap]; try rfl) (by simp only [g_X10_gap]; try rfl) rfl rfl (by decide +kernel)
theorem k_X10_gap : zCal yy_X10_gap 0 := ⟨⟨⟨⟨zIn (w := 7095) (by decide +kernel) rfl, zIn (w := 1012) (by decide +kernel) rfl⟩, by decide +kernel⟩, by decide +kernel⟩, ⟨zIn (w := 7093) (by decide +kernel) rfl, zIn (w := 7094) (by decide +kernel) rfl⟩⟩
noncomputable abbrev yy_X10_writeVotes : zY := (yX10_writeVotes, cX10_writeVotes, 2, (some Jvm.ClassFile.FieldType.int), 2, 43)
noncomputable def l_X10_writeVotes_17 (M : zM) (gq : Nat → Nat) (pc : Nat) (n : Nat) (i1 : Nat) (s1 : zM) : zM := (zU s1 19 i1 (vp_nar .byte (((g_X10_sign s1 i1)).toInt8.toInt32)))
theorem fr_l_X10_writeVotes_17 (M : zM) (gq : Nat → Nat) (pc : Nat) (n : Nat) (o : Nat) (ho : o ≠ 19) : ∀ (k : Nat) (s : zM), (zIt (l_X10_writeVotes_17 M gq pc n) k s) o = s o := by
  intro k
  induction k with
  | zero => intro s; rfl
  | succ k ih =>
    intro s
    rw [← ih s]
    show (l_X10_writeVotes_17 M gq pc n k (zIt (l_X10_writeVotes_17 M gq pc n) k s)) o = _
    generalize zIt (l_X10_writeVotes_17 M gq pc n) k s = t
    simp only [l_X10_writeVotes_17]
    (repeat' split) <;> simp only [zU_ne ho]
noncomputable def r_X10_writeVotes_17 (M : zM) (gq : Nat → Nat) (pc : Nat) (n : Nat) : zM := (zIt (l_X10_writeVotes_17 M gq pc n) n (zU (zU M 0 0 0) 0 10 (M 1 0)))
noncomputable def g_X10_writeVotes (M : zM) (gq : Nat → Nat) (pc : Nat) (n : Nat) : Int32 × zM := (((r_X10_writeVotes_17 M gq pc n) 0 10), (r_X10_writeVotes_17 M gq pc n))
set_option maxRecDepth 100000 in
theorem c_X10_writeVotes (M : zM) (gq : Nat → Nat) (pc : Nat) (n : Nat) (hM : M 0 3 = nI pc) (hpc : pc ≤ 10) (hq : zPm gq) (hn : M 1 0 = nI n) (h9 : n ≤ 9) : zC yy_X10_writeVotes 0 0 [.ref 0] (sh_Model (zGp gq)) M (some (.int (g_X10_writeVotes M gq pc n).1)) (sh_Model (zGp gq)) (g_X10_writeVotes M gq pc n).2 := by
  refine zC.of (by decide +kernel) rfl (Nat.le_of_ble_eq_true rfl) ?_
  refine zT.run [(.aload_n 0, 0, 0, 0), (.iconst 0, 0, 0, 0), (.putfield 61, 8, 0, 5149), (.aload_n 0, 0, 0, 0), (.aload_n 0, 0, 0, 0), (.getfield 9, 8, 1, 5150), (.iconst 0, 0, 0, 0)] (pe := 11) (ls' := [some (.ref 0), none]) (st' := [.int 0, .ref 1, .ref 0]) (M' := (zU M 0 0 0)) (by decide +kernel) rfl ?_
  refine zT.iald (n := 187) (k := 0) rfl rfl (by decide) (by decide) (by decide +kernel) ?_
  refine zT.run [(.putfield 353, 8, 10, 5159), (.iconst 0, 0, 0, 0), (.istore_n 1, 0, 0, 0)] (pe := 17) (ls' := [some (.ref 0), some (.int 0)]) (st' := []) (M' := (zU (zU M 0 0 0) 0 10 (M 1 0))) (by decide +kernel) rfl ?_
  refine zT.loop (l_X10_writeVotes_17 M gq pc n) (fun (i : Nat) (s : zM) => (17, [some (.ref 0), some (.int (nI i))], [], (sh_Model (zGp gq)), s)) n (zU (zU M 0 0 0) 0 10 (M 1 0)) (fun i1 hi1 k1 => ?_) ?_
  · skip
    generalize hs1 : zIt (l_X10_writeVotes_17 M gq pc n) i1 (zU (zU M 0 0 0) 0 10 (M 1 0)) = s1 at k1 ⊢
    have hm1 : ∀ o : Nat, (o ≠ 19) → s1 o = (zU (zU M 0 0 0) 0 10 (M 1 0)) o := fun o ho => by rw [← hs1]; exact fr_l_X10_writeVotes_17 M gq pc n o ho i1 (zU (zU M 0 0 0) 0 10 (M 1 0))
    have hl1 : ∀ o : Nat, o < 10 → s1 1 o = (zU (zU M 0 0 0) 0 10 (M 1 0)) 1 o := fun o _ => congrFun (hm1 1 (by decide)) o
    show zT _ _ _ _ (17, [some (.ref 0), some (.int (nI i1))], [], (sh_Model (zGp gq)), s1)
    refine zT.run [(.iload_n 1, 0, 0, 0), (.aload_n 0, 0, 0, 0), (.getfield 9, 8, 1, 5150), (.iconst 0, 0, 0, 0)] (pe := 23) (ls' := [some (.ref 0), some (.int (nI i1))]) (st' := [.int 0, .ref 1, .int (nI i1)]) (M' := s1) (by decide +kernel) rfl ?_
    refine zT.iald (n := 187) (k := 0) rfl rfl (by decide) (by decide) (by decide +kernel) ?_
    refine zT.cge (tgt := 45) (off := 21) (by decide +kernel) (by decide) (fun c => absurd c (zGeN (n := n) ((hl1 0 (by decide)).trans hn) (by omega) (by omega))) (fun _ => ?_)
    refine zT.run [(.aload_n 0, 0, 0, 0), (.getfield 31, 8, 9, 5158), (.iload_n 1, 0, 0, 0), (.aload_n 0, 0, 0, 0), (.iload_n 1, 0, 0, 0)] (pe := 34) (ls' := [some (.ref 0), some (.int (nI i1))]) (st' := [.int (nI i1), .ref 0, .int (nI i1), .ref 19]) (M' := s1) (by decide +kernel) rfl ?_
    refine zT.cV_own (o := 0) (idx := 356) (av := [.int (nI i1)]) (rv := (some (.int (g_X10_sign s1 i1)))) (st := [.int (nI i1), .ref 19]) (S1 := [.int (g_X10_sign s1 i1), .int (nI i1), .ref 19]) (c_X10_sign s1 (zGp gq) i1 (by omega)) k_X10_sign _ _ rfl rfl rfl (zIn (w := 7115) (by decide +kernel) rfl) (by decide +kernel) (by decide +kernel) rfl (Nat.le_of_ble_eq_true rfl) rfl ?_
    refine zT.run [(.i2b, 0, 0, 0)] (pe := 38) (ls' := [some (.ref 0), some (.int (nI i1))]) (st' := [.int (((g_X10_sign s1 i1)).toInt8.toInt32), .int (nI i1), .ref 19]) (M' := s1) (by decide +kernel) rfl ?_
    refine zT.bast (n := 9) (k := i1) rfl rfl (by omega) (by decide) (by decide +kernel) ?_
    refine zT.run [(.iinc 1 1, 0, 0, 0), (.goto (-25), 0, 0, 0)] (pe := 17) (ls' := [some (.ref 0), some (.int ((nI i1) + 1))]) (st' := []) (M' := (zU s1 19 i1 (vp_nar .byte (((g_X10_sign s1 i1)).toInt8.toInt32)))) (by decide +kernel) rfl ?_
    exact zT.eq (by simp only [l_X10_writeVotes_17, nI_succ, zDl]; try rfl) k1
  · skip
    show zT _ _ _ _ (17, [some (.ref 0), some (.int (nI n))], [], (sh_Model (zGp gq)), (r_X10_writeVotes_17 M gq pc n))
    refine zT.run [(.iload_n 1, 0, 0, 0), (.aload_n 0, 0, 0, 0), (.getfield 9, 8, 1, 5150), (.iconst 0, 0, 0, 0)] (pe := 23) (ls' := [some (.ref 0), some (.int (nI n))]) (st' := [.int 0, .ref 1, .int (nI n)]) (M' := (r_X10_writeVotes_17 M gq pc n)) (by decide +kernel) rfl ?_
    refine zT.iald (n := 187) (k := 0) rfl rfl (by decide) (by decide) (by decide +kernel) ?_
    refine zT.cge (tgt := 45) (off := 21) (by decide +kernel) (by decide) (fun _ => ?_) (fun c => absurd (zGeY (n := n) ((congrFun (fr_l_X10_writeVotes_17 M gq pc n 1 (by decide) n (zU (zU M 0 0 0) 0 10 (M 1 0))) 0).trans hn)) c)
    refine zT.run [(.aload_n 0, 0, 0, 0), (.getfield 353, 8, 10, 5159)] (pe := 49) (ls' := [some (.ref 0), some (.int (nI n))]) (st' := [.int ((r_X10_writeVotes_17 M gq pc n) 0 10)]) (M' := (r_X10_writeVotes_17 M gq pc n)) (by decide +kernel) rfl ?_
    exact zT.iret (ty := Jvm.ClassFile.FieldType.int) (by simp only [g_X10_writeVotes]; try rfl) (by simp only [g_X10_writeVotes]; try rfl) rfl rfl (by decide +kernel)
theorem k_X10_writeVotes : zCal yy_X10_writeVotes 0 := ⟨⟨⟨⟨zIn (w := 7114) (by decide +kernel) rfl, zIn (w := 1012) (by decide +kernel) rfl⟩, by decide +kernel⟩, by decide +kernel⟩, ⟨zIn (w := 7112) (by decide +kernel) rfl, zIn (w := 7113) (by decide +kernel) rfl⟩⟩
noncomputable abbrev yy_X10_reportByte : zY := (yX10_reportByte, cX10_reportByte, 2, (some Jvm.ClassFile.FieldType.int), 0, 0)
noncomputable def g_X10_reportByte (M : zM) (rp : Nat) (j : Int32) : Int32 × zM := (if j < 0 then ((-1), (zU M 0 0 0)) else (if j < (M 0 10) then ((M 19 j.toNatClampNeg), (zU M 0 0 0)) else ((-1), (zU M 0 0 0))))
set_option maxRecDepth 100000 in
theorem c_X10_reportByte (M : zM) (gp : Nat → Option Nat) (rp : Nat) (j : Int32) (hrp : M 0 10 = nI rp) (hr9 : rp ≤ 9) : zC yy_X10_reportByte 0 0 [.ref 0, .int j] (sh_Model gp) M (some (.int (g_X10_reportByte M rp j).1)) (sh_Model gp) (g_X10_reportByte M rp j).2 := by
  refine zC.of (by decide +kernel) rfl (Nat.le_of_ble_eq_true rfl) ?_
  refine zT.run [(.aload_n 0, 0, 0, 0), (.iconst 0, 0, 0, 0), (.putfield 61, 8, 0, 5149), (.iload_n 1, 0, 0, 0)] (pe := 6) (ls' := [some (.ref 0), some (.int j)]) (st' := [.int j]) (M' := (zU M 0 0 0)) (by decide +kernel) rfl ?_
  refine zT.zlt (tgt := 17) (off := 11) (by decide +kernel) (by decide) (fun (c1 : j < 0) => ?_) (fun (c1 : ¬ j < 0) => ?_)
  · skip
    refine zT.run [(.iconst (-1), 0, 0, 0), (.goto 9, 0, 0, 0)] (pe := 27) (ls' := [some (.ref 0), some (.int j)]) (st' := [.int (-1)]) (M' := (zU M 0 0 0)) (by decide +kernel) rfl ?_
    exact zT.iret (ty := Jvm.ClassFile.FieldType.int) (by simp only [g_X10_reportByte, if_pos c1]; try rfl) (by simp only [g_X10_reportByte, if_pos c1]; try rfl) rfl rfl (by decide +kernel)
  · skip
    refine zT.run [(.iload_n 1, 0, 0, 0), (.aload_n 0, 0, 0, 0), (.getfield 353, 8, 10, 5159)] (pe := 14) (ls' := [some (.ref 0), some (.int j)]) (st' := [.int (M 0 10), .int j]) (M' := (zU M 0 0 0)) (by decide +kernel) rfl ?_
    refine zT.clt (tgt := 21) (off := 7) (by decide +kernel) (by decide) (fun (c2 : j < (M 0 10)) => ?_) (fun (c2 : ¬ j < (M 0 10)) => ?_)
    · skip
      refine zT.run [(.aload_n 0, 0, 0, 0), (.getfield 31, 8, 9, 5158), (.iload_n 1, 0, 0, 0)] (pe := 26) (ls' := [some (.ref 0), some (.int j)]) (st' := [.int j, .ref 19]) (M' := (zU M 0 0 0)) (by decide +kernel) rfl ?_
      refine zT.bald (n := 9) (k := j.toNatClampNeg) rfl (zBk hrp (by omega) (by assumption) (by assumption)).1 (by have := (zBk hrp (by omega) (by assumption) (by assumption)).2; omega) (by decide) (by decide +kernel) ?_
      exact zT.iret (ty := Jvm.ClassFile.FieldType.int) (by simp only [g_X10_reportByte, if_neg c1, if_pos c2]; try rfl) (by simp only [g_X10_reportByte, if_neg c1, if_pos c2]; try rfl) rfl rfl (by decide +kernel)
    · skip
      refine zT.run [(.iconst (-1), 0, 0, 0), (.goto 9, 0, 0, 0)] (pe := 27) (ls' := [some (.ref 0), some (.int j)]) (st' := [.int (-1)]) (M' := (zU M 0 0 0)) (by decide +kernel) rfl ?_
      exact zT.iret (ty := Jvm.ClassFile.FieldType.int) (by simp only [g_X10_reportByte, if_neg c1, if_neg c2]; try rfl) (by simp only [g_X10_reportByte, if_neg c1, if_neg c2]; try rfl) rfl rfl (by decide +kernel)
theorem k_X10_reportByte : zCal yy_X10_reportByte 1 := ⟨⟨⟨⟨zIn (w := 7122) (by decide +kernel) rfl, zIn (w := 1012) (by decide +kernel) rfl⟩, by decide +kernel⟩, by decide +kernel⟩, ⟨zIn (w := 7120) (by decide +kernel) rfl, zIn (w := 7121) (by decide +kernel) rfl⟩⟩
