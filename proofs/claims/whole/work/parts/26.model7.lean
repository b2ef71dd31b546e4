theorem zPcI {M : zM} {pc : Nat} (hM : M 0 3 = nI pc) (c : ¬ M 0 3 = 0) : M 0 3 - 1 = nI (pc - 1) ∧ 0 < pc := by
  have : 0 < pc := by
    rcases Nat.eq_zero_or_pos pc with h | h
    · subst h
      exact absurd hM c
    · exact h
  rw [hM, show (1 : Int32) = nI 1 from rfl, pk_sub this]
  exact ⟨rfl, this⟩
theorem z234 {w : Int32} (h : w = 2 ∨ w = 3 ∨ w = 4) : 1 + w - 2 = nI (w.toNatClampNeg - 1) ∧ w.toNatClampNeg - 1 < 187 := by
  rcases h with rfl | rfl | rfl <;> decide
noncomputable abbrev yy_X10_begin : zY := (yX10_begin, cX10_begin, 2, none, 0, 0)
noncomputable def l_X10_begin_2 (M : zM) (i1 : Nat) (s1 : zM) : zM := (zU s1 1 i1 0)
theorem fr_l_X10_begin_2 (M : zM) (o : Nat) (ho : o ≠ 1) : ∀ (k : Nat) (s : zM), (zIt (l_X10_begin_2 M) k s) o = s o := by
  intro k
  induction k with
  | zero => intro s; rfl
  | succ k ih =>
    intro s
    rw [← ih s]
    show (l_X10_begin_2 M k (zIt (l_X10_begin_2 M) k s)) o = _
    generalize zIt (l_X10_begin_2 M) k s = t
    simp only [l_X10_begin_2]
    (repeat' split) <;> simp only [zU_ne ho]
noncomputable def g_X10_begin (M : zM)  : zM := (zU (zU (zU (zU (zIt (l_X10_begin_2 M) 187 M) 1 1 2) 1 2 1) 1 3 1) 1 6 (-1))
set_option maxRecDepth 100000 in
theorem c_X10_begin (M : zM) (gp : Nat → Option Nat)   : zC yy_X10_begin 0 0 [.ref 0] (sh_Model gp) M none (sh_Model gp) (g_X10_begin M) := by
  refine zC.of (by decide +kernel) rfl (Nat.le_of_ble_eq_true rfl) ?_
  refine zT.run [(.iconst 0, 0, 0, 0), (.istore_n 1, 0, 0, 0)] (pe := 2) (ls' := [some (.ref 0), some (.int 0)]) (st' := []) (M' := M) (by decide +kernel) rfl ?_
  refine zT.loop (l_X10_begin_2 M) (fun (i : Nat) (s : zM) => (2, [some (.ref 0), some (.int (nI i))], [], (sh_Model gp), s)) 187 M (fun i1 hi1 k1 => ?_) ?_
  · skip
    generalize hs1 : zIt (l_X10_begin_2 M) i1 M = s1 at k1 ⊢
    have hm1 : ∀ o : Nat, (o ≠ 1) → s1 o = M o := fun o ho => by rw [← hs1]; exact fr_l_X10_begin_2 M o ho i1 M
    show zT _ _ _ _ (2, [some (.ref 0), some (.int (nI i1))], [], (sh_Model gp), s1)
    refine zT.run [(.iload_n 1, 0, 0, 0), (.sipush 187, 0, 0, 0)] (pe := 6) (ls' := [some (.ref 0), some (.int (nI i1))]) (st' := [.int 187, .int (nI i1)]) (M' := s1) (by decide +kernel) rfl ?_
    refine zT.cge (tgt := 22) (off := 16) (by decide +kernel) (by decide) (fun c => absurd c (zGeN (n := 187) rfl (by omega) (by omega))) (fun _ => ?_)
    refine zT.run [(.aload_n 0, 0, 0, 0), (.getfield 9, 8, 1, 5150), (.iload_n 1, 0, 0, 0), (.iconst 0, 0, 0, 0)] (pe := 15) (ls' := [some (.ref 0), some (.int (nI i1))]) (st' := [.int 0, .int (nI i1), .ref 1]) (M' := s1) (by decide +kernel) rfl ?_
    refine zT.iast (n := 187) (k := i1) rfl rfl (by omega) (by decide) (by decide +kernel) ?_
    refine zT.run [(.iinc 1 1, 0, 0, 0), (.goto (-17), 0, 0, 0)] (pe := 2) (ls' := [some (.ref 0), some (.int ((nI i1) + 1))]) (st' := []) (M' := (zU s1 1 i1 0)) (by decide +kernel) rfl ?_
    exact zT.eq (by simp only [l_X10_begin_2, nI_succ, zDl]; try rfl) k1
  · skip
    show zT _ _ _ _ (2, [some (.ref 0), some (.int (nI 187))], [], (sh_Model gp), (zIt (l_X10_begin_2 M) 187 M))
    refine zT.run [(.iload_n 1, 0, 0, 0), (.sipush 187, 0, 0, 0)] (pe := 6) (ls' := [some (.ref 0), some (.int (nI 187))]) (st' := [.int 187, .int (nI 187)]) (M' := (zIt (l_X10_begin_2 M) 187 M)) (by decide +kernel) rfl ?_
    refine zT.cge (tgt := 22) (off := 16) (by decide +kernel) (by decide) (fun _ => ?_) (fun c => absurd (zGeY (n := 187) rfl) c)
    refine zT.run [(.aload_n 0, 0, 0, 0), (.getfield 9, 8, 1, 5150), (.iconst 1, 0, 0, 0), (.iconst 2, 0, 0, 0)] (pe := 28) (ls' := [some (.ref 0), some (.int (nI 187))]) (st' := [.int 2, .int 1, .ref 1]) (M' := (zIt (l_X10_begin_2 M) 187 M)) (by decide +kernel) rfl ?_
    refine zT.iast (n := 187) (k := 1) rfl rfl (by decide) (by decide) (by decide +kernel) ?_
    refine zT.run [(.aload_n 0, 0, 0, 0), (.getfield 9, 8, 1, 5150), (.iconst 2, 0, 0, 0), (.iconst 1, 0, 0, 0)] (pe := 35) (ls' := [some (.ref 0), some (.int (nI 187))]) (st' := [.int 1, .int 2, .ref 1]) (M' := (zU (zIt (l_X10_begin_2 M) 187 M) 1 1 2)) (by decide +kernel) rfl ?_
    refine zT.iast (n := 187) (k := 2) rfl rfl (by decide) (by decide) (by decide +kernel) ?_
    refine zT.run [(.aload_n 0, 0, 0, 0), (.getfield 9, 8, 1, 5150), (.iconst 3, 0, 0, 0), (.iconst 1, 0, 0, 0)] (pe := 42) (ls' := [some (.ref 0), some (.int (nI 187))]) (st' := [.int 1, .int 3, .ref 1]) (M' := (zU (zU (zIt (l_X10_begin_2 M) 187 M) 1 1 2) 1 2 1)) (by decide +kernel) rfl ?_
    refine zT.iast (n := 187) (k := 3) rfl rfl (by decide) (by decide) (by decide +kernel) ?_
    refine zT.run [(.aload_n 0, 0, 0, 0), (.getfield 9, 8, 1, 5150), (.bipush 6, 0, 0, 0), (.iconst (-1), 0, 0, 0)] (pe := 50) (ls' := [some (.ref 0), some (.int (nI 187))]) (st' := [.int (-1), .int 6, .ref 1]) (M' := (zU (zU (zU (zIt (l_X10_begin_2 M) 187 M) 1 1 2) 1 2 1) 1 3 1)) (by decide +kernel) rfl ?_
    refine zT.iast (n := 187) (k := 6) rfl rfl (by decide) (by decide) (by decide +kernel) ?_
    exact zT.vret (by simp only [g_X10_begin]; try rfl) rfl (by decide +kernel)
theorem fr_X10_begin (M : zM)  (o : Nat) (ho : o ≠ 1) : (g_X10_begin M) o = M o := by
  simp only [g_X10_begin]
  (repeat' split) <;> simp only [zU_ne ho, zUa_ne ho, (fr_l_X10_begin_2 M o (by omega))]
theorem k_X10_begin : zCal yy_X10_begin 0 := ⟨⟨⟨⟨zIn (w := 5095) (by decide +kernel) rfl, zIn (w := 1012) (by decide +kernel) rfl⟩, by decide +kernel⟩, by decide +kernel⟩, ⟨zIn (w := 5094) (by decide +kernel) rfl, zIn (w := 19) (by decide +kernel) rfl⟩⟩
noncomputable abbrev yy_X10_addReplica : zY := (yX10_addReplica, cX10_addReplica, 5, none, 2, 46)
noncomputable def l_X10_addReplica_46 (M : zM) (n : Nat) (age : Int32) (fresh : Int32) (i1 : Nat) (s1 : zM) : zM := (g_X10_link s1 i1 n 1)
theorem fr_l_X10_addReplica_46 (M : zM) (n : Nat) (age : Int32) (fresh : Int32) (o : Nat) (ho : o ≠ 1) : ∀ (k : Nat) (s : zM), (zIt (l_X10_addReplica_46 M n age fresh) k s) o = s o := by
  intro k
  induction k with
  | zero => intro s; rfl
  | succ k ih =>
    intro s
    rw [← ih s]
    show (l_X10_addReplica_46 M n age fresh k (zIt (l_X10_addReplica_46 M n age fresh) k s)) o = _
    generalize zIt (l_X10_addReplica_46 M n age fresh) k s = t
    simp only [l_X10_addReplica_46]
    (repeat' split) <;> simp only [zU_ne ho, (fun (MM : zM) (a : Nat) (b : Nat) (is : Int32) => fr_X10_link MM a b is o (by omega))]
theorem lo_l_X10_addReplica_46 (M : zM) (n : Nat) (age : Int32) (fresh : Int32) (o : Nat) (ho : o < 10) : ∀ (k : Nat) (s : zM), (zIt (l_X10_addReplica_46 M n age fresh) k s) 1 o = s 1 o := by
  intro k
  induction k with
  | zero => intro s; rfl
  | succ k ih =>
    intro s
    rw [← ih s]
    show (l_X10_addReplica_46 M n age fresh k (zIt (l_X10_addReplica_46 M n age fresh) k s)) 1 o = _
    generalize zIt (l_X10_addReplica_46 M n age fresh) k s = t
    simp only [l_X10_addReplica_46]
    (repeat' split) <;> (try simp only [(fun (MM : zM) (a : Nat) (b : Nat) (is : Int32) => lo_X10_link MM a b is o (by omega))])
noncomputable def r_X10_addReplica_46 (M : zM) (n : Nat) (age : Int32) (fresh : Int32) : zM := (zIt (l_X10_addReplica_46 M n age fresh) n (g_X10_put (g_X10_put (g_X10_put (g_X10_put (g_X10_put M n 0 age) n 1 fresh) n 2 1) n 4 (-1)) n 7 (-1)))
noncomputable def g_X10_addReplica (M : zM) (n : Nat) (age : Int32) (fresh : Int32) : zM := (zU (r_X10_addReplica_46 M n age fresh) 1 0 (((r_X10_addReplica_46 M n age fresh) 1 0) + 1))
set_option maxRecDepth 100000 in
theorem c_X10_addReplica (M : zM) (gp : Nat → Option Nat) (n : Nat) (age : Int32) (fresh : Int32) (hn : M 1 0 = nI n) (h9 : n ≤ 9) (h8 : n < 9) : zC yy_X10_addReplica 0 0 [.ref 0, .int age, .int fresh] (sh_Model gp) M none (sh_Model gp) (g_X10_addReplica M n age fresh) := by
  refine zC.of (by decide +kernel) rfl (Nat.le_of_ble_eq_true rfl) ?_
  refine zT.run [(.aload_n 0, 0, 0, 0), (.getfield 9, 8, 1, 5150), (.iconst 0, 0, 0, 0)] (pe := 5) (ls' := [some (.ref 0), some (.int age), some (.int fresh), none, none]) (st' := [.int 0, .ref 1]) (M' := M) (by decide +kernel) rfl ?_
  refine zT.iald (n := 187) (k := 0) rfl rfl (by decide) (by decide) (by decide +kernel) ?_
  refine zT.run [(.istore_n 3, 0, 0, 0), (.aload_n 0, 0, 0, 0), (.iload_n 3, 0, 0, 0), (.iconst 0, 0, 0, 0), (.iload_n 1, 0, 0, 0)] (pe := 11) (ls' := [some (.ref 0), some (.int age), some (.int fresh), some (.int (M 1 0)), none]) (st' := [.int age, .int 0, .int (M 1 0), .ref 0]) (M' := M) (by decide +kernel) rfl ?_
  refine zT.eqS (congrArg (fun v : Int32 => ([.int age, .int 0, .int v, .ref 0] : List Value)) hn) ?_
  refine zT.cV_all (o := 0) (idx := 76) (av := [.int (nI n), .int (nI 0), .int age]) (rv := none) (st := []) (S1 := []) (c_X10_put M gp n 0 age (by omega) (by decide)) k_X10_put _ _ rfl rfl rfl (zIn (w := 5100) (by decide +kernel) rfl) (by decide +kernel) (by decide +kernel) rfl (Nat.le_of_ble_eq_true rfl) rfl ?_
  refine zT.run [(.aload_n 0, 0, 0, 0), (.iload_n 3, 0, 0, 0), (.iconst 1, 0, 0, 0), (.iload_n 2, 0, 0, 0)] (pe := 18) (ls' := [some (.ref 0), some (.int age), some (.int fresh), some (.int (M 1 0)), none]) (st' := [.int fresh, .int 1, .int (M 1 0), .ref 0]) (M' := (g_X10_put M n 0 age)) (by decide +kernel) rfl ?_
  refine zT.eqS (congrArg (fun v : Int32 => ([.int fresh, .int 1, .int v, .ref 0] : List Value)) hn) ?_
  refine zT.cV_all (o := 0) (idx := 76) (av := [.int (nI n), .int (nI 1), .int fresh]) (rv := none) (st := []) (S1 := []) (c_X10_put (g_X10_put M n 0 age) gp n 1 fresh (by omega) (by decide)) k_X10_put _ _ rfl rfl rfl (zIn (w := 5100) (by decide +kernel) rfl) (by decide +kernel) (by decide +kernel) rfl (Nat.le_of_ble_eq_true rfl) rfl ?_
  refine zT.run [(.aload_n 0, 0, 0, 0), (.iload_n 3, 0, 0, 0), (.iconst 2, 0, 0, 0), (.iconst 1, 0, 0, 0)] (pe := 25) (ls' := [some (.ref 0), some (.int age), some (.int fresh), some (.int (M 1 0)), none]) (st' := [.int 1, .int 2, .int (M 1 0), .ref 0]) (M' := (g_X10_put (g_X10_put M n 0 age) n 1 fresh)) (by decide +kernel) rfl ?_
  refine zT.eqS (congrArg (fun v : Int32 => ([.int 1, .int 2, .int v, .ref 0] : List Value)) hn) ?_
  refine zT.cV_all (o := 0) (idx := 76) (av := [.int (nI n), .int (nI 2), .int 1]) (rv := none) (st := []) (S1 := []) (c_X10_put (g_X10_put (g_X10_put M n 0 age) n 1 fresh) gp n 2 1 (by omega) (by decide)) k_X10_put _ _ rfl rfl rfl (zIn (w := 5100) (by decide +kernel) rfl) (by decide +kernel) (by decide +kernel) rfl (Nat.le_of_ble_eq_true rfl) rfl ?_
  refine zT.run [(.aload_n 0, 0, 0, 0), (.iload_n 3, 0, 0, 0), (.iconst 4, 0, 0, 0), (.iconst (-1), 0, 0, 0)] (pe := 32) (ls' := [some (.ref 0), some (.int age), some (.int fresh), some (.int (M 1 0)), none]) (st' := [.int (-1), .int 4, .int (M 1 0), .ref 0]) (M' := (g_X10_put (g_X10_put (g_X10_put M n 0 age) n 1 fresh) n 2 1)) (by decide +kernel) rfl ?_
  refine zT.eqS (congrArg (fun v : Int32 => ([.int (-1), .int 4, .int v, .ref 0] : List Value)) hn) ?_
  refine zT.cV_all (o := 0) (idx := 76) (av := [.int (nI n), .int (nI 4), .int (-1)]) (rv := none) (st := []) (S1 := []) (c_X10_put (g_X10_put (g_X10_put (g_X10_put M n 0 age) n 1 fresh) n 2 1) gp n 4 (-1) (by omega) (by decide)) k_X10_put _ _ rfl rfl rfl (zIn (w := 5100) (by decide +kernel) rfl) (by decide +kernel) (by decide +kernel) rfl (Nat.le_of_ble_eq_true rfl) rfl ?_
  refine zT.run [(.aload_n 0, 0, 0, 0), (.iload_n 3, 0, 0, 0), (.bipush 7, 0, 0, 0), (.iconst (-1), 0, 0, 0)] (pe := 40) (ls' := [some (.ref 0), some (.int age), some (.int fresh), some (.int (M 1 0)), none]) (st' := [.int (-1), .int 7, .int (M 1 0), .ref 0]) (M' := (g_X10_put (g_X10_put (g_X10_put (g_X10_put M n 0 age) n 1 fresh) n 2 1) n 4 (-1))) (by decide +kernel) rfl ?_
  refine zT.eqS (congrArg (fun v : Int32 => ([.int (-1), .int 7, .int v, .ref 0] : List Value)) hn) ?_
  refine zT.cV_all (o := 0) (idx := 76) (av := [.int (nI n), .int (nI 7), .int (-1)]) (rv := none) (st := []) (S1 := []) (c_X10_put (g_X10_put (g_X10_put (g_X10_put (g_X10_put M n 0 age) n 1 fresh) n 2 1) n 4 (-1)) gp n 7 (-1) (by omega) (by decide)) k_X10_put _ _ rfl rfl rfl (zIn (w := 5100) (by decide +kernel) rfl) (by decide +kernel) (by decide +kernel) rfl (Nat.le_of_ble_eq_true rfl) rfl ?_
  refine zT.run [(.iconst 0, 0, 0, 0), (.istore 4, 0, 0, 0)] (pe := 46) (ls' := [some (.ref 0), some (.int age), some (.int fresh), some (.int (M 1 0)), some (.int 0)]) (st' := []) (M' := (g_X10_put (g_X10_put (g_X10_put (g_X10_put (g_X10_put M n 0 age) n 1 fresh) n 2 1) n 4 (-1)) n 7 (-1))) (by decide +kernel) rfl ?_
  refine zT.loop (l_X10_addReplica_46 M n age fresh) (fun (i : Nat) (s : zM) => (46, [some (.ref 0), some (.int age), some (.int fresh), some (.int (M 1 0)), some (.int (nI i))], [], (sh_Model gp), s)) n (g_X10_put (g_X10_put (g_X10_put (g_X10_put (g_X10_put M n 0 age) n 1 fresh) n 2 1) n 4 (-1)) n 7 (-1)) (fun i1 hi1 k1 => ?_) ?_
  · skip
    generalize hs1 : zIt (l_X10_addReplica_46 M n age fresh) i1 (g_X10_put (g_X10_put (g_X10_put (g_X10_put (g_X10_put M n 0 age) n 1 fresh) n 2 1) n 4 (-1)) n 7 (-1)) = s1 at k1 ⊢
    have hm1 : ∀ o : Nat, (o ≠ 1) → s1 o = (g_X10_put (g_X10_put (g_X10_put (g_X10_put (g_X10_put M n 0 age) n 1 fresh) n 2 1) n 4 (-1)) n 7 (-1)) o := fun o ho => by rw [← hs1]; exact fr_l_X10_addReplica_46 M n age fresh o ho i1 (g_X10_put (g_X10_put (g_X10_put (g_X10_put (g_X10_put M n 0 age) n 1 fresh) n 2 1) n 4 (-1)) n 7 (-1))
    have hl1 : ∀ o : Nat, (o < 10) → s1 1 o = (g_X10_put (g_X10_put (g_X10_put (g_X10_put (g_X10_put M n 0 age) n 1 fresh) n 2 1) n 4 (-1)) n 7 (-1)) 1 o := fun o ho => by rw [← hs1]; exact lo_l_X10_addReplica_46 M n age fresh o ho i1 (g_X10_put (g_X10_put (g_X10_put (g_X10_put (g_X10_put M n 0 age) n 1 fresh) n 2 1) n 4 (-1)) n 7 (-1))
    show zT _ _ _ _ (46, [some (.ref 0), some (.int age), some (.int fresh), some (.int (M 1 0)), some (.int (nI i1))], [], (sh_Model gp), s1)
    refine zT.run [(.iload 4, 0, 0, 0), (.iload_n 3, 0, 0, 0)] (pe := 49) (ls' := [some (.ref 0), some (.int age), some (.int fresh), some (.int (M 1 0)), some (.int (nI i1))]) (st' := [.int (M 1 0), .int (nI i1)]) (M' := s1) (by decide +kernel) rfl ?_
    refine zT.cge (tgt := 66) (off := 17) (by decide +kernel) (by decide) (fun c => absurd c (zGeN (n := n) hn (by omega) (by omega))) (fun _ => ?_)
    refine zT.run [(.aload_n 0, 0, 0, 0), (.iload 4, 0, 0, 0), (.iload_n 3, 0, 0, 0), (.iconst 1, 0, 0, 0)] (pe := 57) (ls' := [some (.ref 0), some (.int age), some (.int fresh), some (.int (M 1 0)), some (.int (nI i1))]) (st' := [.int 1, .int (M 1 0), .int (nI i1), .ref 0]) (M' := s1) (by decide +kernel) rfl ?_
    refine zT.eqS (congrArg (fun v : Int32 => ([.int 1, .int v, .int (nI i1), .ref 0] : List Value)) hn) ?_
    refine zT.cV_all (o := 0) (idx := 45) (av := [.int (nI i1), .int (nI n), .int 1]) (rv := none) (st := []) (S1 := []) (c_X10_link s1 gp i1 n 1 (by omega) (by omega)) k_X10_link _ _ rfl rfl rfl (zIn (w := 5104) (by decide +kernel) rfl) (by decide +kernel) (by decide +kernel) rfl (Nat.le_of_ble_eq_true rfl) rfl ?_
    refine zT.run [(.iinc 4 1, 0, 0, 0), (.goto (-17), 0, 0, 0)] (pe := 46) (ls' := [some (.ref 0), some (.int age), some (.int fresh), some (.int (M 1 0)), some (.int ((nI i1) + 1))]) (st' := []) (M' := (g_X10_link s1 i1 n 1)) (by decide +kernel) rfl ?_
    exact zT.eq (by simp only [l_X10_addReplica_46, nI_succ, zDl]; try rfl) k1
  · skip
    show zT _ _ _ _ (46, [some (.ref 0), some (.int age), some (.int fresh), some (.int (M 1 0)), some (.int (nI n))], [], (sh_Model gp), (r_X10_addReplica_46 M n age fresh))
    refine zT.run [(.iload 4, 0, 0, 0), (.iload_n 3, 0, 0, 0)] (pe := 49) (ls' := [some (.ref 0), some (.int age), some (.int fresh), some (.int (M 1 0)), some (.int (nI n))]) (st' := [.int (M 1 0), .int (nI n)]) (M' := (r_X10_addReplica_46 M n age fresh)) (by decide +kernel) rfl ?_
    refine zT.cge (tgt := 66) (off := 17) (by decide +kernel) (by decide) (fun _ => ?_) (fun c => absurd (zGeY (n := n) hn) c)
    refine zT.run [(.aload_n 0, 0, 0, 0), (.getfield 9, 8, 1, 5150), (.iconst 0, 0, 0, 0), (.dup2, 0, 0, 0)] (pe := 72) (ls' := [some (.ref 0), some (.int age), some (.int fresh), some (.int (M 1 0)), some (.int (nI n))]) (st' := [.int 0, .ref 1, .int 0, .ref 1]) (M' := (r_X10_addReplica_46 M n age fresh)) (by decide +kernel) rfl ?_
    refine zT.iald (n := 187) (k := 0) rfl rfl (by decide) (by decide) (by decide +kernel) ?_
    refine zT.run [(.iconst 1, 0, 0, 0), (.iadd, 0, 0, 0)] (pe := 75) (ls' := [some (.ref 0), some (.int age), some (.int fresh), some (.int (M 1 0)), some (.int (nI n))]) (st' := [.int (((r_X10_addReplica_46 M n age fresh) 1 0) + 1), .int 0, .ref 1]) (M' := (r_X10_addReplica_46 M n age fresh)) (by decide +kernel) rfl ?_
    refine zT.iast (n := 187) (k := 0) rfl rfl (by decide) (by decide) (by decide +kernel) ?_
    exact zT.vret (by simp only [g_X10_addReplica]; try rfl) rfl (by decide +kernel)
theorem fr_X10_addReplica (M : zM) (n : Nat) (age : Int32) (fresh : Int32) (o : Nat) (ho : o ≠ 1) : (g_X10_addReplica M n age fresh) o = M o := by
  simp only [g_X10_addReplica]
  (repeat' split) <;> simp only [zU_ne ho, zUa_ne ho, r_X10_addReplica_46, (fr_l_X10_addReplica_46 M n age fresh o (by omega)), (fun (MM : zM) (r : Nat) (w : Nat) (v : Int32) => fr_X10_put MM r w v o (by omega))]
theorem lo_X10_addReplica (M : zM) (n : Nat) (age : Int32) (fresh : Int32) (o : Nat) (ho : o < 10 ∧ o ≠ 0) : (g_X10_addReplica M n age fresh) 1 o = M 1 o := by
  simp only [g_X10_addReplica]
  (repeat' split) <;> (try simp only [zU_k (c := 1) (i := 0) (o := o) (by omega), r_X10_addReplica_46, (lo_l_X10_addReplica_46 M n age fresh o (by omega)), (fun (MM : zM) (r : Nat) (w : Nat) (v : Int32) => lo_X10_put MM r w v o (by omega))])
theorem k_X10_addReplica : zCal yy_X10_addReplica 2 := ⟨⟨⟨⟨zIn (w := 5099) (by decide +kernel) rfl, zIn (w := 1012) (by decide +kernel) rfl⟩, by decide +kernel⟩, by decide +kernel⟩, ⟨zIn (w := 5098) (by decide +kernel) rfl, zIn (w := 20) (by decide +kernel) rfl⟩⟩
noncomputable abbrev yy_X10_undo : zY := (yX10_undo, cX10_undo, 1, (some Jvm.ClassFile.FieldType.int), 1, 22)
noncomputable def g_X10_undo (M : zM) (gq : Nat → Nat) (pc : Nat) : Int32 × zM := (if (M 0 3) = 0 then ((-1), (zU M 0 0 0)) else (((M 0 3) - 1), (zCp (zU (zU M 0 0 0) 0 3 ((M 0 3) - 1)) (gq (pc - 1)) 1)))
set_option maxRecDepth 100000 in
theorem c_X10_undo (M : zM) (gq : Nat → Nat) (pc : Nat) (hM : M 0 3 = nI pc) (hpc : pc ≤ 10) (hq : zPm gq) : zC yy_X10_undo 0 0 [.ref 0] (sh_Model (zGp gq)) M (some (.int (g_X10_undo M gq pc).1)) (sh_Model (zGp gq)) (g_X10_undo M gq pc).2 := by
  refine zC.of (by decide +kernel) rfl (Nat.le_of_ble_eq_true rfl) ?_
  refine zT.run [(.aload_n 0, 0, 0, 0), (.iconst 0, 0, 0, 0), (.putfield 61, 8, 0, 5149), (.aload_n 0, 0, 0, 0), (.getfield 65, 8, 3, 5152)] (pe := 9) (ls' := [some (.ref 0)]) (st' := [.int (M 0 3)]) (M' := (zU M 0 0 0)) (by decide +kernel) rfl ?_
  refine zT.zne (tgt := 14) (off := 5) (by decide +kernel) (by decide) (fun (c1 : ¬ (M 0 3) = 0) => ?_) (fun (c1 : (M 0 3) = 0) => ?_)
  · skip
    refine zT.run [(.aload_n 0, 0, 0, 0), (.dup, 0, 0, 0), (.getfield 65, 8, 3, 5152), (.iconst 1, 0, 0, 0), (.isub, 0, 0, 0), (.putfield 65, 8, 3, 5152), (.aload_n 0, 0, 0, 0), (.getfield 15, 8, 2, 5151), (.aload_n 0, 0, 0, 0), (.getfield 65, 8, 3, 5152)] (pe := 32) (ls' := [some (.ref 0)]) (st' := [.int ((M 0 3) - 1), .ref 2]) (M' := (zU (zU M 0 0 0) 0 3 ((M 0 3) - 1))) (by decide +kernel) rfl ?_
    refine zT.rald (n := 10) (k := (pc - 1)) (q := gq (pc - 1)) rfl (zPcI hM (by assumption)).1 (by have := (zPcI hM (by assumption)).2; omega) (by decide) (if_pos (by have := (zPcI hM (by assumption)).2; omega)) (by decide +kernel) ?_
    refine zT.run [(.aload_n 0, 0, 0, 0), (.getfield 9, 8, 1, 5150)] (pe := 37) (ls' := [some (.ref 0)]) (st' := [.ref 1, .ref (gq (pc - 1))]) (M' := (zU (zU M 0 0 0) 0 3 ((M 0 3) - 1))) (by decide +kernel) rfl ?_
    refine zT.cS_all (idx := 68) (av := [.ref (gq (pc - 1)), .ref 1]) (rv := none) (st := []) (S1 := []) (c_X10_copy _ (zU (zU M 0 0 0) 0 3 ((M 0 3) - 1)) (gq (pc - 1)) 1 (za := fun _ => 0) (zb := fun _ => 0) (zRowQ (hq.1 (pc - 1) (by have := (zPcI hM (by assumption)).2; omega)).1 (hq.1 (pc - 1) (by have := (zPcI hM (by assumption)).2; omega)).2) rfl) k_X10_copy rfl (zIn (w := 6003) (by decide +kernel) rfl) (by decide +kernel) (by decide +kernel) (by simp [zRv]) (Nat.le_of_ble_eq_true rfl) rfl ?_
    refine zT.run [(.aload_n 0, 0, 0, 0), (.getfield 65, 8, 3, 5152)] (pe := 44) (ls' := [some (.ref 0)]) (st' := [.int ((M 0 3) - 1)]) (M' := (zCp (zU (zU M 0 0 0) 0 3 ((M 0 3) - 1)) (gq (pc - 1)) 1)) (by decide +kernel) rfl ?_
    exact zT.iret (ty := Jvm.ClassFile.FieldType.int) (by simp only [g_X10_undo, if_neg c1]; try rfl) (by simp only [g_X10_undo, if_neg c1]; try rfl) rfl rfl (by decide +kernel)
  · skip
    refine zT.run [(.iconst (-1), 0, 0, 0)] (pe := 13) (ls' := [some (.ref 0)]) (st' := [.int (-1)]) (M' := (zU M 0 0 0)) (by decide +kernel) rfl ?_
    exact zT.iret (ty := Jvm.ClassFile.FieldType.int) (by simp only [g_X10_undo, if_pos c1]; try rfl) (by simp only [g_X10_undo, if_pos c1]; try rfl) rfl rfl (by decide +kernel)
theorem k_X10_undo : zCal yy_X10_undo 0 := ⟨⟨⟨⟨zIn (w := 6148) (by decide +kernel) rfl, zIn (w := 1012) (by decide +kernel) rfl⟩, by decide +kernel⟩, by decide +kernel⟩, ⟨zIn (w := 6146) (by decide +kernel) rfl, zIn (w := 6147) (by decide +kernel) rfl⟩⟩
noncomputable abbrev yy_X10_keep : zY := (yX10_keep, cX10_keep, 2, (some Jvm.ClassFile.FieldType.int), 1, 24)
noncomputable def g_X10_keep (M : zM) (gq : Nat → Nat) (pc : Nat) : Int32 × zM := ((M 1 0), (zU (zCp (zU M 0 0 0) 1 14) 16 0 (vp_nar .boolean 1)))
set_option maxRecDepth 100000 in
theorem c_X10_keep (M : zM) (gq : Nat → Nat) (pc : Nat) (hM : M 0 3 = nI pc) (hpc : pc ≤ 10) (hq : zPm gq) : zC yy_X10_keep 0 0 [.ref 0, .int 0] (sh_Model (zGp gq)) M (some (.int (g_X10_keep M gq pc).1)) (sh_Model (zGp gq)) (g_X10_keep M gq pc).2 := by
  refine zC.of (by decide +kernel) rfl (Nat.le_of_ble_eq_true rfl) ?_
  refine zT.run [(.aload_n 0, 0, 0, 0), (.iconst 0, 0, 0, 0), (.putfield 61, 8, 0, 5149), (.aload_n 0, 0, 0, 0), (.iload_n 1, 0, 0, 0), (.iconst 0, 0, 0, 0), (.iconst 1, 0, 0, 0), (.iconst 1, 0, 0, 0)] (pe := 10) (ls' := [some (.ref 0), some (.int 0)]) (st' := [.int 1, .int 1, .int 0, .int 0, .ref 0]) (M' := (zU M 0 0 0)) (by decide +kernel) rfl ?_
  refine zT.cV_own (o := 0) (idx := 72) (av := [.int 0, .int 0, .int 1, .int 1]) (rv := (some (.int 0))) (st := []) (S1 := [.int 0]) (c_X10_bad_ok (zU M 0 0 0) (zGp gq) 0 0 1 1 (by decide) (by decide)) k_X10_bad _ _ rfl rfl rfl (zIn (w := 5220) (by decide +kernel) rfl) (by decide +kernel) (by decide +kernel) rfl (Nat.le_of_ble_eq_true rfl) rfl ?_
  refine zT.zeq (tgt := 18) (off := 5) (by decide +kernel) (by decide) (fun _ => ?_) (fun c => absurd (by decide) c)
  refine zT.run [(.aload_n 0, 0, 0, 0), (.getfield 9, 8, 1, 5150), (.aload_n 0, 0, 0, 0), (.getfield 18, 8, 4, 5153), (.iload_n 1, 0, 0, 0)] (pe := 27) (ls' := [some (.ref 0), some (.int 0)]) (st' := [.int 0, .ref 13, .ref 1]) (M' := (zU M 0 0 0)) (by decide +kernel) rfl ?_
  refine zT.rald (n := 2) (k := 0) (q := 14) rfl rfl (by decide) (by decide) rfl (by decide +kernel) ?_
  refine zT.cS_all (idx := 68) (av := [.ref 1, .ref 14]) (rv := none) (st := []) (S1 := []) (c_X10_copy _ (zU M 0 0 0) 1 14 (za := fun _ => 0) (zb := fun _ => 0) rfl rfl) k_X10_copy rfl (zIn (w := 6003) (by decide +kernel) rfl) (by decide +kernel) (by decide +kernel) rfl (Nat.le_of_ble_eq_true rfl) rfl ?_
  refine zT.run [(.aload_n 0, 0, 0, 0), (.getfield 21, 8, 5, 5154), (.iload_n 1, 0, 0, 0), (.iconst 1, 0, 0, 0)] (pe := 37) (ls' := [some (.ref 0), some (.int 0)]) (st' := [.int 1, .int 0, .ref 16]) (M' := (zCp (zU M 0 0 0) 1 14)) (by decide +kernel) rfl ?_
  refine zT.zast (n := 2) (k := 0) rfl rfl (by decide) (by decide) (by decide +kernel) ?_
  refine zT.run [(.aload_n 0, 0, 0, 0), (.getfield 9, 8, 1, 5150), (.iconst 0, 0, 0, 0)] (pe := 43) (ls' := [some (.ref 0), some (.int 0)]) (st' := [.int 0, .ref 1]) (M' := (zU (zCp (zU M 0 0 0) 1 14) 16 0 (vp_nar .boolean 1))) (by decide +kernel) rfl ?_
  refine zT.iald (n := 187) (k := 0) rfl rfl (by decide) (by decide) (by decide +kernel) ?_
  exact zT.iret (ty := Jvm.ClassFile.FieldType.int) (by simp only [g_X10_keep]; try rfl) (by simp only [g_X10_keep]; try rfl) rfl rfl (by decide +kernel)
theorem k_X10_keep : zCal yy_X10_keep 1 := ⟨⟨⟨⟨zIn (w := 6152) (by decide +kernel) rfl, zIn (w := 1012) (by decide +kernel) rfl⟩, by decide +kernel⟩, by decide +kernel⟩, ⟨zIn (w := 6150) (by decide +kernel) rfl, zIn (w := 6151) (by decide +kernel) rfl⟩⟩
noncomputable abbrev yy_X10_restore : zY := (yX10_restore, cX10_restore, 2, (some Jvm.ClassFile.FieldType.int), 1, 24)
noncomputable def g_X10_restore (M : zM) (gq : Nat → Nat) (pc : Nat) : Int32 × zM := (if (M 16 0) = 0 then (0, (zU (zU M 0 0 0) 0 0 2)) else (((zCp (zU M 0 0 0) 14 1) 1 0), (zU (zCp (zU M 0 0 0) 14 1) 0 3 0)))
set_option maxRecDepth 100000 in
theorem c_X10_restore (M : zM) (gq : Nat → Nat) (pc : Nat) (hM : M 0 3 = nI pc) (hpc : pc ≤ 10) (hq : zPm gq) : zC yy_X10_restore 0 0 [.ref 0, .int 0] (sh_Model (zGp gq)) M (some (.int (g_X10_restore M gq pc).1)) (sh_Model (zGp gq)) (g_X10_restore M gq pc).2 := by
  refine zC.of (by decide +kernel) rfl (Nat.le_of_ble_eq_true rfl) ?_
  refine zT.run [(.aload_n 0, 0, 0, 0), (.iconst 0, 0, 0, 0), (.putfield 61, 8, 0, 5149), (.aload_n 0, 0, 0, 0), (.iload_n 1, 0, 0, 0), (.iconst 0, 0, 0, 0), (.iconst 1, 0, 0, 0), (.iconst 1, 0, 0, 0)] (pe := 10) (ls' := [some (.ref 0), some (.int 0)]) (st' := [.int 1, .int 1, .int 0, .int 0, .ref 0]) (M' := (zU M 0 0 0)) (by decide +kernel) rfl ?_
  refine zT.cV_own (o := 0) (idx := 72) (av := [.int 0, .int 0, .int 1, .int 1]) (rv := (some (.int 0))) (st := []) (S1 := [.int 0]) (c_X10_bad_ok (zU M 0 0 0) (zGp gq) 0 0 1 1 (by decide) (by decide)) k_X10_bad _ _ rfl rfl rfl (zIn (w := 5220) (by decide +kernel) rfl) (by decide +kernel) (by decide +kernel) rfl (Nat.le_of_ble_eq_true rfl) rfl ?_
  refine zT.zeq (tgt := 18) (off := 5) (by decide +kernel) (by decide) (fun _ => ?_) (fun c => absurd (by decide) c)
  refine zT.run [(.aload_n 0, 0, 0, 0), (.getfield 21, 8, 5, 5154), (.iload_n 1, 0, 0, 0)] (pe := 23) (ls' := [some (.ref 0), some (.int 0)]) (st' := [.int 0, .ref 16]) (M' := (zU M 0 0 0)) (by decide +kernel) rfl ?_
  refine zT.zald (n := 2) (k := 0) rfl rfl (by decide) (by decide) (by decide +kernel) ?_
  refine zT.zne (tgt := 34) (off := 10) (by decide +kernel) (by decide) (fun (c1 : ¬ (M 16 0) = 0) => ?_) (fun (c1 : (M 16 0) = 0) => ?_)
  · skip
    refine zT.run [(.aload_n 0, 0, 0, 0), (.getfield 18, 8, 4, 5153), (.iload_n 1, 0, 0, 0)] (pe := 39) (ls' := [some (.ref 0), some (.int 0)]) (st' := [.int 0, .ref 13]) (M' := (zU M 0 0 0)) (by decide +kernel) rfl ?_
    refine zT.rald (n := 2) (k := 0) (q := 14) rfl rfl (by decide) (by decide) rfl (by decide +kernel) ?_
    refine zT.run [(.aload_n 0, 0, 0, 0), (.getfield 9, 8, 1, 5150)] (pe := 44) (ls' := [some (.ref 0), some (.int 0)]) (st' := [.ref 1, .ref 14]) (M' := (zU M 0 0 0)) (by decide +kernel) rfl ?_
    refine zT.cS_all (idx := 68) (av := [.ref 14, .ref 1]) (rv := none) (st := []) (S1 := []) (c_X10_copy _ (zU M 0 0 0) 14 1 (za := fun _ => 0) (zb := fun _ => 0) rfl rfl) k_X10_copy rfl (zIn (w := 6003) (by decide +kernel) rfl) (by decide +kernel) (by decide +kernel) rfl (Nat.le_of_ble_eq_true rfl) rfl ?_
    refine zT.run [(.aload_n 0, 0, 0, 0), (.iconst 0, 0, 0, 0), (.putfield 65, 8, 3, 5152), (.aload_n 0, 0, 0, 0), (.getfield 9, 8, 1, 5150), (.iconst 0, 0, 0, 0)] (pe := 57) (ls' := [some (.ref 0), some (.int 0)]) (st' := [.int 0, .ref 1]) (M' := (zU (zCp (zU M 0 0 0) 14 1) 0 3 0)) (by decide +kernel) rfl ?_
    refine zT.iald (n := 187) (k := 0) rfl rfl (by decide) (by decide) (by decide +kernel) ?_
    exact zT.iret (ty := Jvm.ClassFile.FieldType.int) (by simp only [g_X10_restore, if_neg c1]; try rfl) (by simp only [g_X10_restore, if_neg c1]; try rfl) rfl rfl (by decide +kernel)
  · skip
    refine zT.run [(.aload_n 0, 0, 0, 0), (.iconst 2, 0, 0, 0), (.putfield 61, 8, 0, 5149), (.iconst 0, 0, 0, 0)] (pe := 33) (ls' := [some (.ref 0), some (.int 0)]) (st' := [.int 0]) (M' := (zU (zU M 0 0 0) 0 0 2)) (by decide +kernel) rfl ?_
    exact zT.iret (ty := Jvm.ClassFile.FieldType.int) (by simp only [g_X10_restore, if_pos c1]; try rfl) (by simp only [g_X10_restore, if_pos c1]; try rfl) rfl rfl (by decide +kernel)
theorem k_X10_restore : zCal yy_X10_restore 1 := ⟨⟨⟨⟨zIn (w := 6156) (by decide +kernel) rfl, zIn (w := 1012) (by decide +kernel) rfl⟩, by decide +kernel⟩, by decide +kernel⟩, ⟨zIn (w := 6154) (by decide +kernel) rfl, zIn (w := 6155) (by decide +kernel) rfl⟩⟩
noncomputable def g_X10_keep_1 (M : zM) (gq : Nat → Nat) (pc : Nat) : Int32 × zM := ((M 1 0), (zU (zCp (zU M 0 0 0) 1 15) 16 1 (vp_nar .boolean 1)))
set_option maxRecDepth 100000 in
theorem c_X10_keep_1 (M : zM) (gq : Nat → Nat) (pc : Nat) (hM : M 0 3 = nI pc) (hpc : pc ≤ 10) (hq : zPm gq) : zC yy_X10_keep 0 0 [.ref 0, .int 1] (sh_Model (zGp gq)) M (some (.int (g_X10_keep_1 M gq pc).1)) (sh_Model (zGp gq)) (g_X10_keep_1 M gq pc).2 := by
  refine zC.of (by decide +kernel) rfl (Nat.le_of_ble_eq_true rfl) ?_
  refine zT.run [(.aload_n 0, 0, 0, 0), (.iconst 0, 0, 0, 0), (.putfield 61, 8, 0, 5149), (.aload_n 0, 0, 0, 0), (.iload_n 1, 0, 0, 0), (.iconst 0, 0, 0, 0), (.iconst 1, 0, 0, 0), (.iconst 1, 0, 0, 0)] (pe := 10) (ls' := [some (.ref 0), some (.int 1)]) (st' := [.int 1, .int 1, .int 0, .int 1, .ref 0]) (M' := (zU M 0 0 0)) (by decide +kernel) rfl ?_
  refine zT.cV_own (o := 0) (idx := 72) (av := [.int 1, .int 0, .int 1, .int 1]) (rv := (some (.int 0))) (st := []) (S1 := [.int 0]) (c_X10_bad_ok (zU M 0 0 0) (zGp gq) 1 0 1 1 (by decide) (by decide)) k_X10_bad _ _ rfl rfl rfl (zIn (w := 5220) (by decide +kernel) rfl) (by decide +kernel) (by decide +kernel) rfl (Nat.le_of_ble_eq_true rfl) rfl ?_
  refine zT.zeq (tgt := 18) (off := 5) (by decide +kernel) (by decide) (fun _ => ?_) (fun c => absurd (by decide) c)
  refine zT.run [(.aload_n 0, 0, 0, 0), (.getfield 9, 8, 1, 5150), (.aload_n 0, 0, 0, 0), (.getfield 18, 8, 4, 5153), (.iload_n 1, 0, 0, 0)] (pe := 27) (ls' := [some (.ref 0), some (.int 1)]) (st' := [.int 1, .ref 13, .ref 1]) (M' := (zU M 0 0 0)) (by decide +kernel) rfl ?_
  refine zT.rald (n := 2) (k := 1) (q := 15) rfl rfl (by decide) (by decide) rfl (by decide +kernel) ?_
  refine zT.cS_all (idx := 68) (av := [.ref 1, .ref 15]) (rv := none) (st := []) (S1 := []) (c_X10_copy _ (zU M 0 0 0) 1 15 (za := fun _ => 0) (zb := fun _ => 0) rfl rfl) k_X10_copy rfl (zIn (w := 6003) (by decide +kernel) rfl) (by decide +kernel) (by decide +kernel) rfl (Nat.le_of_ble_eq_true rfl) rfl ?_
  refine zT.run [(.aload_n 0, 0, 0, 0), (.getfield 21, 8, 5, 5154), (.iload_n 1, 0, 0, 0), (.iconst 1, 0, 0, 0)] (pe := 37) (ls' := [some (.ref 0), some (.int 1)]) (st' := [.int 1, .int 1, .ref 16]) (M' := (zCp (zU M 0 0 0) 1 15)) (by decide +kernel) rfl ?_
  refine zT.zast (n := 2) (k := 1) rfl rfl (by decide) (by decide) (by decide +kernel) ?_
  refine zT.run [(.aload_n 0, 0, 0, 0), (.getfield 9, 8, 1, 5150), (.iconst 0, 0, 0, 0)] (pe := 43) (ls' := [some (.ref 0), some (.int 1)]) (st' := [.int 0, .ref 1]) (M' := (zU (zCp (zU M 0 0 0) 1 15) 16 1 (vp_nar .boolean 1))) (by decide +kernel) rfl ?_
  refine zT.iald (n := 187) (k := 0) rfl rfl (by decide) (by decide) (by decide +kernel) ?_
  exact zT.iret (ty := Jvm.ClassFile.FieldType.int) (by simp only [g_X10_keep_1]; try rfl) (by simp only [g_X10_keep_1]; try rfl) rfl rfl (by decide +kernel)
noncomputable def g_X10_restore_1 (M : zM) (gq : Nat → Nat) (pc : Nat) : Int32 × zM := (if (M 16 1) = 0 then (0, (zU (zU M 0 0 0) 0 0 2)) else (((zCp (zU M 0 0 0) 15 1) 1 0), (zU (zCp (zU M 0 0 0) 15 1) 0 3 0)))
set_option maxRecDepth 100000 in
theorem c_X10_restore_1 (M : zM) (gq : Nat → Nat) (pc : Nat) (hM : M 0 3 = nI pc) (hpc : pc ≤ 10) (hq : zPm gq) : zC yy_X10_restore 0 0 [.ref 0, .int 1] (sh_Model (zGp gq)) M (some (.int (g_X10_restore_1 M gq pc).1)) (sh_Model (zGp gq)) (g_X10_restore_1 M gq pc).2 := by
  refine zC.of (by decide +kernel) rfl (Nat.le_of_ble_eq_true rfl) ?_
  refine zT.run [(.aload_n 0, 0, 0, 0), (.iconst 0, 0, 0, 0), (.putfield 61, 8, 0, 5149), (.aload_n 0, 0, 0, 0), (.iload_n 1, 0, 0, 0), (.iconst 0, 0, 0, 0), (.iconst 1, 0, 0, 0), (.iconst 1, 0, 0, 0)] (pe := 10) (ls' := [some (.ref 0), some (.int 1)]) (st' := [.int 1, .int 1, .int 0, .int 1, .ref 0]) (M' := (zU M 0 0 0)) (by decide +kernel) rfl ?_
  refine zT.cV_own (o := 0) (idx := 72) (av := [.int 1, .int 0, .int 1, .int 1]) (rv := (some (.int 0))) (st := []) (S1 := [.int 0]) (c_X10_bad_ok (zU M 0 0 0) (zGp gq) 1 0 1 1 (by decide) (by decide)) k_X10_bad _ _ rfl rfl rfl (zIn (w := 5220) (by decide +kernel) rfl) (by decide +kernel) (by decide +kernel) rfl (Nat.le_of_ble_eq_true rfl) rfl ?_
  refine zT.zeq (tgt := 18) (off := 5) (by decide +kernel) (by decide) (fun _ => ?_) (fun c => absurd (by decide) c)
  refine zT.run [(.aload_n 0, 0, 0, 0), (.getfield 21, 8, 5, 5154), (.iload_n 1, 0, 0, 0)] (pe := 23) (ls' := [some (.ref 0), some (.int 1)]) (st' := [.int 1, .ref 16]) (M' := (zU M 0 0 0)) (by decide +kernel) rfl ?_
  refine zT.zald (n := 2) (k := 1) rfl rfl (by decide) (by decide) (by decide +kernel) ?_
  refine zT.zne (tgt := 34) (off := 10) (by decide +kernel) (by decide) (fun (c1 : ¬ (M 16 1) = 0) => ?_) (fun (c1 : (M 16 1) = 0) => ?_)
  · skip
    refine zT.run [(.aload_n 0, 0, 0, 0), (.getfield 18, 8, 4, 5153), (.iload_n 1, 0, 0, 0)] (pe := 39) (ls' := [some (.ref 0), some (.int 1)]) (st' := [.int 1, .ref 13]) (M' := (zU M 0 0 0)) (by decide +kernel) rfl ?_
    refine zT.rald (n := 2) (k := 1) (q := 15) rfl rfl (by decide) (by decide) rfl (by decide +kernel) ?_
    refine zT.run [(.aload_n 0, 0, 0, 0), (.getfield 9, 8, 1, 5150)] (pe := 44) (ls' := [some (.ref 0), some (.int 1)]) (st' := [.ref 1, .ref 15]) (M' := (zU M 0 0 0)) (by decide +kernel) rfl ?_
    refine zT.cS_all (idx := 68) (av := [.ref 15, .ref 1]) (rv := none) (st := []) (S1 := []) (c_X10_copy _ (zU M 0 0 0) 15 1 (za := fun _ => 0) (zb := fun _ => 0) rfl rfl) k_X10_copy rfl (zIn (w := 6003) (by decide +kernel) rfl) (by decide +kernel) (by decide +kernel) rfl (Nat.le_of_ble_eq_true rfl) rfl ?_
    refine zT.run [(.aload_n 0, 0, 0, 0), (.iconst 0, 0, 0, 0), (.putfield 65, 8, 3, 5152), (.aload_n 0, 0, 0, 0), (.getfield 9, 8, 1, 5150), (.iconst 0, 0, 0, 0)] (pe := 57) (ls' := [some (.ref 0), some (.int 1)]) (st' := [.int 0, .ref 1]) (M' := (zU (zCp (zU M 0 0 0) 15 1) 0 3 0)) (by decide +kernel) rfl ?_
    refine zT.iald (n := 187) (k := 0) rfl rfl (by decide) (by decide) (by decide +kernel) ?_
    exact zT.iret (ty := Jvm.ClassFile.FieldType.int) (by simp only [g_X10_restore_1, if_neg c1]; try rfl) (by simp only [g_X10_restore_1, if_neg c1]; try rfl) rfl rfl (by decide +kernel)
  · skip
    refine zT.run [(.aload_n 0, 0, 0, 0), (.iconst 2, 0, 0, 0), (.putfield 61, 8, 0, 5149), (.iconst 0, 0, 0, 0)] (pe := 33) (ls' := [some (.ref 0), some (.int 1)]) (st' := [.int 0]) (M' := (zU (zU M 0 0 0) 0 0 2)) (by decide +kernel) rfl ?_
    exact zT.iret (ty := Jvm.ClassFile.FieldType.int) (by simp only [g_X10_restore_1, if_pos c1]; try rfl) (by simp only [g_X10_restore_1, if_pos c1]; try rfl) rfl rfl (by decide +kernel)
theorem zP1 {a : Nat} : nI a + 1 = nI (a + 1) := nI_1 a
theorem zP2 {a : Nat} : nI a + 1 + 1 = nI (a + 2) := by rw [nI_1, nI_1]
theorem zP3 {a : Nat} : nI a + 1 + 1 + 1 = nI (a + 3) := by rw [nI_1, nI_1, nI_1]
theorem zP4 {a : Nat} : nI a + 1 + 1 + 1 + 1 = nI (a + 4) := by rw [nI_1, nI_1, nI_1, nI_1]
noncomputable abbrev yy_X10_type : zY := (yX10_type, cX10_type, 3, none, 0, 0)
noncomputable def g_X10_type (M : zM) (ty : Nat) (x : Int32) : zM := (zU (zU (zU (zU (zU (zU (zU (zU M 18 ty ((((x).toUInt32 >>> ((24 : Int32).toUInt32 &&& Int32.toUInt32 31)).toInt32) &&& 255)) 0 8 ((M 0 8) + 1)) 18 (ty + 1) ((((x).toUInt32 >>> ((16 : Int32).toUInt32 &&& Int32.toUInt32 31)).toInt32) &&& 255)) 0 8 (((M 0 8) + 1) + 1)) 18 (ty + 2) ((((x).toUInt32 >>> ((8 : Int32).toUInt32 &&& Int32.toUInt32 31)).toInt32) &&& 255)) 0 8 ((((M 0 8) + 1) + 1) + 1)) 18 (ty + 3) ((((x).toUInt32 >>> ((0 : Int32).toUInt32 &&& Int32.toUInt32 31)).toInt32) &&& 255)) 0 8 (((((M 0 8) + 1) + 1) + 1) + 1))
set_option maxRecDepth 100000 in
theorem c_X10_type (M : zM) (gp : Nat → Option Nat) (ty : Nat) (x : Int32) (hty : M 0 8 = nI ty) (h600 : ty + 4 ≤ 600) : zC yy_X10_type 0 0 [.ref 0, .int x] (sh_Model gp) M none (sh_Model gp) (g_X10_type M ty x) := by
  refine zC.of (by decide +kernel) rfl (Nat.le_of_ble_eq_true rfl) ?_
  refine zT.run [(.bipush 24, 0, 0, 0), (.istore_n 2, 0, 0, 0), (.iload_n 2, 0, 0, 0)] (pe := 4) (ls' := [some (.ref 0), some (.int x), some (.int 24)]) (st' := [.int 24]) (M' := M) (by decide +kernel) rfl ?_
  refine zT.zlt (tgt := 39) (off := 35) (by decide +kernel) (by decide) (fun c => absurd c (by decide)) (fun _ => ?_)
  refine zT.run [(.aload_n 0, 0, 0, 0), (.getfield 28, 8, 7, 5156), (.aload_n 0, 0, 0, 0), (.getfield 214, 8, 8, 5157), (.iload_n 1, 0, 0, 0), (.iload_n 2, 0, 0, 0), (.iushr, 0, 0, 0), (.sipush 255, 0, 0, 0), (.iand, 0, 0, 0)] (pe := 22) (ls' := [some (.ref 0), some (.int x), some (.int 24)]) (st' := [.int ((((x).toUInt32 >>> ((24 : Int32).toUInt32 &&& Int32.toUInt32 31)).toInt32) &&& 255), .int (M 0 8), .ref 18]) (M' := M) (by decide +kernel) rfl ?_
  refine zT.iast (n := 600) (k := ty) rfl (by rw [hty]) (by omega) (by decide) (by decide +kernel) ?_
  refine zT.run [(.aload_n 0, 0, 0, 0), (.dup, 0, 0, 0), (.getfield 214, 8, 8, 5157), (.iconst 1, 0, 0, 0), (.iadd, 0, 0, 0), (.putfield 214, 8, 8, 5157), (.iinc 2 (-8), 0, 0, 0), (.goto (-33), 0, 0, 0), (.iload_n 2, 0, 0, 0)] (pe := 4) (ls' := [some (.ref 0), some (.int x), some (.int 16)]) (st' := [.int 16]) (M' := (zU (zU M 18 ty ((((x).toUInt32 >>> ((24 : Int32).toUInt32 &&& Int32.toUInt32 31)).toInt32) &&& 255)) 0 8 ((M 0 8) + 1))) (by decide +kernel) rfl ?_
  refine zT.zlt (tgt := 39) (off := 35) (by decide +kernel) (by decide) (fun c => absurd c (by decide)) (fun _ => ?_)
  refine zT.run [(.aload_n 0, 0, 0, 0), (.getfield 28, 8, 7, 5156), (.aload_n 0, 0, 0, 0), (.getfield 214, 8, 8, 5157), (.iload_n 1, 0, 0, 0), (.iload_n 2, 0, 0, 0), (.iushr, 0, 0, 0), (.sipush 255, 0, 0, 0), (.iand, 0, 0, 0)] (pe := 22) (ls' := [some (.ref 0), some (.int x), some (.int 16)]) (st' := [.int ((((x).toUInt32 >>> ((16 : Int32).toUInt32 &&& Int32.toUInt32 31)).toInt32) &&& 255), .int ((M 0 8) + 1), .ref 18]) (M' := (zU (zU M 18 ty ((((x).toUInt32 >>> ((24 : Int32).toUInt32 &&& Int32.toUInt32 31)).toInt32) &&& 255)) 0 8 ((M 0 8) + 1))) (by decide +kernel) rfl ?_
  refine zT.iast (n := 600) (k := (ty + 1)) rfl (by rw [hty, zP1]) (by omega) (by decide) (by decide +kernel) ?_
  refine zT.run [(.aload_n 0, 0, 0, 0), (.dup, 0, 0, 0), (.getfield 214, 8, 8, 5157), (.iconst 1, 0, 0, 0), (.iadd, 0, 0, 0), (.putfield 214, 8, 8, 5157), (.iinc 2 (-8), 0, 0, 0), (.goto (-33), 0, 0, 0), (.iload_n 2, 0, 0, 0)] (pe := 4) (ls' := [some (.ref 0), some (.int x), some (.int 8)]) (st' := [.int 8]) (M' := (zU (zU (zU (zU M 18 ty ((((x).toUInt32 >>> ((24 : Int32).toUInt32 &&& Int32.toUInt32 31)).toInt32) &&& 255)) 0 8 ((M 0 8) + 1)) 18 (ty + 1) ((((x).toUInt32 >>> ((16 : Int32).toUInt32 &&& Int32.toUInt32 31)).toInt32) &&& 255)) 0 8 (((M 0 8) + 1) + 1))) (by decide +kernel) rfl ?_
  refine zT.zlt (tgt := 39) (off := 35) (by decide +kernel) (by decide) (fun c => absurd c (by decide)) (fun _ => ?_)
  refine zT.run [(.aload_n 0, 0, 0, 0), (.getfield 28, 8, 7, 5156), (.aload_n 0, 0, 0, 0), (.getfield 214, 8, 8, 5157), (.iload_n 1, 0, 0, 0), (.iload_n 2, 0, 0, 0), (.iushr, 0, 0, 0), (.sipush 255, 0, 0, 0), (.iand, 0, 0, 0)] (pe := 22) (ls' := [some (.ref 0), some (.int x), some (.int 8)]) (st' := [.int ((((x).toUInt32 >>> ((8 : Int32).toUInt32 &&& Int32.toUInt32 31)).toInt32) &&& 255), .int (((M 0 8) + 1) + 1), .ref 18]) (M' := (zU (zU (zU (zU M 18 ty ((((x).toUInt32 >>> ((24 : Int32).toUInt32 &&& Int32.toUInt32 31)).toInt32) &&& 255)) 0 8 ((M 0 8) + 1)) 18 (ty + 1) ((((x).toUInt32 >>> ((16 : Int32).toUInt32 &&& Int32.toUInt32 31)).toInt32) &&& 255)) 0 8 (((M 0 8) + 1) + 1))) (by decide +kernel) rfl ?_
  refine zT.iast (n := 600) (k := (ty + 2)) rfl (by rw [hty, zP2]) (by omega) (by decide) (by decide +kernel) ?_
  refine zT.run [(.aload_n 0, 0, 0, 0), (.dup, 0, 0, 0), (.getfield 214, 8, 8, 5157), (.iconst 1, 0, 0, 0), (.iadd, 0, 0, 0), (.putfield 214, 8, 8, 5157), (.iinc 2 (-8), 0, 0, 0), (.goto (-33), 0, 0, 0), (.iload_n 2, 0, 0, 0)] (pe := 4) (ls' := [some (.ref 0), some (.int x), some (.int 0)]) (st' := [.int 0]) (M' := (zU (zU (zU (zU (zU (zU M 18 ty ((((x).toUInt32 >>> ((24 : Int32).toUInt32 &&& Int32.toUInt32 31)).toInt32) &&& 255)) 0 8 ((M 0 8) + 1)) 18 (ty + 1) ((((x).toUInt32 >>> ((16 : Int32).toUInt32 &&& Int32.toUInt32 31)).toInt32) &&& 255)) 0 8 (((M 0 8) + 1) + 1)) 18 (ty + 2) ((((x).toUInt32 >>> ((8 : Int32).toUInt32 &&& Int32.toUInt32 31)).toInt32) &&& 255)) 0 8 ((((M 0 8) + 1) + 1) + 1))) (by decide +kernel) rfl ?_
  refine zT.zlt (tgt := 39) (off := 35) (by decide +kernel) (by decide) (fun c => absurd c (by decide)) (fun _ => ?_)
  refine zT.run [(.aload_n 0, 0, 0, 0), (.getfield 28, 8, 7, 5156), (.aload_n 0, 0, 0, 0), (.getfield 214, 8, 8, 5157), (.iload_n 1, 0, 0, 0), (.iload_n 2, 0, 0, 0), (.iushr, 0, 0, 0), (.sipush 255, 0, 0, 0), (.iand, 0, 0, 0)] (pe := 22) (ls' := [some (.ref 0), some (.int x), some (.int 0)]) (st' := [.int ((((x).toUInt32 >>> ((0 : Int32).toUInt32 &&& Int32.toUInt32 31)).toInt32) &&& 255), .int ((((M 0 8) + 1) + 1) + 1), .ref 18]) (M' := (zU (zU (zU (zU (zU (zU M 18 ty ((((x).toUInt32 >>> ((24 : Int32).toUInt32 &&& Int32.toUInt32 31)).toInt32) &&& 255)) 0 8 ((M 0 8) + 1)) 18 (ty + 1) ((((x).toUInt32 >>> ((16 : Int32).toUInt32 &&& Int32.toUInt32 31)).toInt32) &&& 255)) 0 8 (((M 0 8) + 1) + 1)) 18 (ty + 2) ((((x).toUInt32 >>> ((8 : Int32).toUInt32 &&& Int32.toUInt32 31)).toInt32) &&& 255)) 0 8 ((((M 0 8) + 1) + 1) + 1))) (by decide +kernel) rfl ?_
  refine zT.iast (n := 600) (k := (ty + 3)) rfl (by rw [hty, zP3]) (by omega) (by decide) (by decide +kernel) ?_
  refine zT.run [(.aload_n 0, 0, 0, 0), (.dup, 0, 0, 0), (.getfield 214, 8, 8, 5157), (.iconst 1, 0, 0, 0), (.iadd, 0, 0, 0), (.putfield 214, 8, 8, 5157), (.iinc 2 (-8), 0, 0, 0), (.goto (-33), 0, 0, 0), (.iload_n 2, 0, 0, 0)] (pe := 4) (ls' := [some (.ref 0), some (.int x), some (.int (-8))]) (st' := [.int (-8)]) (M' := (zU (zU (zU (zU (zU (zU (zU (zU M 18 ty ((((x).toUInt32 >>> ((24 : Int32).toUInt32 &&& Int32.toUInt32 31)).toInt32) &&& 255)) 0 8 ((M 0 8) + 1)) 18 (ty + 1) ((((x).toUInt32 >>> ((16 : Int32).toUInt32 &&& Int32.toUInt32 31)).toInt32) &&& 255)) 0 8 (((M 0 8) + 1) + 1)) 18 (ty + 2) ((((x).toUInt32 >>> ((8 : Int32).toUInt32 &&& Int32.toUInt32 31)).toInt32) &&& 255)) 0 8 ((((M 0 8) + 1) + 1) + 1)) 18 (ty + 3) ((((x).toUInt32 >>> ((0 : Int32).toUInt32 &&& Int32.toUInt32 31)).toInt32) &&& 255)) 0 8 (((((M 0 8) + 1) + 1) + 1) + 1))) (by decide +kernel) rfl ?_
  refine zT.zlt (tgt := 39) (off := 35) (by decide +kernel) (by decide) (fun _ => ?_) (fun c => absurd (by decide) c)
  exact zT.vret (by simp only [g_X10_type]; try rfl) rfl (by decide +kernel)
theorem fr_X10_type (M : zM) (ty : Nat) (x : Int32) (o : Nat) (ho : o ≠ 0 ∧ o ≠ 18) : (g_X10_type M ty x) o = M o := by
  simp only [g_X10_type]
  (repeat' split) <;> simp only [zU_ne ho.1, zU_ne ho.2, zUa_ne ho.1, zUa_ne ho.2]
theorem k_X10_type : zCal yy_X10_type 1 := ⟨⟨⟨⟨zIn (w := 7011) (by decide +kernel) rfl, zIn (w := 1012) (by decide +kernel) rfl⟩, by decide +kernel⟩, by decide +kernel⟩, ⟨zIn (w := 7010) (by decide +kernel) rfl, zIn (w := 75) (by decide +kernel) rfl⟩⟩
theorem e_X10_type {M : zM} {ty : Nat} {x : Int32} (hty : M 0 8 = nI ty) : g_X10_type M ty x 0 8 = nI (ty + 4) := by
  rw [← zP4, ← hty]
  rfl
theorem zTyI {x : Int32} {ty : Nat} (hty : x = nI ty) (h : ty ≤ 600) (c : x + 20 ≤ 600) : ty + 20 ≤ 600 := by
  rw [hty, show (20 : Int32) = nI 20 from rfl, nI_add, show (600 : Int32) = nI 600 from rfl] at c
  exact (nI_leI (by omega) (by decide)).mp c
noncomputable abbrev yy_X10_append : zY := (yX10_append, cX10_append, 6, (some Jvm.ClassFile.FieldType.int), 1, 22)
noncomputable def m_X10_append_1 (M : zM) (ty : Nat) (a : Int32) (b : Int32) (c : Int32) (d : Int32) (e : Int32) : zM := (g_X10_type (g_X10_type (g_X10_type (g_X10_type (g_X10_type (zU M 0 0 0) ty a) (ty + 4) b) ((ty + 4) + 4) c) (((ty + 4) + 4) + 4) d) ((((ty + 4) + 4) + 4) + 4) e)
noncomputable def g_X10_append (M : zM) (ty : Nat) (a : Int32) (b : Int32) (c : Int32) (d : Int32) (e : Int32) : Int32 × zM := (if ((M 0 8) + 20) ≤ 600 then (((m_X10_append_1 M ty a b c d e) 0 8), (m_X10_append_1 M ty a b c d e)) else ((-20), (zU M 0 0 0)))
set_option maxRecDepth 100000 in
theorem c_X10_append (M : zM) (gp : Nat → Option Nat) (ty : Nat) (a : Int32) (b : Int32) (c : Int32) (d : Int32) (e : Int32) (hty : M 0 8 = nI ty) (h600 : ty ≤ 600) : zC yy_X10_append 0 0 [.ref 0, .int a, .int b, .int c, .int d, .int e] (sh_Model gp) M (some (.int (g_X10_append M ty a b c d e).1)) (sh_Model gp) (g_X10_append M ty a b c d e).2 := by
  refine zC.of (by decide +kernel) rfl (Nat.le_of_ble_eq_true rfl) ?_
  refine zT.run [(.aload_n 0, 0, 0, 0), (.iconst 0, 0, 0, 0), (.putfield 61, 8, 0, 5149), (.aload_n 0, 0, 0, 0), (.getfield 214, 8, 8, 5157), (.bipush 20, 0, 0, 0), (.iadd, 0, 0, 0), (.sipush 600, 0, 0, 0)] (pe := 15) (ls' := [some (.ref 0), some (.int a), some (.int b), some (.int c), some (.int d), some (.int e)]) (st' := [.int 600, .int ((M 0 8) + 20)]) (M' := (zU M 0 0 0)) (by decide +kernel) rfl ?_
  refine zT.cle (tgt := 21) (off := 6) (by decide +kernel) (by decide) (fun (c1 : ((M 0 8) + 20) ≤ 600) => ?_) (fun (c1 : ¬ ((M 0 8) + 20) ≤ 600) => ?_)
  · skip
    refine zT.run [(.aload_n 0, 0, 0, 0), (.iload_n 1, 0, 0, 0)] (pe := 23) (ls' := [some (.ref 0), some (.int a), some (.int b), some (.int c), some (.int d), some (.int e)]) (st' := [.int a, .ref 0]) (M' := (zU M 0 0 0)) (by decide +kernel) rfl ?_
    refine zT.cV_all (o := 0) (idx := 326) (av := [.int a]) (rv := none) (st := []) (S1 := []) (c_X10_type (zU M 0 0 0) gp ty a hty (by have := zTyI hty h600 (by assumption); omega)) k_X10_type _ _ rfl rfl rfl (zIn (w := 7008) (by decide +kernel) rfl) (by decide +kernel) (by decide +kernel) rfl (Nat.le_of_ble_eq_true rfl) rfl ?_
    refine zT.run [(.aload_n 0, 0, 0, 0), (.iload_n 2, 0, 0, 0)] (pe := 28) (ls' := [some (.ref 0), some (.int a), some (.int b), some (.int c), some (.int d), some (.int e)]) (st' := [.int b, .ref 0]) (M' := (g_X10_type (zU M 0 0 0) ty a)) (by decide +kernel) rfl ?_
    refine zT.cV_all (o := 0) (idx := 326) (av := [.int b]) (rv := none) (st := []) (S1 := []) (c_X10_type (g_X10_type (zU M 0 0 0) ty a) gp (ty + 4) b (e_X10_type hty) (by have := zTyI hty h600 (by assumption); omega)) k_X10_type _ _ rfl rfl rfl (zIn (w := 7008) (by decide +kernel) rfl) (by decide +kernel) (by decide +kernel) rfl (Nat.le_of_ble_eq_true rfl) rfl ?_
    refine zT.run [(.aload_n 0, 0, 0, 0), (.iload_n 3, 0, 0, 0)] (pe := 33) (ls' := [some (.ref 0), some (.int a), some (.int b), some (.int c), some (.int d), some (.int e)]) (st' := [.int c, .ref 0]) (M' := (g_X10_type (g_X10_type (zU M 0 0 0) ty a) (ty + 4) b)) (by decide +kernel) rfl ?_
    refine zT.cV_all (o := 0) (idx := 326) (av := [.int c]) (rv := none) (st := []) (S1 := []) (c_X10_type (g_X10_type (g_X10_type (zU M 0 0 0) ty a) (ty + 4) b) gp ((ty + 4) + 4) c (e_X10_type (e_X10_type hty)) (by have := zTyI hty h600 (by assumption); omega)) k_X10_type _ _ rfl rfl rfl (zIn (w := 7008) (by decide +kernel) rfl) (by decide +kernel) (by decide +kernel) rfl (Nat.le_of_ble_eq_true rfl) rfl ?_
    refine zT.run [(.aload_n 0, 0, 0, 0), (.iload 4, 0, 0, 0)] (pe := 39) (ls' := [some (.ref 0), some (.int a), some (.int b), some (.int c), some (.int d), some (.int e)]) (st' := [.int d, .ref 0]) (M' := (g_X10_type (g_X10_type (g_X10_type (zU M 0 0 0) ty a) (ty + 4) b) ((ty + 4) + 4) c)) (by decide +kernel) rfl ?_
    refine zT.cV_all (o := 0) (idx := 326) (av := [.int d]) (rv := none) (st := []) (S1 := []) (c_X10_type (g_X10_type (g_X10_type (g_X10_type (zU M 0 0 0) ty a) (ty + 4) b) ((ty + 4) + 4) c) gp (((ty + 4) + 4) + 4) d (e_X10_type (e_X10_type (e_X10_type hty))) (by have := zTyI hty h600 (by assumption); omega)) k_X10_type _ _ rfl rfl rfl (zIn (w := 7008) (by decide +kernel) rfl) (by decide +kernel) (by decide +kernel) rfl (Nat.le_of_ble_eq_true rfl) rfl ?_
    refine zT.run [(.aload_n 0, 0, 0, 0), (.iload 5, 0, 0, 0)] (pe := 45) (ls' := [some (.ref 0), some (.int a), some (.int b), some (.int c), some (.int d), some (.int e)]) (st' := [.int e, .ref 0]) (M' := (g_X10_type (g_X10_type (g_X10_type (g_X10_type (zU M 0 0 0) ty a) (ty + 4) b) ((ty + 4) + 4) c) (((ty + 4) + 4) + 4) d)) (by decide +kernel) rfl ?_
    refine zT.cV_all (o := 0) (idx := 326) (av := [.int e]) (rv := none) (st := []) (S1 := []) (c_X10_type (g_X10_type (g_X10_type (g_X10_type (g_X10_type (zU M 0 0 0) ty a) (ty + 4) b) ((ty + 4) + 4) c) (((ty + 4) + 4) + 4) d) gp ((((ty + 4) + 4) + 4) + 4) e (e_X10_type (e_X10_type (e_X10_type (e_X10_type hty)))) (by have := zTyI hty h600 (by assumption); omega)) k_X10_type _ _ rfl rfl rfl (zIn (w := 7008) (by decide +kernel) rfl) (by decide +kernel) (by decide +kernel) rfl (Nat.le_of_ble_eq_true rfl) rfl ?_
    refine zT.eqM (M2 := (m_X10_append_1 M ty a b c d e)) rfl ?_
    refine zT.run [(.aload_n 0, 0, 0, 0), (.getfield 214, 8, 8, 5157)] (pe := 52) (ls' := [some (.ref 0), some (.int a), some (.int b), some (.int c), some (.int d), some (.int e)]) (st' := [.int ((m_X10_append_1 M ty a b c d e) 0 8)]) (M' := (m_X10_append_1 M ty a b c d e)) (by decide +kernel) rfl ?_
    exact zT.iret (ty := Jvm.ClassFile.FieldType.int) (by simp only [g_X10_append, if_pos c1]; try rfl) (by simp only [g_X10_append, if_pos c1]; try rfl) rfl rfl (by decide +kernel)
  · skip
    refine zT.run [(.bipush (-20), 0, 0, 0)] (pe := 20) (ls' := [some (.ref 0), some (.int a), some (.int b), some (.int c), some (.int d), some (.int e)]) (st' := [.int (-20)]) (M' := (zU M 0 0 0)) (by decide +kernel) rfl ?_
    exact zT.iret (ty := Jvm.ClassFile.FieldType.int) (by simp only [g_X10_append, if_neg c1]; try rfl) (by simp only [g_X10_append, if_neg c1]; try rfl) rfl rfl (by decide +kernel)
theorem k_X10_append : zCal yy_X10_append 5 := ⟨⟨⟨⟨zIn (w := 7007) (by decide +kernel) rfl, zIn (w := 1012) (by decide +kernel) rfl⟩, by decide +kernel⟩, by decide +kernel⟩, ⟨zIn (w := 7005) (by decide +kernel) rfl, zIn (w := 7006) (by decide +kernel) rfl⟩⟩
noncomputable abbrev yy_X10_truncate : zY := (yX10_truncate, cX10_truncate, 2, (some Jvm.ClassFile.FieldType.int), 1, 24)
noncomputable def g_X10_truncate (M : zM) (gq : Nat → Nat) (pc : Nat) (x : Int32) : Int32 × zM := (x, (zU (zU M 0 0 0) 0 8 x))
set_option maxRecDepth 100000 in
theorem c_X10_truncate (M : zM) (gq : Nat → Nat) (pc : Nat) (x : Int32) (hM : M 0 3 = nI pc) (hpc : pc ≤ 10) (hq : zPm gq) (hx1 : ¬ x < 0) (hx2 : x ≤ M 0 8) : zC yy_X10_truncate 0 0 [.ref 0, .int x] (sh_Model (zGp gq)) M (some (.int (g_X10_truncate M gq pc x).1)) (sh_Model (zGp gq)) (g_X10_truncate M gq pc x).2 := by
  refine zC.of (by decide +kernel) rfl (Nat.le_of_ble_eq_true rfl) ?_
  refine zT.run [(.aload_n 0, 0, 0, 0), (.iconst 0, 0, 0, 0), (.putfield 61, 8, 0, 5149), (.aload_n 0, 0, 0, 0), (.iload_n 1, 0, 0, 0), (.iconst 0, 0, 0, 0), (.aload_n 0, 0, 0, 0), (.getfield 214, 8, 8, 5157), (.iconst 1, 0, 0, 0)] (pe := 13) (ls' := [some (.ref 0), some (.int x)]) (st' := [.int 1, .int (M 0 8), .int 0, .int x, .ref 0]) (M' := (zU M 0 0 0)) (by decide +kernel) rfl ?_
  refine zT.cV_own (o := 0) (idx := 72) (av := [.int x, .int 0, .int (M 0 8), .int 1]) (rv := (some (.int 0))) (st := []) (S1 := [.int 0]) (c_X10_bad_ok (zU M 0 0 0) (zGp gq) x 0 (M 0 8) 1 hx1 hx2) k_X10_bad _ _ rfl rfl rfl (zIn (w := 5220) (by decide +kernel) rfl) (by decide +kernel) (by decide +kernel) rfl (Nat.le_of_ble_eq_true rfl) rfl ?_
  refine zT.zeq (tgt := 21) (off := 5) (by decide +kernel) (by decide) (fun _ => ?_) (fun c => absurd (by decide) c)
  refine zT.run [(.aload_n 0, 0, 0, 0), (.iload_n 1, 0, 0, 0), (.putfield 214, 8, 8, 5157), (.aload_n 0, 0, 0, 0), (.getfield 214, 8, 8, 5157)] (pe := 30) (ls' := [some (.ref 0), some (.int x)]) (st' := [.int x]) (M' := (zU (zU M 0 0 0) 0 8 x)) (by decide +kernel) rfl ?_
  exact zT.iret (ty := Jvm.ClassFile.FieldType.int) (by simp only [g_X10_truncate]; try rfl) (by simp only [g_X10_truncate]; try rfl) rfl rfl (by decide +kernel)
theorem k_X10_truncate : zCal yy_X10_truncate 1 := ⟨⟨⟨⟨zIn (w := 7015) (by decide +kernel) rfl, zIn (w := 1012) (by decide +kernel) rfl⟩, by decide +kernel⟩, by decide +kernel⟩, ⟨zIn (w := 7013) (by decide +kernel) rfl, zIn (w := 7014) (by decide +kernel) rfl⟩⟩
noncomputable abbrev yy_X10_greatestTerm : zY := (yX10_greatestTerm, cX10_greatestTerm, 3, (some Jvm.ClassFile.FieldType.int), 1, 22)
noncomputable def l_X10_greatestTerm_4 (M : zM) (n : Nat) (i1 : Nat) (s1 : Int32) : Int32 := (if (g_X10_of M i1 3) ≤ s1 then s1 else (g_X10_of M i1 3))
noncomputable def g_X10_greatestTerm (M : zM) (n : Nat) : Int32 := (zIt (l_X10_greatestTerm_4 M n) n 0)
set_option maxRecDepth 100000 in
theorem c_X10_greatestTerm (M : zM) (gp : Nat → Option Nat) (n : Nat) (hn : M 1 0 = nI n) (h9 : n ≤ 9) : zC yy_X10_greatestTerm 0 0 [.ref 0] (sh_Model gp) M (some (.int (g_X10_greatestTerm M n))) (sh_Model gp) M := by
  refine zC.of (by decide +kernel) rfl (Nat.le_of_ble_eq_true rfl) ?_
  refine zT.run [(.iconst 0, 0, 0, 0), (.istore_n 1, 0, 0, 0), (.iconst 0, 0, 0, 0), (.istore_n 2, 0, 0, 0)] (pe := 4) (ls' := [some (.ref 0), some (.int 0), some (.int 0)]) (st' := []) (M' := M) (by decide +kernel) rfl ?_
  refine zT.loop (l_X10_greatestTerm_4 M n) (fun (i : Nat) (s : Int32) => (4, [some (.ref 0), some (.int s), some (.int (nI i))], [], (sh_Model gp), M)) n 0 (fun i1 hi1 k1 => ?_) ?_
  · skip
    generalize hs1 : zIt (l_X10_greatestTerm_4 M n) i1 0 = s1 at k1 ⊢
    show zT _ _ _ _ (4, [some (.ref 0), some (.int s1), some (.int (nI i1))], [], (sh_Model gp), M)
    refine zT.run [(.iload_n 2, 0, 0, 0), (.aload_n 0, 0, 0, 0), (.getfield 9, 8, 1, 5150), (.iconst 0, 0, 0, 0)] (pe := 10) (ls' := [some (.ref 0), some (.int s1), some (.int (nI i1))]) (st' := [.int 0, .ref 1, .int (nI i1)]) (M' := M) (by decide +kernel) rfl ?_
    refine zT.iald (n := 187) (k := 0) rfl rfl (by decide) (by decide) (by decide +kernel) ?_
    refine zT.cge (tgt := 41) (off := 30) (by decide +kernel) (by decide) (fun c => absurd c (zGeN (n := n) hn (by omega) (by omega))) (fun _ => ?_)
    refine zT.run [(.aload_n 0, 0, 0, 0), (.iload_n 2, 0, 0, 0), (.iconst 3, 0, 0, 0)] (pe := 17) (ls' := [some (.ref 0), some (.int s1), some (.int (nI i1))]) (st' := [.int 3, .int (nI i1), .ref 0]) (M' := M) (by decide +kernel) rfl ?_
    refine zT.cV_own (o := 0) (idx := 80) (av := [.int (nI i1), .int (nI 3)]) (rv := (some (.int (g_X10_of M i1 3)))) (st := []) (S1 := [.int (g_X10_of M i1 3)]) (c_X10_of M gp i1 3 (by omega) (by decide)) k_X10_of _ _ rfl rfl rfl (zIn (w := 5108) (by decide +kernel) rfl) (by decide +kernel) (by decide +kernel) rfl (Nat.le_of_ble_eq_true rfl) rfl ?_
    refine zT.run [(.iload_n 1, 0, 0, 0)] (pe := 21) (ls' := [some (.ref 0), some (.int s1), some (.int (nI i1))]) (st' := [.int s1, .int (g_X10_of M i1 3)]) (M' := M) (by decide +kernel) rfl ?_
    refine zT.join (34, [some (.ref 0), some (.int s1), some (.int (nI i1))], [.int (if (g_X10_of M i1 3) ≤ s1 then s1 else (g_X10_of M i1 3))], (sh_Model gp), M) ?_ ?_
    · refine zT.cle (tgt := 33) (off := 12) (by decide +kernel) (by decide) (fun (c1 : (g_X10_of M i1 3) ≤ s1) => ?_) (fun (c1 : ¬ (g_X10_of M i1 3) ≤ s1) => ?_)
      · skip
        refine zT.run [(.iload_n 1, 0, 0, 0)] (pe := 34) (ls' := [some (.ref 0), some (.int s1), some (.int (nI i1))]) (st' := [.int s1]) (M' := M) (by decide +kernel) rfl ?_
        exact zT.here (by simp only [if_pos c1]; try rfl)
      · skip
        refine zT.run [(.aload_n 0, 0, 0, 0), (.iload_n 2, 0, 0, 0), (.iconst 3, 0, 0, 0)] (pe := 27) (ls' := [some (.ref 0), some (.int s1), some (.int (nI i1))]) (st' := [.int 3, .int (nI i1), .ref 0]) (M' := M) (by decide +kernel) rfl ?_
        refine zT.cV_own (o := 0) (idx := 80) (av := [.int (nI i1), .int (nI 3)]) (rv := (some (.int (g_X10_of M i1 3)))) (st := []) (S1 := [.int (g_X10_of M i1 3)]) (c_X10_of M gp i1 3 (by omega) (by decide)) k_X10_of _ _ rfl rfl rfl (zIn (w := 5108) (by decide +kernel) rfl) (by decide +kernel) (by decide +kernel) rfl (Nat.le_of_ble_eq_true rfl) rfl ?_
        refine zT.run [(.goto 4, 0, 0, 0)] (pe := 34) (ls' := [some (.ref 0), some (.int s1), some (.int (nI i1))]) (st' := [.int (g_X10_of M i1 3)]) (M' := M) (by decide +kernel) rfl ?_
        exact zT.here (by simp only [if_neg c1]; try rfl)
    · skip
      refine zT.run [(.istore_n 1, 0, 0, 0), (.iinc 2 1, 0, 0, 0), (.goto (-34), 0, 0, 0)] (pe := 4) (ls' := [some (.ref 0), some (.int (if (g_X10_of M i1 3) ≤ s1 then s1 else (g_X10_of M i1 3))), some (.int ((nI i1) + 1))]) (st' := []) (M' := M) (by decide +kernel) rfl ?_
      exact zT.eq (by simp only [l_X10_greatestTerm_4, nI_succ, zDl]; try rfl) k1
  · skip
    show zT _ _ _ _ (4, [some (.ref 0), some (.int (zIt (l_X10_greatestTerm_4 M n) n 0)), some (.int (nI n))], [], (sh_Model gp), M)
    refine zT.run [(.iload_n 2, 0, 0, 0), (.aload_n 0, 0, 0, 0), (.getfield 9, 8, 1, 5150), (.iconst 0, 0, 0, 0)] (pe := 10) (ls' := [some (.ref 0), some (.int (zIt (l_X10_greatestTerm_4 M n) n 0)), some (.int (nI n))]) (st' := [.int 0, .ref 1, .int (nI n)]) (M' := M) (by decide +kernel) rfl ?_
    refine zT.iald (n := 187) (k := 0) rfl rfl (by decide) (by decide) (by decide +kernel) ?_
    refine zT.cge (tgt := 41) (off := 30) (by decide +kernel) (by decide) (fun _ => ?_) (fun c => absurd (zGeY (n := n) hn) c)
    refine zT.run [(.iload_n 1, 0, 0, 0)] (pe := 42) (ls' := [some (.ref 0), some (.int (zIt (l_X10_greatestTerm_4 M n) n 0)), some (.int (nI n))]) (st' := [.int (zIt (l_X10_greatestTerm_4 M n) n 0)]) (M' := M) (by decide +kernel) rfl ?_
    exact zT.iret (ty := Jvm.ClassFile.FieldType.int) (by simp only [g_X10_greatestTerm]; try rfl) rfl rfl rfl (by decide +kernel)
theorem k_X10_greatestTerm : zCal yy_X10_greatestTerm 0 := ⟨⟨⟨⟨zIn (w := 7023) (by decide +kernel) rfl, zIn (w := 1012) (by decide +kernel) rfl⟩, by decide +kernel⟩, by decide +kernel⟩, ⟨zIn (w := 7022) (by decide +kernel) rfl, zIn (w := 76) (by decide +kernel) rfl⟩⟩
noncomputable abbrev yy_X10_cuts : zY := (yX10_cuts, cX10_cuts, 3, (some Jvm.ClassFile.FieldType.int), 1, 22)
noncomputable def l_X10_cuts_4 (M : zM) (n : Nat) (i1 : Nat) (s1 : Int32) : Int32 := (s1 + (g_X10_ones (g_X10_of M i1 5)))
noncomputable def g_X10_cuts (M : zM) (n : Nat) : Int32 := ((((M 1 0) * ((M 1 0) - 1)) - (zIt (l_X10_cuts_4 M n) n 0)) / 2)
set_option maxRecDepth 100000 in
theorem c_X10_cuts (M : zM) (gp : Nat → Option Nat) (n : Nat) (hn : M 1 0 = nI n) (h9 : n ≤ 9) : zC yy_X10_cuts 0 0 [.ref 0] (sh_Model gp) M (some (.int (g_X10_cuts M n))) (sh_Model gp) M := by
  refine zC.of (by decide +kernel) rfl (Nat.le_of_ble_eq_true rfl) ?_
  refine zT.run [(.iconst 0, 0, 0, 0), (.istore_n 1, 0, 0, 0), (.iconst 0, 0, 0, 0), (.istore_n 2, 0, 0, 0)] (pe := 4) (ls' := [some (.ref 0), some (.int 0), some (.int 0)]) (st' := []) (M' := M) (by decide +kernel) rfl ?_
  refine zT.loop (l_X10_cuts_4 M n) (fun (i : Nat) (s : Int32) => (4, [some (.ref 0), some (.int s), some (.int (nI i))], [], (sh_Model gp), M)) n 0 (fun i1 hi1 k1 => ?_) ?_
  · skip
    generalize hs1 : zIt (l_X10_cuts_4 M n) i1 0 = s1 at k1 ⊢
    show zT _ _ _ _ (4, [some (.ref 0), some (.int s1), some (.int (nI i1))], [], (sh_Model gp), M)
    refine zT.run [(.iload_n 2, 0, 0, 0), (.aload_n 0, 0, 0, 0), (.getfield 9, 8, 1, 5150), (.iconst 0, 0, 0, 0)] (pe := 10) (ls' := [some (.ref 0), some (.int s1), some (.int (nI i1))]) (st' := [.int 0, .ref 1, .int (nI i1)]) (M' := M) (by decide +kernel) rfl ?_
    refine zT.iald (n := 187) (k := 0) rfl rfl (by decide) (by decide) (by decide +kernel) ?_
    refine zT.cge (tgt := 32) (off := 21) (by decide +kernel) (by decide) (fun c => absurd c (zGeN (n := n) hn (by omega) (by omega))) (fun _ => ?_)
    refine zT.run [(.iload_n 1, 0, 0, 0), (.aload_n 0, 0, 0, 0), (.iload_n 2, 0, 0, 0), (.iconst 5, 0, 0, 0)] (pe := 18) (ls' := [some (.ref 0), some (.int s1), some (.int (nI i1))]) (st' := [.int 5, .int (nI i1), .ref 0, .int s1]) (M' := M) (by decide +kernel) rfl ?_
    refine zT.cV_own (o := 0) (idx := 80) (av := [.int (nI i1), .int (nI 5)]) (rv := (some (.int (g_X10_of M i1 5)))) (st := [.int s1]) (S1 := [.int (g_X10_of M i1 5), .int s1]) (c_X10_of M gp i1 5 (by omega) (by decide)) k_X10_of _ _ rfl rfl rfl (zIn (w := 5108) (by decide +kernel) rfl) (by decide +kernel) (by decide +kernel) rfl (Nat.le_of_ble_eq_true rfl) rfl ?_
    refine zT.cS_nil (idx := 83) (av := [.int (g_X10_of M i1 5)]) (rv := (some (.int (g_X10_ones (g_X10_of M i1 5))))) (st := [.int s1]) (S1 := [.int (g_X10_ones (g_X10_of M i1 5)), .int s1]) (c_X10_ones (g_X10_of M i1 5)) k_X10_ones rfl (zIn (w := 5232) (by decide +kernel) rfl) (by decide +kernel) (by decide +kernel) rfl (Nat.le_of_ble_eq_true rfl) rfl ?_
    refine zT.run [(.iadd, 0, 0, 0), (.istore_n 1, 0, 0, 0), (.iinc 2 1, 0, 0, 0), (.goto (-25), 0, 0, 0)] (pe := 4) (ls' := [some (.ref 0), some (.int (s1 + (g_X10_ones (g_X10_of M i1 5)))), some (.int ((nI i1) + 1))]) (st' := []) (M' := M) (by decide +kernel) rfl ?_
    exact zT.eq (by simp only [l_X10_cuts_4, nI_succ, zDl]; try rfl) k1
  · skip
    show zT _ _ _ _ (4, [some (.ref 0), some (.int (zIt (l_X10_cuts_4 M n) n 0)), some (.int (nI n))], [], (sh_Model gp), M)
    refine zT.run [(.iload_n 2, 0, 0, 0), (.aload_n 0, 0, 0, 0), (.getfield 9, 8, 1, 5150), (.iconst 0, 0, 0, 0)] (pe := 10) (ls' := [some (.ref 0), some (.int (zIt (l_X10_cuts_4 M n) n 0)), some (.int (nI n))]) (st' := [.int 0, .ref 1, .int (nI n)]) (M' := M) (by decide +kernel) rfl ?_
    refine zT.iald (n := 187) (k := 0) rfl rfl (by decide) (by decide) (by decide +kernel) ?_
    refine zT.cge (tgt := 32) (off := 21) (by decide +kernel) (by decide) (fun _ => ?_) (fun c => absurd (zGeY (n := n) hn) c)
    refine zT.run [(.aload_n 0, 0, 0, 0), (.getfield 9, 8, 1, 5150), (.iconst 0, 0, 0, 0)] (pe := 37) (ls' := [some (.ref 0), some (.int (zIt (l_X10_cuts_4 M n) n 0)), some (.int (nI n))]) (st' := [.int 0, .ref 1]) (M' := M) (by decide +kernel) rfl ?_
    refine zT.iald (n := 187) (k := 0) rfl rfl (by decide) (by decide) (by decide +kernel) ?_
    refine zT.run [(.aload_n 0, 0, 0, 0), (.getfield 9, 8, 1, 5150), (.iconst 0, 0, 0, 0)] (pe := 43) (ls' := [some (.ref 0), some (.int (zIt (l_X10_cuts_4 M n) n 0)), some (.int (nI n))]) (st' := [.int 0, .ref 1, .int (M 1 0)]) (M' := M) (by decide +kernel) rfl ?_
    refine zT.iald (n := 187) (k := 0) rfl rfl (by decide) (by decide) (by decide +kernel) ?_
    refine zT.run [(.iconst 1, 0, 0, 0), (.isub, 0, 0, 0), (.imul, 0, 0, 0), (.iload_n 1, 0, 0, 0), (.isub, 0, 0, 0), (.iconst 2, 0, 0, 0), (.idiv, 0, 0, 0)] (pe := 51) (ls' := [some (.ref 0), some (.int (zIt (l_X10_cuts_4 M n) n 0)), some (.int (nI n))]) (st' := [.int ((((M 1 0) * ((M 1 0) - 1)) - (zIt (l_X10_cuts_4 M n) n 0)) / 2)]) (M' := M) (by decide +kernel) rfl ?_
    exact zT.iret (ty := Jvm.ClassFile.FieldType.int) (by simp only [g_X10_cuts]; try rfl) rfl rfl rfl (by decide +kernel)
theorem k_X10_cuts : zCal yy_X10_cuts 0 := ⟨⟨⟨⟨zIn (w := 7027) (by decide +kernel) rfl, zIn (w := 1012) (by decide +kernel) rfl⟩, by decide +kernel⟩, by decide +kernel⟩, ⟨zIn (w := 7026) (by decide +kernel) rfl, zIn (w := 77) (by decide +kernel) rfl⟩⟩
noncomputable abbrev yy_X10_ofBallot : zY := (yX10_ofBallot, cX10_ofBallot, 2, (some Jvm.ClassFile.FieldType.int), 2, 45)
noncomputable def g_X10_ofBallot (M : zM) (n : Nat) (w : Int32) : Int32 := (if (M 1 4) = 0 then (if 10 ≤ w then 0 else (-1)) else (if w = 6 then (M 1 5) else (if w = 7 then (M 1 6) else (if w = 8 then (M 1 7) else (if w = 9 then (g_X10_need M) else (if w = 10 then (g_X10_votesOf M n 1) else (if w = 11 then (g_X10_votesOf M n 2) else (if w = 12 then (g_X10_votesOf M n 3) else (M 1 8)))))))))
set_option maxRecDepth 100000 in
theorem c_X10_ofBallot (M : zM) (gp : Nat → Option Nat) (n : Nat) (w : Int32) (hn : M 1 0 = nI n) (h9 : n ≤ 9) : zC yy_X10_ofBallot 0 0 [.ref 0, .int w] (sh_Model gp) M (some (.int (g_X10_ofBallot M n w))) (sh_Model gp) M := by
  refine zC.of (by decide +kernel) rfl (Nat.le_of_ble_eq_true rfl) ?_
  refine zT.run [(.aload_n 0, 0, 0, 0), (.getfield 9, 8, 1, 5150), (.iconst 4, 0, 0, 0)] (pe := 5) (ls' := [some (.ref 0), some (.int w)]) (st' := [.int 4, .ref 1]) (M' := M) (by decide +kernel) rfl ?_
  refine zT.iald (n := 187) (k := 4) rfl rfl (by decide) (by decide) (by decide +kernel) ?_
  refine zT.zne (tgt := 21) (off := 15) (by decide +kernel) (by decide) (fun (c1 : ¬ (M 1 4) = 0) => ?_) (fun (c1 : (M 1 4) = 0) => ?_)
  · skip
    refine zT.run [(.iload_n 1, 0, 0, 0)] (pe := 22) (ls' := [some (.ref 0), some (.int w)]) (st' := [.int w]) (M' := M) (by decide +kernel) rfl ?_
    by_cases c2 : w = 6
    · skip
      refine zT.tabEq (v := 6) c2 (tgt := 64) (off := 42) (dflt := 88) (lo := 6) (hi := 12) (offs := #[42, 49, 57, 65, 70, 76, 82]) (len := 42) (by decide +kernel) (by decide) (by decide) (by decide) (by decide) ?_
      refine zT.run [(.aload_n 0, 0, 0, 0), (.getfield 9, 8, 1, 5150), (.iconst 5, 0, 0, 0)] (pe := 69) (ls' := [some (.ref 0), some (.int w)]) (st' := [.int 5, .ref 1]) (M' := M) (by decide +kernel) rfl ?_
      refine zT.iald (n := 187) (k := 5) rfl rfl (by decide) (by decide) (by decide +kernel) ?_
      exact zT.iret (ty := Jvm.ClassFile.FieldType.int) (by simp only [g_X10_ofBallot, if_neg c1, if_pos c2]; try rfl) rfl rfl rfl (by decide +kernel)
    · skip
      by_cases c3 : w = 7
      · skip
        refine zT.tabEq (v := 7) c3 (tgt := 71) (off := 49) (dflt := 88) (lo := 6) (hi := 12) (offs := #[42, 49, 57, 65, 70, 76, 82]) (len := 42) (by decide +kernel) (by decide) (by decide) (by decide) (by decide) ?_
        refine zT.run [(.aload_n 0, 0, 0, 0), (.getfield 9, 8, 1, 5150), (.bipush 6, 0, 0, 0)] (pe := 77) (ls' := [some (.ref 0), some (.int w)]) (st' := [.int 6, .ref 1]) (M' := M) (by decide +kernel) rfl ?_
        refine zT.iald (n := 187) (k := 6) rfl rfl (by decide) (by decide) (by decide +kernel) ?_
        exact zT.iret (ty := Jvm.ClassFile.FieldType.int) (by simp only [g_X10_ofBallot, if_neg c1, if_neg c2, if_pos c3]; try rfl) rfl rfl rfl (by decide +kernel)
      · skip
        by_cases c4 : w = 8
        · skip
          refine zT.tabEq (v := 8) c4 (tgt := 79) (off := 57) (dflt := 88) (lo := 6) (hi := 12) (offs := #[42, 49, 57, 65, 70, 76, 82]) (len := 42) (by decide +kernel) (by decide) (by decide) (by decide) (by decide) ?_
          refine zT.run [(.aload_n 0, 0, 0, 0), (.getfield 9, 8, 1, 5150), (.bipush 7, 0, 0, 0)] (pe := 85) (ls' := [some (.ref 0), some (.int w)]) (st' := [.int 7, .ref 1]) (M' := M) (by decide +kernel) rfl ?_
          refine zT.iald (n := 187) (k := 7) rfl rfl (by decide) (by decide) (by decide +kernel) ?_
          exact zT.iret (ty := Jvm.ClassFile.FieldType.int) (by simp only [g_X10_ofBallot, if_neg c1, if_neg c2, if_neg c3, if_pos c4]; try rfl) rfl rfl rfl (by decide +kernel)
        · skip
          by_cases c5 : w = 9
          · skip
            refine zT.tabEq (v := 9) c5 (tgt := 87) (off := 65) (dflt := 88) (lo := 6) (hi := 12) (offs := #[42, 49, 57, 65, 70, 76, 82]) (len := 42) (by decide +kernel) (by decide) (by decide) (by decide) (by decide) ?_
            refine zT.run [(.aload_n 0, 0, 0, 0)] (pe := 88) (ls' := [some (.ref 0), some (.int w)]) (st' := [.ref 0]) (M' := M) (by decide +kernel) rfl ?_
            refine zT.cV_own (o := 0) (idx := 136) (av := []) (rv := (some (.int (g_X10_need M)))) (st := []) (S1 := [.int (g_X10_need M)]) (c_X10_need M gp) k_X10_need _ _ rfl rfl rfl (zIn (w := 6031) (by decide +kernel) rfl) (by decide +kernel) (by decide +kernel) rfl (Nat.le_of_ble_eq_true rfl) rfl ?_
            exact zT.iret (ty := Jvm.ClassFile.FieldType.int) (by simp only [g_X10_ofBallot, if_neg c1, if_neg c2, if_neg c3, if_neg c4, if_pos c5]; try rfl) rfl rfl rfl (by decide +kernel)
          · skip
            by_cases c6 : w = 10
            · skip
              refine zT.tabEq (v := 10) c6 (tgt := 92) (off := 70) (dflt := 88) (lo := 6) (hi := 12) (offs := #[42, 49, 57, 65, 70, 76, 82]) (len := 42) (by decide +kernel) (by decide) (by decide) (by decide) (by decide) ?_
              refine zT.run [(.aload_n 0, 0, 0, 0), (.iconst 1, 0, 0, 0)] (pe := 94) (ls' := [some (.ref 0), some (.int w)]) (st' := [.int 1, .ref 0]) (M' := M) (by decide +kernel) rfl ?_
              refine zT.cV_own (o := 0) (idx := 124) (av := [.int 1]) (rv := (some (.int (g_X10_votesOf M n 1)))) (st := []) (S1 := [.int (g_X10_votesOf M n 1)]) (c_X10_votesOf M gp n 1 hn h9) k_X10_votesOf _ _ rfl rfl rfl (zIn (w := 5141) (by decide +kernel) rfl) (by decide +kernel) (by decide +kernel) rfl (Nat.le_of_ble_eq_true rfl) rfl ?_
              exact zT.iret (ty := Jvm.ClassFile.FieldType.int) (by simp only [g_X10_ofBallot, if_neg c1, if_neg c2, if_neg c3, if_neg c4, if_neg c5, if_pos c6]; try rfl) rfl rfl rfl (by decide +kernel)
            · skip
              by_cases c7 : w = 11
              · skip
                refine zT.tabEq (v := 11) c7 (tgt := 98) (off := 76) (dflt := 88) (lo := 6) (hi := 12) (offs := #[42, 49, 57, 65, 70, 76, 82]) (len := 42) (by decide +kernel) (by decide) (by decide) (by decide) (by decide) ?_
                refine zT.run [(.aload_n 0, 0, 0, 0), (.iconst 2, 0, 0, 0)] (pe := 100) (ls' := [some (.ref 0), some (.int w)]) (st' := [.int 2, .ref 0]) (M' := M) (by decide +kernel) rfl ?_
                refine zT.cV_own (o := 0) (idx := 124) (av := [.int 2]) (rv := (some (.int (g_X10_votesOf M n 2)))) (st := []) (S1 := [.int (g_X10_votesOf M n 2)]) (c_X10_votesOf M gp n 2 hn h9) k_X10_votesOf _ _ rfl rfl rfl (zIn (w := 5141) (by decide +kernel) rfl) (by decide +kernel) (by decide +kernel) rfl (Nat.le_of_ble_eq_true rfl) rfl ?_
                exact zT.iret (ty := Jvm.ClassFile.FieldType.int) (by simp only [g_X10_ofBallot, if_neg c1, if_neg c2, if_neg c3, if_neg c4, if_neg c5, if_neg c6, if_pos c7]; try rfl) rfl rfl rfl (by decide +kernel)
              · skip
                by_cases c8 : w = 12
                · skip
                  refine zT.tabEq (v := 12) c8 (tgt := 104) (off := 82) (dflt := 88) (lo := 6) (hi := 12) (offs := #[42, 49, 57, 65, 70, 76, 82]) (len := 42) (by decide +kernel) (by decide) (by decide) (by decide) (by decide) ?_
                  refine zT.run [(.aload_n 0, 0, 0, 0), (.iconst 3, 0, 0, 0)] (pe := 106) (ls' := [some (.ref 0), some (.int w)]) (st' := [.int 3, .ref 0]) (M' := M) (by decide +kernel) rfl ?_
                  refine zT.cV_own (o := 0) (idx := 124) (av := [.int 3]) (rv := (some (.int (g_X10_votesOf M n 3)))) (st := []) (S1 := [.int (g_X10_votesOf M n 3)]) (c_X10_votesOf M gp n 3 hn h9) k_X10_votesOf _ _ rfl rfl rfl (zIn (w := 5141) (by decide +kernel) rfl) (by decide +kernel) (by decide +kernel) rfl (Nat.le_of_ble_eq_true rfl) rfl ?_
                  exact zT.iret (ty := Jvm.ClassFile.FieldType.int) (by simp only [g_X10_ofBallot, if_neg c1, if_neg c2, if_neg c3, if_neg c4, if_neg c5, if_neg c6, if_neg c7, if_pos c8]; try rfl) rfl rfl rfl (by decide +kernel)
                · skip
                  refine zT.tabDef (tgt := 110) (dflt := 88) (lo := 6) (hi := 12) (offs := #[42, 49, 57, 65, 70, 76, 82]) (len := 42) (by decide +kernel) (by intro k h1 h2; rcases (show k = 6 ∨ k = 7 ∨ k = 8 ∨ k = 9 ∨ k = 10 ∨ k = 11 ∨ k = 12 by omega) with rfl | rfl | rfl | rfl | rfl | rfl | rfl; exact Or.inr (zNe rfl c2); exact Or.inr (zNe rfl c3); exact Or.inr (zNe rfl c4); exact Or.inr (zNe rfl c5); exact Or.inr (zNe rfl c6); exact Or.inr (zNe rfl c7); exact Or.inr (zNe rfl c8)) (by decide) ?_
                  refine zT.run [(.aload_n 0, 0, 0, 0), (.getfield 9, 8, 1, 5150), (.bipush 8, 0, 0, 0)] (pe := 116) (ls' := [some (.ref 0), some (.int w)]) (st' := [.int 8, .ref 1]) (M' := M) (by decide +kernel) rfl ?_
                  refine zT.iald (n := 187) (k := 8) rfl rfl (by decide) (by decide) (by decide +kernel) ?_
                  exact zT.iret (ty := Jvm.ClassFile.FieldType.int) (by simp only [g_X10_ofBallot, if_neg c1, if_neg c2, if_neg c3, if_neg c4, if_neg c5, if_neg c6, if_neg c7, if_neg c8]; try rfl) rfl rfl rfl (by decide +kernel)
  · skip
    refine zT.run [(.iload_n 1, 0, 0, 0), (.bipush 10, 0, 0, 0)] (pe := 12) (ls' := [some (.ref 0), some (.int w)]) (st' := [.int 10, .int w]) (M' := M) (by decide +kernel) rfl ?_
    refine zT.cge (tgt := 19) (off := 7) (by decide +kernel) (by decide) (fun (c9 : 10 ≤ w) => ?_) (fun (c9 : ¬ 10 ≤ w) => ?_)
    · skip
      refine zT.run [(.iconst 0, 0, 0, 0)] (pe := 20) (ls' := [some (.ref 0), some (.int w)]) (st' := [.int 0]) (M' := M) (by decide +kernel) rfl ?_
      exact zT.iret (ty := Jvm.ClassFile.FieldType.int) (by simp only [g_X10_ofBallot, if_pos c1, if_pos c9]; try rfl) rfl rfl rfl (by decide +kernel)
    · skip
      refine zT.run [(.iconst (-1), 0, 0, 0), (.goto 4, 0, 0, 0)] (pe := 20) (ls' := [some (.ref 0), some (.int w)]) (st' := [.int (-1)]) (M' := M) (by decide +kernel) rfl ?_
      exact zT.iret (ty := Jvm.ClassFile.FieldType.int) (by simp only [g_X10_ofBallot, if_pos c1, if_neg c9]; try rfl) rfl rfl rfl (by decide +kernel)
theorem k_X10_ofBallot : zCal yy_X10_ofBallot 1 := ⟨⟨⟨⟨zIn (w := 7031) (by decide +kernel) rfl, zIn (w := 1012) (by decide +kernel) rfl⟩, by decide +kernel⟩, by decide +kernel⟩, ⟨zIn (w := 7030) (by decide +kernel) rfl, zIn (w := 78) (by decide +kernel) rfl⟩⟩
noncomputable abbrev yy_X10_office : zY := (yX10_office, cX10_office, 2, (some Jvm.ClassFile.FieldType.int), 3, 66)
noncomputable def g_X10_office (M : zM) (gq : Nat → Nat) (pc : Nat) (n : Nat) (w : Int32) : Int32 × zM := (if w = 0 then ((M 1 0), (zU M 0 0 0)) else (if w = 1 then ((g_X10_ups (zU M 0 0 0) n), (zU M 0 0 0)) else (if w = 2 then ((M 1 (w.toNatClampNeg - 1)), (zU M 0 0 0)) else (if w = 3 then ((M 1 (w.toNatClampNeg - 1)), (zU M 0 0 0)) else (if w = 4 then ((M 1 (w.toNatClampNeg - 1)), (zU M 0 0 0)) else (if w = 5 then ((M 1 4), (zU M 0 0 0)) else (if w = 14 then ((M 1 9), (zU M 0 0 0)) else (if w = 15 then ((g_X10_greatestTerm (zU M 0 0 0) n), (zU M 0 0 0)) else (if w = 16 then ((g_X10_cuts (zU M 0 0 0) n), (zU M 0 0 0)) else (if w = 17 then ((M 0 3), (zU M 0 0 0)) else (if w = 18 then ((M 0 8), (zU M 0 0 0)) else ((g_X10_ofBallot (zU M 0 0 0) n w), (zU M 0 0 0)))))))))))))
set_option maxRecDepth 100000 in
theorem c_X10_office (M : zM) (gq : Nat → Nat) (pc : Nat) (n : Nat) (w : Int32) (hM : M 0 3 = nI pc) (hpc : pc ≤ 10) (hq : zPm gq) (hn : M 1 0 = nI n) (h9 : n ≤ 9) (hx1 : ¬ w < 0) (hx2 : w ≤ 18) : zC yy_X10_office 0 0 [.ref 0, .int w] (sh_Model (zGp gq)) M (some (.int (g_X10_office M gq pc n w).1)) (sh_Model (zGp gq)) (g_X10_office M gq pc n w).2 := by
  refine zC.of (by decide +kernel) rfl (Nat.le_of_ble_eq_true rfl) ?_
  refine zT.run [(.aload_n 0, 0, 0, 0), (.iconst 0, 0, 0, 0), (.putfield 61, 8, 0, 5149), (.aload_n 0, 0, 0, 0), (.iload_n 1, 0, 0, 0), (.iconst 0, 0, 0, 0), (.bipush 18, 0, 0, 0), (.iconst 1, 0, 0, 0)] (pe := 11) (ls' := [some (.ref 0), some (.int w)]) (st' := [.int 1, .int 18, .int 0, .int w, .ref 0]) (M' := (zU M 0 0 0)) (by decide +kernel) rfl ?_
  refine zT.cV_own (o := 0) (idx := 72) (av := [.int w, .int 0, .int 18, .int 1]) (rv := (some (.int 0))) (st := []) (S1 := [.int 0]) (c_X10_bad_ok (zU M 0 0 0) (zGp gq) w 0 18 1 hx1 hx2) k_X10_bad _ _ rfl rfl rfl (zIn (w := 5220) (by decide +kernel) rfl) (by decide +kernel) (by decide +kernel) rfl (Nat.le_of_ble_eq_true rfl) rfl ?_
  refine zT.zeq (tgt := 19) (off := 5) (by decide +kernel) (by decide) (fun _ => ?_) (fun c => absurd (by decide) c)
  refine zT.run [(.iload_n 1, 0, 0, 0)] (pe := 20) (ls' := [some (.ref 0), some (.int w)]) (st' := [.int w]) (M' := (zU M 0 0 0)) (by decide +kernel) rfl ?_
  by_cases c1 : w = 0
  · skip
    refine zT.tabEq (v := 0) c1 (tgt := 112) (off := 92) (dflt := 150) (lo := 0) (hi := 18) (offs := #[92, 99, 104, 104, 104, 115, 150, 150, 150, 150, 150, 150, 150, 150, 122, 130, 135, 140, 145]) (len := 92) (by decide +kernel) (by decide) (by decide) (by decide) (by decide) ?_
    refine zT.run [(.aload_n 0, 0, 0, 0), (.getfield 9, 8, 1, 5150), (.iconst 0, 0, 0, 0)] (pe := 117) (ls' := [some (.ref 0), some (.int w)]) (st' := [.int 0, .ref 1]) (M' := (zU M 0 0 0)) (by decide +kernel) rfl ?_
    refine zT.iald (n := 187) (k := 0) rfl rfl (by decide) (by decide) (by decide +kernel) ?_
    exact zT.iret (ty := Jvm.ClassFile.FieldType.int) (by simp only [g_X10_office, if_pos c1]; try rfl) (by simp only [g_X10_office, if_pos c1]; try rfl) rfl rfl (by decide +kernel)
  · skip
    by_cases c2 : w = 1
    · skip
      refine zT.tabEq (v := 1) c2 (tgt := 119) (off := 99) (dflt := 150) (lo := 0) (hi := 18) (offs := #[92, 99, 104, 104, 104, 115, 150, 150, 150, 150, 150, 150, 150, 150, 122, 130, 135, 140, 145]) (len := 92) (by decide +kernel) (by decide) (by decide) (by decide) (by decide) ?_
      refine zT.run [(.aload_n 0, 0, 0, 0)] (pe := 120) (ls' := [some (.ref 0), some (.int w)]) (st' := [.ref 0]) (M' := (zU M 0 0 0)) (by decide +kernel) rfl ?_
      refine zT.cV_own (o := 0) (idx := 153) (av := []) (rv := (some (.int (g_X10_ups (zU M 0 0 0) n)))) (st := []) (S1 := [.int (g_X10_ups (zU M 0 0 0) n)]) (c_X10_ups (zU M 0 0 0) (zGp gq) n hn h9) k_X10_ups _ _ rfl rfl rfl (zIn (w := 6119) (by decide +kernel) rfl) (by decide +kernel) (by decide +kernel) rfl (Nat.le_of_ble_eq_true rfl) rfl ?_
      exact zT.iret (ty := Jvm.ClassFile.FieldType.int) (by simp only [g_X10_office, if_neg c1, if_pos c2]; try rfl) (by simp only [g_X10_office, if_neg c1, if_pos c2]; try rfl) rfl rfl (by decide +kernel)
    · skip
      by_cases c3 : w = 2
      · skip
        refine zT.tabEq (v := 2) c3 (tgt := 124) (off := 104) (dflt := 150) (lo := 0) (hi := 18) (offs := #[92, 99, 104, 104, 104, 115, 150, 150, 150, 150, 150, 150, 150, 150, 122, 130, 135, 140, 145]) (len := 92) (by decide +kernel) (by decide) (by decide) (by decide) (by decide) ?_
        refine zT.run [(.aload_n 0, 0, 0, 0), (.getfield 9, 8, 1, 5150), (.iconst 1, 0, 0, 0), (.iload_n 1, 0, 0, 0), (.iadd, 0, 0, 0), (.iconst 2, 0, 0, 0), (.isub, 0, 0, 0)] (pe := 133) (ls' := [some (.ref 0), some (.int w)]) (st' := [.int ((1 + w) - 2), .ref 1]) (M' := (zU M 0 0 0)) (by decide +kernel) rfl ?_
        refine zT.iald (n := 187) (k := (w.toNatClampNeg - 1)) rfl (z234 (by first | exact Or.inl (by assumption) | exact Or.inr (Or.inl (by assumption)) | exact Or.inr (Or.inr (by assumption)))).1 (z234 (by first | exact Or.inl (by assumption) | exact Or.inr (Or.inl (by assumption)) | exact Or.inr (Or.inr (by assumption)))).2 (by decide) (by decide +kernel) ?_
        exact zT.iret (ty := Jvm.ClassFile.FieldType.int) (by simp only [g_X10_office, if_neg c1, if_neg c2, if_pos c3]; try rfl) (by simp only [g_X10_office, if_neg c1, if_neg c2, if_pos c3]; try rfl) rfl rfl (by decide +kernel)
      · skip
        by_cases c4 : w = 3
        · skip
          refine zT.tabEq (v := 3) c4 (tgt := 124) (off := 104) (dflt := 150) (lo := 0) (hi := 18) (offs := #[92, 99, 104, 104, 104, 115, 150, 150, 150, 150, 150, 150, 150, 150, 122, 130, 135, 140, 145]) (len := 92) (by decide +kernel) (by decide) (by decide) (by decide) (by decide) ?_
          refine zT.run [(.aload_n 0, 0, 0, 0), (.getfield 9, 8, 1, 5150), (.iconst 1, 0, 0, 0), (.iload_n 1, 0, 0, 0), (.iadd, 0, 0, 0), (.iconst 2, 0, 0, 0), (.isub, 0, 0, 0)] (pe := 133) (ls' := [some (.ref 0), some (.int w)]) (st' := [.int ((1 + w) - 2), .ref 1]) (M' := (zU M 0 0 0)) (by decide +kernel) rfl ?_
          refine zT.iald (n := 187) (k := (w.toNatClampNeg - 1)) rfl (z234 (by first | exact Or.inl (by assumption) | exact Or.inr (Or.inl (by assumption)) | exact Or.inr (Or.inr (by assumption)))).1 (z234 (by first | exact Or.inl (by assumption) | exact Or.inr (Or.inl (by assumption)) | exact Or.inr (Or.inr (by assumption)))).2 (by decide) (by decide +kernel) ?_
          exact zT.iret (ty := Jvm.ClassFile.FieldType.int) (by simp only [g_X10_office, if_neg c1, if_neg c2, if_neg c3, if_pos c4]; try rfl) (by simp only [g_X10_office, if_neg c1, if_neg c2, if_neg c3, if_pos c4]; try rfl) rfl rfl (by decide +kernel)
        · skip
          by_cases c5 : w = 4
          · skip
            refine zT.tabEq (v := 4) c5 (tgt := 124) (off := 104) (dflt := 150) (lo := 0) (hi := 18) (offs := #[92, 99, 104, 104, 104, 115, 150, 150, 150, 150, 150, 150, 150, 150, 122, 130, 135, 140, 145]) (len := 92) (by decide +kernel) (by decide) (by decide) (by decide) (by decide) ?_
            refine zT.run [(.aload_n 0, 0, 0, 0), (.getfield 9, 8, 1, 5150), (.iconst 1, 0, 0, 0), (.iload_n 1, 0, 0, 0), (.iadd, 0, 0, 0), (.iconst 2, 0, 0, 0), (.isub, 0, 0, 0)] (pe := 133) (ls' := [some (.ref 0), some (.int w)]) (st' := [.int ((1 + w) - 2), .ref 1]) (M' := (zU M 0 0 0)) (by decide +kernel) rfl ?_
            refine zT.iald (n := 187) (k := (w.toNatClampNeg - 1)) rfl (z234 (by first | exact Or.inl (by assumption) | exact Or.inr (Or.inl (by assumption)) | exact Or.inr (Or.inr (by assumption)))).1 (z234 (by first | exact Or.inl (by assumption) | exact Or.inr (Or.inl (by assumption)) | exact Or.inr (Or.inr (by assumption)))).2 (by decide) (by decide +kernel) ?_
            exact zT.iret (ty := Jvm.ClassFile.FieldType.int) (by simp only [g_X10_office, if_neg c1, if_neg c2, if_neg c3, if_neg c4, if_pos c5]; try rfl) (by simp only [g_X10_office, if_neg c1, if_neg c2, if_neg c3, if_neg c4, if_pos c5]; try rfl) rfl rfl (by decide +kernel)
          · skip
            by_cases c6 : w = 5
            · skip
              refine zT.tabEq (v := 5) c6 (tgt := 135) (off := 115) (dflt := 150) (lo := 0) (hi := 18) (offs := #[92, 99, 104, 104, 104, 115, 150, 150, 150, 150, 150, 150, 150, 150, 122, 130, 135, 140, 145]) (len := 92) (by decide +kernel) (by decide) (by decide) (by decide) (by decide) ?_
              refine zT.run [(.aload_n 0, 0, 0, 0), (.getfield 9, 8, 1, 5150), (.iconst 4, 0, 0, 0)] (pe := 140) (ls' := [some (.ref 0), some (.int w)]) (st' := [.int 4, .ref 1]) (M' := (zU M 0 0 0)) (by decide +kernel) rfl ?_
              refine zT.iald (n := 187) (k := 4) rfl rfl (by decide) (by decide) (by decide +kernel) ?_
              exact zT.iret (ty := Jvm.ClassFile.FieldType.int) (by simp only [g_X10_office, if_neg c1, if_neg c2, if_neg c3, if_neg c4, if_neg c5, if_pos c6]; try rfl) (by simp only [g_X10_office, if_neg c1, if_neg c2, if_neg c3, if_neg c4, if_neg c5, if_pos c6]; try rfl) rfl rfl (by decide +kernel)
            · skip
              by_cases c7 : w = 14
              · skip
                refine zT.tabEq (v := 14) c7 (tgt := 142) (off := 122) (dflt := 150) (lo := 0) (hi := 18) (offs := #[92, 99, 104, 104, 104, 115, 150, 150, 150, 150, 150, 150, 150, 150, 122, 130, 135, 140, 145]) (len := 92) (by decide +kernel) (by decide) (by decide) (by decide) (by decide) ?_
                refine zT.run [(.aload_n 0, 0, 0, 0), (.getfield 9, 8, 1, 5150), (.bipush 9, 0, 0, 0)] (pe := 148) (ls' := [some (.ref 0), some (.int w)]) (st' := [.int 9, .ref 1]) (M' := (zU M 0 0 0)) (by decide +kernel) rfl ?_
                refine zT.iald (n := 187) (k := 9) rfl rfl (by decide) (by decide) (by decide +kernel) ?_
                exact zT.iret (ty := Jvm.ClassFile.FieldType.int) (by simp only [g_X10_office, if_neg c1, if_neg c2, if_neg c3, if_neg c4, if_neg c5, if_neg c6, if_pos c7]; try rfl) (by simp only [g_X10_office, if_neg c1, if_neg c2, if_neg c3, if_neg c4, if_neg c5, if_neg c6, if_pos c7]; try rfl) rfl rfl (by decide +kernel)
              · skip
                by_cases c8 : w = 15
                · skip
                  refine zT.tabEq (v := 15) c8 (tgt := 150) (off := 130) (dflt := 150) (lo := 0) (hi := 18) (offs := #[92, 99, 104, 104, 104, 115, 150, 150, 150, 150, 150, 150, 150, 150, 122, 130, 135, 140, 145]) (len := 92) (by decide +kernel) (by decide) (by decide) (by decide) (by decide) ?_
                  refine zT.run [(.aload_n 0, 0, 0, 0)] (pe := 151) (ls' := [some (.ref 0), some (.int w)]) (st' := [.ref 0]) (M' := (zU M 0 0 0)) (by decide +kernel) rfl ?_
                  refine zT.cV_own (o := 0) (idx := 329) (av := []) (rv := (some (.int (g_X10_greatestTerm (zU M 0 0 0) n)))) (st := []) (S1 := [.int (g_X10_greatestTerm (zU M 0 0 0) n)]) (c_X10_greatestTerm (zU M 0 0 0) (zGp gq) n hn h9) k_X10_greatestTerm _ _ rfl rfl rfl (zIn (w := 7020) (by decide +kernel) rfl) (by decide +kernel) (by decide +kernel) rfl (Nat.le_of_ble_eq_true rfl) rfl ?_
                  exact zT.iret (ty := Jvm.ClassFile.FieldType.int) (by simp only [g_X10_office, if_neg c1, if_neg c2, if_neg c3, if_neg c4, if_neg c5, if_neg c6, if_neg c7, if_pos c8]; try rfl) (by simp only [g_X10_office, if_neg c1, if_neg c2, if_neg c3, if_neg c4, if_neg c5, if_neg c6, if_neg c7, if_pos c8]; try rfl) rfl rfl (by decide +kernel)
                · skip
                  by_cases c9 : w = 16
                  · skip
                    refine zT.tabEq (v := 16) c9 (tgt := 155) (off := 135) (dflt := 150) (lo := 0) (hi := 18) (offs := #[92, 99, 104, 104, 104, 115, 150, 150, 150, 150, 150, 150, 150, 150, 122, 130, 135, 140, 145]) (len := 92) (by decide +kernel) (by decide) (by decide) (by decide) (by decide) ?_
                    refine zT.run [(.aload_n 0, 0, 0, 0)] (pe := 156) (ls' := [some (.ref 0), some (.int w)]) (st' := [.ref 0]) (M' := (zU M 0 0 0)) (by decide +kernel) rfl ?_
                    refine zT.cV_own (o := 0) (idx := 332) (av := []) (rv := (some (.int (g_X10_cuts (zU M 0 0 0) n)))) (st := []) (S1 := [.int (g_X10_cuts (zU M 0 0 0) n)]) (c_X10_cuts (zU M 0 0 0) (zGp gq) n hn h9) k_X10_cuts _ _ rfl rfl rfl (zIn (w := 7024) (by decide +kernel) rfl) (by decide +kernel) (by decide +kernel) rfl (Nat.le_of_ble_eq_true rfl) rfl ?_
                    exact zT.iret (ty := Jvm.ClassFile.FieldType.int) (by simp only [g_X10_office, if_neg c1, if_neg c2, if_neg c3, if_neg c4, if_neg c5, if_neg c6, if_neg c7, if_neg c8, if_pos c9]; try rfl) (by simp only [g_X10_office, if_neg c1, if_neg c2, if_neg c3, if_neg c4, if_neg c5, if_neg c6, if_neg c7, if_neg c8, if_pos c9]; try rfl) rfl rfl (by decide +kernel)
                  · skip
                    by_cases c10 : w = 17
                    · skip
                      refine zT.tabEq (v := 17) c10 (tgt := 160) (off := 140) (dflt := 150) (lo := 0) (hi := 18) (offs := #[92, 99, 104, 104, 104, 115, 150, 150, 150, 150, 150, 150, 150, 150, 122, 130, 135, 140, 145]) (len := 92) (by decide +kernel) (by decide) (by decide) (by decide) (by decide) ?_
                      refine zT.run [(.aload_n 0, 0, 0, 0), (.getfield 65, 8, 3, 5152)] (pe := 164) (ls' := [some (.ref 0), some (.int w)]) (st' := [.int (M 0 3)]) (M' := (zU M 0 0 0)) (by decide +kernel) rfl ?_
                      exact zT.iret (ty := Jvm.ClassFile.FieldType.int) (by simp only [g_X10_office, if_neg c1, if_neg c2, if_neg c3, if_neg c4, if_neg c5, if_neg c6, if_neg c7, if_neg c8, if_neg c9, if_pos c10]; try rfl) (by simp only [g_X10_office, if_neg c1, if_neg c2, if_neg c3, if_neg c4, if_neg c5, if_neg c6, if_neg c7, if_neg c8, if_neg c9, if_pos c10]; try rfl) rfl rfl (by decide +kernel)
                    · skip
                      by_cases c11 : w = 18
                      · skip
                        refine zT.tabEq (v := 18) c11 (tgt := 165) (off := 145) (dflt := 150) (lo := 0) (hi := 18) (offs := #[92, 99, 104, 104, 104, 115, 150, 150, 150, 150, 150, 150, 150, 150, 122, 130, 135, 140, 145]) (len := 92) (by decide +kernel) (by decide) (by decide) (by decide) (by decide) ?_
                        refine zT.run [(.aload_n 0, 0, 0, 0), (.getfield 214, 8, 8, 5157)] (pe := 169) (ls' := [some (.ref 0), some (.int w)]) (st' := [.int (M 0 8)]) (M' := (zU M 0 0 0)) (by decide +kernel) rfl ?_
                        exact zT.iret (ty := Jvm.ClassFile.FieldType.int) (by simp only [g_X10_office, if_neg c1, if_neg c2, if_neg c3, if_neg c4, if_neg c5, if_neg c6, if_neg c7, if_neg c8, if_neg c9, if_neg c10, if_pos c11]; try rfl) (by simp only [g_X10_office, if_neg c1, if_neg c2, if_neg c3, if_neg c4, if_neg c5, if_neg c6, if_neg c7, if_neg c8, if_neg c9, if_neg c10, if_pos c11]; try rfl) rfl rfl (by decide +kernel)
                      · skip
                        refine zT.tabDef (tgt := 170) (dflt := 150) (lo := 0) (hi := 18) (offs := #[92, 99, 104, 104, 104, 115, 150, 150, 150, 150, 150, 150, 150, 150, 122, 130, 135, 140, 145]) (len := 92) (by decide +kernel) (by intro k h1 h2; rcases (show k = 0 ∨ k = 1 ∨ k = 2 ∨ k = 3 ∨ k = 4 ∨ k = 5 ∨ k = 6 ∨ k = 7 ∨ k = 8 ∨ k = 9 ∨ k = 10 ∨ k = 11 ∨ k = 12 ∨ k = 13 ∨ k = 14 ∨ k = 15 ∨ k = 16 ∨ k = 17 ∨ k = 18 by omega) with rfl | rfl | rfl | rfl | rfl | rfl | rfl | rfl | rfl | rfl | rfl | rfl | rfl | rfl | rfl | rfl | rfl | rfl | rfl; exact Or.inr (zNe rfl c1); exact Or.inr (zNe rfl c2); exact Or.inr (zNe rfl c3); exact Or.inr (zNe rfl c4); exact Or.inr (zNe rfl c5); exact Or.inr (zNe rfl c6); exact Or.inl rfl; exact Or.inl rfl; exact Or.inl rfl; exact Or.inl rfl; exact Or.inl rfl; exact Or.inl rfl; exact Or.inl rfl; exact Or.inl rfl; exact Or.inr (zNe rfl c7); exact Or.inr (zNe rfl c8); exact Or.inr (zNe rfl c9); exact Or.inr (zNe rfl c10); exact Or.inr (zNe rfl c11)) (by decide) ?_
                        refine zT.run [(.aload_n 0, 0, 0, 0), (.iload_n 1, 0, 0, 0)] (pe := 172) (ls' := [some (.ref 0), some (.int w)]) (st' := [.int w, .ref 0]) (M' := (zU M 0 0 0)) (by decide +kernel) rfl ?_
                        refine zT.cV_own (o := 0) (idx := 335) (av := [.int w]) (rv := (some (.int (g_X10_ofBallot (zU M 0 0 0) n w)))) (st := []) (S1 := [.int (g_X10_ofBallot (zU M 0 0 0) n w)]) (c_X10_ofBallot (zU M 0 0 0) (zGp gq) n w hn h9) k_X10_ofBallot _ _ rfl rfl rfl (zIn (w := 7028) (by decide +kernel) rfl) (by decide +kernel) (by decide +kernel) rfl (Nat.le_of_ble_eq_true rfl) rfl ?_
                        exact zT.iret (ty := Jvm.ClassFile.FieldType.int) (by simp only [g_X10_office, if_neg c1, if_neg c2, if_neg c3, if_neg c4, if_neg c5, if_neg c6, if_neg c7, if_neg c8, if_neg c9, if_neg c10, if_neg c11]; try rfl) (by simp only [g_X10_office, if_neg c1, if_neg c2, if_neg c3, if_neg c4, if_neg c5, if_neg c6, if_neg c7, if_neg c8, if_neg c9, if_neg c10, if_neg c11]; try rfl) rfl rfl (by decide +kernel)
theorem k_X10_office : zCal yy_X10_office 1 := ⟨⟨⟨⟨zIn (w := 7019) (by decide +kernel) rfl, zIn (w := 1012) (by decide +kernel) rfl⟩, by decide +kernel⟩, by decide +kernel⟩, ⟨zIn (w := 7017) (by decide +kernel) rfl, zIn (w := 7018) (by decide +kernel) rfl⟩⟩
noncomputable abbrev yy_X10_isLinked : zY := (yX10_isLinked, cX10_isLinked, 3, (some Jvm.ClassFile.FieldType.boolean), 2, 45)
noncomputable def g_X10_isLinked (M : zM) (gq : Nat → Nat) (pc : Nat) (n : Nat) (r : Nat) (b : Nat) : Int32 × zM := (if (g_X10_areLinked (zU M 0 0 0) r (nI b)) = 0 then (0, (zU M 0 0 0)) else (1, (zU M 0 0 0)))
set_option maxRecDepth 100000 in
theorem c_X10_isLinked (M : zM) (gq : Nat → Nat) (pc : Nat) (n : Nat) (r : Nat) (b : Nat) (hM : M 0 3 = nI pc) (hpc : pc ≤ 10) (hq : zPm gq) (hn : M 1 0 = nI n) (h9 : n ≤ 9) (h_r : r < n) (h_b : b < n) : zC yy_X10_isLinked 0 0 [.ref 0, .int (nI r), .int (nI b)] (sh_Model (zGp gq)) M (some (.int (g_X10_isLinked M gq pc n r b).1)) (sh_Model (zGp gq)) (g_X10_isLinked M gq pc n r b).2 := by
  refine zC.of (by decide +kernel) rfl (Nat.le_of_ble_eq_true rfl) ?_
  refine zT.run [(.aload_n 0, 0, 0, 0), (.iconst 0, 0, 0, 0), (.putfield 61, 8, 0, 5149), (.aload_n 0, 0, 0, 0), (.iload_n 1, 0, 0, 0)] (pe := 7) (ls' := [some (.ref 0), some (.int (nI r)), some (.int (nI b))]) (st' := [.int (nI r), .ref 0]) (M' := (zU M 0 0 0)) (by decide +kernel) rfl ?_
  refine zT.cV_own (o := 0) (idx := 160) (av := [.int (nI r)]) (rv := (some (.int 0))) (st := []) (S1 := [.int 0]) (c_X10_noReplica_ok (zU M 0 0 0) (zGp gq) n r hn h9 h_r) k_X10_noReplica _ _ rfl rfl rfl (zIn (w := 5216) (by decide +kernel) rfl) (by decide +kernel) (by decide +kernel) rfl (Nat.le_of_ble_eq_true rfl) rfl ?_
  refine zT.zne (tgt := 34) (off := 24) (by decide +kernel) (by decide) (fun c => absurd (by decide) c) (fun _ => ?_)
  refine zT.run [(.aload_n 0, 0, 0, 0), (.iload_n 2, 0, 0, 0)] (pe := 15) (ls' := [some (.ref 0), some (.int (nI r)), some (.int (nI b))]) (st' := [.int (nI b), .ref 0]) (M' := (zU M 0 0 0)) (by decide +kernel) rfl ?_
  refine zT.cV_own (o := 0) (idx := 160) (av := [.int (nI b)]) (rv := (some (.int 0))) (st := []) (S1 := [.int 0]) (c_X10_noReplica_ok (zU M 0 0 0) (zGp gq) n b hn h9 h_b) k_X10_noReplica _ _ rfl rfl rfl (zIn (w := 5216) (by decide +kernel) rfl) (by decide +kernel) (by decide +kernel) rfl (Nat.le_of_ble_eq_true rfl) rfl ?_
  refine zT.zne (tgt := 34) (off := 16) (by decide +kernel) (by decide) (fun c => absurd (by decide) c) (fun _ => ?_)
  refine zT.run [(.aload_n 0, 0, 0, 0), (.iload_n 1, 0, 0, 0), (.iload_n 2, 0, 0, 0)] (pe := 24) (ls' := [some (.ref 0), some (.int (nI r)), some (.int (nI b))]) (st' := [.int (nI b), .int (nI r), .ref 0]) (M' := (zU M 0 0 0)) (by decide +kernel) rfl ?_
  refine zT.cV_own (o := 0) (idx := 90) (av := [.int (nI r), .int (nI b)]) (rv := (some (.int (g_X10_areLinked (zU M 0 0 0) r (nI b))))) (st := []) (S1 := [.int (g_X10_areLinked (zU M 0 0 0) r (nI b))]) (c_X10_areLinked (zU M 0 0 0) (zGp gq) r (nI b) (by omega)) k_X10_areLinked _ _ rfl rfl rfl (zIn (w := 5124) (by decide +kernel) rfl) (by decide +kernel) (by decide +kernel) rfl (Nat.le_of_ble_eq_true rfl) rfl ?_
  refine zT.zeq (tgt := 34) (off := 7) (by decide +kernel) (by decide) (fun (c1 : (g_X10_areLinked (zU M 0 0 0) r (nI b)) = 0) => ?_) (fun (c1 : ¬ (g_X10_areLinked (zU M 0 0 0) r (nI b)) = 0) => ?_)
  · skip
    refine zT.run [(.iconst 0, 0, 0, 0)] (pe := 35) (ls' := [some (.ref 0), some (.int (nI r)), some (.int (nI b))]) (st' := [.int 0]) (M' := (zU M 0 0 0)) (by decide +kernel) rfl ?_
    exact zT.iret (ty := Jvm.ClassFile.FieldType.boolean) (by simp only [g_X10_isLinked, if_pos c1]; try rfl) (by simp only [g_X10_isLinked, if_pos c1]; try rfl) rfl rfl (by decide +kernel)
  · skip
    refine zT.run [(.iconst 1, 0, 0, 0), (.goto 4, 0, 0, 0)] (pe := 35) (ls' := [some (.ref 0), some (.int (nI r)), some (.int (nI b))]) (st' := [.int 1]) (M' := (zU M 0 0 0)) (by decide +kernel) rfl ?_
    exact zT.iret (ty := Jvm.ClassFile.FieldType.boolean) (by simp only [g_X10_isLinked, if_neg c1]; try rfl) (by simp only [g_X10_isLinked, if_neg c1]; try rfl) rfl rfl (by decide +kernel)
theorem k_X10_isLinked : zCal yy_X10_isLinked 2 := ⟨⟨⟨⟨zIn (w := 7039) (by decide +kernel) rfl, zIn (w := 1012) (by decide +kernel) rfl⟩, by decide +kernel⟩, by decide +kernel⟩, ⟨zIn (w := 7037) (by decide +kernel) rfl, zIn (w := 7038) (by decide +kernel) rfl⟩⟩
noncomputable abbrev yy_X10_wouldSpoil : zY := (yX10_wouldSpoil, cX10_wouldSpoil, 3, (some Jvm.ClassFile.FieldType.int), 3, 65)
noncomputable def g_X10_wouldSpoil (M : zM) (gq : Nat → Nat) (pc : Nat) (n : Nat) (r : Nat) (cd : Nat) : Int32 × zM := (if (g_X10_isOnRoll (zU M 0 0 0) (nI r)) = 0 then ((-1), (zU M 0 0 0)) else ((g_X10_spoiling (zU M 0 0 0) r cd), (zU M 0 0 0)))
set_option maxRecDepth 100000 in
theorem c_X10_wouldSpoil (M : zM) (gq : Nat → Nat) (pc : Nat) (n : Nat) (r : Nat) (cd : Nat) (hM : M 0 3 = nI pc) (hpc : pc ≤ 10) (hq : zPm gq) (hn : M 1 0 = nI n) (h9 : n ≤ 9) (h_r : r < n) (h_cd : cd < n) : zC yy_X10_wouldSpoil 0 0 [.ref 0, .int (nI r), .int (nI cd)] (sh_Model (zGp gq)) M (some (.int (g_X10_wouldSpoil M gq pc n r cd).1)) (sh_Model (zGp gq)) (g_X10_wouldSpoil M gq pc n r cd).2 := by
  refine zC.of (by decide +kernel) rfl (Nat.le_of_ble_eq_true rfl) ?_
  refine zT.run [(.aload_n 0, 0, 0, 0), (.iconst 0, 0, 0, 0), (.putfield 61, 8, 0, 5149), (.aload_n 0, 0, 0, 0), (.iload_n 1, 0, 0, 0)] (pe := 7) (ls' := [some (.ref 0), some (.int (nI r)), some (.int (nI cd))]) (st' := [.int (nI r), .ref 0]) (M' := (zU M 0 0 0)) (by decide +kernel) rfl ?_
  refine zT.cV_own (o := 0) (idx := 160) (av := [.int (nI r)]) (rv := (some (.int 0))) (st := []) (S1 := [.int 0]) (c_X10_noReplica_ok (zU M 0 0 0) (zGp gq) n r hn h9 h_r) k_X10_noReplica _ _ rfl rfl rfl (zIn (w := 5216) (by decide +kernel) rfl) (by decide +kernel) (by decide +kernel) rfl (Nat.le_of_ble_eq_true rfl) rfl ?_
  refine zT.zne (tgt := 21) (off := 11) (by decide +kernel) (by decide) (fun c => absurd (by decide) c) (fun _ => ?_)
  refine zT.run [(.aload_n 0, 0, 0, 0), (.iload_n 2, 0, 0, 0)] (pe := 15) (ls' := [some (.ref 0), some (.int (nI r)), some (.int (nI cd))]) (st' := [.int (nI cd), .ref 0]) (M' := (zU M 0 0 0)) (by decide +kernel) rfl ?_
  refine zT.cV_own (o := 0) (idx := 160) (av := [.int (nI cd)]) (rv := (some (.int 0))) (st := []) (S1 := [.int 0]) (c_X10_noReplica_ok (zU M 0 0 0) (zGp gq) n cd hn h9 h_cd) k_X10_noReplica _ _ rfl rfl rfl (zIn (w := 5216) (by decide +kernel) rfl) (by decide +kernel) (by decide +kernel) rfl (Nat.le_of_ble_eq_true rfl) rfl ?_
  refine zT.zeq (tgt := 23) (off := 5) (by decide +kernel) (by decide) (fun _ => ?_) (fun c => absurd (by decide) c)
  refine zT.run [(.aload_n 0, 0, 0, 0), (.iload_n 1, 0, 0, 0)] (pe := 25) (ls' := [some (.ref 0), some (.int (nI r)), some (.int (nI cd))]) (st' := [.int (nI r), .ref 0]) (M' := (zU M 0 0 0)) (by decide +kernel) rfl ?_
  refine zT.cV_own (o := 0) (idx := 106) (av := [.int (nI r)]) (rv := (some (.int (g_X10_isOnRoll (zU M 0 0 0) (nI r))))) (st := []) (S1 := [.int (g_X10_isOnRoll (zU M 0 0 0) (nI r))]) (c_X10_isOnRoll (zU M 0 0 0) (zGp gq) (nI r)) k_X10_isOnRoll _ _ rfl rfl rfl (zIn (w := 5145) (by decide +kernel) rfl) (by decide +kernel) (by decide +kernel) rfl (Nat.le_of_ble_eq_true rfl) rfl ?_
  refine zT.zeq (tgt := 40) (off := 12) (by decide +kernel) (by decide) (fun (c1 : (g_X10_isOnRoll (zU M 0 0 0) (nI r)) = 0) => ?_) (fun (c1 : ¬ (g_X10_isOnRoll (zU M 0 0 0) (nI r)) = 0) => ?_)
  · skip
    refine zT.run [(.iconst (-1), 0, 0, 0)] (pe := 41) (ls' := [some (.ref 0), some (.int (nI r)), some (.int (nI cd))]) (st' := [.int (-1)]) (M' := (zU M 0 0 0)) (by decide +kernel) rfl ?_
    exact zT.iret (ty := Jvm.ClassFile.FieldType.int) (by simp only [g_X10_wouldSpoil, if_pos c1]; try rfl) (by simp only [g_X10_wouldSpoil, if_pos c1]; try rfl) rfl rfl (by decide +kernel)
  · skip
    refine zT.run [(.aload_n 0, 0, 0, 0), (.iload_n 1, 0, 0, 0), (.iload_n 2, 0, 0, 0)] (pe := 34) (ls' := [some (.ref 0), some (.int (nI r)), some (.int (nI cd))]) (st' := [.int (nI cd), .int (nI r), .ref 0]) (M' := (zU M 0 0 0)) (by decide +kernel) rfl ?_
    refine zT.cV_own (o := 0) (idx := 140) (av := [.int (nI r), .int (nI cd)]) (rv := (some (.int (g_X10_spoiling (zU M 0 0 0) r cd)))) (st := []) (S1 := [.int (g_X10_spoiling (zU M 0 0 0) r cd)]) (c_X10_spoiling (zU M 0 0 0) (zGp gq) r cd (by omega) (by omega)) k_X10_spoiling _ _ rfl rfl rfl (zIn (w := 6051) (by decide +kernel) rfl) (by decide +kernel) (by decide +kernel) rfl (Nat.le_of_ble_eq_true rfl) rfl ?_
    refine zT.run [(.goto 4, 0, 0, 0)] (pe := 41) (ls' := [some (.ref 0), some (.int (nI r)), some (.int (nI cd))]) (st' := [.int (g_X10_spoiling (zU M 0 0 0) r cd)]) (M' := (zU M 0 0 0)) (by decide +kernel) rfl ?_
    exact zT.iret (ty := Jvm.ClassFile.FieldType.int) (by simp only [g_X10_wouldSpoil, if_neg c1]; try rfl) (by simp only [g_X10_wouldSpoil, if_neg c1]; try rfl) rfl rfl (by decide +kernel)
theorem k_X10_wouldSpoil : zCal yy_X10_wouldSpoil 2 := ⟨⟨⟨⟨zIn (w := 7063) (by decide +kernel) rfl, zIn (w := 1012) (by decide +kernel) rfl⟩, by decide +kernel⟩, by decide +kernel⟩, ⟨zIn (w := 7061) (by decide +kernel) rfl, zIn (w := 7062) (by decide +kernel) rfl⟩⟩
noncomputable abbrev yy_X10_ahead : zY := (yX10_ahead, cX10_ahead, 1, (some Jvm.ClassFile.FieldType.int), 4, 88)
noncomputable def g_X10_ahead (M : zM) (gq : Nat → Nat) (pc : Nat) (n : Nat) : Int32 × zM := (if 2 ≤ (M 1 4) then ((g_X10_chosenNow (zU M 0 0 0) n).1, (g_X10_chosenNow (zU M 0 0 0) n).2) else ((-1), (zU M 0 0 0)))
set_option maxRecDepth 100000 in
theorem c_X10_ahead (M : zM) (gq : Nat → Nat) (pc : Nat) (n : Nat) (hM : M 0 3 = nI pc) (hpc : pc ≤ 10) (hq : zPm gq) (hn : M 1 0 = nI n) (h9 : n ≤ 9) (hv : zHv M) : zC yy_X10_ahead 0 0 [.ref 0] (sh_Model (zGp gq)) M (some (.int (g_X10_ahead M gq pc n).1)) (sh_Model (zGp gq)) (g_X10_ahead M gq pc n).2 := by
  refine zC.of (by decide +kernel) rfl (Nat.le_of_ble_eq_true rfl) ?_
  refine zT.run [(.aload_n 0, 0, 0, 0), (.iconst 0, 0, 0, 0), (.putfield 61, 8, 0, 5149), (.aload_n 0, 0, 0, 0), (.getfield 9, 8, 1, 5150), (.iconst 4, 0, 0, 0)] (pe := 10) (ls' := [some (.ref 0)]) (st' := [.int 4, .ref 1]) (M' := (zU M 0 0 0)) (by decide +kernel) rfl ?_
  refine zT.iald (n := 187) (k := 4) rfl rfl (by decide) (by decide) (by decide +kernel) ?_
  refine zT.run [(.iconst 2, 0, 0, 0)] (pe := 12) (ls' := [some (.ref 0)]) (st' := [.int 2, .int (M 1 4)]) (M' := (zU M 0 0 0)) (by decide +kernel) rfl ?_
  refine zT.cge (tgt := 19) (off := 7) (by decide +kernel) (by decide) (fun (c1 : 2 ≤ (M 1 4)) => ?_) (fun (c1 : ¬ 2 ≤ (M 1 4)) => ?_)
  · skip
    refine zT.run [(.aload_n 0, 0, 0, 0)] (pe := 20) (ls' := [some (.ref 0)]) (st' := [.ref 0]) (M' := (zU M 0 0 0)) (by decide +kernel) rfl ?_
    refine zT.cV_all (o := 0) (idx := 143) (av := []) (rv := (some (.int (g_X10_chosenNow (zU M 0 0 0) n).1))) (st := []) (S1 := [.int (g_X10_chosenNow (zU M 0 0 0) n).1]) (c_X10_chosenNow (zU M 0 0 0) (zGp gq) n hn h9 hv) k_X10_chosenNow _ _ rfl rfl rfl (zIn (w := 6067) (by decide +kernel) rfl) (by decide +kernel) (by decide +kernel) rfl (Nat.le_of_ble_eq_true rfl) rfl ?_
    exact zT.iret (ty := Jvm.ClassFile.FieldType.int) (by simp only [g_X10_ahead, if_pos c1]; try rfl) (by simp only [g_X10_ahead, if_pos c1]; try rfl) rfl rfl (by decide +kernel)
  · skip
    refine zT.run [(.iconst (-1), 0, 0, 0), (.goto 7, 0, 0, 0)] (pe := 23) (ls' := [some (.ref 0)]) (st' := [.int (-1)]) (M' := (zU M 0 0 0)) (by decide +kernel) rfl ?_
    exact zT.iret (ty := Jvm.ClassFile.FieldType.int) (by simp only [g_X10_ahead, if_neg c1]; try rfl) (by simp only [g_X10_ahead, if_neg c1]; try rfl) rfl rfl (by decide +kernel)
theorem k_X10_ahead : zCal yy_X10_ahead 0 := ⟨⟨⟨⟨zIn (w := 7051) (by decide +kernel) rfl, zIn (w := 1012) (by decide +kernel) rfl⟩, by decide +kernel⟩, by decide +kernel⟩, ⟨zIn (w := 7049) (by decide +kernel) rfl, zIn (w := 7050) (by decide +kernel) rfl⟩⟩
noncomputable abbrev yy_X10_aheadIf : zY := (yX10_aheadIf, cX10_aheadIf, 3, (some Jvm.ClassFile.FieldType.int), 3, 68)
noncomputable def g_X10_aheadIf (M : zM) (gq : Nat → Nat) (pc : Nat) (n : Nat) (le : Int32) (ti : Int32) : Int32 × zM := (if 2 ≤ ((g_X10_findVotes (zU M 0 0 0) n) 1 4) then ((g_X10_chosenBy (g_X10_findVotes (zU M 0 0 0) n) n le ti).1, (g_X10_chosenBy (g_X10_findVotes (zU M 0 0 0) n) n le ti).2) else ((-1), (g_X10_findVotes (zU M 0 0 0) n)))
set_option maxRecDepth 100000 in
theorem c_X10_aheadIf (M : zM) (gq : Nat → Nat) (pc : Nat) (n : Nat) (le : Int32) (ti : Int32) (hM : M 0 3 = nI pc) (hpc : pc ≤ 10) (hq : zPm gq) (hn : M 1 0 = nI n) (h9 : n ≤ 9) (hv : zHv M) (hx1 : ¬ le < 1) (hx2 : le ≤ 9) (hx3 : ¬ ti < 0) (hx4 : ti ≤ 1) : zC yy_X10_aheadIf 0 0 [.ref 0, .int le, .int ti] (sh_Model (zGp gq)) M (some (.int (g_X10_aheadIf M gq pc n le ti).1)) (sh_Model (zGp gq)) (g_X10_aheadIf M gq pc n le ti).2 := by
  refine zC.of (by decide +kernel) rfl (Nat.le_of_ble_eq_true rfl) ?_
  refine zT.run [(.aload_n 0, 0, 0, 0), (.iconst 0, 0, 0, 0), (.putfield 61, 8, 0, 5149), (.aload_n 0, 0, 0, 0), (.iload_n 1, 0, 0, 0), (.iconst 1, 0, 0, 0), (.bipush 9, 0, 0, 0), (.iconst 1, 0, 0, 0)] (pe := 11) (ls' := [some (.ref 0), some (.int le), some (.int ti)]) (st' := [.int 1, .int 9, .int 1, .int le, .ref 0]) (M' := (zU M 0 0 0)) (by decide +kernel) rfl ?_
  refine zT.cV_own (o := 0) (idx := 72) (av := [.int le, .int 1, .int 9, .int 1]) (rv := (some (.int 0))) (st := []) (S1 := [.int 0]) (c_X10_bad_ok (zU M 0 0 0) (zGp gq) le 1 9 1 hx1 hx2) k_X10_bad _ _ rfl rfl rfl (zIn (w := 5220) (by decide +kernel) rfl) (by decide +kernel) (by decide +kernel) rfl (Nat.le_of_ble_eq_true rfl) rfl ?_
  refine zT.zne (tgt := 28) (off := 14) (by decide +kernel) (by decide) (fun c => absurd (by decide) c) (fun _ => ?_)
  refine zT.run [(.aload_n 0, 0, 0, 0), (.iload_n 2, 0, 0, 0), (.iconst 0, 0, 0, 0), (.iconst 1, 0, 0, 0), (.iconst 1, 0, 0, 0)] (pe := 22) (ls' := [some (.ref 0), some (.int le), some (.int ti)]) (st' := [.int 1, .int 1, .int 0, .int ti, .ref 0]) (M' := (zU M 0 0 0)) (by decide +kernel) rfl ?_
  refine zT.cV_own (o := 0) (idx := 72) (av := [.int ti, .int 0, .int 1, .int 1]) (rv := (some (.int 0))) (st := []) (S1 := [.int 0]) (c_X10_bad_ok (zU M 0 0 0) (zGp gq) ti 0 1 1 hx3 hx4) k_X10_bad _ _ rfl rfl rfl (zIn (w := 5220) (by decide +kernel) rfl) (by decide +kernel) (by decide +kernel) rfl (Nat.le_of_ble_eq_true rfl) rfl ?_
  refine zT.zeq (tgt := 30) (off := 5) (by decide +kernel) (by decide) (fun _ => ?_) (fun c => absurd (by decide) c)
  refine zT.run [(.aload_n 0, 0, 0, 0)] (pe := 31) (ls' := [some (.ref 0), some (.int le), some (.int ti)]) (st' := [.ref 0]) (M' := (zU M 0 0 0)) (by decide +kernel) rfl ?_
  refine zT.cV_all (o := 0) (idx := 118) (av := []) (rv := none) (st := []) (S1 := []) (c_X10_findVotes (zU M 0 0 0) (zGp gq) n hn h9 hv) k_X10_findVotes _ _ rfl rfl rfl (zIn (w := 6071) (by decide +kernel) rfl) (by decide +kernel) (by decide +kernel) rfl (Nat.le_of_ble_eq_true rfl) rfl ?_
  refine zT.run [(.aload_n 0, 0, 0, 0), (.getfield 9, 8, 1, 5150), (.iconst 4, 0, 0, 0)] (pe := 39) (ls' := [some (.ref 0), some (.int le), some (.int ti)]) (st' := [.int 4, .ref 1]) (M' := (g_X10_findVotes (zU M 0 0 0) n)) (by decide +kernel) rfl ?_
  refine zT.iald (n := 187) (k := 4) rfl rfl (by decide) (by decide) (by decide +kernel) ?_
  refine zT.run [(.iconst 2, 0, 0, 0)] (pe := 41) (ls' := [some (.ref 0), some (.int le), some (.int ti)]) (st' := [.int 2, .int ((g_X10_findVotes (zU M 0 0 0) n) 1 4)]) (M' := (g_X10_findVotes (zU M 0 0 0) n)) (by decide +kernel) rfl ?_
  refine zT.cge (tgt := 48) (off := 7) (by decide +kernel) (by decide) (fun (c1 : 2 ≤ ((g_X10_findVotes (zU M 0 0 0) n) 1 4)) => ?_) (fun (c1 : ¬ 2 ≤ ((g_X10_findVotes (zU M 0 0 0) n) 1 4)) => ?_)
  · skip
    refine zT.run [(.aload_n 0, 0, 0, 0), (.iload_n 1, 0, 0, 0), (.iload_n 2, 0, 0, 0)] (pe := 51) (ls' := [some (.ref 0), some (.int le), some (.int ti)]) (st' := [.int ti, .int le, .ref 0]) (M' := (g_X10_findVotes (zU M 0 0 0) n)) (by decide +kernel) rfl ?_
    refine zT.cV_all (o := 0) (idx := 121) (av := [.int le, .int ti]) (rv := (some (.int (g_X10_chosenBy (g_X10_findVotes (zU M 0 0 0) n) n le ti).1))) (st := []) (S1 := [.int (g_X10_chosenBy (g_X10_findVotes (zU M 0 0 0) n) n le ti).1]) (c_X10_chosenBy (g_X10_findVotes (zU M 0 0 0) n) (zGp gq) n le ti ((congrFun (fr_X10_findVotes (zU M 0 0 0) n 1 (by decide)) 0).trans hn) h9 (e_X10_findVotes (zU M 0 0 0) n h9)) k_X10_chosenBy _ _ rfl rfl rfl (zIn (w := 6075) (by decide +kernel) rfl) (by decide +kernel) (by decide +kernel) rfl (Nat.le_of_ble_eq_true rfl) rfl ?_
    exact zT.iret (ty := Jvm.ClassFile.FieldType.int) (by simp only [g_X10_aheadIf, if_pos c1]; try rfl) (by simp only [g_X10_aheadIf, if_pos c1]; try rfl) rfl rfl (by decide +kernel)
  · skip
    refine zT.run [(.iconst (-1), 0, 0, 0), (.goto 9, 0, 0, 0)] (pe := 54) (ls' := [some (.ref 0), some (.int le), some (.int ti)]) (st' := [.int (-1)]) (M' := (g_X10_findVotes (zU M 0 0 0) n)) (by decide +kernel) rfl ?_
    exact zT.iret (ty := Jvm.ClassFile.FieldType.int) (by simp only [g_X10_aheadIf, if_neg c1]; try rfl) (by simp only [g_X10_aheadIf, if_neg c1]; try rfl) rfl rfl (by decide +kernel)
theorem k_X10_aheadIf : zCal yy_X10_aheadIf 2 := ⟨⟨⟨⟨zIn (w := 7055) (by decide +kernel) rfl, zIn (w := 1012) (by decide +kernel) rfl⟩, by decide +kernel⟩, by decide +kernel⟩, ⟨zIn (w := 7053) (by decide +kernel) rfl, zIn (w := 7054) (by decide +kernel) rfl⟩⟩
noncomputable abbrev yy_X10_sealFor : zY := (yX10_sealFor, cX10_sealFor, 4, (some Jvm.ClassFile.FieldType.int), 2, 45)
noncomputable def g_X10_sealFor (M : zM) (gq : Nat → Nat) (pc : Nat) (n : Nat) (r : Nat) (x : Int32) (t : Int32) : Int32 × zM := ((g_X10_sealOf (nI r) x t), (zU M 0 0 0))
set_option maxRecDepth 100000 in
theorem c_X10_sealFor (M : zM) (gq : Nat → Nat) (pc : Nat) (n : Nat) (r : Nat) (x : Int32) (t : Int32) (hM : M 0 3 = nI pc) (hpc : pc ≤ 10) (hq : zPm gq) (hn : M 1 0 = nI n) (h9 : n ≤ 9) (h_r : r < n) (hx1 : ¬ x < 0) (hx2 : x ≤ 999) (hx3 : ¬ t < 0) (hx4 : t ≤ 9999) : zC yy_X10_sealFor 0 0 [.ref 0, .int (nI r), .int x, .int t] (sh_Model (zGp gq)) M (some (.int (g_X10_sealFor M gq pc n r x t).1)) (sh_Model (zGp gq)) (g_X10_sealFor M gq pc n r x t).2 := by
  refine zC.of (by decide +kernel) rfl (Nat.le_of_ble_eq_true rfl) ?_
  refine zT.run [(.aload_n 0, 0, 0, 0), (.iconst 0, 0, 0, 0), (.putfield 61, 8, 0, 5149), (.aload_n 0, 0, 0, 0), (.iload_n 1, 0, 0, 0)] (pe := 7) (ls' := [some (.ref 0), some (.int (nI r)), some (.int x), some (.int t)]) (st' := [.int (nI r), .ref 0]) (M' := (zU M 0 0 0)) (by decide +kernel) rfl ?_
  refine zT.cV_own (o := 0) (idx := 160) (av := [.int (nI r)]) (rv := (some (.int 0))) (st := []) (S1 := [.int 0]) (c_X10_noReplica_ok (zU M 0 0 0) (zGp gq) n r hn h9 h_r) k_X10_noReplica _ _ rfl rfl rfl (zIn (w := 5216) (by decide +kernel) rfl) (by decide +kernel) (by decide +kernel) rfl (Nat.le_of_ble_eq_true rfl) rfl ?_
  refine zT.zne (tgt := 39) (off := 29) (by decide +kernel) (by decide) (fun c => absurd (by decide) c) (fun _ => ?_)
  refine zT.run [(.aload_n 0, 0, 0, 0), (.iload_n 2, 0, 0, 0), (.iconst 0, 0, 0, 0), (.sipush 999, 0, 0, 0), (.iconst 2, 0, 0, 0)] (pe := 20) (ls' := [some (.ref 0), some (.int (nI r)), some (.int x), some (.int t)]) (st' := [.int 2, .int 999, .int 0, .int x, .ref 0]) (M' := (zU M 0 0 0)) (by decide +kernel) rfl ?_
  refine zT.cV_own (o := 0) (idx := 72) (av := [.int x, .int 0, .int 999, .int 2]) (rv := (some (.int 0))) (st := []) (S1 := [.int 0]) (c_X10_bad_ok (zU M 0 0 0) (zGp gq) x 0 999 2 hx1 hx2) k_X10_bad _ _ rfl rfl rfl (zIn (w := 5220) (by decide +kernel) rfl) (by decide +kernel) (by decide +kernel) rfl (Nat.le_of_ble_eq_true rfl) rfl ?_
  refine zT.zne (tgt := 39) (off := 16) (by decide +kernel) (by decide) (fun c => absurd (by decide) c) (fun _ => ?_)
  refine zT.run [(.aload_n 0, 0, 0, 0), (.iload_n 3, 0, 0, 0), (.iconst 0, 0, 0, 0), (.sipush 9999, 0, 0, 0), (.iconst 2, 0, 0, 0)] (pe := 33) (ls' := [some (.ref 0), some (.int (nI r)), some (.int x), some (.int t)]) (st' := [.int 2, .int 9999, .int 0, .int t, .ref 0]) (M' := (zU M 0 0 0)) (by decide +kernel) rfl ?_
  refine zT.cV_own (o := 0) (idx := 72) (av := [.int t, .int 0, .int 9999, .int 2]) (rv := (some (.int 0))) (st := []) (S1 := [.int 0]) (c_X10_bad_ok (zU M 0 0 0) (zGp gq) t 0 9999 2 hx3 hx4) k_X10_bad _ _ rfl rfl rfl (zIn (w := 5220) (by decide +kernel) rfl) (by decide +kernel) (by decide +kernel) rfl (Nat.le_of_ble_eq_true rfl) rfl ?_
  refine zT.zeq (tgt := 43) (off := 7) (by decide +kernel) (by decide) (fun _ => ?_) (fun c => absurd (by decide) c)
  refine zT.run [(.iload_n 1, 0, 0, 0), (.iload_n 2, 0, 0, 0), (.iload_n 3, 0, 0, 0)] (pe := 46) (ls' := [some (.ref 0), some (.int (nI r)), some (.int x), some (.int t)]) (st' := [.int t, .int x, .int (nI r)]) (M' := (zU M 0 0 0)) (by decide +kernel) rfl ?_
  refine zT.cS_nil (idx := 53) (av := [.int (nI r), .int x, .int t]) (rv := (some (.int (g_X10_sealOf (nI r) x t)))) (st := []) (S1 := [.int (g_X10_sealOf (nI r) x t)]) (c_X10_sealOf (nI r) x t) k_X10_sealOf rfl (zIn (w := 5128) (by decide +kernel) rfl) (by decide +kernel) (by decide +kernel) rfl (Nat.le_of_ble_eq_true rfl) rfl ?_
  exact zT.iret (ty := Jvm.ClassFile.FieldType.int) (by simp only [g_X10_sealFor]; try rfl) (by simp only [g_X10_sealFor]; try rfl) rfl rfl (by decide +kernel)
theorem k_X10_sealFor : zCal yy_X10_sealFor 3 := ⟨⟨⟨⟨zIn (w := 7047) (by decide +kernel) rfl, zIn (w := 1012) (by decide +kernel) rfl⟩, by decide +kernel⟩, by decide +kernel⟩, ⟨zIn (w := 7045) (by decide +kernel) rfl, zIn (w := 7046) (by decide +kernel) rfl⟩⟩
noncomputable abbrev yy_X10_callersNow : zY := (yX10_callersNow, cX10_callersNow, 3, (some Jvm.ClassFile.FieldType.int), 3, 67)
noncomputable def l_X10_callersNow_4 (M : zM) (n : Nat) (i1 : Nat) (s1 : Int32) : Int32 := (s1 ||| (if (g_X10_isUp M i1) = 0 then (0 : Int32) else (if (g_X10_isEnough M (g_X10_rollOf M n i1)) = 0 then (0 : Int32) else (1 <<< ((nI i1) &&& 31)))))
noncomputable def g_X10_callersNow (M : zM) (n : Nat) : Int32 := (zIt (l_X10_callersNow_4 M n) n 0)
set_option maxRecDepth 100000 in
theorem c_X10_callersNow (M : zM) (gp : Nat → Option Nat) (n : Nat) (hn : M 1 0 = nI n) (h9 : n ≤ 9) : zC yy_X10_callersNow 0 0 [.ref 0] (sh_Model gp) M (some (.int (g_X10_callersNow M n))) (sh_Model gp) M := by
  refine zC.of (by decide +kernel) rfl (Nat.le_of_ble_eq_true rfl) ?_
  refine zT.run [(.iconst 0, 0, 0, 0), (.istore_n 1, 0, 0, 0), (.iconst 0, 0, 0, 0), (.istore_n 2, 0, 0, 0)] (pe := 4) (ls' := [some (.ref 0), some (.int 0), some (.int 0)]) (st' := []) (M' := M) (by decide +kernel) rfl ?_
  refine zT.loop (l_X10_callersNow_4 M n) (fun (i : Nat) (s : Int32) => (4, [some (.ref 0), some (.int s), some (.int (nI i))], [], (sh_Model gp), M)) n 0 (fun i1 hi1 k1 => ?_) ?_
  · skip
    generalize hs1 : zIt (l_X10_callersNow_4 M n) i1 0 = s1 at k1 ⊢
    show zT _ _ _ _ (4, [some (.ref 0), some (.int s1), some (.int (nI i1))], [], (sh_Model gp), M)
    refine zT.run [(.iload_n 2, 0, 0, 0), (.aload_n 0, 0, 0, 0), (.getfield 9, 8, 1, 5150), (.iconst 0, 0, 0, 0)] (pe := 10) (ls' := [some (.ref 0), some (.int s1), some (.int (nI i1))]) (st' := [.int 0, .ref 1, .int (nI i1)]) (M' := M) (by decide +kernel) rfl ?_
    refine zT.iald (n := 187) (k := 0) rfl rfl (by decide) (by decide) (by decide +kernel) ?_
    refine zT.cge (tgt := 50) (off := 39) (by decide +kernel) (by decide) (fun c => absurd c (zGeN (n := n) hn (by omega) (by omega))) (fun _ => ?_)
    refine zT.run [(.iload_n 1, 0, 0, 0), (.aload_n 0, 0, 0, 0), (.iload_n 2, 0, 0, 0)] (pe := 17) (ls' := [some (.ref 0), some (.int s1), some (.int (nI i1))]) (st' := [.int (nI i1), .ref 0, .int s1]) (M' := M) (by decide +kernel) rfl ?_
    refine zT.cV_own (o := 0) (idx := 86) (av := [.int (nI i1)]) (rv := (some (.int (g_X10_isUp M i1)))) (st := [.int s1]) (S1 := [.int (g_X10_isUp M i1), .int s1]) (c_X10_isUp M gp i1 (by omega)) k_X10_isUp _ _ rfl rfl rfl (zIn (w := 5120) (by decide +kernel) rfl) (by decide +kernel) (by decide +kernel) rfl (Nat.le_of_ble_eq_true rfl) rfl ?_
    refine zT.join (42, [some (.ref 0), some (.int s1), some (.int (nI i1))], [.int (if (g_X10_isUp M i1) = 0 then (0 : Int32) else (if (g_X10_isEnough M (g_X10_rollOf M n i1)) = 0 then (0 : Int32) else (1 <<< ((nI i1) &&& 31)))), .int s1], (sh_Model gp), M) ?_ ?_
    · refine zT.zeq (tgt := 41) (off := 21) (by decide +kernel) (by decide) (fun (c1 : (g_X10_isUp M i1) = 0) => ?_) (fun (c1 : ¬ (g_X10_isUp M i1) = 0) => ?_)
      · skip
        refine zT.run [(.iconst 0, 0, 0, 0)] (pe := 42) (ls' := [some (.ref 0), some (.int s1), some (.int (nI i1))]) (st' := [.int 0, .int s1]) (M' := M) (by decide +kernel) rfl ?_
        exact zT.here (by simp only [if_pos c1]; try rfl)
      · skip
        refine zT.run [(.aload_n 0, 0, 0, 0), (.aload_n 0, 0, 0, 0), (.iload_n 2, 0, 0, 0)] (pe := 26) (ls' := [some (.ref 0), some (.int s1), some (.int (nI i1))]) (st' := [.int (nI i1), .ref 0, .ref 0, .int s1]) (M' := M) (by decide +kernel) rfl ?_
        refine zT.cV_own (o := 0) (idx := 127) (av := [.int (nI i1)]) (rv := (some (.int (g_X10_rollOf M n i1)))) (st := [.ref 0, .int s1]) (S1 := [.int (g_X10_rollOf M n i1), .ref 0, .int s1]) (c_X10_rollOf M gp n i1 hn h9 (by omega)) k_X10_rollOf _ _ rfl rfl rfl (zIn (w := 5116) (by decide +kernel) rfl) (by decide +kernel) (by decide +kernel) rfl (Nat.le_of_ble_eq_true rfl) rfl ?_
        refine zT.cV_own (o := 0) (idx := 130) (av := [.int (g_X10_rollOf M n i1)]) (rv := (some (.int (g_X10_isEnough M (g_X10_rollOf M n i1))))) (st := [.int s1]) (S1 := [.int (g_X10_isEnough M (g_X10_rollOf M n i1)), .int s1]) (c_X10_isEnough M gp (g_X10_rollOf M n i1)) k_X10_isEnough _ _ rfl rfl rfl (zIn (w := 5228) (by decide +kernel) rfl) (by decide +kernel) (by decide +kernel) rfl (Nat.le_of_ble_eq_true rfl) rfl ?_
        refine zT.zeq (tgt := 41) (off := 9) (by decide +kernel) (by decide) (fun (c2 : (g_X10_isEnough M (g_X10_rollOf M n i1)) = 0) => ?_) (fun (c2 : ¬ (g_X10_isEnough M (g_X10_rollOf M n i1)) = 0) => ?_)
        · skip
          refine zT.run [(.iconst 0, 0, 0, 0)] (pe := 42) (ls' := [some (.ref 0), some (.int s1), some (.int (nI i1))]) (st' := [.int 0, .int s1]) (M' := M) (by decide +kernel) rfl ?_
          exact zT.here (by simp only [if_neg c1, if_pos c2]; try rfl)
        · skip
          refine zT.run [(.iconst 1, 0, 0, 0), (.iload_n 2, 0, 0, 0), (.ishl, 0, 0, 0), (.goto 4, 0, 0, 0)] (pe := 42) (ls' := [some (.ref 0), some (.int s1), some (.int (nI i1))]) (st' := [.int (1 <<< ((nI i1) &&& 31)), .int s1]) (M' := M) (by decide +kernel) rfl ?_
          exact zT.here (by simp only [if_neg c1, if_neg c2]; try rfl)
    · skip
      refine zT.run [(.ior, 0, 0, 0), (.istore_n 1, 0, 0, 0), (.iinc 2 1, 0, 0, 0), (.goto (-43), 0, 0, 0)] (pe := 4) (ls' := [some (.ref 0), some (.int (s1 ||| (if (g_X10_isUp M i1) = 0 then (0 : Int32) else (if (g_X10_isEnough M (g_X10_rollOf M n i1)) = 0 then (0 : Int32) else (1 <<< ((nI i1) &&& 31)))))), some (.int ((nI i1) + 1))]) (st' := []) (M' := M) (by decide +kernel) rfl ?_
      exact zT.eq (by simp only [l_X10_callersNow_4, nI_succ, zDl]; try rfl) k1
  · skip
    show zT _ _ _ _ (4, [some (.ref 0), some (.int (zIt (l_X10_callersNow_4 M n) n 0)), some (.int (nI n))], [], (sh_Model gp), M)
    refine zT.run [(.iload_n 2, 0, 0, 0), (.aload_n 0, 0, 0, 0), (.getfield 9, 8, 1, 5150), (.iconst 0, 0, 0, 0)] (pe := 10) (ls' := [some (.ref 0), some (.int (zIt (l_X10_callersNow_4 M n) n 0)), some (.int (nI n))]) (st' := [.int 0, .ref 1, .int (nI n)]) (M' := M) (by decide +kernel) rfl ?_
    refine zT.iald (n := 187) (k := 0) rfl rfl (by decide) (by decide) (by decide +kernel) ?_
    refine zT.cge (tgt := 50) (off := 39) (by decide +kernel) (by decide) (fun _ => ?_) (fun c => absurd (zGeY (n := n) hn) c)
    refine zT.run [(.iload_n 1, 0, 0, 0)] (pe := 51) (ls' := [some (.ref 0), some (.int (zIt (l_X10_callersNow_4 M n) n 0)), some (.int (nI n))]) (st' := [.int (zIt (l_X10_callersNow_4 M n) n 0)]) (M' := M) (by decide +kernel) rfl ?_
    exact zT.iret (ty := Jvm.ClassFile.FieldType.int) (by simp only [g_X10_callersNow]; try rfl) rfl rfl rfl (by decide +kernel)
theorem k_X10_callersNow : zCal yy_X10_callersNow 0 := ⟨⟨⟨⟨zIn (w := 7075) (by decide +kernel) rfl, zIn (w := 1012) (by decide +kernel) rfl⟩, by decide +kernel⟩, by decide +kernel⟩, ⟨zIn (w := 7074) (by decide +kernel) rfl, zIn (w := 79) (by decide +kernel) rfl⟩⟩
noncomputable abbrev yy_X10_callers : zY := (yX10_callers, cX10_callers, 1, (some Jvm.ClassFile.FieldType.int), 4, 89)
noncomputable def g_X10_callers (M : zM) (gq : Nat → Nat) (pc : Nat) (n : Nat) : Int32 × zM := ((g_X10_callersNow (zU M 0 0 0) n), (zU M 0 0 0))
set_option maxRecDepth 100000 in
theorem c_X10_callers (M : zM) (gq : Nat → Nat) (pc : Nat) (n : Nat) (hM : M 0 3 = nI pc) (hpc : pc ≤ 10) (hq : zPm gq) (hn : M 1 0 = nI n) (h9 : n ≤ 9) : zC yy_X10_callers 0 0 [.ref 0] (sh_Model (zGp gq)) M (some (.int (g_X10_callers M gq pc n).1)) (sh_Model (zGp gq)) (g_X10_callers M gq pc n).2 := by
  refine zC.of (by decide +kernel) rfl (Nat.le_of_ble_eq_true rfl) ?_
  refine zT.run [(.aload_n 0, 0, 0, 0), (.iconst 0, 0, 0, 0), (.putfield 61, 8, 0, 5149), (.aload_n 0, 0, 0, 0)] (pe := 6) (ls' := [some (.ref 0)]) (st' := [.ref 0]) (M' := (zU M 0 0 0)) (by decide +kernel) rfl ?_
  refine zT.cV_own (o := 0) (idx := 338) (av := []) (rv := (some (.int (g_X10_callersNow (zU M 0 0 0) n)))) (st := []) (S1 := [.int (g_X10_callersNow (zU M 0 0 0) n)]) (c_X10_callersNow (zU M 0 0 0) (zGp gq) n hn h9) k_X10_callersNow _ _ rfl rfl rfl (zIn (w := 7072) (by decide +kernel) rfl) (by decide +kernel) (by decide +kernel) rfl (Nat.le_of_ble_eq_true rfl) rfl ?_
  exact zT.iret (ty := Jvm.ClassFile.FieldType.int) (by simp only [g_X10_callers]; try rfl) (by simp only [g_X10_callers]; try rfl) rfl rfl (by decide +kernel)
theorem k_X10_callers : zCal yy_X10_callers 0 := ⟨⟨⟨⟨zIn (w := 7071) (by decide +kernel) rfl, zIn (w := 1012) (by decide +kernel) rfl⟩, by decide +kernel⟩, by decide +kernel⟩, ⟨zIn (w := 7069) (by decide +kernel) rfl, zIn (w := 7070) (by decide +kernel) rfl⟩⟩
noncomputable abbrev yy_X10_sign : zY := (yX10_sign, cX10_sign, 2, (some Jvm.ClassFile.FieldType.int), 1, 22)
noncomputable def g_X10_sign (M : zM) (r : Nat) : Int32 := (if (g_X10_isOnRoll M (nI r)) = 0 then 45 else (if (g_X10_of M r 6) = 0 then 46 else (if (g_X10_of M r 6) = 1 then 35 else (if (g_X10_of M r 6) = 2 then (48 + (g_X10_of M r 7)) else 120))))
set_option maxRecDepth 100000 in
theorem c_X10_sign (M : zM) (gp : Nat → Option Nat) (r : Nat) (h_r : r < 9) : zC yy_X10_sign 0 0 [.ref 0, .int (nI r)] (sh_Model gp) M (some (.int (g_X10_sign M r))) (sh_Model gp) M := by
  refine zC.of (by decide +kernel) rfl (Nat.le_of_ble_eq_true rfl) ?_
  refine zT.run [(.aload_n 0, 0, 0, 0), (.iload_n 1, 0, 0, 0)] (pe := 2) (ls' := [some (.ref 0), some (.int (nI r))]) (st' := [.int (nI r), .ref 0]) (M' := M) (by decide +kernel) rfl ?_
  refine zT.cV_own (o := 0) (idx := 106) (av := [.int (nI r)]) (rv := (some (.int (g_X10_isOnRoll M (nI r))))) (st := []) (S1 := [.int (g_X10_isOnRoll M (nI r))]) (c_X10_isOnRoll M gp (nI r)) k_X10_isOnRoll _ _ rfl rfl rfl (zIn (w := 5145) (by decide +kernel) rfl) (by decide +kernel) (by decide +kernel) rfl (Nat.le_of_ble_eq_true rfl) rfl ?_
  refine zT.zne (tgt := 11) (off := 6) (by decide +kernel) (by decide) (fun (c1 : ¬ (g_X10_isOnRoll M (nI r)) = 0) => ?_) (fun (c1 : (g_X10_isOnRoll M (nI r)) = 0) => ?_)
  · skip
    refine zT.run [(.aload_n 0, 0, 0, 0), (.iload_n 1, 0, 0, 0), (.bipush 6, 0, 0, 0)] (pe := 15) (ls' := [some (.ref 0), some (.int (nI r))]) (st' := [.int 6, .int (nI r), .ref 0]) (M' := M) (by decide +kernel) rfl ?_
    refine zT.cV_own (o := 0) (idx := 80) (av := [.int (nI r), .int (nI 6)]) (rv := (some (.int (g_X10_of M r 6)))) (st := []) (S1 := [.int (g_X10_of M r 6)]) (c_X10_of M gp r 6 (by omega) (by decide)) k_X10_of _ _ rfl rfl rfl (zIn (w := 5108) (by decide +kernel) rfl) (by decide +kernel) (by decide +kernel) rfl (Nat.le_of_ble_eq_true rfl) rfl ?_
    by_cases c2 : (g_X10_of M r 6) = 0
    · skip
      refine zT.tabEq (v := 0) c2 (tgt := 44) (off := 26) (dflt := 43) (lo := 0) (hi := 2) (offs := #[26, 29, 32]) (len := 26) (by decide +kernel) (by decide) (by decide) (by decide) (by decide) ?_
      refine zT.run [(.bipush 46, 0, 0, 0)] (pe := 46) (ls' := [some (.ref 0), some (.int (nI r))]) (st' := [.int 46]) (M' := M) (by decide +kernel) rfl ?_
      exact zT.iret (ty := Jvm.ClassFile.FieldType.int) (by simp only [g_X10_sign, if_neg c1, if_pos c2]; try rfl) rfl rfl rfl (by decide +kernel)
    · skip
      by_cases c3 : (g_X10_of M r 6) = 1
      · skip
        refine zT.tabEq (v := 1) c3 (tgt := 47) (off := 29) (dflt := 43) (lo := 0) (hi := 2) (offs := #[26, 29, 32]) (len := 26) (by decide +kernel) (by decide) (by decide) (by decide) (by decide) ?_
        refine zT.run [(.bipush 35, 0, 0, 0)] (pe := 49) (ls' := [some (.ref 0), some (.int (nI r))]) (st' := [.int 35]) (M' := M) (by decide +kernel) rfl ?_
        exact zT.iret (ty := Jvm.ClassFile.FieldType.int) (by simp only [g_X10_sign, if_neg c1, if_neg c2, if_pos c3]; try rfl) rfl rfl rfl (by decide +kernel)
      · skip
        by_cases c4 : (g_X10_of M r 6) = 2
        · skip
          refine zT.tabEq (v := 2) c4 (tgt := 50) (off := 32) (dflt := 43) (lo := 0) (hi := 2) (offs := #[26, 29, 32]) (len := 26) (by decide +kernel) (by decide) (by decide) (by decide) (by decide) ?_
          refine zT.run [(.bipush 48, 0, 0, 0), (.aload_n 0, 0, 0, 0), (.iload_n 1, 0, 0, 0), (.bipush 7, 0, 0, 0)] (pe := 56) (ls' := [some (.ref 0), some (.int (nI r))]) (st' := [.int 7, .int (nI r), .ref 0, .int 48]) (M' := M) (by decide +kernel) rfl ?_
          refine zT.cV_own (o := 0) (idx := 80) (av := [.int (nI r), .int (nI 7)]) (rv := (some (.int (g_X10_of M r 7)))) (st := [.int 48]) (S1 := [.int (g_X10_of M r 7), .int 48]) (c_X10_of M gp r 7 (by omega) (by decide)) k_X10_of _ _ rfl rfl rfl (zIn (w := 5108) (by decide +kernel) rfl) (by decide +kernel) (by decide +kernel) rfl (Nat.le_of_ble_eq_true rfl) rfl ?_
          refine zT.run [(.iadd, 0, 0, 0)] (pe := 60) (ls' := [some (.ref 0), some (.int (nI r))]) (st' := [.int (48 + (g_X10_of M r 7))]) (M' := M) (by decide +kernel) rfl ?_
          exact zT.iret (ty := Jvm.ClassFile.FieldType.int) (by simp only [g_X10_sign, if_neg c1, if_neg c2, if_neg c3, if_pos c4]; try rfl) rfl rfl rfl (by decide +kernel)
        · skip
          refine zT.tabDef (tgt := 61) (dflt := 43) (lo := 0) (hi := 2) (offs := #[26, 29, 32]) (len := 26) (by decide +kernel) (by intro k h1 h2; rcases (show k = 0 ∨ k = 1 ∨ k = 2 by omega) with rfl | rfl | rfl; exact Or.inr (zNe rfl c2); exact Or.inr (zNe rfl c3); exact Or.inr (zNe rfl c4)) (by decide) ?_
          refine zT.run [(.bipush 120, 0, 0, 0)] (pe := 63) (ls' := [some (.ref 0), some (.int (nI r))]) (st' := [.int 120]) (M' := M) (by decide +kernel) rfl ?_
          exact zT.iret (ty := Jvm.ClassFile.FieldType.int) (by simp only [g_X10_sign, if_neg c1, if_neg c2, if_neg c3, if_neg c4]; try rfl) rfl rfl rfl (by decide +kernel)
  · skip
    refine zT.run [(.bipush 45, 0, 0, 0)] (pe := 10) (ls' := [some (.ref 0), some (.int (nI r))]) (st' := [.int 45]) (M' := M) (by decide +kernel) rfl ?_
    exact zT.iret (ty := Jvm.ClassFile.FieldType.int) (by simp only [g_X10_sign, if_pos c1]; try rfl) rfl rfl rfl (by decide +kernel)
theorem k_X10_sign : zCal yy_X10_sign 1 := ⟨⟨⟨⟨zIn (w := 7118) (by decide +kernel) rfl, zIn (w := 1012) (by decide +kernel) rfl⟩, by decide +kernel⟩, by decide +kernel⟩, ⟨zIn (w := 7117) (by decide +kernel) rfl, zIn (w := 83) (by decide +kernel) rfl⟩⟩
