theorem zBs.le {n k : Nat} {x : Int32} (h : zBs n x) (hk : n ≤ k) : zBs k x := by
  rcases h with h | ⟨e, h1, h2⟩
  · exact Or.inl h
  · exact Or.inr ⟨e, by omega, h2⟩
theorem zOix {B : Int32} {oz bk w : Nat} (hB : B = nI oz) (h : bk < oz) : (91 : Int32) + (B - 1 - nI bk) * 8 + nI w = nI ((91 + (oz - 1 - bk) * 8) + w) := by
  rw [hB, show (1 : Int32) = nI 1 from rfl, show (8 : Int32) = nI 8 from rfl, show (91 : Int32) = nI 91 from rfl, pk_sub (by omega), pk_sub (by omega), pk_mul, nI_add, nI_add]

noncomputable abbrev yy_X10_noCall : zY := (yX10_noCall, cX10_noCall, 2, (some Jvm.ClassFile.FieldType.int), 3, 67)
noncomputable def g_X10_noCall (M : zM) (n : Nat) (r : Nat) : Int32 := (if (M 1 4) = 1 then 2 else (if (M 1 4) = 2 then 2 else (if (g_X10_isUp M r) = 0 then 3 else (if (g_X10_isEnough M (g_X10_rollOf M n r)) = 0 then 4 else 0))))
set_option maxRecDepth 100000 in
theorem c_X10_noCall (M : zM) (gp : Nat → Option Nat) (n : Nat) (r : Nat) (hn : M 1 0 = nI n) (h9 : n ≤ 9) (h_r : r < 9) : zC yy_X10_noCall 0 0 [.ref 0, .int (nI r)] (sh_Model gp) M (some (.int (g_X10_noCall M n r))) (sh_Model gp) M := by
  refine zC.of (by decide +kernel) rfl (Nat.le_of_ble_eq_true rfl) ?_
  refine zT.run [(.aload_n 0, 0, 0, 0), (.getfield 9, 8, 1, 5150), (.iconst 4, 0, 0, 0)] (pe := 5) (ls' := [some (.ref 0), some (.int (nI r))]) (st' := [.int 4, .ref 1]) (M' := M) (by decide +kernel) rfl ?_
  refine zT.iald (n := 187) (k := 4) rfl rfl (by decide) (by decide) (by decide +kernel) ?_
  refine zT.run [(.iconst 1, 0, 0, 0)] (pe := 7) (ls' := [some (.ref 0), some (.int (nI r))]) (st' := [.int 1, .int (M 1 4)]) (M' := M) (by decide +kernel) rfl ?_
  refine zT.ceq (tgt := 20) (off := 13) (by decide +kernel) (by decide) (fun (c1 : (M 1 4) = 1) => ?_) (fun (c1 : ¬ (M 1 4) = 1) => ?_)
  · skip
    refine zT.run [(.iconst 2, 0, 0, 0)] (pe := 21) (ls' := [some (.ref 0), some (.int (nI r))]) (st' := [.int 2]) (M' := M) (by decide +kernel) rfl ?_
    exact zT.iret (ty := Jvm.ClassFile.FieldType.int) (by simp only [g_X10_noCall, if_pos c1]; try rfl) rfl rfl rfl (by decide +kernel)
  · skip
    refine zT.run [(.aload_n 0, 0, 0, 0), (.getfield 9, 8, 1, 5150), (.iconst 4, 0, 0, 0)] (pe := 15) (ls' := [some (.ref 0), some (.int (nI r))]) (st' := [.int 4, .ref 1]) (M' := M) (by decide +kernel) rfl ?_
    refine zT.iald (n := 187) (k := 4) rfl rfl (by decide) (by decide) (by decide +kernel) ?_
    refine zT.run [(.iconst 2, 0, 0, 0)] (pe := 17) (ls' := [some (.ref 0), some (.int (nI r))]) (st' := [.int 2, .int (M 1 4)]) (M' := M) (by decide +kernel) rfl ?_
    refine zT.cne (tgt := 22) (off := 5) (by decide +kernel) (by decide) (fun (c2 : ¬ (M 1 4) = 2) => ?_) (fun (c2 : (M 1 4) = 2) => ?_)
    · skip
      refine zT.run [(.aload_n 0, 0, 0, 0), (.iload_n 1, 0, 0, 0)] (pe := 24) (ls' := [some (.ref 0), some (.int (nI r))]) (st' := [.int (nI r), .ref 0]) (M' := M) (by decide +kernel) rfl ?_
      refine zT.cV_own (o := 0) (idx := 86) (av := [.int (nI r)]) (rv := (some (.int (g_X10_isUp M r)))) (st := []) (S1 := [.int (g_X10_isUp M r)]) (c_X10_isUp M gp r (by omega)) k_X10_isUp _ _ rfl rfl rfl (zIn (w := 5120) (by decide +kernel) rfl) (by decide +kernel) (by decide +kernel) rfl (Nat.le_of_ble_eq_true rfl) rfl ?_
      refine zT.zne (tgt := 34) (off := 7) (by decide +kernel) (by decide) (fun (c3 : ¬ (g_X10_isUp M r) = 0) => ?_) (fun (c3 : (g_X10_isUp M r) = 0) => ?_)
      · skip
        refine zT.run [(.aload_n 0, 0, 0, 0), (.aload_n 0, 0, 0, 0), (.iload_n 1, 0, 0, 0)] (pe := 37) (ls' := [some (.ref 0), some (.int (nI r))]) (st' := [.int (nI r), .ref 0, .ref 0]) (M' := M) (by decide +kernel) rfl ?_
        refine zT.cV_own (o := 0) (idx := 127) (av := [.int (nI r)]) (rv := (some (.int (g_X10_rollOf M n r)))) (st := [.ref 0]) (S1 := [.int (g_X10_rollOf M n r), .ref 0]) (c_X10_rollOf M gp n r hn h9 (by omega)) k_X10_rollOf _ _ rfl rfl rfl (zIn (w := 5116) (by decide +kernel) rfl) (by decide +kernel) (by decide +kernel) rfl (Nat.le_of_ble_eq_true rfl) rfl ?_
        refine zT.cV_own (o := 0) (idx := 130) (av := [.int (g_X10_rollOf M n r)]) (rv := (some (.int (g_X10_isEnough M (g_X10_rollOf M n r))))) (st := []) (S1 := [.int (g_X10_isEnough M (g_X10_rollOf M n r))]) (c_X10_isEnough M gp (g_X10_rollOf M n r)) k_X10_isEnough _ _ rfl rfl rfl (zIn (w := 5228) (by decide +kernel) rfl) (by decide +kernel) (by decide +kernel) rfl (Nat.le_of_ble_eq_true rfl) rfl ?_
        refine zT.zeq (tgt := 50) (off := 7) (by decide +kernel) (by decide) (fun (c4 : (g_X10_isEnough M (g_X10_rollOf M n r)) = 0) => ?_) (fun (c4 : ¬ (g_X10_isEnough M (g_X10_rollOf M n r)) = 0) => ?_)
        · skip
          refine zT.run [(.iconst 4, 0, 0, 0)] (pe := 51) (ls' := [some (.ref 0), some (.int (nI r))]) (st' := [.int 4]) (M' := M) (by decide +kernel) rfl ?_
          exact zT.iret (ty := Jvm.ClassFile.FieldType.int) (by simp only [g_X10_noCall, if_neg c1, if_neg c2, if_neg c3, if_pos c4]; try rfl) rfl rfl rfl (by decide +kernel)
        · skip
          refine zT.run [(.iconst 0, 0, 0, 0), (.goto 4, 0, 0, 0)] (pe := 51) (ls' := [some (.ref 0), some (.int (nI r))]) (st' := [.int 0]) (M' := M) (by decide +kernel) rfl ?_
          exact zT.iret (ty := Jvm.ClassFile.FieldType.int) (by simp only [g_X10_noCall, if_neg c1, if_neg c2, if_neg c3, if_neg c4]; try rfl) rfl rfl rfl (by decide +kernel)
      · skip
        refine zT.run [(.iconst 3, 0, 0, 0), (.goto 20, 0, 0, 0)] (pe := 51) (ls' := [some (.ref 0), some (.int (nI r))]) (st' := [.int 3]) (M' := M) (by decide +kernel) rfl ?_
        exact zT.iret (ty := Jvm.ClassFile.FieldType.int) (by simp only [g_X10_noCall, if_neg c1, if_neg c2, if_pos c3]; try rfl) rfl rfl rfl (by decide +kernel)
    · skip
      refine zT.run [(.iconst 2, 0, 0, 0)] (pe := 21) (ls' := [some (.ref 0), some (.int (nI r))]) (st' := [.int 2]) (M' := M) (by decide +kernel) rfl ?_
      exact zT.iret (ty := Jvm.ClassFile.FieldType.int) (by simp only [g_X10_noCall, if_neg c1, if_pos c2]; try rfl) rfl rfl rfl (by decide +kernel)
theorem k_X10_noCall : zCal yy_X10_noCall 1 := ⟨⟨⟨⟨zIn (w := 5227) (by decide +kernel) rfl, zIn (w := 1012) (by decide +kernel) rfl⟩, by decide +kernel⟩, by decide +kernel⟩, ⟨zIn (w := 5226) (by decide +kernel) rfl, zIn (w := 33) (by decide +kernel) rfl⟩⟩
noncomputable abbrev yy_X10_callIt : zY := (yX10_callIt, cX10_callIt, 6, (some Jvm.ClassFile.FieldType.int), 3, 67)
noncomputable def l_X10_callIt_11 (M : zM) (n : Nat) (cl : Nat) (i1 : Nat) (s1 : Int32 × zM) : Int32 × zM := ((if (if (((g_X10_rollOf M n cl) >>> ((nI i1) &&& 31)) &&& 1) = 1 then (1 : Int32) else (0 : Int32)) = 0 then s1.1 else (if (g_X10_of s1.2 i1 3) ≤ s1.1 then s1.1 else (g_X10_of s1.2 i1 3))), (g_X10_put (g_X10_put (g_X10_put s1.2 i1 6 0) i1 7 (-1)) i1 8 0))
theorem fr_l_X10_callIt_11 (M : zM) (n : Nat) (cl : Nat) (o : Nat) (ho : o ≠ 1) : ∀ (k : Nat) (s : Int32 × zM), (zIt (l_X10_callIt_11 M n cl) k s).2 o = s.2 o := by
  intro k
  induction k with
  | zero => intro s; rfl
  | succ k ih =>
    intro s
    rw [← ih s]
    show (l_X10_callIt_11 M n cl k (zIt (l_X10_callIt_11 M n cl) k s)).2 o = _
    generalize zIt (l_X10_callIt_11 M n cl) k s = t
    simp only [l_X10_callIt_11]
    (repeat' split) <;> simp only [zU_ne ho, (fun (MM : zM) (r : Nat) (w : Nat) (v : Int32) => fr_X10_put MM r w v o (by omega)), (fun (MM : zM) (r : Nat) (w : Nat) (v : Int32) => fr_X10_put MM r w v o (by omega)), (fun (MM : zM) (r : Nat) (w : Nat) (v : Int32) => fr_X10_put MM r w v o (by omega))]
theorem lo_l_X10_callIt_11 (M : zM) (n : Nat) (cl : Nat) (o : Nat) (ho : o < 10) : ∀ (k : Nat) (s : Int32 × zM), (zIt (l_X10_callIt_11 M n cl) k s).2 1 o = s.2 1 o := by
  intro k
  induction k with
  | zero => intro s; rfl
  | succ k ih =>
    intro s
    rw [← ih s]
    show (l_X10_callIt_11 M n cl k (zIt (l_X10_callIt_11 M n cl) k s)).2 1 o = _
    generalize zIt (l_X10_callIt_11 M n cl) k s = t
    simp only [l_X10_callIt_11]
    (repeat' split) <;> (try simp only [(fun (MM : zM) (r : Nat) (w : Nat) (v : Int32) => lo_X10_put MM r w v o (by omega))])
noncomputable def l_X10_callIt_103 (M : zM) (n : Nat) (cl : Nat) (i2 : Nat) (s2 : zM) : zM := (if (((g_X10_rollOf M n cl) >>> ((nI i2) &&& 31)) &&& 1) = 1 then (g_X10_put (g_X10_put s2 i2 3 ((zIt (l_X10_callIt_11 M n cl) n (0, M)).1 + 1)) i2 4 (-1)) else s2)
theorem fr_l_X10_callIt_103 (M : zM) (n : Nat) (cl : Nat) (o : Nat) (ho : o ≠ 1) : ∀ (k : Nat) (s : zM), (zIt (l_X10_callIt_103 M n cl) k s) o = s o := by
  intro k
  induction k with
  | zero => intro s; rfl
  | succ k ih =>
    intro s
    rw [← ih s]
    show (l_X10_callIt_103 M n cl k (zIt (l_X10_callIt_103 M n cl) k s)) o = _
    generalize zIt (l_X10_callIt_103 M n cl) k s = t
    simp only [l_X10_callIt_103]
    (repeat' split) <;> simp only [zU_ne ho, (fun (MM : zM) (r : Nat) (w : Nat) (v : Int32) => fr_X10_put MM r w v o (by omega)), (fun (MM : zM) (r : Nat) (w : Nat) (v : Int32) => fr_X10_put MM r w v o (by omega))]
theorem lo_l_X10_callIt_103 (M : zM) (n : Nat) (cl : Nat) (o : Nat) (ho : o < 10) : ∀ (k : Nat) (s : zM), (zIt (l_X10_callIt_103 M n cl) k s) 1 o = s 1 o := by
  intro k
  induction k with
  | zero => intro s; rfl
  | succ k ih =>
    intro s
    rw [← ih s]
    show (l_X10_callIt_103 M n cl k (zIt (l_X10_callIt_103 M n cl) k s)) 1 o = _
    generalize zIt (l_X10_callIt_103 M n cl) k s = t
    simp only [l_X10_callIt_103]
    (repeat' split) <;> (try simp only [(fun (MM : zM) (r : Nat) (w : Nat) (v : Int32) => lo_X10_put MM r w v o (by omega))])
noncomputable def r_X10_callIt_103 (M : zM) (n : Nat) (cl : Nat) : zM := (zIt (l_X10_callIt_103 M n cl) n (zIt (l_X10_callIt_11 M n cl) n (0, M)).2)
noncomputable def g_X10_callIt (M : zM) (n : Nat) (cl : Nat) : Int32 × zM := (((zIt (l_X10_callIt_11 M n cl) n (0, M)).1 + 1), (zU (zU (zU (zU (zU (r_X10_callIt_103 M n cl) 1 4 1) 1 5 ((zIt (l_X10_callIt_11 M n cl) n (0, M)).1 + 1)) 1 6 (nI cl)) 1 7 (g_X10_rollOf M n cl)) 1 8 0))
set_option maxRecDepth 100000 in
theorem c_X10_callIt (M : zM) (gp : Nat → Option Nat) (n : Nat) (cl : Nat) (hn : M 1 0 = nI n) (h9 : n ≤ 9) (h_cl : cl < 9) : zC yy_X10_callIt 0 0 [.ref 0, .int (nI cl)] (sh_Model gp) M (some (.int (g_X10_callIt M n cl).1)) (sh_Model gp) (g_X10_callIt M n cl).2 := by
  refine zC.of (by decide +kernel) rfl (Nat.le_of_ble_eq_true rfl) ?_
  refine zT.run [(.aload_n 0, 0, 0, 0), (.iload_n 1, 0, 0, 0)] (pe := 2) (ls' := [some (.ref 0), some (.int (nI cl)), none, none, none, none]) (st' := [.int (nI cl), .ref 0]) (M' := M) (by decide +kernel) rfl ?_
  refine zT.cV_own (o := 0) (idx := 127) (av := [.int (nI cl)]) (rv := (some (.int (g_X10_rollOf M n cl)))) (st := []) (S1 := [.int (g_X10_rollOf M n cl)]) (c_X10_rollOf M gp n cl hn h9 (by omega)) k_X10_rollOf _ _ rfl rfl rfl (zIn (w := 5116) (by decide +kernel) rfl) (by decide +kernel) (by decide +kernel) rfl (Nat.le_of_ble_eq_true rfl) rfl ?_
  refine zT.run [(.istore_n 2, 0, 0, 0), (.iconst 0, 0, 0, 0), (.istore_n 3, 0, 0, 0), (.iconst 0, 0, 0, 0), (.istore 4, 0, 0, 0)] (pe := 11) (ls' := [some (.ref 0), some (.int (nI cl)), some (.int (g_X10_rollOf M n cl)), some (.int 0), some (.int 0), none]) (st' := []) (M' := M) (by decide +kernel) rfl ?_
  refine zT.loop (l_X10_callIt_11 M n cl) (fun (i : Nat) (s : Int32 × zM) => (11, [some (.ref 0), some (.int (nI cl)), some (.int (g_X10_rollOf M n cl)), some (.int s.1), some (.int (nI i)), none], [], (sh_Model gp), s.2)) n (0, M) (fun i1 hi1 k1 => ?_) ?_
  · skip
    generalize hs1 : zIt (l_X10_callIt_11 M n cl) i1 (0, M) = s1 at k1 ⊢
    have hm1 : ∀ o : Nat, (o ≠ 1) → s1.2 o = M o := fun o ho => by rw [← hs1]; exact fr_l_X10_callIt_11 M n cl o ho i1 (0, M)
    have hl1 : ∀ o : Nat, (o < 10) → s1.2 1 o = M 1 o := fun o ho => by rw [← hs1]; exact lo_l_X10_callIt_11 M n cl o ho i1 (0, M)
    show zT _ _ _ _ (11, [some (.ref 0), some (.int (nI cl)), some (.int (g_X10_rollOf M n cl)), some (.int s1.1), some (.int (nI i1)), none], [], (sh_Model gp), s1.2)
    refine zT.run [(.iload 4, 0, 0, 0), (.aload_n 0, 0, 0, 0), (.getfield 9, 8, 1, 5150), (.iconst 0, 0, 0, 0)] (pe := 18) (ls' := [some (.ref 0), some (.int (nI cl)), some (.int (g_X10_rollOf M n cl)), some (.int s1.1), some (.int (nI i1)), none]) (st' := [.int 0, .ref 1, .int (nI i1)]) (M' := s1.2) (by decide +kernel) rfl ?_
    refine zT.iald (n := 187) (k := 0) rfl rfl (by decide) (by decide) (by decide +kernel) ?_
    refine zT.cge (tgt := 100) (off := 81) (by decide +kernel) (by decide) (fun c => absurd c (zGeN (n := n) ((hl1 0 (by decide)).trans hn) (by omega) (by omega))) (fun _ => ?_)
    refine zT.run [(.iload_n 2, 0, 0, 0), (.iload 4, 0, 0, 0), (.ishr, 0, 0, 0), (.iconst 1, 0, 0, 0), (.iand, 0, 0, 0), (.iconst 1, 0, 0, 0)] (pe := 29) (ls' := [some (.ref 0), some (.int (nI cl)), some (.int (g_X10_rollOf M n cl)), some (.int s1.1), some (.int (nI i1)), none]) (st' := [.int 1, .int (((g_X10_rollOf M n cl) >>> ((nI i1) &&& 31)) &&& 1)]) (M' := s1.2) (by decide +kernel) rfl ?_
    refine zT.join (37, [some (.ref 0), some (.int (nI cl)), some (.int (g_X10_rollOf M n cl)), some (.int s1.1), some (.int (nI i1)), none], [.int (if (((g_X10_rollOf M n cl) >>> ((nI i1) &&& 31)) &&& 1) = 1 then (1 : Int32) else (0 : Int32))], (sh_Model gp), s1.2) ?_ ?_
    · refine zT.cne (tgt := 36) (off := 7) (by decide +kernel) (by decide) (fun (c1 : ¬ (((g_X10_rollOf M n cl) >>> ((nI i1) &&& 31)) &&& 1) = 1) => ?_) (fun (c1 : (((g_X10_rollOf M n cl) >>> ((nI i1) &&& 31)) &&& 1) = 1) => ?_)
      · skip
        refine zT.run [(.iconst 0, 0, 0, 0)] (pe := 37) (ls' := [some (.ref 0), some (.int (nI cl)), some (.int (g_X10_rollOf M n cl)), some (.int s1.1), some (.int (nI i1)), none]) (st' := [.int 0]) (M' := s1.2) (by decide +kernel) rfl ?_
        exact zT.here (by simp only [if_neg c1]; try rfl)
      · skip
        refine zT.run [(.iconst 1, 0, 0, 0), (.goto 4, 0, 0, 0)] (pe := 37) (ls' := [some (.ref 0), some (.int (nI cl)), some (.int (g_X10_rollOf M n cl)), some (.int s1.1), some (.int (nI i1)), none]) (st' := [.int 1]) (M' := s1.2) (by decide +kernel) rfl ?_
        exact zT.here (by simp only [if_pos c1]; try rfl)
    · skip
      refine zT.run [(.istore 5, 0, 0, 0), (.iload 5, 0, 0, 0)] (pe := 41) (ls' := [some (.ref 0), some (.int (nI cl)), some (.int (g_X10_rollOf M n cl)), some (.int s1.1), some (.int (nI i1)), some (.int (if (((g_X10_rollOf M n cl) >>> ((nI i1) &&& 31)) &&& 1) = 1 then (1 : Int32) else (0 : Int32)))]) (st' := [.int (if (((g_X10_rollOf M n cl) >>> ((nI i1) &&& 31)) &&& 1) = 1 then (1 : Int32) else (0 : Int32))]) (M' := s1.2) (by decide +kernel) rfl ?_
      refine zT.join (66, [some (.ref 0), some (.int (nI cl)), some (.int (g_X10_rollOf M n cl)), some (.int s1.1), some (.int (nI i1)), some (.int (if (((g_X10_rollOf M n cl) >>> ((nI i1) &&& 31)) &&& 1) = 1 then (1 : Int32) else (0 : Int32)))], [.int (if (if (((g_X10_rollOf M n cl) >>> ((nI i1) &&& 31)) &&& 1) = 1 then (1 : Int32) else (0 : Int32)) = 0 then s1.1 else (if (g_X10_of s1.2 i1 3) ≤ s1.1 then s1.1 else (g_X10_of s1.2 i1 3)))], (sh_Model gp), s1.2) ?_ ?_
      · refine zT.zeq (tgt := 65) (off := 24) (by decide +kernel) (by decide) (fun (c2 : (if (((g_X10_rollOf M n cl) >>> ((nI i1) &&& 31)) &&& 1) = 1 then (1 : Int32) else (0 : Int32)) = 0) => ?_) (fun (c2 : ¬ (if (((g_X10_rollOf M n cl) >>> ((nI i1) &&& 31)) &&& 1) = 1 then (1 : Int32) else (0 : Int32)) = 0) => ?_)
        · skip
          refine zT.run [(.iload_n 3, 0, 0, 0)] (pe := 66) (ls' := [some (.ref 0), some (.int (nI cl)), some (.int (g_X10_rollOf M n cl)), some (.int s1.1), some (.int (nI i1)), some (.int (if (((g_X10_rollOf M n cl) >>> ((nI i1) &&& 31)) &&& 1) = 1 then (1 : Int32) else (0 : Int32)))]) (st' := [.int s1.1]) (M' := s1.2) (by decide +kernel) rfl ?_
          exact zT.here (by simp only [if_pos c2]; try rfl)
        · skip
          refine zT.run [(.aload_n 0, 0, 0, 0), (.iload 4, 0, 0, 0), (.iconst 3, 0, 0, 0)] (pe := 48) (ls' := [some (.ref 0), some (.int (nI cl)), some (.int (g_X10_rollOf M n cl)), some (.int s1.1), some (.int (nI i1)), some (.int (if (((g_X10_rollOf M n cl) >>> ((nI i1) &&& 31)) &&& 1) = 1 then (1 : Int32) else (0 : Int32)))]) (st' := [.int 3, .int (nI i1), .ref 0]) (M' := s1.2) (by decide +kernel) rfl ?_
          refine zT.cV_own (o := 0) (idx := 80) (av := [.int (nI i1), .int (nI 3)]) (rv := (some (.int (g_X10_of s1.2 i1 3)))) (st := []) (S1 := [.int (g_X10_of s1.2 i1 3)]) (c_X10_of s1.2 gp i1 3 (by omega) (by decide)) k_X10_of _ _ rfl rfl rfl (zIn (w := 5108) (by decide +kernel) rfl) (by decide +kernel) (by decide +kernel) rfl (Nat.le_of_ble_eq_true rfl) rfl ?_
          refine zT.run [(.iload_n 3, 0, 0, 0)] (pe := 52) (ls' := [some (.ref 0), some (.int (nI cl)), some (.int (g_X10_rollOf M n cl)), some (.int s1.1), some (.int (nI i1)), some (.int (if (((g_X10_rollOf M n cl) >>> ((nI i1) &&& 31)) &&& 1) = 1 then (1 : Int32) else (0 : Int32)))]) (st' := [.int s1.1, .int (g_X10_of s1.2 i1 3)]) (M' := s1.2) (by decide +kernel) rfl ?_
          refine zT.cle (tgt := 65) (off := 13) (by decide +kernel) (by decide) (fun (c3 : (g_X10_of s1.2 i1 3) ≤ s1.1) => ?_) (fun (c3 : ¬ (g_X10_of s1.2 i1 3) ≤ s1.1) => ?_)
          · skip
            refine zT.run [(.iload_n 3, 0, 0, 0)] (pe := 66) (ls' := [some (.ref 0), some (.int (nI cl)), some (.int (g_X10_rollOf M n cl)), some (.int s1.1), some (.int (nI i1)), some (.int (if (((g_X10_rollOf M n cl) >>> ((nI i1) &&& 31)) &&& 1) = 1 then (1 : Int32) else (0 : Int32)))]) (st' := [.int s1.1]) (M' := s1.2) (by decide +kernel) rfl ?_
            exact zT.here (by simp only [if_neg c2, if_pos c3]; try rfl)
          · skip
            refine zT.run [(.aload_n 0, 0, 0, 0), (.iload 4, 0, 0, 0), (.iconst 3, 0, 0, 0)] (pe := 59) (ls' := [some (.ref 0), some (.int (nI cl)), some (.int (g_X10_rollOf M n cl)), some (.int s1.1), some (.int (nI i1)), some (.int (if (((g_X10_rollOf M n cl) >>> ((nI i1) &&& 31)) &&& 1) = 1 then (1 : Int32) else (0 : Int32)))]) (st' := [.int 3, .int (nI i1), .ref 0]) (M' := s1.2) (by decide +kernel) rfl ?_
            refine zT.cV_own (o := 0) (idx := 80) (av := [.int (nI i1), .int (nI 3)]) (rv := (some (.int (g_X10_of s1.2 i1 3)))) (st := []) (S1 := [.int (g_X10_of s1.2 i1 3)]) (c_X10_of s1.2 gp i1 3 (by omega) (by decide)) k_X10_of _ _ rfl rfl rfl (zIn (w := 5108) (by decide +kernel) rfl) (by decide +kernel) (by decide +kernel) rfl (Nat.le_of_ble_eq_true rfl) rfl ?_
            refine zT.run [(.goto 4, 0, 0, 0)] (pe := 66) (ls' := [some (.ref 0), some (.int (nI cl)), some (.int (g_X10_rollOf M n cl)), some (.int s1.1), some (.int (nI i1)), some (.int (if (((g_X10_rollOf M n cl) >>> ((nI i1) &&& 31)) &&& 1) = 1 then (1 : Int32) else (0 : Int32)))]) (st' := [.int (g_X10_of s1.2 i1 3)]) (M' := s1.2) (by decide +kernel) rfl ?_
            exact zT.here (by simp only [if_neg c2, if_neg c3]; try rfl)
      · skip
        refine zT.run [(.istore_n 3, 0, 0, 0), (.aload_n 0, 0, 0, 0), (.iload 4, 0, 0, 0), (.bipush 6, 0, 0, 0), (.iconst 0, 0, 0, 0)] (pe := 73) (ls' := [some (.ref 0), some (.int (nI cl)), some (.int (g_X10_rollOf M n cl)), some (.int (if (if (((g_X10_rollOf M n cl) >>> ((nI i1) &&& 31)) &&& 1) = 1 then (1 : Int32) else (0 : Int32)) = 0 then s1.1 else (if (g_X10_of s1.2 i1 3) ≤ s1.1 then s1.1 else (g_X10_of s1.2 i1 3)))), some (.int (nI i1)), some (.int (if (((g_X10_rollOf M n cl) >>> ((nI i1) &&& 31)) &&& 1) = 1 then (1 : Int32) else (0 : Int32)))]) (st' := [.int 0, .int 6, .int (nI i1), .ref 0]) (M' := s1.2) (by decide +kernel) rfl ?_
        refine zT.cV_all (o := 0) (idx := 76) (av := [.int (nI i1), .int (nI 6), .int 0]) (rv := none) (st := []) (S1 := []) (c_X10_put s1.2 gp i1 6 0 (by omega) (by decide)) k_X10_put _ _ rfl rfl rfl (zIn (w := 5100) (by decide +kernel) rfl) (by decide +kernel) (by decide +kernel) rfl (Nat.le_of_ble_eq_true rfl) rfl ?_
        refine zT.run [(.aload_n 0, 0, 0, 0), (.iload 4, 0, 0, 0), (.bipush 7, 0, 0, 0), (.iconst (-1), 0, 0, 0)] (pe := 82) (ls' := [some (.ref 0), some (.int (nI cl)), some (.int (g_X10_rollOf M n cl)), some (.int (if (if (((g_X10_rollOf M n cl) >>> ((nI i1) &&& 31)) &&& 1) = 1 then (1 : Int32) else (0 : Int32)) = 0 then s1.1 else (if (g_X10_of s1.2 i1 3) ≤ s1.1 then s1.1 else (g_X10_of s1.2 i1 3)))), some (.int (nI i1)), some (.int (if (((g_X10_rollOf M n cl) >>> ((nI i1) &&& 31)) &&& 1) = 1 then (1 : Int32) else (0 : Int32)))]) (st' := [.int (-1), .int 7, .int (nI i1), .ref 0]) (M' := (g_X10_put s1.2 i1 6 0)) (by decide +kernel) rfl ?_
        refine zT.cV_all (o := 0) (idx := 76) (av := [.int (nI i1), .int (nI 7), .int (-1)]) (rv := none) (st := []) (S1 := []) (c_X10_put (g_X10_put s1.2 i1 6 0) gp i1 7 (-1) (by omega) (by decide)) k_X10_put _ _ rfl rfl rfl (zIn (w := 5100) (by decide +kernel) rfl) (by decide +kernel) (by decide +kernel) rfl (Nat.le_of_ble_eq_true rfl) rfl ?_
        refine zT.run [(.aload_n 0, 0, 0, 0), (.iload 4, 0, 0, 0), (.bipush 8, 0, 0, 0), (.iconst 0, 0, 0, 0)] (pe := 91) (ls' := [some (.ref 0), some (.int (nI cl)), some (.int (g_X10_rollOf M n cl)), some (.int (if (if (((g_X10_rollOf M n cl) >>> ((nI i1) &&& 31)) &&& 1) = 1 then (1 : Int32) else (0 : Int32)) = 0 then s1.1 else (if (g_X10_of s1.2 i1 3) ≤ s1.1 then s1.1 else (g_X10_of s1.2 i1 3)))), some (.int (nI i1)), some (.int (if (((g_X10_rollOf M n cl) >>> ((nI i1) &&& 31)) &&& 1) = 1 then (1 : Int32) else (0 : Int32)))]) (st' := [.int 0, .int 8, .int (nI i1), .ref 0]) (M' := (g_X10_put (g_X10_put s1.2 i1 6 0) i1 7 (-1))) (by decide +kernel) rfl ?_
        refine zT.cV_all (o := 0) (idx := 76) (av := [.int (nI i1), .int (nI 8), .int 0]) (rv := none) (st := []) (S1 := []) (c_X10_put (g_X10_put (g_X10_put s1.2 i1 6 0) i1 7 (-1)) gp i1 8 0 (by omega) (by decide)) k_X10_put _ _ rfl rfl rfl (zIn (w := 5100) (by decide +kernel) rfl) (by decide +kernel) (by decide +kernel) rfl (Nat.le_of_ble_eq_true rfl) rfl ?_
        refine zT.run [(.iinc 4 1, 0, 0, 0), (.goto (-86), 0, 0, 0)] (pe := 11) (ls' := [some (.ref 0), some (.int (nI cl)), some (.int (g_X10_rollOf M n cl)), some (.int (if (if (((g_X10_rollOf M n cl) >>> ((nI i1) &&& 31)) &&& 1) = 1 then (1 : Int32) else (0 : Int32)) = 0 then s1.1 else (if (g_X10_of s1.2 i1 3) ≤ s1.1 then s1.1 else (g_X10_of s1.2 i1 3)))), some (.int ((nI i1) + 1)), some (.int (if (((g_X10_rollOf M n cl) >>> ((nI i1) &&& 31)) &&& 1) = 1 then (1 : Int32) else (0 : Int32)))]) (st' := []) (M' := (g_X10_put (g_X10_put (g_X10_put s1.2 i1 6 0) i1 7 (-1)) i1 8 0)) (by decide +kernel) rfl ?_
        refine zT.drop 5 ?_
        exact zT.eq (by simp only [l_X10_callIt_11, nI_succ, zDl]; try rfl) k1
  · skip
    show zT _ _ _ _ (11, [some (.ref 0), some (.int (nI cl)), some (.int (g_X10_rollOf M n cl)), some (.int (zIt (l_X10_callIt_11 M n cl) n (0, M)).1), some (.int (nI n)), none], [], (sh_Model gp), (zIt (l_X10_callIt_11 M n cl) n (0, M)).2)
    refine zT.run [(.iload 4, 0, 0, 0), (.aload_n 0, 0, 0, 0), (.getfield 9, 8, 1, 5150), (.iconst 0, 0, 0, 0)] (pe := 18) (ls' := [some (.ref 0), some (.int (nI cl)), some (.int (g_X10_rollOf M n cl)), some (.int (zIt (l_X10_callIt_11 M n cl) n (0, M)).1), some (.int (nI n)), none]) (st' := [.int 0, .ref 1, .int (nI n)]) (M' := (zIt (l_X10_callIt_11 M n cl) n (0, M)).2) (by decide +kernel) rfl ?_
    refine zT.iald (n := 187) (k := 0) rfl rfl (by decide) (by decide) (by decide +kernel) ?_
    refine zT.cge (tgt := 100) (off := 81) (by decide +kernel) (by decide) (fun _ => ?_) (fun c => absurd (zGeY (n := n) ((lo_l_X10_callIt_11 M n cl 0 (by decide) n (0, M)).trans hn)) c)
    refine zT.run [(.iconst 0, 0, 0, 0), (.istore 4, 0, 0, 0)] (pe := 103) (ls' := [some (.ref 0), some (.int (nI cl)), some (.int (g_X10_rollOf M n cl)), some (.int (zIt (l_X10_callIt_11 M n cl) n (0, M)).1), some (.int 0), none]) (st' := []) (M' := (zIt (l_X10_callIt_11 M n cl) n (0, M)).2) (by decide +kernel) rfl ?_
    refine zT.loop (l_X10_callIt_103 M n cl) (fun (i : Nat) (s : zM) => (103, [some (.ref 0), some (.int (nI cl)), some (.int (g_X10_rollOf M n cl)), some (.int (zIt (l_X10_callIt_11 M n cl) n (0, M)).1), some (.int (nI i)), none], [], (sh_Model gp), s)) n (zIt (l_X10_callIt_11 M n cl) n (0, M)).2 (fun i2 hi2 k2 => ?_) ?_
    · skip
      generalize hs2 : zIt (l_X10_callIt_103 M n cl) i2 (zIt (l_X10_callIt_11 M n cl) n (0, M)).2 = s2 at k2 ⊢
      have hm2 : ∀ o : Nat, (o ≠ 1) → s2 o = (zIt (l_X10_callIt_11 M n cl) n (0, M)).2 o := fun o ho => by rw [← hs2]; exact fr_l_X10_callIt_103 M n cl o ho i2 (zIt (l_X10_callIt_11 M n cl) n (0, M)).2
      have hl2 : ∀ o : Nat, (o < 10) → s2 1 o = (zIt (l_X10_callIt_11 M n cl) n (0, M)).2 1 o := fun o ho => by rw [← hs2]; exact lo_l_X10_callIt_103 M n cl o ho i2 (zIt (l_X10_callIt_11 M n cl) n (0, M)).2
      show zT _ _ _ _ (103, [some (.ref 0), some (.int (nI cl)), some (.int (g_X10_rollOf M n cl)), some (.int (zIt (l_X10_callIt_11 M n cl) n (0, M)).1), some (.int (nI i2)), none], [], (sh_Model gp), s2)
      refine zT.run [(.iload 4, 0, 0, 0), (.aload_n 0, 0, 0, 0), (.getfield 9, 8, 1, 5150), (.iconst 0, 0, 0, 0)] (pe := 110) (ls' := [some (.ref 0), some (.int (nI cl)), some (.int (g_X10_rollOf M n cl)), some (.int (zIt (l_X10_callIt_11 M n cl) n (0, M)).1), some (.int (nI i2)), none]) (st' := [.int 0, .ref 1, .int (nI i2)]) (M' := s2) (by decide +kernel) rfl ?_
      refine zT.iald (n := 187) (k := 0) rfl rfl (by decide) (by decide) (by decide +kernel) ?_
      refine zT.cge (tgt := 148) (off := 37) (by decide +kernel) (by decide) (fun c => absurd c (zGeN (n := n) (((hl2 0 (by decide)).trans (lo_l_X10_callIt_11 M n cl 0 (by decide) n (0, M))).trans hn) (by omega) (by omega))) (fun _ => ?_)
      refine zT.run [(.iload_n 2, 0, 0, 0), (.iload 4, 0, 0, 0), (.ishr, 0, 0, 0), (.iconst 1, 0, 0, 0), (.iand, 0, 0, 0), (.iconst 1, 0, 0, 0)] (pe := 121) (ls' := [some (.ref 0), some (.int (nI cl)), some (.int (g_X10_rollOf M n cl)), some (.int (zIt (l_X10_callIt_11 M n cl) n (0, M)).1), some (.int (nI i2)), none]) (st' := [.int 1, .int (((g_X10_rollOf M n cl) >>> ((nI i2) &&& 31)) &&& 1)]) (M' := s2) (by decide +kernel) rfl ?_
      refine zT.cne (tgt := 142) (off := 21) (by decide +kernel) (by decide) (fun (c4 : ¬ (((g_X10_rollOf M n cl) >>> ((nI i2) &&& 31)) &&& 1) = 1) => ?_) (fun (c4 : (((g_X10_rollOf M n cl) >>> ((nI i2) &&& 31)) &&& 1) = 1) => ?_)
      · skip
        refine zT.run [(.iinc 4 1, 0, 0, 0), (.goto (-42), 0, 0, 0)] (pe := 103) (ls' := [some (.ref 0), some (.int (nI cl)), some (.int (g_X10_rollOf M n cl)), some (.int (zIt (l_X10_callIt_11 M n cl) n (0, M)).1), some (.int ((nI i2) + 1)), none]) (st' := []) (M' := s2) (by decide +kernel) rfl ?_
        exact zT.eq (by simp only [l_X10_callIt_103, if_neg c4, nI_succ, zDl]; try rfl) k2
      · skip
        refine zT.run [(.aload_n 0, 0, 0, 0), (.iload 4, 0, 0, 0), (.iconst 3, 0, 0, 0), (.iload_n 3, 0, 0, 0), (.iconst 1, 0, 0, 0), (.iadd, 0, 0, 0)] (pe := 131) (ls' := [some (.ref 0), some (.int (nI cl)), some (.int (g_X10_rollOf M n cl)), some (.int (zIt (l_X10_callIt_11 M n cl) n (0, M)).1), some (.int (nI i2)), none]) (st' := [.int ((zIt (l_X10_callIt_11 M n cl) n (0, M)).1 + 1), .int 3, .int (nI i2), .ref 0]) (M' := s2) (by decide +kernel) rfl ?_
        refine zT.cV_all (o := 0) (idx := 76) (av := [.int (nI i2), .int (nI 3), .int ((zIt (l_X10_callIt_11 M n cl) n (0, M)).1 + 1)]) (rv := none) (st := []) (S1 := []) (c_X10_put s2 gp i2 3 ((zIt (l_X10_callIt_11 M n cl) n (0, M)).1 + 1) (by omega) (by decide)) k_X10_put _ _ rfl rfl rfl (zIn (w := 5100) (by decide +kernel) rfl) (by decide +kernel) (by decide +kernel) rfl (Nat.le_of_ble_eq_true rfl) rfl ?_
        refine zT.run [(.aload_n 0, 0, 0, 0), (.iload 4, 0, 0, 0), (.iconst 4, 0, 0, 0), (.iconst (-1), 0, 0, 0)] (pe := 139) (ls' := [some (.ref 0), some (.int (nI cl)), some (.int (g_X10_rollOf M n cl)), some (.int (zIt (l_X10_callIt_11 M n cl) n (0, M)).1), some (.int (nI i2)), none]) (st' := [.int (-1), .int 4, .int (nI i2), .ref 0]) (M' := (g_X10_put s2 i2 3 ((zIt (l_X10_callIt_11 M n cl) n (0, M)).1 + 1))) (by decide +kernel) rfl ?_
        refine zT.cV_all (o := 0) (idx := 76) (av := [.int (nI i2), .int (nI 4), .int (-1)]) (rv := none) (st := []) (S1 := []) (c_X10_put (g_X10_put s2 i2 3 ((zIt (l_X10_callIt_11 M n cl) n (0, M)).1 + 1)) gp i2 4 (-1) (by omega) (by decide)) k_X10_put _ _ rfl rfl rfl (zIn (w := 5100) (by decide +kernel) rfl) (by decide +kernel) (by decide +kernel) rfl (Nat.le_of_ble_eq_true rfl) rfl ?_
        refine zT.run [(.iinc 4 1, 0, 0, 0), (.goto (-42), 0, 0, 0)] (pe := 103) (ls' := [some (.ref 0), some (.int (nI cl)), some (.int (g_X10_rollOf M n cl)), some (.int (zIt (l_X10_callIt_11 M n cl) n (0, M)).1), some (.int ((nI i2) + 1)), none]) (st' := []) (M' := (g_X10_put (g_X10_put s2 i2 3 ((zIt (l_X10_callIt_11 M n cl) n (0, M)).1 + 1)) i2 4 (-1))) (by decide +kernel) rfl ?_
        exact zT.eq (by simp only [l_X10_callIt_103, if_pos c4, nI_succ, zDl]; try rfl) k2
    · skip
      show zT _ _ _ _ (103, [some (.ref 0), some (.int (nI cl)), some (.int (g_X10_rollOf M n cl)), some (.int (zIt (l_X10_callIt_11 M n cl) n (0, M)).1), some (.int (nI n)), none], [], (sh_Model gp), (r_X10_callIt_103 M n cl))
      refine zT.run [(.iload 4, 0, 0, 0), (.aload_n 0, 0, 0, 0), (.getfield 9, 8, 1, 5150), (.iconst 0, 0, 0, 0)] (pe := 110) (ls' := [some (.ref 0), some (.int (nI cl)), some (.int (g_X10_rollOf M n cl)), some (.int (zIt (l_X10_callIt_11 M n cl) n (0, M)).1), some (.int (nI n)), none]) (st' := [.int 0, .ref 1, .int (nI n)]) (M' := (r_X10_callIt_103 M n cl)) (by decide +kernel) rfl ?_
      refine zT.iald (n := 187) (k := 0) rfl rfl (by decide) (by decide) (by decide +kernel) ?_
      refine zT.cge (tgt := 148) (off := 37) (by decide +kernel) (by decide) (fun _ => ?_) (fun c => absurd (zGeY (n := n) (((lo_l_X10_callIt_103 M n cl 0 (by decide) n (zIt (l_X10_callIt_11 M n cl) n (0, M)).2).trans (lo_l_X10_callIt_11 M n cl 0 (by decide) n (0, M))).trans hn)) c)
      refine zT.run [(.aload_n 0, 0, 0, 0), (.getfield 9, 8, 1, 5150), (.iconst 4, 0, 0, 0), (.iconst 1, 0, 0, 0)] (pe := 154) (ls' := [some (.ref 0), some (.int (nI cl)), some (.int (g_X10_rollOf M n cl)), some (.int (zIt (l_X10_callIt_11 M n cl) n (0, M)).1), some (.int (nI n)), none]) (st' := [.int 1, .int 4, .ref 1]) (M' := (r_X10_callIt_103 M n cl)) (by decide +kernel) rfl ?_
      refine zT.iast (n := 187) (k := 4) rfl rfl (by decide) (by decide) (by decide +kernel) ?_
      refine zT.run [(.aload_n 0, 0, 0, 0), (.getfield 9, 8, 1, 5150), (.iconst 5, 0, 0, 0), (.iload_n 3, 0, 0, 0), (.iconst 1, 0, 0, 0), (.iadd, 0, 0, 0)] (pe := 163) (ls' := [some (.ref 0), some (.int (nI cl)), some (.int (g_X10_rollOf M n cl)), some (.int (zIt (l_X10_callIt_11 M n cl) n (0, M)).1), some (.int (nI n)), none]) (st' := [.int ((zIt (l_X10_callIt_11 M n cl) n (0, M)).1 + 1), .int 5, .ref 1]) (M' := (zU (r_X10_callIt_103 M n cl) 1 4 1)) (by decide +kernel) rfl ?_
      refine zT.iast (n := 187) (k := 5) rfl rfl (by decide) (by decide) (by decide +kernel) ?_
      refine zT.run [(.aload_n 0, 0, 0, 0), (.getfield 9, 8, 1, 5150), (.bipush 6, 0, 0, 0), (.iload_n 1, 0, 0, 0)] (pe := 171) (ls' := [some (.ref 0), some (.int (nI cl)), some (.int (g_X10_rollOf M n cl)), some (.int (zIt (l_X10_callIt_11 M n cl) n (0, M)).1), some (.int (nI n)), none]) (st' := [.int (nI cl), .int 6, .ref 1]) (M' := (zU (zU (r_X10_callIt_103 M n cl) 1 4 1) 1 5 ((zIt (l_X10_callIt_11 M n cl) n (0, M)).1 + 1))) (by decide +kernel) rfl ?_
      refine zT.iast (n := 187) (k := 6) rfl rfl (by decide) (by decide) (by decide +kernel) ?_
      refine zT.run [(.aload_n 0, 0, 0, 0), (.getfield 9, 8, 1, 5150), (.bipush 7, 0, 0, 0), (.iload_n 2, 0, 0, 0)] (pe := 179) (ls' := [some (.ref 0), some (.int (nI cl)), some (.int (g_X10_rollOf M n cl)), some (.int (zIt (l_X10_callIt_11 M n cl) n (0, M)).1), some (.int (nI n)), none]) (st' := [.int (g_X10_rollOf M n cl), .int 7, .ref 1]) (M' := (zU (zU (zU (r_X10_callIt_103 M n cl) 1 4 1) 1 5 ((zIt (l_X10_callIt_11 M n cl) n (0, M)).1 + 1)) 1 6 (nI cl))) (by decide +kernel) rfl ?_
      refine zT.iast (n := 187) (k := 7) rfl rfl (by decide) (by decide) (by decide +kernel) ?_
      refine zT.run [(.aload_n 0, 0, 0, 0), (.getfield 9, 8, 1, 5150), (.bipush 8, 0, 0, 0), (.iconst 0, 0, 0, 0)] (pe := 187) (ls' := [some (.ref 0), some (.int (nI cl)), some (.int (g_X10_rollOf M n cl)), some (.int (zIt (l_X10_callIt_11 M n cl) n (0, M)).1), some (.int (nI n)), none]) (st' := [.int 0, .int 8, .ref 1]) (M' := (zU (zU (zU (zU (r_X10_callIt_103 M n cl) 1 4 1) 1 5 ((zIt (l_X10_callIt_11 M n cl) n (0, M)).1 + 1)) 1 6 (nI cl)) 1 7 (g_X10_rollOf M n cl))) (by decide +kernel) rfl ?_
      refine zT.iast (n := 187) (k := 8) rfl rfl (by decide) (by decide) (by decide +kernel) ?_
      refine zT.run [(.aload_n 0, 0, 0, 0), (.getfield 9, 8, 1, 5150), (.iconst 5, 0, 0, 0)] (pe := 193) (ls' := [some (.ref 0), some (.int (nI cl)), some (.int (g_X10_rollOf M n cl)), some (.int (zIt (l_X10_callIt_11 M n cl) n (0, M)).1), some (.int (nI n)), none]) (st' := [.int 5, .ref 1]) (M' := (zU (zU (zU (zU (zU (r_X10_callIt_103 M n cl) 1 4 1) 1 5 ((zIt (l_X10_callIt_11 M n cl) n (0, M)).1 + 1)) 1 6 (nI cl)) 1 7 (g_X10_rollOf M n cl)) 1 8 0)) (by decide +kernel) rfl ?_
      refine zT.iald (n := 187) (k := 5) rfl rfl (by decide) (by decide) (by decide +kernel) ?_
      exact zT.iret (ty := Jvm.ClassFile.FieldType.int) (by simp only [g_X10_callIt]; try rfl) (by simp only [g_X10_callIt]; try rfl) rfl rfl (by decide +kernel)
theorem fr_X10_callIt (M : zM) (n : Nat) (cl : Nat) (o : Nat) (ho : o ≠ 1) : (g_X10_callIt M n cl).2 o = M o := by
  simp only [g_X10_callIt]
  (repeat' split) <;> simp only [zU_ne ho, zUa_ne ho, r_X10_callIt_103, (fr_l_X10_callIt_103 M n cl o (by omega)), (fr_l_X10_callIt_11 M n cl o (by omega))]
theorem lo_X10_callIt (M : zM) (n : Nat) (cl : Nat) (o : Nat) (ho : o < 10 ∧ o ≠ 4 ∧ o ≠ 5 ∧ o ≠ 6 ∧ o ≠ 7 ∧ o ≠ 8) : (g_X10_callIt M n cl).2 1 o = M 1 o := by
  simp only [g_X10_callIt]
  (repeat' split) <;> (try simp only [zU_k (c := 1) (i := 8) (o := o) (by omega), zU_k (c := 1) (i := 7) (o := o) (by omega), zU_k (c := 1) (i := 6) (o := o) (by omega), zU_k (c := 1) (i := 5) (o := o) (by omega), zU_k (c := 1) (i := 4) (o := o) (by omega), r_X10_callIt_103, (lo_l_X10_callIt_103 M n cl o (by omega)), (lo_l_X10_callIt_11 M n cl o (by omega))])
theorem k_X10_callIt : zCal yy_X10_callIt 1 := ⟨⟨⟨⟨zIn (w := 5115) (by decide +kernel) rfl, zIn (w := 1012) (by decide +kernel) rfl⟩, by decide +kernel⟩, by decide +kernel⟩, ⟨zIn (w := 5114) (by decide +kernel) rfl, zIn (w := 24) (by decide +kernel) rfl⟩⟩
noncomputable abbrev yy_X10_noSeal : zY := (yX10_noSeal, cX10_noSeal, 2, (some Jvm.ClassFile.FieldType.int), 3, 65)
noncomputable def g_X10_noSeal (M : zM) (r : Nat) : Int32 := (if (M 1 4) = 1 then (if (g_X10_isOnRoll M (nI r)) = 0 then 6 else (if (g_X10_of M r 6) = 0 then (if (g_X10_isReached M r) = 0 then 8 else 0) else 7)) else 5)
set_option maxRecDepth 100000 in
theorem c_X10_noSeal (M : zM) (gp : Nat → Option Nat) (r : Nat) (hd : zHd M) (h_r : r < 9) : zC yy_X10_noSeal 0 0 [.ref 0, .int (nI r)] (sh_Model gp) M (some (.int (g_X10_noSeal M r))) (sh_Model gp) M := by
  refine zC.of (by decide +kernel) rfl (Nat.le_of_ble_eq_true rfl) ?_
  refine zT.run [(.aload_n 0, 0, 0, 0), (.getfield 9, 8, 1, 5150), (.iconst 4, 0, 0, 0)] (pe := 5) (ls' := [some (.ref 0), some (.int (nI r))]) (st' := [.int 4, .ref 1]) (M' := M) (by decide +kernel) rfl ?_
  refine zT.iald (n := 187) (k := 4) rfl rfl (by decide) (by decide) (by decide +kernel) ?_
  refine zT.run [(.iconst 1, 0, 0, 0)] (pe := 7) (ls' := [some (.ref 0), some (.int (nI r))]) (st' := [.int 1, .int (M 1 4)]) (M' := M) (by decide +kernel) rfl ?_
  refine zT.ceq (tgt := 12) (off := 5) (by decide +kernel) (by decide) (fun (c1 : (M 1 4) = 1) => ?_) (fun (c1 : ¬ (M 1 4) = 1) => ?_)
  · skip
    refine zT.run [(.aload_n 0, 0, 0, 0), (.iload_n 1, 0, 0, 0)] (pe := 14) (ls' := [some (.ref 0), some (.int (nI r))]) (st' := [.int (nI r), .ref 0]) (M' := M) (by decide +kernel) rfl ?_
    refine zT.cV_own (o := 0) (idx := 106) (av := [.int (nI r)]) (rv := (some (.int (g_X10_isOnRoll M (nI r))))) (st := []) (S1 := [.int (g_X10_isOnRoll M (nI r))]) (c_X10_isOnRoll M gp (nI r)) k_X10_isOnRoll _ _ rfl rfl rfl (zIn (w := 5145) (by decide +kernel) rfl) (by decide +kernel) (by decide +kernel) rfl (Nat.le_of_ble_eq_true rfl) rfl ?_
    refine zT.zne (tgt := 23) (off := 6) (by decide +kernel) (by decide) (fun (c2 : ¬ (g_X10_isOnRoll M (nI r)) = 0) => ?_) (fun (c2 : (g_X10_isOnRoll M (nI r)) = 0) => ?_)
    · skip
      refine zT.run [(.aload_n 0, 0, 0, 0), (.iload_n 1, 0, 0, 0), (.bipush 6, 0, 0, 0)] (pe := 27) (ls' := [some (.ref 0), some (.int (nI r))]) (st' := [.int 6, .int (nI r), .ref 0]) (M' := M) (by decide +kernel) rfl ?_
      refine zT.cV_own (o := 0) (idx := 80) (av := [.int (nI r), .int (nI 6)]) (rv := (some (.int (g_X10_of M r 6)))) (st := []) (S1 := [.int (g_X10_of M r 6)]) (c_X10_of M gp r 6 (by omega) (by decide)) k_X10_of _ _ rfl rfl rfl (zIn (w := 5108) (by decide +kernel) rfl) (by decide +kernel) (by decide +kernel) rfl (Nat.le_of_ble_eq_true rfl) rfl ?_
      refine zT.zeq (tgt := 38) (off := 8) (by decide +kernel) (by decide) (fun (c3 : (g_X10_of M r 6) = 0) => ?_) (fun (c3 : ¬ (g_X10_of M r 6) = 0) => ?_)
      · skip
        refine zT.run [(.aload_n 0, 0, 0, 0), (.iload_n 1, 0, 0, 0)] (pe := 40) (ls' := [some (.ref 0), some (.int (nI r))]) (st' := [.int (nI r), .ref 0]) (M' := M) (by decide +kernel) rfl ?_
        refine zT.cV_own (o := 0) (idx := 133) (av := [.int (nI r)]) (rv := (some (.int (g_X10_isReached M r)))) (st := []) (S1 := [.int (g_X10_isReached M r)]) (c_X10_isReached M gp r hd (by omega)) k_X10_isReached _ _ rfl rfl rfl (zIn (w := 6015) (by decide +kernel) rfl) (by decide +kernel) (by decide +kernel) rfl (Nat.le_of_ble_eq_true rfl) rfl ?_
        refine zT.zeq (tgt := 50) (off := 7) (by decide +kernel) (by decide) (fun (c4 : (g_X10_isReached M r) = 0) => ?_) (fun (c4 : ¬ (g_X10_isReached M r) = 0) => ?_)
        · skip
          refine zT.run [(.bipush 8, 0, 0, 0)] (pe := 52) (ls' := [some (.ref 0), some (.int (nI r))]) (st' := [.int 8]) (M' := M) (by decide +kernel) rfl ?_
          exact zT.iret (ty := Jvm.ClassFile.FieldType.int) (by simp only [g_X10_noSeal, if_pos c1, if_neg c2, if_pos c3, if_pos c4]; try rfl) rfl rfl rfl (by decide +kernel)
        · skip
          refine zT.run [(.iconst 0, 0, 0, 0), (.goto 5, 0, 0, 0)] (pe := 52) (ls' := [some (.ref 0), some (.int (nI r))]) (st' := [.int 0]) (M' := M) (by decide +kernel) rfl ?_
          exact zT.iret (ty := Jvm.ClassFile.FieldType.int) (by simp only [g_X10_noSeal, if_pos c1, if_neg c2, if_pos c3, if_neg c4]; try rfl) rfl rfl rfl (by decide +kernel)
      · skip
        refine zT.run [(.bipush 7, 0, 0, 0), (.goto 17, 0, 0, 0)] (pe := 52) (ls' := [some (.ref 0), some (.int (nI r))]) (st' := [.int 7]) (M' := M) (by decide +kernel) rfl ?_
        exact zT.iret (ty := Jvm.ClassFile.FieldType.int) (by simp only [g_X10_noSeal, if_pos c1, if_neg c2, if_neg c3]; try rfl) rfl rfl rfl (by decide +kernel)
    · skip
      refine zT.run [(.bipush 6, 0, 0, 0)] (pe := 22) (ls' := [some (.ref 0), some (.int (nI r))]) (st' := [.int 6]) (M' := M) (by decide +kernel) rfl ?_
      exact zT.iret (ty := Jvm.ClassFile.FieldType.int) (by simp only [g_X10_noSeal, if_pos c1, if_pos c2]; try rfl) rfl rfl rfl (by decide +kernel)
  · skip
    refine zT.run [(.iconst 5, 0, 0, 0)] (pe := 11) (ls' := [some (.ref 0), some (.int (nI r))]) (st' := [.int 5]) (M' := M) (by decide +kernel) rfl ?_
    exact zT.iret (ty := Jvm.ClassFile.FieldType.int) (by simp only [g_X10_noSeal, if_neg c1]; try rfl) rfl rfl rfl (by decide +kernel)
theorem k_X10_noSeal : zCal yy_X10_noSeal 1 := ⟨⟨⟨⟨zIn (w := 6014) (by decide +kernel) rfl, zIn (w := 1012) (by decide +kernel) rfl⟩, by decide +kernel⟩, by decide +kernel⟩, ⟨zIn (w := 6013) (by decide +kernel) rfl, zIn (w := 37) (by decide +kernel) rfl⟩⟩
noncomputable abbrev yy_X10_sealIt : zY := (yX10_sealIt, cX10_sealIt, 3, (some Jvm.ClassFile.FieldType.int), 2, 45)
noncomputable def g_X10_sealIt (M : zM) (n : Nat) (r : Nat) (x : Int32) : Int32 × zM := ((g_X10_votesOf (g_X10_put (g_X10_put M r 6 1) r 8 x) n 1), (g_X10_put (g_X10_put M r 6 1) r 8 x))
set_option maxRecDepth 100000 in
theorem c_X10_sealIt (M : zM) (gp : Nat → Option Nat) (n : Nat) (r : Nat) (x : Int32) (hn : M 1 0 = nI n) (h9 : n ≤ 9) (h_r : r < 9) : zC yy_X10_sealIt 0 0 [.ref 0, .int (nI r), .int x] (sh_Model gp) M (some (.int (g_X10_sealIt M n r x).1)) (sh_Model gp) (g_X10_sealIt M n r x).2 := by
  refine zC.of (by decide +kernel) rfl (Nat.le_of_ble_eq_true rfl) ?_
  refine zT.run [(.aload_n 0, 0, 0, 0), (.iload_n 1, 0, 0, 0), (.bipush 6, 0, 0, 0), (.iconst 1, 0, 0, 0)] (pe := 5) (ls' := [some (.ref 0), some (.int (nI r)), some (.int x)]) (st' := [.int 1, .int 6, .int (nI r), .ref 0]) (M' := M) (by decide +kernel) rfl ?_
  refine zT.cV_all (o := 0) (idx := 76) (av := [.int (nI r), .int (nI 6), .int 1]) (rv := none) (st := []) (S1 := []) (c_X10_put M gp r 6 1 (by omega) (by decide)) k_X10_put _ _ rfl rfl rfl (zIn (w := 5100) (by decide +kernel) rfl) (by decide +kernel) (by decide +kernel) rfl (Nat.le_of_ble_eq_true rfl) rfl ?_
  refine zT.run [(.aload_n 0, 0, 0, 0), (.iload_n 1, 0, 0, 0), (.bipush 8, 0, 0, 0), (.iload_n 2, 0, 0, 0)] (pe := 13) (ls' := [some (.ref 0), some (.int (nI r)), some (.int x)]) (st' := [.int x, .int 8, .int (nI r), .ref 0]) (M' := (g_X10_put M r 6 1)) (by decide +kernel) rfl ?_
  refine zT.cV_all (o := 0) (idx := 76) (av := [.int (nI r), .int (nI 8), .int x]) (rv := none) (st := []) (S1 := []) (c_X10_put (g_X10_put M r 6 1) gp r 8 x (by omega) (by decide)) k_X10_put _ _ rfl rfl rfl (zIn (w := 5100) (by decide +kernel) rfl) (by decide +kernel) (by decide +kernel) rfl (Nat.le_of_ble_eq_true rfl) rfl ?_
  refine zT.run [(.aload_n 0, 0, 0, 0), (.iconst 1, 0, 0, 0)] (pe := 18) (ls' := [some (.ref 0), some (.int (nI r)), some (.int x)]) (st' := [.int 1, .ref 0]) (M' := (g_X10_put (g_X10_put M r 6 1) r 8 x)) (by decide +kernel) rfl ?_
  refine zT.cV_own (o := 0) (idx := 124) (av := [.int 1]) (rv := (some (.int (g_X10_votesOf (g_X10_put (g_X10_put M r 6 1) r 8 x) n 1)))) (st := []) (S1 := [.int (g_X10_votesOf (g_X10_put (g_X10_put M r 6 1) r 8 x) n 1)]) (c_X10_votesOf (g_X10_put (g_X10_put M r 6 1) r 8 x) gp n 1 (((lo_X10_put (g_X10_put M r 6 1) r 8 x 0 (by decide)).trans (lo_X10_put M r 6 1 0 (by decide))).trans hn) h9) k_X10_votesOf _ _ rfl rfl rfl (zIn (w := 5141) (by decide +kernel) rfl) (by decide +kernel) (by decide +kernel) rfl (Nat.le_of_ble_eq_true rfl) rfl ?_
  exact zT.iret (ty := Jvm.ClassFile.FieldType.int) (by simp only [g_X10_sealIt]; try rfl) (by simp only [g_X10_sealIt]; try rfl) rfl rfl (by decide +kernel)
theorem fr_X10_sealIt (M : zM) (n : Nat) (r : Nat) (x : Int32) (o : Nat) (ho : o ≠ 1) : (g_X10_sealIt M n r x).2 o = M o := by
  simp only [g_X10_sealIt]
  (repeat' split) <;> simp only [zU_ne ho, zUa_ne ho, (fun (MM : zM) (r : Nat) (w : Nat) (v : Int32) => fr_X10_put MM r w v o (by omega))]
theorem lo_X10_sealIt (M : zM) (n : Nat) (r : Nat) (x : Int32) (o : Nat) (ho : o < 10) : (g_X10_sealIt M n r x).2 1 o = M 1 o := by
  simp only [g_X10_sealIt]
  (repeat' split) <;> (try simp only [(fun (MM : zM) (r : Nat) (w : Nat) (v : Int32) => lo_X10_put MM r w v o (by omega))])
theorem k_X10_sealIt : zCal yy_X10_sealIt 2 := ⟨⟨⟨⟨zIn (w := 5140) (by decide +kernel) rfl, zIn (w := 1012) (by decide +kernel) rfl⟩, by decide +kernel⟩, by decide +kernel⟩, ⟨zIn (w := 5139) (by decide +kernel) rfl, zIn (w := 28) (by decide +kernel) rfl⟩⟩
noncomputable abbrev yy_X10_noClose : zY := (yX10_noClose, cX10_noClose, 1, (some Jvm.ClassFile.FieldType.int), 2, 45)
noncomputable def g_X10_noClose (M : zM) (n : Nat) : Int32 := (if (M 1 4) = 1 then (if (g_X10_need M) ≤ (g_X10_votesOf M n 1) then 0 else 9) else 5)
set_option maxRecDepth 100000 in
theorem c_X10_noClose (M : zM) (gp : Nat → Option Nat) (n : Nat) (hn : M 1 0 = nI n) (h9 : n ≤ 9) : zC yy_X10_noClose 0 0 [.ref 0] (sh_Model gp) M (some (.int (g_X10_noClose M n))) (sh_Model gp) M := by
  refine zC.of (by decide +kernel) rfl (Nat.le_of_ble_eq_true rfl) ?_
  refine zT.run [(.aload_n 0, 0, 0, 0), (.getfield 9, 8, 1, 5150), (.iconst 4, 0, 0, 0)] (pe := 5) (ls' := [some (.ref 0)]) (st' := [.int 4, .ref 1]) (M' := M) (by decide +kernel) rfl ?_
  refine zT.iald (n := 187) (k := 4) rfl rfl (by decide) (by decide) (by decide +kernel) ?_
  refine zT.run [(.iconst 1, 0, 0, 0)] (pe := 7) (ls' := [some (.ref 0)]) (st' := [.int 1, .int (M 1 4)]) (M' := M) (by decide +kernel) rfl ?_
  refine zT.ceq (tgt := 14) (off := 7) (by decide +kernel) (by decide) (fun (c1 : (M 1 4) = 1) => ?_) (fun (c1 : ¬ (M 1 4) = 1) => ?_)
  · skip
    refine zT.run [(.aload_n 0, 0, 0, 0), (.iconst 1, 0, 0, 0)] (pe := 16) (ls' := [some (.ref 0)]) (st' := [.int 1, .ref 0]) (M' := M) (by decide +kernel) rfl ?_
    refine zT.cV_own (o := 0) (idx := 124) (av := [.int 1]) (rv := (some (.int (g_X10_votesOf M n 1)))) (st := []) (S1 := [.int (g_X10_votesOf M n 1)]) (c_X10_votesOf M gp n 1 hn h9) k_X10_votesOf _ _ rfl rfl rfl (zIn (w := 5141) (by decide +kernel) rfl) (by decide +kernel) (by decide +kernel) rfl (Nat.le_of_ble_eq_true rfl) rfl ?_
    refine zT.run [(.aload_n 0, 0, 0, 0)] (pe := 20) (ls' := [some (.ref 0)]) (st' := [.ref 0, .int (g_X10_votesOf M n 1)]) (M' := M) (by decide +kernel) rfl ?_
    refine zT.cV_own (o := 0) (idx := 136) (av := []) (rv := (some (.int (g_X10_need M)))) (st := [.int (g_X10_votesOf M n 1)]) (S1 := [.int (g_X10_need M), .int (g_X10_votesOf M n 1)]) (c_X10_need M gp) k_X10_need _ _ rfl rfl rfl (zIn (w := 6031) (by decide +kernel) rfl) (by decide +kernel) (by decide +kernel) rfl (Nat.le_of_ble_eq_true rfl) rfl ?_
    refine zT.cge (tgt := 31) (off := 8) (by decide +kernel) (by decide) (fun (c2 : (g_X10_need M) ≤ (g_X10_votesOf M n 1)) => ?_) (fun (c2 : ¬ (g_X10_need M) ≤ (g_X10_votesOf M n 1)) => ?_)
    · skip
      refine zT.run [(.iconst 0, 0, 0, 0)] (pe := 32) (ls' := [some (.ref 0)]) (st' := [.int 0]) (M' := M) (by decide +kernel) rfl ?_
      exact zT.iret (ty := Jvm.ClassFile.FieldType.int) (by simp only [g_X10_noClose, if_pos c1, if_pos c2]; try rfl) rfl rfl rfl (by decide +kernel)
    · skip
      refine zT.run [(.bipush 9, 0, 0, 0), (.goto 4, 0, 0, 0)] (pe := 32) (ls' := [some (.ref 0)]) (st' := [.int 9]) (M' := M) (by decide +kernel) rfl ?_
      exact zT.iret (ty := Jvm.ClassFile.FieldType.int) (by simp only [g_X10_noClose, if_pos c1, if_neg c2]; try rfl) rfl rfl rfl (by decide +kernel)
  · skip
    refine zT.run [(.iconst 5, 0, 0, 0), (.goto 21, 0, 0, 0)] (pe := 32) (ls' := [some (.ref 0)]) (st' := [.int 5]) (M' := M) (by decide +kernel) rfl ?_
    exact zT.iret (ty := Jvm.ClassFile.FieldType.int) (by simp only [g_X10_noClose, if_neg c1]; try rfl) rfl rfl rfl (by decide +kernel)
theorem k_X10_noClose : zCal yy_X10_noClose 0 := ⟨⟨⟨⟨zIn (w := 6030) (by decide +kernel) rfl, zIn (w := 1012) (by decide +kernel) rfl⟩, by decide +kernel⟩, by decide +kernel⟩, ⟨zIn (w := 6029) (by decide +kernel) rfl, zIn (w := 39) (by decide +kernel) rfl⟩⟩
noncomputable abbrev yy_X10_closeIt : zY := (yX10_closeIt, cX10_closeIt, 1, (some Jvm.ClassFile.FieldType.int), 2, 45)
noncomputable def g_X10_closeIt (M : zM) (n : Nat) : Int32 × zM := ((g_X10_votesOf (zU M 1 4 2) n 1), (zU M 1 4 2))
set_option maxRecDepth 100000 in
theorem c_X10_closeIt (M : zM) (gp : Nat → Option Nat) (n : Nat) (hn : M 1 0 = nI n) (h9 : n ≤ 9) : zC yy_X10_closeIt 0 0 [.ref 0] (sh_Model gp) M (some (.int (g_X10_closeIt M n).1)) (sh_Model gp) (g_X10_closeIt M n).2 := by
  refine zC.of (by decide +kernel) rfl (Nat.le_of_ble_eq_true rfl) ?_
  refine zT.run [(.aload_n 0, 0, 0, 0), (.getfield 9, 8, 1, 5150), (.iconst 4, 0, 0, 0), (.iconst 2, 0, 0, 0)] (pe := 6) (ls' := [some (.ref 0)]) (st' := [.int 2, .int 4, .ref 1]) (M' := M) (by decide +kernel) rfl ?_
  refine zT.iast (n := 187) (k := 4) rfl rfl (by decide) (by decide) (by decide +kernel) ?_
  refine zT.run [(.aload_n 0, 0, 0, 0), (.iconst 1, 0, 0, 0)] (pe := 9) (ls' := [some (.ref 0)]) (st' := [.int 1, .ref 0]) (M' := (zU M 1 4 2)) (by decide +kernel) rfl ?_
  refine zT.cV_own (o := 0) (idx := 124) (av := [.int 1]) (rv := (some (.int (g_X10_votesOf (zU M 1 4 2) n 1)))) (st := []) (S1 := [.int (g_X10_votesOf (zU M 1 4 2) n 1)]) (c_X10_votesOf (zU M 1 4 2) gp n 1 hn h9) k_X10_votesOf _ _ rfl rfl rfl (zIn (w := 5141) (by decide +kernel) rfl) (by decide +kernel) (by decide +kernel) rfl (Nat.le_of_ble_eq_true rfl) rfl ?_
  exact zT.iret (ty := Jvm.ClassFile.FieldType.int) (by simp only [g_X10_closeIt]; try rfl) (by simp only [g_X10_closeIt]; try rfl) rfl rfl (by decide +kernel)
theorem fr_X10_closeIt (M : zM) (n : Nat) (o : Nat) (ho : o ≠ 1) : (g_X10_closeIt M n).2 o = M o := by
  simp only [g_X10_closeIt]
  (repeat' split) <;> simp only [zU_ne ho, zUa_ne ho]
theorem lo_X10_closeIt (M : zM) (n : Nat) (o : Nat) (ho : o < 10 ∧ o ≠ 4) : (g_X10_closeIt M n).2 1 o = M 1 o := by
  simp only [g_X10_closeIt]
  (repeat' split) <;> (try simp only [zU_k (c := 1) (i := 4) (o := o) (by omega)])
theorem k_X10_closeIt : zCal yy_X10_closeIt 0 := ⟨⟨⟨⟨zIn (w := 6038) (by decide +kernel) rfl, zIn (w := 1012) (by decide +kernel) rfl⟩, by decide +kernel⟩, by decide +kernel⟩, ⟨zIn (w := 6037) (by decide +kernel) rfl, zIn (w := 41) (by decide +kernel) rfl⟩⟩
noncomputable abbrev yy_X10_noBreak : zY := (yX10_noBreak, cX10_noBreak, 2, (some Jvm.ClassFile.FieldType.int), 3, 65)
noncomputable def g_X10_noBreak (M : zM) (r : Nat) : Int32 := (if (M 1 4) = 2 then (if (g_X10_isOnRoll M (nI r)) = 0 then 6 else (if (g_X10_of M r 6) = 1 then (if (g_X10_isReached M r) = 0 then 8 else 0) else 11)) else 10)
set_option maxRecDepth 100000 in
theorem c_X10_noBreak (M : zM) (gp : Nat → Option Nat) (r : Nat) (hd : zHd M) (h_r : r < 9) : zC yy_X10_noBreak 0 0 [.ref 0, .int (nI r)] (sh_Model gp) M (some (.int (g_X10_noBreak M r))) (sh_Model gp) M := by
  refine zC.of (by decide +kernel) rfl (Nat.le_of_ble_eq_true rfl) ?_
  refine zT.run [(.aload_n 0, 0, 0, 0), (.getfield 9, 8, 1, 5150), (.iconst 4, 0, 0, 0)] (pe := 5) (ls' := [some (.ref 0), some (.int (nI r))]) (st' := [.int 4, .ref 1]) (M' := M) (by decide +kernel) rfl ?_
  refine zT.iald (n := 187) (k := 4) rfl rfl (by decide) (by decide) (by decide +kernel) ?_
  refine zT.run [(.iconst 2, 0, 0, 0)] (pe := 7) (ls' := [some (.ref 0), some (.int (nI r))]) (st' := [.int 2, .int (M 1 4)]) (M' := M) (by decide +kernel) rfl ?_
  refine zT.ceq (tgt := 13) (off := 6) (by decide +kernel) (by decide) (fun (c1 : (M 1 4) = 2) => ?_) (fun (c1 : ¬ (M 1 4) = 2) => ?_)
  · skip
    refine zT.run [(.aload_n 0, 0, 0, 0), (.iload_n 1, 0, 0, 0)] (pe := 15) (ls' := [some (.ref 0), some (.int (nI r))]) (st' := [.int (nI r), .ref 0]) (M' := M) (by decide +kernel) rfl ?_
    refine zT.cV_own (o := 0) (idx := 106) (av := [.int (nI r)]) (rv := (some (.int (g_X10_isOnRoll M (nI r))))) (st := []) (S1 := [.int (g_X10_isOnRoll M (nI r))]) (c_X10_isOnRoll M gp (nI r)) k_X10_isOnRoll _ _ rfl rfl rfl (zIn (w := 5145) (by decide +kernel) rfl) (by decide +kernel) (by decide +kernel) rfl (Nat.le_of_ble_eq_true rfl) rfl ?_
    refine zT.zne (tgt := 24) (off := 6) (by decide +kernel) (by decide) (fun (c2 : ¬ (g_X10_isOnRoll M (nI r)) = 0) => ?_) (fun (c2 : (g_X10_isOnRoll M (nI r)) = 0) => ?_)
    · skip
      refine zT.run [(.aload_n 0, 0, 0, 0), (.iload_n 1, 0, 0, 0), (.bipush 6, 0, 0, 0)] (pe := 28) (ls' := [some (.ref 0), some (.int (nI r))]) (st' := [.int 6, .int (nI r), .ref 0]) (M' := M) (by decide +kernel) rfl ?_
      refine zT.cV_own (o := 0) (idx := 80) (av := [.int (nI r), .int (nI 6)]) (rv := (some (.int (g_X10_of M r 6)))) (st := []) (S1 := [.int (g_X10_of M r 6)]) (c_X10_of M gp r 6 (by omega) (by decide)) k_X10_of _ _ rfl rfl rfl (zIn (w := 5108) (by decide +kernel) rfl) (by decide +kernel) (by decide +kernel) rfl (Nat.le_of_ble_eq_true rfl) rfl ?_
      refine zT.run [(.iconst 1, 0, 0, 0)] (pe := 32) (ls' := [some (.ref 0), some (.int (nI r))]) (st' := [.int 1, .int (g_X10_of M r 6)]) (M' := M) (by decide +kernel) rfl ?_
      refine zT.ceq (tgt := 40) (off := 8) (by decide +kernel) (by decide) (fun (c3 : (g_X10_of M r 6) = 1) => ?_) (fun (c3 : ¬ (g_X10_of M r 6) = 1) => ?_)
      · skip
        refine zT.run [(.aload_n 0, 0, 0, 0), (.iload_n 1, 0, 0, 0)] (pe := 42) (ls' := [some (.ref 0), some (.int (nI r))]) (st' := [.int (nI r), .ref 0]) (M' := M) (by decide +kernel) rfl ?_
        refine zT.cV_own (o := 0) (idx := 133) (av := [.int (nI r)]) (rv := (some (.int (g_X10_isReached M r)))) (st := []) (S1 := [.int (g_X10_isReached M r)]) (c_X10_isReached M gp r hd (by omega)) k_X10_isReached _ _ rfl rfl rfl (zIn (w := 6015) (by decide +kernel) rfl) (by decide +kernel) (by decide +kernel) rfl (Nat.le_of_ble_eq_true rfl) rfl ?_
        refine zT.zeq (tgt := 52) (off := 7) (by decide +kernel) (by decide) (fun (c4 : (g_X10_isReached M r) = 0) => ?_) (fun (c4 : ¬ (g_X10_isReached M r) = 0) => ?_)
        · skip
          refine zT.run [(.bipush 8, 0, 0, 0)] (pe := 54) (ls' := [some (.ref 0), some (.int (nI r))]) (st' := [.int 8]) (M' := M) (by decide +kernel) rfl ?_
          exact zT.iret (ty := Jvm.ClassFile.FieldType.int) (by simp only [g_X10_noBreak, if_pos c1, if_neg c2, if_pos c3, if_pos c4]; try rfl) rfl rfl rfl (by decide +kernel)
        · skip
          refine zT.run [(.iconst 0, 0, 0, 0), (.goto 5, 0, 0, 0)] (pe := 54) (ls' := [some (.ref 0), some (.int (nI r))]) (st' := [.int 0]) (M' := M) (by decide +kernel) rfl ?_
          exact zT.iret (ty := Jvm.ClassFile.FieldType.int) (by simp only [g_X10_noBreak, if_pos c1, if_neg c2, if_pos c3, if_neg c4]; try rfl) rfl rfl rfl (by decide +kernel)
      · skip
        refine zT.run [(.bipush 11, 0, 0, 0), (.goto 17, 0, 0, 0)] (pe := 54) (ls' := [some (.ref 0), some (.int (nI r))]) (st' := [.int 11]) (M' := M) (by decide +kernel) rfl ?_
        exact zT.iret (ty := Jvm.ClassFile.FieldType.int) (by simp only [g_X10_noBreak, if_pos c1, if_neg c2, if_neg c3]; try rfl) rfl rfl rfl (by decide +kernel)
    · skip
      refine zT.run [(.bipush 6, 0, 0, 0)] (pe := 23) (ls' := [some (.ref 0), some (.int (nI r))]) (st' := [.int 6]) (M' := M) (by decide +kernel) rfl ?_
      exact zT.iret (ty := Jvm.ClassFile.FieldType.int) (by simp only [g_X10_noBreak, if_pos c1, if_pos c2]; try rfl) rfl rfl rfl (by decide +kernel)
  · skip
    refine zT.run [(.bipush 10, 0, 0, 0)] (pe := 12) (ls' := [some (.ref 0), some (.int (nI r))]) (st' := [.int 10]) (M' := M) (by decide +kernel) rfl ?_
    exact zT.iret (ty := Jvm.ClassFile.FieldType.int) (by simp only [g_X10_noBreak, if_neg c1]; try rfl) rfl rfl rfl (by decide +kernel)
theorem k_X10_noBreak : zCal yy_X10_noBreak 1 := ⟨⟨⟨⟨zIn (w := 6046) (by decide +kernel) rfl, zIn (w := 1012) (by decide +kernel) rfl⟩, by decide +kernel⟩, by decide +kernel⟩, ⟨zIn (w := 6045) (by decide +kernel) rfl, zIn (w := 42) (by decide +kernel) rfl⟩⟩
noncomputable abbrev yy_X10_breakIt : zY := (yX10_breakIt, cX10_breakIt, 5, (some Jvm.ClassFile.FieldType.int), 3, 65)
noncomputable def m_X10_breakIt_1 (M : zM) (r : Nat) (cd : Nat) (x : Int32) : zM := (g_X10_put M r 6 (if (if (g_X10_sealOf (nI cd) x (M 1 5)) = (g_X10_of M r 8) then (g_X10_spoiling M r cd) else (1 : Int32)) = 0 then (2 : Int32) else (3 : Int32)))
noncomputable def m_X10_breakIt_2 (M : zM) (r : Nat) (cd : Nat) (x : Int32) : zM := (g_X10_put (m_X10_breakIt_1 M r cd x) r 7 (if (if (g_X10_sealOf (nI cd) x (M 1 5)) = (g_X10_of M r 8) then (g_X10_spoiling M r cd) else (1 : Int32)) = 0 then (nI cd) else (if (g_X10_sealOf (nI cd) x (M 1 5)) = (g_X10_of M r 8) then (g_X10_spoiling M r cd) else (1 : Int32))))
noncomputable def g_X10_breakIt (M : zM) (r : Nat) (cd : Nat) (x : Int32) : Int32 × zM := ((if (g_X10_sealOf (nI cd) x (M 1 5)) = (g_X10_of M r 8) then (g_X10_spoiling M r cd) else (1 : Int32)), (m_X10_breakIt_2 M r cd x))
set_option maxRecDepth 100000 in
theorem c_X10_breakIt (M : zM) (gp : Nat → Option Nat) (r : Nat) (cd : Nat) (x : Int32) (h_r : r < 9) (h_cd : cd < 9) : zC yy_X10_breakIt 0 0 [.ref 0, .int (nI r), .int (nI cd), .int x] (sh_Model gp) M (some (.int (g_X10_breakIt M r cd x).1)) (sh_Model gp) (g_X10_breakIt M r cd x).2 := by
  refine zC.of (by decide +kernel) rfl (Nat.le_of_ble_eq_true rfl) ?_
  refine zT.run [(.iload_n 2, 0, 0, 0), (.iload_n 3, 0, 0, 0), (.aload_n 0, 0, 0, 0), (.getfield 9, 8, 1, 5150), (.iconst 5, 0, 0, 0)] (pe := 7) (ls' := [some (.ref 0), some (.int (nI r)), some (.int (nI cd)), some (.int x), none]) (st' := [.int 5, .ref 1, .int x, .int (nI cd)]) (M' := M) (by decide +kernel) rfl ?_
  refine zT.iald (n := 187) (k := 5) rfl rfl (by decide) (by decide) (by decide +kernel) ?_
  refine zT.cS_nil (idx := 53) (av := [.int (nI cd), .int x, .int (M 1 5)]) (rv := (some (.int (g_X10_sealOf (nI cd) x (M 1 5))))) (st := []) (S1 := [.int (g_X10_sealOf (nI cd) x (M 1 5))]) (c_X10_sealOf (nI cd) x (M 1 5)) k_X10_sealOf rfl (zIn (w := 5128) (by decide +kernel) rfl) (by decide +kernel) (by decide +kernel) rfl (Nat.le_of_ble_eq_true rfl) rfl ?_
  refine zT.run [(.aload_n 0, 0, 0, 0), (.iload_n 1, 0, 0, 0), (.bipush 8, 0, 0, 0)] (pe := 15) (ls' := [some (.ref 0), some (.int (nI r)), some (.int (nI cd)), some (.int x), none]) (st' := [.int 8, .int (nI r), .ref 0, .int (g_X10_sealOf (nI cd) x (M 1 5))]) (M' := M) (by decide +kernel) rfl ?_
  refine zT.cV_own (o := 0) (idx := 80) (av := [.int (nI r), .int (nI 8)]) (rv := (some (.int (g_X10_of M r 8)))) (st := [.int (g_X10_sealOf (nI cd) x (M 1 5))]) (S1 := [.int (g_X10_of M r 8), .int (g_X10_sealOf (nI cd) x (M 1 5))]) (c_X10_of M gp r 8 (by omega) (by decide)) k_X10_of _ _ rfl rfl rfl (zIn (w := 5108) (by decide +kernel) rfl) (by decide +kernel) (by decide +kernel) rfl (Nat.le_of_ble_eq_true rfl) rfl ?_
  refine zT.join (31, [some (.ref 0), some (.int (nI r)), some (.int (nI cd)), some (.int x), none], [.int (if (g_X10_sealOf (nI cd) x (M 1 5)) = (g_X10_of M r 8) then (g_X10_spoiling M r cd) else (1 : Int32))], (sh_Model gp), M) ?_ ?_
  · refine zT.ceq (tgt := 25) (off := 7) (by decide +kernel) (by decide) (fun (c1 : (g_X10_sealOf (nI cd) x (M 1 5)) = (g_X10_of M r 8)) => ?_) (fun (c1 : ¬ (g_X10_sealOf (nI cd) x (M 1 5)) = (g_X10_of M r 8)) => ?_)
    · skip
      refine zT.run [(.aload_n 0, 0, 0, 0), (.iload_n 1, 0, 0, 0), (.iload_n 2, 0, 0, 0)] (pe := 28) (ls' := [some (.ref 0), some (.int (nI r)), some (.int (nI cd)), some (.int x), none]) (st' := [.int (nI cd), .int (nI r), .ref 0]) (M' := M) (by decide +kernel) rfl ?_
      refine zT.cV_own (o := 0) (idx := 140) (av := [.int (nI r), .int (nI cd)]) (rv := (some (.int (g_X10_spoiling M r cd)))) (st := []) (S1 := [.int (g_X10_spoiling M r cd)]) (c_X10_spoiling M gp r cd (by omega) (by omega)) k_X10_spoiling _ _ rfl rfl rfl (zIn (w := 6051) (by decide +kernel) rfl) (by decide +kernel) (by decide +kernel) rfl (Nat.le_of_ble_eq_true rfl) rfl ?_
      exact zT.here (by simp only [if_pos c1]; try rfl)
    · skip
      refine zT.run [(.iconst 1, 0, 0, 0), (.goto 9, 0, 0, 0)] (pe := 31) (ls' := [some (.ref 0), some (.int (nI r)), some (.int (nI cd)), some (.int x), none]) (st' := [.int 1]) (M' := M) (by decide +kernel) rfl ?_
      exact zT.here (by simp only [if_neg c1]; try rfl)
  · skip
    refine zT.run [(.istore 4, 0, 0, 0), (.aload_n 0, 0, 0, 0), (.iload_n 1, 0, 0, 0), (.bipush 6, 0, 0, 0), (.iload 4, 0, 0, 0)] (pe := 39) (ls' := [some (.ref 0), some (.int (nI r)), some (.int (nI cd)), some (.int x), some (.int (if (g_X10_sealOf (nI cd) x (M 1 5)) = (g_X10_of M r 8) then (g_X10_spoiling M r cd) else (1 : Int32)))]) (st' := [.int (if (g_X10_sealOf (nI cd) x (M 1 5)) = (g_X10_of M r 8) then (g_X10_spoiling M r cd) else (1 : Int32)), .int 6, .int (nI r), .ref 0]) (M' := M) (by decide +kernel) rfl ?_
    refine zT.join (47, [some (.ref 0), some (.int (nI r)), some (.int (nI cd)), some (.int x), some (.int (if (g_X10_sealOf (nI cd) x (M 1 5)) = (g_X10_of M r 8) then (g_X10_spoiling M r cd) else (1 : Int32)))], [.int (if (if (g_X10_sealOf (nI cd) x (M 1 5)) = (g_X10_of M r 8) then (g_X10_spoiling M r cd) else (1 : Int32)) = 0 then (2 : Int32) else (3 : Int32)), .int 6, .int (nI r), .ref 0], (sh_Model gp), M) ?_ ?_
    · refine zT.zne (tgt := 46) (off := 7) (by decide +kernel) (by decide) (fun (c2 : ¬ (if (g_X10_sealOf (nI cd) x (M 1 5)) = (g_X10_of M r 8) then (g_X10_spoiling M r cd) else (1 : Int32)) = 0) => ?_) (fun (c2 : (if (g_X10_sealOf (nI cd) x (M 1 5)) = (g_X10_of M r 8) then (g_X10_spoiling M r cd) else (1 : Int32)) = 0) => ?_)
      · skip
        refine zT.run [(.iconst 3, 0, 0, 0)] (pe := 47) (ls' := [some (.ref 0), some (.int (nI r)), some (.int (nI cd)), some (.int x), some (.int (if (g_X10_sealOf (nI cd) x (M 1 5)) = (g_X10_of M r 8) then (g_X10_spoiling M r cd) else (1 : Int32)))]) (st' := [.int 3, .int 6, .int (nI r), .ref 0]) (M' := M) (by decide +kernel) rfl ?_
        exact zT.here (by simp only [if_neg c2]; try rfl)
      · skip
        refine zT.run [(.iconst 2, 0, 0, 0), (.goto 4, 0, 0, 0)] (pe := 47) (ls' := [some (.ref 0), some (.int (nI r)), some (.int (nI cd)), some (.int x), some (.int (if (g_X10_sealOf (nI cd) x (M 1 5)) = (g_X10_of M r 8) then (g_X10_spoiling M r cd) else (1 : Int32)))]) (st' := [.int 2, .int 6, .int (nI r), .ref 0]) (M' := M) (by decide +kernel) rfl ?_
        exact zT.here (by simp only [if_pos c2]; try rfl)
    · skip
      refine zT.cV_all (o := 0) (idx := 76) (av := [.int (nI r), .int (nI 6), .int (if (if (g_X10_sealOf (nI cd) x (M 1 5)) = (g_X10_of M r 8) then (g_X10_spoiling M r cd) else (1 : Int32)) = 0 then (2 : Int32) else (3 : Int32))]) (rv := none) (st := []) (S1 := []) (c_X10_put M gp r 6 (if (if (g_X10_sealOf (nI cd) x (M 1 5)) = (g_X10_of M r 8) then (g_X10_spoiling M r cd) else (1 : Int32)) = 0 then (2 : Int32) else (3 : Int32)) (by omega) (by decide)) k_X10_put _ _ rfl rfl rfl (zIn (w := 5100) (by decide +kernel) rfl) (by decide +kernel) (by decide +kernel) rfl (Nat.le_of_ble_eq_true rfl) rfl ?_
      refine zT.eqM (M2 := (m_X10_breakIt_1 M r cd x)) rfl ?_
      refine zT.run [(.aload_n 0, 0, 0, 0), (.iload_n 1, 0, 0, 0), (.bipush 7, 0, 0, 0), (.iload 4, 0, 0, 0)] (pe := 56) (ls' := [some (.ref 0), some (.int (nI r)), some (.int (nI cd)), some (.int x), some (.int (if (g_X10_sealOf (nI cd) x (M 1 5)) = (g_X10_of M r 8) then (g_X10_spoiling M r cd) else (1 : Int32)))]) (st' := [.int (if (g_X10_sealOf (nI cd) x (M 1 5)) = (g_X10_of M r 8) then (g_X10_spoiling M r cd) else (1 : Int32)), .int 7, .int (nI r), .ref 0]) (M' := (m_X10_breakIt_1 M r cd x)) (by decide +kernel) rfl ?_
      refine zT.join (65, [some (.ref 0), some (.int (nI r)), some (.int (nI cd)), some (.int x), some (.int (if (g_X10_sealOf (nI cd) x (M 1 5)) = (g_X10_of M r 8) then (g_X10_spoiling M r cd) else (1 : Int32)))], [.int (if (if (g_X10_sealOf (nI cd) x (M 1 5)) = (g_X10_of M r 8) then (g_X10_spoiling M r cd) else (1 : Int32)) = 0 then (nI cd) else (if (g_X10_sealOf (nI cd) x (M 1 5)) = (g_X10_of M r 8) then (g_X10_spoiling M r cd) else (1 : Int32))), .int 7, .int (nI r), .ref 0], (sh_Model gp), (m_X10_breakIt_1 M r cd x)) ?_ ?_
      · refine zT.zne (tgt := 63) (off := 7) (by decide +kernel) (by decide) (fun (c3 : ¬ (if (g_X10_sealOf (nI cd) x (M 1 5)) = (g_X10_of M r 8) then (g_X10_spoiling M r cd) else (1 : Int32)) = 0) => ?_) (fun (c3 : (if (g_X10_sealOf (nI cd) x (M 1 5)) = (g_X10_of M r 8) then (g_X10_spoiling M r cd) else (1 : Int32)) = 0) => ?_)
        · skip
          refine zT.run [(.iload 4, 0, 0, 0)] (pe := 65) (ls' := [some (.ref 0), some (.int (nI r)), some (.int (nI cd)), some (.int x), some (.int (if (g_X10_sealOf (nI cd) x (M 1 5)) = (g_X10_of M r 8) then (g_X10_spoiling M r cd) else (1 : Int32)))]) (st' := [.int (if (g_X10_sealOf (nI cd) x (M 1 5)) = (g_X10_of M r 8) then (g_X10_spoiling M r cd) else (1 : Int32)), .int 7, .int (nI r), .ref 0]) (M' := (m_X10_breakIt_1 M r cd x)) (by decide +kernel) rfl ?_
          exact zT.here (by simp only [if_neg c3]; try rfl)
        · skip
          refine zT.run [(.iload_n 2, 0, 0, 0), (.goto 5, 0, 0, 0)] (pe := 65) (ls' := [some (.ref 0), some (.int (nI r)), some (.int (nI cd)), some (.int x), some (.int (if (g_X10_sealOf (nI cd) x (M 1 5)) = (g_X10_of M r 8) then (g_X10_spoiling M r cd) else (1 : Int32)))]) (st' := [.int (nI cd), .int 7, .int (nI r), .ref 0]) (M' := (m_X10_breakIt_1 M r cd x)) (by decide +kernel) rfl ?_
          exact zT.here (by simp only [if_pos c3]; try rfl)
      · skip
        refine zT.cV_all (o := 0) (idx := 76) (av := [.int (nI r), .int (nI 7), .int (if (if (g_X10_sealOf (nI cd) x (M 1 5)) = (g_X10_of M r 8) then (g_X10_spoiling M r cd) else (1 : Int32)) = 0 then (nI cd) else (if (g_X10_sealOf (nI cd) x (M 1 5)) = (g_X10_of M r 8) then (g_X10_spoiling M r cd) else (1 : Int32)))]) (rv := none) (st := []) (S1 := []) (c_X10_put (m_X10_breakIt_1 M r cd x) gp r 7 (if (if (g_X10_sealOf (nI cd) x (M 1 5)) = (g_X10_of M r 8) then (g_X10_spoiling M r cd) else (1 : Int32)) = 0 then (nI cd) else (if (g_X10_sealOf (nI cd) x (M 1 5)) = (g_X10_of M r 8) then (g_X10_spoiling M r cd) else (1 : Int32))) (by omega) (by decide)) k_X10_put _ _ rfl rfl rfl (zIn (w := 5100) (by decide +kernel) rfl) (by decide +kernel) (by decide +kernel) rfl (Nat.le_of_ble_eq_true rfl) rfl ?_
        refine zT.eqM (M2 := (m_X10_breakIt_2 M r cd x)) rfl ?_
        refine zT.run [(.iload 4, 0, 0, 0)] (pe := 70) (ls' := [some (.ref 0), some (.int (nI r)), some (.int (nI cd)), some (.int x), some (.int (if (g_X10_sealOf (nI cd) x (M 1 5)) = (g_X10_of M r 8) then (g_X10_spoiling M r cd) else (1 : Int32)))]) (st' := [.int (if (g_X10_sealOf (nI cd) x (M 1 5)) = (g_X10_of M r 8) then (g_X10_spoiling M r cd) else (1 : Int32))]) (M' := (m_X10_breakIt_2 M r cd x)) (by decide +kernel) rfl ?_
        exact zT.iret (ty := Jvm.ClassFile.FieldType.int) (by simp only [g_X10_breakIt]; try rfl) (by simp only [g_X10_breakIt]; try rfl) rfl rfl (by decide +kernel)
theorem fr_X10_breakIt (M : zM) (r : Nat) (cd : Nat) (x : Int32) (o : Nat) (ho : o ≠ 1) : (g_X10_breakIt M r cd x).2 o = M o := by
  simp only [g_X10_breakIt]
  (repeat' split) <;> simp only [zU_ne ho, zUa_ne ho, m_X10_breakIt_2, (fun (MM : zM) (r : Nat) (w : Nat) (v : Int32) => fr_X10_put MM r w v o (by omega)), m_X10_breakIt_1]
theorem lo_X10_breakIt (M : zM) (r : Nat) (cd : Nat) (x : Int32) (o : Nat) (ho : o < 10) : (g_X10_breakIt M r cd x).2 1 o = M 1 o := by
  simp only [g_X10_breakIt]
  (repeat' split) <;> (try simp only [m_X10_breakIt_2, (fun (MM : zM) (r : Nat) (w : Nat) (v : Int32) => lo_X10_put MM r w v o (by omega)), m_X10_breakIt_1])
theorem k_X10_breakIt : zCal yy_X10_breakIt 3 := ⟨⟨⟨⟨zIn (w := 6050) (by decide +kernel) rfl, zIn (w := 1012) (by decide +kernel) rfl⟩, by decide +kernel⟩, by decide +kernel⟩, ⟨zIn (w := 6049) (by decide +kernel) rfl, zIn (w := 43) (by decide +kernel) rfl⟩⟩
noncomputable abbrev yy_X10_giveIt : zY := (yX10_giveIt, cX10_giveIt, 1, (some Jvm.ClassFile.FieldType.int), 0, 0)
noncomputable def g_X10_giveIt (M : zM)  : Int32 × zM := ((M 1 5), (zU M 1 4 0))
set_option maxRecDepth 100000 in
theorem c_X10_giveIt (M : zM) (gp : Nat → Option Nat)   : zC yy_X10_giveIt 0 0 [.ref 0] (sh_Model gp) M (some (.int (g_X10_giveIt M).1)) (sh_Model gp) (g_X10_giveIt M).2 := by
  refine zC.of (by decide +kernel) rfl (Nat.le_of_ble_eq_true rfl) ?_
  refine zT.run [(.aload_n 0, 0, 0, 0), (.getfield 9, 8, 1, 5150), (.iconst 4, 0, 0, 0), (.iconst 0, 0, 0, 0)] (pe := 6) (ls' := [some (.ref 0)]) (st' := [.int 0, .int 4, .ref 1]) (M' := M) (by decide +kernel) rfl ?_
  refine zT.iast (n := 187) (k := 4) rfl rfl (by decide) (by decide) (by decide +kernel) ?_
  refine zT.run [(.aload_n 0, 0, 0, 0), (.getfield 9, 8, 1, 5150), (.iconst 5, 0, 0, 0)] (pe := 12) (ls' := [some (.ref 0)]) (st' := [.int 5, .ref 1]) (M' := (zU M 1 4 0)) (by decide +kernel) rfl ?_
  refine zT.iald (n := 187) (k := 5) rfl rfl (by decide) (by decide) (by decide +kernel) ?_
  exact zT.iret (ty := Jvm.ClassFile.FieldType.int) (by simp only [g_X10_giveIt]; try rfl) (by simp only [g_X10_giveIt]; try rfl) rfl rfl (by decide +kernel)
theorem fr_X10_giveIt (M : zM)  (o : Nat) (ho : o ≠ 1) : (g_X10_giveIt M).2 o = M o := by
  simp only [g_X10_giveIt]
  (repeat' split) <;> simp only [zU_ne ho, zUa_ne ho]
theorem lo_X10_giveIt (M : zM)  (o : Nat) (ho : o < 10 ∧ o ≠ 4) : (g_X10_giveIt M).2 1 o = M 1 o := by
  simp only [g_X10_giveIt]
  (repeat' split) <;> (try simp only [zU_k (c := 1) (i := 4) (o := o) (by omega)])
theorem k_X10_giveIt : zCal yy_X10_giveIt 0 := ⟨⟨⟨⟨zIn (w := 6110) (by decide +kernel) rfl, zIn (w := 1012) (by decide +kernel) rfl⟩, by decide +kernel⟩, by decide +kernel⟩, ⟨zIn (w := 6109) (by decide +kernel) rfl, zIn (w := 55) (by decide +kernel) rfl⟩⟩
noncomputable abbrev yy_X10_upIt : zY := (yX10_upIt, cX10_upIt, 4, (some Jvm.ClassFile.FieldType.int), 2, 44)
noncomputable def l_X10_upIt_28 (M : zM) (n : Nat) (r : Nat) (up : Int32) (i2 : Nat) (s2 : zM) : zM := (if (g_X10_of s2 i2 4) = (nI r) then (if (g_X10_areLinked s2 i2 (nI r)) = 0 then s2 else (g_X10_put s2 i2 4 (-1))) else s2)
theorem fr_l_X10_upIt_28 (M : zM) (n : Nat) (r : Nat) (up : Int32) (o : Nat) (ho : o ≠ 1) : ∀ (k : Nat) (s : zM), (zIt (l_X10_upIt_28 M n r up) k s) o = s o := by
  intro k
  induction k with
  | zero => intro s; rfl
  | succ k ih =>
    intro s
    rw [← ih s]
    show (l_X10_upIt_28 M n r up k (zIt (l_X10_upIt_28 M n r up) k s)) o = _
    generalize zIt (l_X10_upIt_28 M n r up) k s = t
    simp only [l_X10_upIt_28]
    (repeat' split) <;> simp only [zU_ne ho, (fun (MM : zM) (r : Nat) (w : Nat) (v : Int32) => fr_X10_put MM r w v o (by omega))]
theorem lo_l_X10_upIt_28 (M : zM) (n : Nat) (r : Nat) (up : Int32) (o : Nat) (ho : o < 10) : ∀ (k : Nat) (s : zM), (zIt (l_X10_upIt_28 M n r up) k s) 1 o = s 1 o := by
  intro k
  induction k with
  | zero => intro s; rfl
  | succ k ih =>
    intro s
    rw [← ih s]
    show (l_X10_upIt_28 M n r up k (zIt (l_X10_upIt_28 M n r up) k s)) 1 o = _
    generalize zIt (l_X10_upIt_28 M n r up) k s = t
    simp only [l_X10_upIt_28]
    (repeat' split) <;> (try simp only [(fun (MM : zM) (r : Nat) (w : Nat) (v : Int32) => lo_X10_put MM r w v o (by omega))])
noncomputable def r_X10_upIt_28 (M : zM) (n : Nat) (r : Nat) (up : Int32) : zM := (zIt (l_X10_upIt_28 M n r up) n (g_X10_put (g_X10_put M r 2 (if up = 0 then (0 : Int32) else (1 : Int32))) r 4 (-1)))
noncomputable def g_X10_upIt (M : zM) (n : Nat) (r : Nat) (up : Int32) : Int32 × zM := (if up = 0 then ((g_X10_ups (r_X10_upIt_28 M n r up) n), (r_X10_upIt_28 M n r up)) else ((g_X10_ups (g_X10_put M r 2 (if up = 0 then (0 : Int32) else (1 : Int32))) n), (g_X10_put M r 2 (if up = 0 then (0 : Int32) else (1 : Int32)))))
set_option maxRecDepth 100000 in
theorem c_X10_upIt (M : zM) (gp : Nat → Option Nat) (n : Nat) (r : Nat) (up : Int32) (hn : M 1 0 = nI n) (h9 : n ≤ 9) (h_r : r < 9) : zC yy_X10_upIt 0 0 [.ref 0, .int (nI r), .int up] (sh_Model gp) M (some (.int (g_X10_upIt M n r up).1)) (sh_Model gp) (g_X10_upIt M n r up).2 := by
  refine zC.of (by decide +kernel) rfl (Nat.le_of_ble_eq_true rfl) ?_
  refine zT.run [(.aload_n 0, 0, 0, 0), (.iload_n 1, 0, 0, 0), (.iconst 2, 0, 0, 0), (.iload_n 2, 0, 0, 0)] (pe := 4) (ls' := [some (.ref 0), some (.int (nI r)), some (.int up), none]) (st' := [.int up, .int 2, .int (nI r), .ref 0]) (M' := M) (by decide +kernel) rfl ?_
  refine zT.join (12, [some (.ref 0), some (.int (nI r)), some (.int up), none], [.int (if up = 0 then (0 : Int32) else (1 : Int32)), .int 2, .int (nI r), .ref 0], (sh_Model gp), M) ?_ ?_
  · refine zT.zeq (tgt := 11) (off := 7) (by decide +kernel) (by decide) (fun (c1 : up = 0) => ?_) (fun (c1 : ¬ up = 0) => ?_)
    · skip
      refine zT.run [(.iconst 0, 0, 0, 0)] (pe := 12) (ls' := [some (.ref 0), some (.int (nI r)), some (.int up), none]) (st' := [.int 0, .int 2, .int (nI r), .ref 0]) (M' := M) (by decide +kernel) rfl ?_
      exact zT.here (by simp only [if_pos c1]; try rfl)
    · skip
      refine zT.run [(.iconst 1, 0, 0, 0), (.goto 4, 0, 0, 0)] (pe := 12) (ls' := [some (.ref 0), some (.int (nI r)), some (.int up), none]) (st' := [.int 1, .int 2, .int (nI r), .ref 0]) (M' := M) (by decide +kernel) rfl ?_
      exact zT.here (by simp only [if_neg c1]; try rfl)
  · skip
    refine zT.cV_all (o := 0) (idx := 76) (av := [.int (nI r), .int (nI 2), .int (if up = 0 then (0 : Int32) else (1 : Int32))]) (rv := none) (st := []) (S1 := []) (c_X10_put M gp r 2 (if up = 0 then (0 : Int32) else (1 : Int32)) (by omega) (by decide)) k_X10_put _ _ rfl rfl rfl (zIn (w := 5100) (by decide +kernel) rfl) (by decide +kernel) (by decide +kernel) rfl (Nat.le_of_ble_eq_true rfl) rfl ?_
    refine zT.run [(.iload_n 2, 0, 0, 0)] (pe := 16) (ls' := [some (.ref 0), some (.int (nI r)), some (.int up), none]) (st' := [.int up]) (M' := (g_X10_put M r 2 (if up = 0 then (0 : Int32) else (1 : Int32)))) (by decide +kernel) rfl ?_
    refine zT.zne (tgt := 70) (off := 54) (by decide +kernel) (by decide) (fun (c2 : ¬ up = 0) => ?_) (fun (c2 : up = 0) => ?_)
    · skip
      refine zT.run [(.aload_n 0, 0, 0, 0)] (pe := 71) (ls' := [some (.ref 0), some (.int (nI r)), some (.int up), none]) (st' := [.ref 0]) (M' := (g_X10_put M r 2 (if up = 0 then (0 : Int32) else (1 : Int32)))) (by decide +kernel) rfl ?_
      refine zT.cV_own (o := 0) (idx := 153) (av := []) (rv := (some (.int (g_X10_ups (g_X10_put M r 2 (if up = 0 then (0 : Int32) else (1 : Int32))) n)))) (st := []) (S1 := [.int (g_X10_ups (g_X10_put M r 2 (if up = 0 then (0 : Int32) else (1 : Int32))) n)]) (c_X10_ups (g_X10_put M r 2 (if up = 0 then (0 : Int32) else (1 : Int32))) gp n ((lo_X10_put M r 2 (if up = 0 then (0 : Int32) else (1 : Int32)) 0 (by decide)).trans hn) h9) k_X10_ups _ _ rfl rfl rfl (zIn (w := 6119) (by decide +kernel) rfl) (by decide +kernel) (by decide +kernel) rfl (Nat.le_of_ble_eq_true rfl) rfl ?_
      exact zT.iret (ty := Jvm.ClassFile.FieldType.int) (by simp only [g_X10_upIt, if_neg c2]; try rfl) (by simp only [g_X10_upIt, if_neg c2]; try rfl) rfl rfl (by decide +kernel)
    · skip
      refine zT.run [(.aload_n 0, 0, 0, 0), (.iload_n 1, 0, 0, 0), (.iconst 4, 0, 0, 0), (.iconst (-1), 0, 0, 0)] (pe := 23) (ls' := [some (.ref 0), some (.int (nI r)), some (.int up), none]) (st' := [.int (-1), .int 4, .int (nI r), .ref 0]) (M' := (g_X10_put M r 2 (if up = 0 then (0 : Int32) else (1 : Int32)))) (by decide +kernel) rfl ?_
      refine zT.cV_all (o := 0) (idx := 76) (av := [.int (nI r), .int (nI 4), .int (-1)]) (rv := none) (st := []) (S1 := []) (c_X10_put (g_X10_put M r 2 (if up = 0 then (0 : Int32) else (1 : Int32))) gp r 4 (-1) (by omega) (by decide)) k_X10_put _ _ rfl rfl rfl (zIn (w := 5100) (by decide +kernel) rfl) (by decide +kernel) (by decide +kernel) rfl (Nat.le_of_ble_eq_true rfl) rfl ?_
      refine zT.run [(.iconst 0, 0, 0, 0), (.istore_n 3, 0, 0, 0)] (pe := 28) (ls' := [some (.ref 0), some (.int (nI r)), some (.int up), some (.int 0)]) (st' := []) (M' := (g_X10_put (g_X10_put M r 2 (if up = 0 then (0 : Int32) else (1 : Int32))) r 4 (-1))) (by decide +kernel) rfl ?_
      refine zT.loop (l_X10_upIt_28 M n r up) (fun (i : Nat) (s : zM) => (28, [some (.ref 0), some (.int (nI r)), some (.int up), some (.int (nI i))], [], (sh_Model gp), s)) n (g_X10_put (g_X10_put M r 2 (if up = 0 then (0 : Int32) else (1 : Int32))) r 4 (-1)) (fun i2 hi2 k2 => ?_) ?_
      · skip
        generalize hs2 : zIt (l_X10_upIt_28 M n r up) i2 (g_X10_put (g_X10_put M r 2 (if up = 0 then (0 : Int32) else (1 : Int32))) r 4 (-1)) = s2 at k2 ⊢
        have hm2 : ∀ o : Nat, (o ≠ 1) → s2 o = (g_X10_put (g_X10_put M r 2 (if up = 0 then (0 : Int32) else (1 : Int32))) r 4 (-1)) o := fun o ho => by rw [← hs2]; exact fr_l_X10_upIt_28 M n r up o ho i2 (g_X10_put (g_X10_put M r 2 (if up = 0 then (0 : Int32) else (1 : Int32))) r 4 (-1))
        have hl2 : ∀ o : Nat, (o < 10) → s2 1 o = (g_X10_put (g_X10_put M r 2 (if up = 0 then (0 : Int32) else (1 : Int32))) r 4 (-1)) 1 o := fun o ho => by rw [← hs2]; exact lo_l_X10_upIt_28 M n r up o ho i2 (g_X10_put (g_X10_put M r 2 (if up = 0 then (0 : Int32) else (1 : Int32))) r 4 (-1))
        show zT _ _ _ _ (28, [some (.ref 0), some (.int (nI r)), some (.int up), some (.int (nI i2))], [], (sh_Model gp), s2)
        refine zT.run [(.iload_n 3, 0, 0, 0), (.aload_n 0, 0, 0, 0), (.getfield 9, 8, 1, 5150), (.iconst 0, 0, 0, 0)] (pe := 34) (ls' := [some (.ref 0), some (.int (nI r)), some (.int up), some (.int (nI i2))]) (st' := [.int 0, .ref 1, .int (nI i2)]) (M' := s2) (by decide +kernel) rfl ?_
        refine zT.iald (n := 187) (k := 0) rfl rfl (by decide) (by decide) (by decide +kernel) ?_
        refine zT.cge (tgt := 70) (off := 35) (by decide +kernel) (by decide) (fun c => absurd c (zGeN (n := n) (((hl2 0 (by decide)).trans ((lo_X10_put (g_X10_put M r 2 (if up = 0 then (0 : Int32) else (1 : Int32))) r 4 (-1) 0 (by decide)).trans (lo_X10_put M r 2 (if up = 0 then (0 : Int32) else (1 : Int32)) 0 (by decide)))).trans hn) (by omega) (by omega))) (fun _ => ?_)
        refine zT.run [(.aload_n 0, 0, 0, 0), (.iload_n 3, 0, 0, 0), (.iconst 4, 0, 0, 0)] (pe := 41) (ls' := [some (.ref 0), some (.int (nI r)), some (.int up), some (.int (nI i2))]) (st' := [.int 4, .int (nI i2), .ref 0]) (M' := s2) (by decide +kernel) rfl ?_
        refine zT.cV_own (o := 0) (idx := 80) (av := [.int (nI i2), .int (nI 4)]) (rv := (some (.int (g_X10_of s2 i2 4)))) (st := []) (S1 := [.int (g_X10_of s2 i2 4)]) (c_X10_of s2 gp i2 4 (by omega) (by decide)) k_X10_of _ _ rfl rfl rfl (zIn (w := 5108) (by decide +kernel) rfl) (by decide +kernel) (by decide +kernel) rfl (Nat.le_of_ble_eq_true rfl) rfl ?_
        refine zT.run [(.iload_n 1, 0, 0, 0)] (pe := 45) (ls' := [some (.ref 0), some (.int (nI r)), some (.int up), some (.int (nI i2))]) (st' := [.int (nI r), .int (g_X10_of s2 i2 4)]) (M' := s2) (by decide +kernel) rfl ?_
        refine zT.cne (tgt := 64) (off := 19) (by decide +kernel) (by decide) (fun (c3 : ¬ (g_X10_of s2 i2 4) = (nI r)) => ?_) (fun (c3 : (g_X10_of s2 i2 4) = (nI r)) => ?_)
        · skip
          refine zT.run [(.iinc 3 1, 0, 0, 0), (.goto (-39), 0, 0, 0)] (pe := 28) (ls' := [some (.ref 0), some (.int (nI r)), some (.int up), some (.int ((nI i2) + 1))]) (st' := []) (M' := s2) (by decide +kernel) rfl ?_
          exact zT.eq (by simp only [l_X10_upIt_28, if_neg c3, nI_succ, zDl]; try rfl) k2
        · skip
          refine zT.run [(.aload_n 0, 0, 0, 0), (.iload_n 3, 0, 0, 0), (.iload_n 1, 0, 0, 0)] (pe := 51) (ls' := [some (.ref 0), some (.int (nI r)), some (.int up), some (.int (nI i2))]) (st' := [.int (nI r), .int (nI i2), .ref 0]) (M' := s2) (by decide +kernel) rfl ?_
          refine zT.cV_own (o := 0) (idx := 90) (av := [.int (nI i2), .int (nI r)]) (rv := (some (.int (g_X10_areLinked s2 i2 (nI r))))) (st := []) (S1 := [.int (g_X10_areLinked s2 i2 (nI r))]) (c_X10_areLinked s2 gp i2 (nI r) (by omega)) k_X10_areLinked _ _ rfl rfl rfl (zIn (w := 5124) (by decide +kernel) rfl) (by decide +kernel) (by decide +kernel) rfl (Nat.le_of_ble_eq_true rfl) rfl ?_
          refine zT.zeq (tgt := 64) (off := 10) (by decide +kernel) (by decide) (fun (c4 : (g_X10_areLinked s2 i2 (nI r)) = 0) => ?_) (fun (c4 : ¬ (g_X10_areLinked s2 i2 (nI r)) = 0) => ?_)
          · skip
            refine zT.run [(.iinc 3 1, 0, 0, 0), (.goto (-39), 0, 0, 0)] (pe := 28) (ls' := [some (.ref 0), some (.int (nI r)), some (.int up), some (.int ((nI i2) + 1))]) (st' := []) (M' := s2) (by decide +kernel) rfl ?_
            exact zT.eq (by simp only [l_X10_upIt_28, if_pos c3, if_pos c4, nI_succ, zDl]; try rfl) k2
          · skip
            refine zT.run [(.aload_n 0, 0, 0, 0), (.iload_n 3, 0, 0, 0), (.iconst 4, 0, 0, 0), (.iconst (-1), 0, 0, 0)] (pe := 61) (ls' := [some (.ref 0), some (.int (nI r)), some (.int up), some (.int (nI i2))]) (st' := [.int (-1), .int 4, .int (nI i2), .ref 0]) (M' := s2) (by decide +kernel) rfl ?_
            refine zT.cV_all (o := 0) (idx := 76) (av := [.int (nI i2), .int (nI 4), .int (-1)]) (rv := none) (st := []) (S1 := []) (c_X10_put s2 gp i2 4 (-1) (by omega) (by decide)) k_X10_put _ _ rfl rfl rfl (zIn (w := 5100) (by decide +kernel) rfl) (by decide +kernel) (by decide +kernel) rfl (Nat.le_of_ble_eq_true rfl) rfl ?_
            refine zT.run [(.iinc 3 1, 0, 0, 0), (.goto (-39), 0, 0, 0)] (pe := 28) (ls' := [some (.ref 0), some (.int (nI r)), some (.int up), some (.int ((nI i2) + 1))]) (st' := []) (M' := (g_X10_put s2 i2 4 (-1))) (by decide +kernel) rfl ?_
            exact zT.eq (by simp only [l_X10_upIt_28, if_pos c3, if_neg c4, nI_succ, zDl]; try rfl) k2
      · skip
        show zT _ _ _ _ (28, [some (.ref 0), some (.int (nI r)), some (.int up), some (.int (nI n))], [], (sh_Model gp), (r_X10_upIt_28 M n r up))
        refine zT.run [(.iload_n 3, 0, 0, 0), (.aload_n 0, 0, 0, 0), (.getfield 9, 8, 1, 5150), (.iconst 0, 0, 0, 0)] (pe := 34) (ls' := [some (.ref 0), some (.int (nI r)), some (.int up), some (.int (nI n))]) (st' := [.int 0, .ref 1, .int (nI n)]) (M' := (r_X10_upIt_28 M n r up)) (by decide +kernel) rfl ?_
        refine zT.iald (n := 187) (k := 0) rfl rfl (by decide) (by decide) (by decide +kernel) ?_
        refine zT.cge (tgt := 70) (off := 35) (by decide +kernel) (by decide) (fun _ => ?_) (fun c => absurd (zGeY (n := n) (((lo_l_X10_upIt_28 M n r up 0 (by decide) n (g_X10_put (g_X10_put M r 2 (if up = 0 then (0 : Int32) else (1 : Int32))) r 4 (-1))).trans ((lo_X10_put (g_X10_put M r 2 (if up = 0 then (0 : Int32) else (1 : Int32))) r 4 (-1) 0 (by decide)).trans (lo_X10_put M r 2 (if up = 0 then (0 : Int32) else (1 : Int32)) 0 (by decide)))).trans hn)) c)
        refine zT.run [(.aload_n 0, 0, 0, 0)] (pe := 71) (ls' := [some (.ref 0), some (.int (nI r)), some (.int up), some (.int (nI n))]) (st' := [.ref 0]) (M' := (r_X10_upIt_28 M n r up)) (by decide +kernel) rfl ?_
        refine zT.cV_own (o := 0) (idx := 153) (av := []) (rv := (some (.int (g_X10_ups (r_X10_upIt_28 M n r up) n)))) (st := []) (S1 := [.int (g_X10_ups (r_X10_upIt_28 M n r up) n)]) (c_X10_ups (r_X10_upIt_28 M n r up) gp n (((lo_l_X10_upIt_28 M n r up 0 (by decide) n (g_X10_put (g_X10_put M r 2 (if up = 0 then (0 : Int32) else (1 : Int32))) r 4 (-1))).trans ((lo_X10_put (g_X10_put M r 2 (if up = 0 then (0 : Int32) else (1 : Int32))) r 4 (-1) 0 (by decide)).trans (lo_X10_put M r 2 (if up = 0 then (0 : Int32) else (1 : Int32)) 0 (by decide)))).trans hn) h9) k_X10_ups _ _ rfl rfl rfl (zIn (w := 6119) (by decide +kernel) rfl) (by decide +kernel) (by decide +kernel) rfl (Nat.le_of_ble_eq_true rfl) rfl ?_
        exact zT.iret (ty := Jvm.ClassFile.FieldType.int) (by simp only [g_X10_upIt, if_pos c2]; try rfl) (by simp only [g_X10_upIt, if_pos c2]; try rfl) rfl rfl (by decide +kernel)
theorem fr_X10_upIt (M : zM) (n : Nat) (r : Nat) (up : Int32) (o : Nat) (ho : o ≠ 1) : (g_X10_upIt M n r up).2 o = M o := by
  simp only [g_X10_upIt]
  (repeat' split) <;> simp only [zU_ne ho, zUa_ne ho, (fun (MM : zM) (r : Nat) (w : Nat) (v : Int32) => fr_X10_put MM r w v o (by omega)), r_X10_upIt_28, (fr_l_X10_upIt_28 M n r up o (by omega))]
theorem lo_X10_upIt (M : zM) (n : Nat) (r : Nat) (up : Int32) (o : Nat) (ho : o < 10) : (g_X10_upIt M n r up).2 1 o = M 1 o := by
  simp only [g_X10_upIt]
  (repeat' split) <;> (try simp only [(fun (MM : zM) (r : Nat) (w : Nat) (v : Int32) => lo_X10_put MM r w v o (by omega)), r_X10_upIt_28, (lo_l_X10_upIt_28 M n r up o (by omega))])
theorem k_X10_upIt : zCal yy_X10_upIt 2 := ⟨⟨⟨⟨zIn (w := 6118) (by decide +kernel) rfl, zIn (w := 1012) (by decide +kernel) rfl⟩, by decide +kernel⟩, by decide +kernel⟩, ⟨zIn (w := 6117) (by decide +kernel) rfl, zIn (w := 56) (by decide +kernel) rfl⟩⟩
noncomputable abbrev yy_X10_noLink : zY := (yX10_noLink, cX10_noLink, 4, (some Jvm.ClassFile.FieldType.int), 2, 44)
noncomputable def g_X10_noLink (M : zM) (a : Nat) (b : Int32) (is : Int32) : Int32 := (if (nI a) = b then 16 else (if (g_X10_areLinked M a b) = is then 16 else 0))
set_option maxRecDepth 100000 in
theorem c_X10_noLink (M : zM) (gp : Nat → Option Nat) (a : Nat) (b : Int32) (is : Int32) (h_a : a < 9) : zC yy_X10_noLink 0 0 [.ref 0, .int (nI a), .int b, .int is] (sh_Model gp) M (some (.int (g_X10_noLink M a b is))) (sh_Model gp) M := by
  refine zC.of (by decide +kernel) rfl (Nat.le_of_ble_eq_true rfl) ?_
  refine zT.run [(.iload_n 1, 0, 0, 0), (.iload_n 2, 0, 0, 0)] (pe := 2) (ls' := [some (.ref 0), some (.int (nI a)), some (.int b), some (.int is)]) (st' := [.int b, .int (nI a)]) (M' := M) (by decide +kernel) rfl ?_
  refine zT.ceq (tgt := 15) (off := 13) (by decide +kernel) (by decide) (fun (c1 : (nI a) = b) => ?_) (fun (c1 : ¬ (nI a) = b) => ?_)
  · skip
    refine zT.run [(.bipush 16, 0, 0, 0), (.goto 4, 0, 0, 0)] (pe := 21) (ls' := [some (.ref 0), some (.int (nI a)), some (.int b), some (.int is)]) (st' := [.int 16]) (M' := M) (by decide +kernel) rfl ?_
    exact zT.iret (ty := Jvm.ClassFile.FieldType.int) (by simp only [g_X10_noLink, if_pos c1]; try rfl) rfl rfl rfl (by decide +kernel)
  · skip
    refine zT.run [(.aload_n 0, 0, 0, 0), (.iload_n 1, 0, 0, 0), (.iload_n 2, 0, 0, 0)] (pe := 8) (ls' := [some (.ref 0), some (.int (nI a)), some (.int b), some (.int is)]) (st' := [.int b, .int (nI a), .ref 0]) (M' := M) (by decide +kernel) rfl ?_
    refine zT.cV_own (o := 0) (idx := 90) (av := [.int (nI a), .int b]) (rv := (some (.int (g_X10_areLinked M a b)))) (st := []) (S1 := [.int (g_X10_areLinked M a b)]) (c_X10_areLinked M gp a b (by omega)) k_X10_areLinked _ _ rfl rfl rfl (zIn (w := 5124) (by decide +kernel) rfl) (by decide +kernel) (by decide +kernel) rfl (Nat.le_of_ble_eq_true rfl) rfl ?_
    refine zT.run [(.iload_n 3, 0, 0, 0)] (pe := 12) (ls' := [some (.ref 0), some (.int (nI a)), some (.int b), some (.int is)]) (st' := [.int is, .int (g_X10_areLinked M a b)]) (M' := M) (by decide +kernel) rfl ?_
    refine zT.cne (tgt := 20) (off := 8) (by decide +kernel) (by decide) (fun (c2 : ¬ (g_X10_areLinked M a b) = is) => ?_) (fun (c2 : (g_X10_areLinked M a b) = is) => ?_)
    · skip
      refine zT.run [(.iconst 0, 0, 0, 0)] (pe := 21) (ls' := [some (.ref 0), some (.int (nI a)), some (.int b), some (.int is)]) (st' := [.int 0]) (M' := M) (by decide +kernel) rfl ?_
      exact zT.iret (ty := Jvm.ClassFile.FieldType.int) (by simp only [g_X10_noLink, if_neg c1, if_neg c2]; try rfl) rfl rfl rfl (by decide +kernel)
    · skip
      refine zT.run [(.bipush 16, 0, 0, 0), (.goto 4, 0, 0, 0)] (pe := 21) (ls' := [some (.ref 0), some (.int (nI a)), some (.int b), some (.int is)]) (st' := [.int 16]) (M' := M) (by decide +kernel) rfl ?_
      exact zT.iret (ty := Jvm.ClassFile.FieldType.int) (by simp only [g_X10_noLink, if_neg c1, if_pos c2]; try rfl) rfl rfl rfl (by decide +kernel)
theorem k_X10_noLink : zCal yy_X10_noLink 3 := ⟨⟨⟨⟨zIn (w := 6130) (by decide +kernel) rfl, zIn (w := 1012) (by decide +kernel) rfl⟩, by decide +kernel⟩, by decide +kernel⟩, ⟨zIn (w := 6129) (by decide +kernel) rfl, zIn (w := 58) (by decide +kernel) rfl⟩⟩
noncomputable abbrev yy_X10_noCount : zY := (yX10_noCount, cX10_noCount, 2, (some Jvm.ClassFile.FieldType.int), 3, 65)
noncomputable def f_X10_noCount_15 (M : zM) (n : Nat) (i1 : Nat) : Option Int32 := (if (g_X10_isOnRoll M (nI i1)) = 0 then none else (if (g_X10_of M i1 6) = 1 then (if (g_X10_isReached M i1) = 0 then none else (some (12 : Int32))) else none))
noncomputable def g_X10_noCount (M : zM) (n : Nat) : Int32 := (if (M 1 4) = 2 then (zFst (f_X10_noCount_15 M n) (0 : Int32) n 0) else 10)
set_option maxRecDepth 100000 in
theorem c_X10_noCount (M : zM) (gp : Nat → Option Nat) (n : Nat) (hn : M 1 0 = nI n) (h9 : n ≤ 9) (hd : zHd M) : zC yy_X10_noCount 0 0 [.ref 0] (sh_Model gp) M (some (.int (g_X10_noCount M n))) (sh_Model gp) M := by
  refine zC.of (by decide +kernel) rfl (Nat.le_of_ble_eq_true rfl) ?_
  refine zT.run [(.aload_n 0, 0, 0, 0), (.getfield 9, 8, 1, 5150), (.iconst 4, 0, 0, 0)] (pe := 5) (ls' := [some (.ref 0), none]) (st' := [.int 4, .ref 1]) (M' := M) (by decide +kernel) rfl ?_
  refine zT.iald (n := 187) (k := 4) rfl rfl (by decide) (by decide) (by decide +kernel) ?_
  refine zT.run [(.iconst 2, 0, 0, 0)] (pe := 7) (ls' := [some (.ref 0), none]) (st' := [.int 2, .int (M 1 4)]) (M' := M) (by decide +kernel) rfl ?_
  refine zT.ceq (tgt := 13) (off := 6) (by decide +kernel) (by decide) (fun (c1 : (M 1 4) = 2) => ?_) (fun (c1 : ¬ (M 1 4) = 2) => ?_)
  · skip
    refine zT.run [(.iconst 0, 0, 0, 0), (.istore_n 1, 0, 0, 0)] (pe := 15) (ls' := [some (.ref 0), some (.int 0)]) (st' := []) (M' := M) (by decide +kernel) rfl ?_
    refine zT.fst (f_X10_noCount_15 M n) (0 : Int32) n (fun (i : Nat) => (15, [some (.ref 0), some (.int (nI i))], [], (sh_Model gp), M)) (R := (zFst (f_X10_noCount_15 M n) (0 : Int32) n 0)) rfl (fun i1 hi1 k1 kk1 => ?_) (fun k1 => ?_)
    · skip
      show zT _ _ _ _ (15, [some (.ref 0), some (.int (nI i1))], [], (sh_Model gp), M)
      refine zT.run [(.iload_n 1, 0, 0, 0), (.aload_n 0, 0, 0, 0), (.getfield 9, 8, 1, 5150), (.iconst 0, 0, 0, 0)] (pe := 21) (ls' := [some (.ref 0), some (.int (nI i1))]) (st' := [.int 0, .ref 1, .int (nI i1)]) (M' := M) (by decide +kernel) rfl ?_
      refine zT.iald (n := 187) (k := 0) rfl rfl (by decide) (by decide) (by decide +kernel) ?_
      refine zT.cge (tgt := 61) (off := 39) (by decide +kernel) (by decide) (fun c => absurd c (zGeN (n := n) hn (by omega) (by omega))) (fun _ => ?_)
      refine zT.run [(.aload_n 0, 0, 0, 0), (.iload_n 1, 0, 0, 0)] (pe := 27) (ls' := [some (.ref 0), some (.int (nI i1))]) (st' := [.int (nI i1), .ref 0]) (M' := M) (by decide +kernel) rfl ?_
      refine zT.cV_own (o := 0) (idx := 106) (av := [.int (nI i1)]) (rv := (some (.int (g_X10_isOnRoll M (nI i1))))) (st := []) (S1 := [.int (g_X10_isOnRoll M (nI i1))]) (c_X10_isOnRoll M gp (nI i1)) k_X10_isOnRoll _ _ rfl rfl rfl (zIn (w := 5145) (by decide +kernel) rfl) (by decide +kernel) (by decide +kernel) rfl (Nat.le_of_ble_eq_true rfl) rfl ?_
      refine zT.zeq (tgt := 55) (off := 25) (by decide +kernel) (by decide) (fun (c2 : (g_X10_isOnRoll M (nI i1)) = 0) => ?_) (fun (c2 : ¬ (g_X10_isOnRoll M (nI i1)) = 0) => ?_)
      · skip
        refine zT.run [(.iinc 1 1, 0, 0, 0), (.goto (-43), 0, 0, 0)] (pe := 15) (ls' := [some (.ref 0), some (.int ((nI i1) + 1))]) (st' := []) (M' := M) (by decide +kernel) rfl ?_
        exact zT.eq (by simp only [nI_succ, zDl]; try rfl) (k1 (by simp only [f_X10_noCount_15, if_pos c2]))
      · skip
        refine zT.run [(.aload_n 0, 0, 0, 0), (.iload_n 1, 0, 0, 0), (.bipush 6, 0, 0, 0)] (pe := 37) (ls' := [some (.ref 0), some (.int (nI i1))]) (st' := [.int 6, .int (nI i1), .ref 0]) (M' := M) (by decide +kernel) rfl ?_
        refine zT.cV_own (o := 0) (idx := 80) (av := [.int (nI i1), .int (nI 6)]) (rv := (some (.int (g_X10_of M i1 6)))) (st := []) (S1 := [.int (g_X10_of M i1 6)]) (c_X10_of M gp i1 6 (by omega) (by decide)) k_X10_of _ _ rfl rfl rfl (zIn (w := 5108) (by decide +kernel) rfl) (by decide +kernel) (by decide +kernel) rfl (Nat.le_of_ble_eq_true rfl) rfl ?_
        refine zT.run [(.iconst 1, 0, 0, 0)] (pe := 41) (ls' := [some (.ref 0), some (.int (nI i1))]) (st' := [.int 1, .int (g_X10_of M i1 6)]) (M' := M) (by decide +kernel) rfl ?_
        refine zT.cne (tgt := 55) (off := 14) (by decide +kernel) (by decide) (fun (c3 : ¬ (g_X10_of M i1 6) = 1) => ?_) (fun (c3 : (g_X10_of M i1 6) = 1) => ?_)
        · skip
          refine zT.run [(.iinc 1 1, 0, 0, 0), (.goto (-43), 0, 0, 0)] (pe := 15) (ls' := [some (.ref 0), some (.int ((nI i1) + 1))]) (st' := []) (M' := M) (by decide +kernel) rfl ?_
          exact zT.eq (by simp only [nI_succ, zDl]; try rfl) (k1 (by simp only [f_X10_noCount_15, if_neg c2, if_neg c3]))
        · skip
          refine zT.run [(.aload_n 0, 0, 0, 0), (.iload_n 1, 0, 0, 0)] (pe := 46) (ls' := [some (.ref 0), some (.int (nI i1))]) (st' := [.int (nI i1), .ref 0]) (M' := M) (by decide +kernel) rfl ?_
          refine zT.cV_own (o := 0) (idx := 133) (av := [.int (nI i1)]) (rv := (some (.int (g_X10_isReached M i1)))) (st := []) (S1 := [.int (g_X10_isReached M i1)]) (c_X10_isReached M gp i1 hd (by omega)) k_X10_isReached _ _ rfl rfl rfl (zIn (w := 6015) (by decide +kernel) rfl) (by decide +kernel) (by decide +kernel) rfl (Nat.le_of_ble_eq_true rfl) rfl ?_
          refine zT.zeq (tgt := 55) (off := 6) (by decide +kernel) (by decide) (fun (c4 : (g_X10_isReached M i1) = 0) => ?_) (fun (c4 : ¬ (g_X10_isReached M i1) = 0) => ?_)
          · skip
            refine zT.run [(.iinc 1 1, 0, 0, 0), (.goto (-43), 0, 0, 0)] (pe := 15) (ls' := [some (.ref 0), some (.int ((nI i1) + 1))]) (st' := []) (M' := M) (by decide +kernel) rfl ?_
            exact zT.eq (by simp only [nI_succ, zDl]; try rfl) (k1 (by simp only [f_X10_noCount_15, if_neg c2, if_pos c3, if_pos c4]))
          · skip
            refine zT.run [(.bipush 12, 0, 0, 0)] (pe := 54) (ls' := [some (.ref 0), some (.int (nI i1))]) (st' := [.int 12]) (M' := M) (by decide +kernel) rfl ?_
            exact zT.iret (ty := Jvm.ClassFile.FieldType.int) ((show _ = (zFst (f_X10_noCount_15 M n) (0 : Int32) n 0) from (by simp only [g_X10_noCount, if_pos c1]; try rfl)).trans (kk1 _ (by simp only [f_X10_noCount_15, if_neg c2, if_pos c3, if_neg c4]))) rfl rfl rfl (by decide +kernel)
    · skip
      show zT _ _ _ _ (15, [some (.ref 0), some (.int (nI n))], [], (sh_Model gp), M)
      refine zT.run [(.iload_n 1, 0, 0, 0), (.aload_n 0, 0, 0, 0), (.getfield 9, 8, 1, 5150), (.iconst 0, 0, 0, 0)] (pe := 21) (ls' := [some (.ref 0), some (.int (nI n))]) (st' := [.int 0, .ref 1, .int (nI n)]) (M' := M) (by decide +kernel) rfl ?_
      refine zT.iald (n := 187) (k := 0) rfl rfl (by decide) (by decide) (by decide +kernel) ?_
      refine zT.cge (tgt := 61) (off := 39) (by decide +kernel) (by decide) (fun _ => ?_) (fun c => absurd (zGeY (n := n) hn) c)
      refine zT.run [(.iconst 0, 0, 0, 0)] (pe := 62) (ls' := [some (.ref 0), some (.int (nI n))]) (st' := [.int 0]) (M' := M) (by decide +kernel) rfl ?_
      exact zT.iret (ty := Jvm.ClassFile.FieldType.int) ((show _ = (zFst (f_X10_noCount_15 M n) (0 : Int32) n 0) from (by simp only [g_X10_noCount, if_pos c1]; try rfl)).trans k1) rfl rfl rfl (by decide +kernel)
  · skip
    refine zT.run [(.bipush 10, 0, 0, 0)] (pe := 12) (ls' := [some (.ref 0), none]) (st' := [.int 10]) (M' := M) (by decide +kernel) rfl ?_
    exact zT.iret (ty := Jvm.ClassFile.FieldType.int) (by simp only [g_X10_noCount, if_neg c1]; try rfl) rfl rfl rfl (by decide +kernel)
theorem k_X10_noCount : zCal yy_X10_noCount 0 := ⟨⟨⟨⟨zIn (w := 6062) (by decide +kernel) rfl, zIn (w := 1012) (by decide +kernel) rfl⟩, by decide +kernel⟩, by decide +kernel⟩, ⟨zIn (w := 6061) (by decide +kernel) rfl, zIn (w := 45) (by decide +kernel) rfl⟩⟩
noncomputable abbrev yy_X10_outcomeOf : zY := (yX10_outcomeOf, cX10_outcomeOf, 3, (some Jvm.ClassFile.FieldType.int), 0, 0)
noncomputable def g_X10_outcomeOf (M : zM) (oz : Nat) (bk : Nat) (w : Nat) : Int32 := (M 1 ((91 + ((oz - 1 - bk) * 8)) + w))
set_option maxRecDepth 100000 in
theorem c_X10_outcomeOf (M : zM) (gp : Nat → Option Nat) (oz : Nat) (bk : Nat) (w : Nat) (hoz : M 1 9 = nI oz) (h12 : oz ≤ 12) (h_bk : bk < oz) (h_w : w < 8) : zC yy_X10_outcomeOf 0 0 [.ref 0, .int (nI bk), .int (nI w)] (sh_Model gp) M (some (.int (g_X10_outcomeOf M oz bk w))) (sh_Model gp) M := by
  refine zC.of (by decide +kernel) rfl (Nat.le_of_ble_eq_true rfl) ?_
  refine zT.run [(.aload_n 0, 0, 0, 0), (.getfield 9, 8, 1, 5150), (.bipush 91, 0, 0, 0), (.aload_n 0, 0, 0, 0), (.getfield 9, 8, 1, 5150), (.bipush 9, 0, 0, 0)] (pe := 12) (ls' := [some (.ref 0), some (.int (nI bk)), some (.int (nI w))]) (st' := [.int 9, .ref 1, .int 91, .ref 1]) (M' := M) (by decide +kernel) rfl ?_
  refine zT.iald (n := 187) (k := 9) rfl rfl (by decide) (by decide) (by decide +kernel) ?_
  refine zT.run [(.iconst 1, 0, 0, 0), (.isub, 0, 0, 0), (.iload_n 1, 0, 0, 0), (.isub, 0, 0, 0), (.bipush 8, 0, 0, 0), (.imul, 0, 0, 0), (.iadd, 0, 0, 0), (.iload_n 2, 0, 0, 0), (.iadd, 0, 0, 0)] (pe := 23) (ls' := [some (.ref 0), some (.int (nI bk)), some (.int (nI w))]) (st' := [.int ((91 + ((((M 1 9) - 1) - (nI bk)) * 8)) + (nI w)), .ref 1]) (M' := M) (by decide +kernel) rfl ?_
  refine zT.iald (n := 187) (k := ((91 + ((oz - 1 - bk) * 8)) + w)) rfl (zOix hoz h_bk) (by omega) (by decide) (by decide +kernel) ?_
  exact zT.iret (ty := Jvm.ClassFile.FieldType.int) (by simp only [g_X10_outcomeOf]; try rfl) rfl rfl rfl (by decide +kernel)
theorem k_X10_outcomeOf : zCal yy_X10_outcomeOf 2 := ⟨⟨⟨⟨zIn (w := 6098) (by decide +kernel) rfl, zIn (w := 1012) (by decide +kernel) rfl⟩, by decide +kernel⟩, by decide +kernel⟩, ⟨zIn (w := 6097) (by decide +kernel) rfl, zIn (w := 53) (by decide +kernel) rfl⟩⟩
noncomputable abbrev yy_X10_countIt : zY := (yX10_countIt, cX10_countIt, 3, (some Jvm.ClassFile.FieldType.int), 4, 88)
noncomputable def l_X10_countIt_14 (M : zM) (n : Nat) (oz : Nat) (i1 : Nat) (s1 : zM) : zM := (if (g_X10_isOnRoll s1 (nI i1)) = 0 then s1 else (if (g_X10_isReached s1 i1) = 0 then s1 else (g_X10_put s1 i1 4 (g_X10_chosenNow M n).1)))
theorem fr_l_X10_countIt_14 (M : zM) (n : Nat) (oz : Nat) (o : Nat) (ho : o ≠ 1) : ∀ (k : Nat) (s : zM), (zIt (l_X10_countIt_14 M n oz) k s) o = s o := by
  intro k
  induction k with
  | zero => intro s; rfl
  | succ k ih =>
    intro s
    rw [← ih s]
    show (l_X10_countIt_14 M n oz k (zIt (l_X10_countIt_14 M n oz) k s)) o = _
    generalize zIt (l_X10_countIt_14 M n oz) k s = t
    simp only [l_X10_countIt_14]
    (repeat' split) <;> simp only [zU_ne ho, (fun (MM : zM) (r : Nat) (w : Nat) (v : Int32) => fr_X10_put MM r w v o (by omega))]
theorem lo_l_X10_countIt_14 (M : zM) (n : Nat) (oz : Nat) (o : Nat) (ho : o < 10) : ∀ (k : Nat) (s : zM), (zIt (l_X10_countIt_14 M n oz) k s) 1 o = s 1 o := by
  intro k
  induction k with
  | zero => intro s; rfl
  | succ k ih =>
    intro s
    rw [← ih s]
    show (l_X10_countIt_14 M n oz k (zIt (l_X10_countIt_14 M n oz) k s)) 1 o = _
    generalize zIt (l_X10_countIt_14 M n oz) k s = t
    simp only [l_X10_countIt_14]
    (repeat' split) <;> (try simp only [(fun (MM : zM) (r : Nat) (w : Nat) (v : Int32) => lo_X10_put MM r w v o (by omega))])
noncomputable def r_X10_countIt_14 (M : zM) (n : Nat) (oz : Nat) : zM := (zIt (l_X10_countIt_14 M n oz) n (zU (g_X10_chosenNow M n).2 1 4 3))
noncomputable def g_X10_countIt (M : zM) (n : Nat) (oz : Nat) : Int32 × zM := (if (g_X10_chosenNow M n).1 = (-1) then (100, (g_X10_addOutcome (r_X10_countIt_14 M n oz) n oz (g_X10_chosenNow M n).1)) else ((g_X10_chosenNow M n).1, (g_X10_addOutcome (r_X10_countIt_14 M n oz) n oz (g_X10_chosenNow M n).1)))
set_option maxRecDepth 100000 in
theorem c_X10_countIt (M : zM) (gp : Nat → Option Nat) (n : Nat) (oz : Nat) (hn : M 1 0 = nI n) (h9 : n ≤ 9) (hv : zHv M) (hoz : M 1 9 = nI oz) (h12 : oz ≤ 12) (hk : zHk M) : zC yy_X10_countIt 0 0 [.ref 0] (sh_Model gp) M (some (.int (g_X10_countIt M n oz).1)) (sh_Model gp) (g_X10_countIt M n oz).2 := by
  refine zC.of (by decide +kernel) rfl (Nat.le_of_ble_eq_true rfl) ?_
  refine zT.run [(.aload_n 0, 0, 0, 0)] (pe := 1) (ls' := [some (.ref 0), none, none]) (st' := [.ref 0]) (M' := M) (by decide +kernel) rfl ?_
  refine zT.cV_all (o := 0) (idx := 143) (av := []) (rv := (some (.int (g_X10_chosenNow M n).1))) (st := []) (S1 := [.int (g_X10_chosenNow M n).1]) (c_X10_chosenNow M gp n hn h9 hv) k_X10_chosenNow _ _ rfl rfl rfl (zIn (w := 6067) (by decide +kernel) rfl) (by decide +kernel) (by decide +kernel) rfl (Nat.le_of_ble_eq_true rfl) rfl ?_
  refine zT.run [(.istore_n 1, 0, 0, 0), (.aload_n 0, 0, 0, 0), (.getfield 9, 8, 1, 5150), (.iconst 4, 0, 0, 0), (.iconst 3, 0, 0, 0)] (pe := 11) (ls' := [some (.ref 0), some (.int (g_X10_chosenNow M n).1), none]) (st' := [.int 3, .int 4, .ref 1]) (M' := (g_X10_chosenNow M n).2) (by decide +kernel) rfl ?_
  refine zT.iast (n := 187) (k := 4) rfl rfl (by decide) (by decide) (by decide +kernel) ?_
  refine zT.run [(.iconst 0, 0, 0, 0), (.istore_n 2, 0, 0, 0)] (pe := 14) (ls' := [some (.ref 0), some (.int (g_X10_chosenNow M n).1), some (.int 0)]) (st' := []) (M' := (zU (g_X10_chosenNow M n).2 1 4 3)) (by decide +kernel) rfl ?_
  refine zT.loop (l_X10_countIt_14 M n oz) (fun (i : Nat) (s : zM) => (14, [some (.ref 0), some (.int (g_X10_chosenNow M n).1), some (.int (nI i))], [], (sh_Model gp), s)) n (zU (g_X10_chosenNow M n).2 1 4 3) (fun i1 hi1 k1 => ?_) ?_
  · skip
    generalize hs1 : zIt (l_X10_countIt_14 M n oz) i1 (zU (g_X10_chosenNow M n).2 1 4 3) = s1 at k1 ⊢
    have hm1 : ∀ o : Nat, (o ≠ 1) → s1 o = (zU (g_X10_chosenNow M n).2 1 4 3) o := fun o ho => by rw [← hs1]; exact fr_l_X10_countIt_14 M n oz o ho i1 (zU (g_X10_chosenNow M n).2 1 4 3)
    have hl1 : ∀ o : Nat, (o < 10) → s1 1 o = (zU (g_X10_chosenNow M n).2 1 4 3) 1 o := fun o ho => by rw [← hs1]; exact lo_l_X10_countIt_14 M n oz o ho i1 (zU (g_X10_chosenNow M n).2 1 4 3)
    show zT _ _ _ _ (14, [some (.ref 0), some (.int (g_X10_chosenNow M n).1), some (.int (nI i1))], [], (sh_Model gp), s1)
    refine zT.run [(.iload_n 2, 0, 0, 0), (.aload_n 0, 0, 0, 0), (.getfield 9, 8, 1, 5150), (.iconst 0, 0, 0, 0)] (pe := 20) (ls' := [some (.ref 0), some (.int (g_X10_chosenNow M n).1), some (.int (nI i1))]) (st' := [.int 0, .ref 1, .int (nI i1)]) (M' := s1) (by decide +kernel) rfl ?_
    refine zT.iald (n := 187) (k := 0) rfl rfl (by decide) (by decide) (by decide +kernel) ?_
    refine zT.cge (tgt := 53) (off := 32) (by decide +kernel) (by decide) (fun c => absurd c (zGeN (n := n) (((hl1 0 (by decide)).trans (congrFun (fr_X10_chosenNow M n 1 (by decide)) 0)).trans hn) (by omega) (by omega))) (fun _ => ?_)
    refine zT.run [(.aload_n 0, 0, 0, 0), (.iload_n 2, 0, 0, 0)] (pe := 26) (ls' := [some (.ref 0), some (.int (g_X10_chosenNow M n).1), some (.int (nI i1))]) (st' := [.int (nI i1), .ref 0]) (M' := s1) (by decide +kernel) rfl ?_
    refine zT.cV_own (o := 0) (idx := 106) (av := [.int (nI i1)]) (rv := (some (.int (g_X10_isOnRoll s1 (nI i1))))) (st := []) (S1 := [.int (g_X10_isOnRoll s1 (nI i1))]) (c_X10_isOnRoll s1 gp (nI i1)) k_X10_isOnRoll _ _ rfl rfl rfl (zIn (w := 5145) (by decide +kernel) rfl) (by decide +kernel) (by decide +kernel) rfl (Nat.le_of_ble_eq_true rfl) rfl ?_
    refine zT.zeq (tgt := 47) (off := 18) (by decide +kernel) (by decide) (fun (c1 : (g_X10_isOnRoll s1 (nI i1)) = 0) => ?_) (fun (c1 : ¬ (g_X10_isOnRoll s1 (nI i1)) = 0) => ?_)
    · skip
      refine zT.run [(.iinc 2 1, 0, 0, 0), (.goto (-36), 0, 0, 0)] (pe := 14) (ls' := [some (.ref 0), some (.int (g_X10_chosenNow M n).1), some (.int ((nI i1) + 1))]) (st' := []) (M' := s1) (by decide +kernel) rfl ?_
      exact zT.eq (by simp only [l_X10_countIt_14, if_pos c1, nI_succ, zDl]; try rfl) k1
    · skip
      refine zT.run [(.aload_n 0, 0, 0, 0), (.iload_n 2, 0, 0, 0)] (pe := 34) (ls' := [some (.ref 0), some (.int (g_X10_chosenNow M n).1), some (.int (nI i1))]) (st' := [.int (nI i1), .ref 0]) (M' := s1) (by decide +kernel) rfl ?_
      refine zT.cV_own (o := 0) (idx := 133) (av := [.int (nI i1)]) (rv := (some (.int (g_X10_isReached s1 i1)))) (st := []) (S1 := [.int (g_X10_isReached s1 i1)]) (c_X10_isReached s1 gp i1 (zHk.d (zHk.of ((hl1 6 (by decide)).trans (congrFun (fr_X10_chosenNow M n 1 (by decide)) 6)) hk)) (by omega)) k_X10_isReached _ _ rfl rfl rfl (zIn (w := 6015) (by decide +kernel) rfl) (by decide +kernel) (by decide +kernel) rfl (Nat.le_of_ble_eq_true rfl) rfl ?_
      refine zT.zeq (tgt := 47) (off := 10) (by decide +kernel) (by decide) (fun (c2 : (g_X10_isReached s1 i1) = 0) => ?_) (fun (c2 : ¬ (g_X10_isReached s1 i1) = 0) => ?_)
      · skip
        refine zT.run [(.iinc 2 1, 0, 0, 0), (.goto (-36), 0, 0, 0)] (pe := 14) (ls' := [some (.ref 0), some (.int (g_X10_chosenNow M n).1), some (.int ((nI i1) + 1))]) (st' := []) (M' := s1) (by decide +kernel) rfl ?_
        exact zT.eq (by simp only [l_X10_countIt_14, if_neg c1, if_pos c2, nI_succ, zDl]; try rfl) k1
      · skip
        refine zT.run [(.aload_n 0, 0, 0, 0), (.iload_n 2, 0, 0, 0), (.iconst 4, 0, 0, 0), (.iload_n 1, 0, 0, 0)] (pe := 44) (ls' := [some (.ref 0), some (.int (g_X10_chosenNow M n).1), some (.int (nI i1))]) (st' := [.int (g_X10_chosenNow M n).1, .int 4, .int (nI i1), .ref 0]) (M' := s1) (by decide +kernel) rfl ?_
        refine zT.cV_all (o := 0) (idx := 76) (av := [.int (nI i1), .int (nI 4), .int (g_X10_chosenNow M n).1]) (rv := none) (st := []) (S1 := []) (c_X10_put s1 gp i1 4 (g_X10_chosenNow M n).1 (by omega) (by decide)) k_X10_put _ _ rfl rfl rfl (zIn (w := 5100) (by decide +kernel) rfl) (by decide +kernel) (by decide +kernel) rfl (Nat.le_of_ble_eq_true rfl) rfl ?_
        refine zT.run [(.iinc 2 1, 0, 0, 0), (.goto (-36), 0, 0, 0)] (pe := 14) (ls' := [some (.ref 0), some (.int (g_X10_chosenNow M n).1), some (.int ((nI i1) + 1))]) (st' := []) (M' := (g_X10_put s1 i1 4 (g_X10_chosenNow M n).1)) (by decide +kernel) rfl ?_
        exact zT.eq (by simp only [l_X10_countIt_14, if_neg c1, if_neg c2, nI_succ, zDl]; try rfl) k1
  · skip
    show zT _ _ _ _ (14, [some (.ref 0), some (.int (g_X10_chosenNow M n).1), some (.int (nI n))], [], (sh_Model gp), (r_X10_countIt_14 M n oz))
    refine zT.run [(.iload_n 2, 0, 0, 0), (.aload_n 0, 0, 0, 0), (.getfield 9, 8, 1, 5150), (.iconst 0, 0, 0, 0)] (pe := 20) (ls' := [some (.ref 0), some (.int (g_X10_chosenNow M n).1), some (.int (nI n))]) (st' := [.int 0, .ref 1, .int (nI n)]) (M' := (r_X10_countIt_14 M n oz)) (by decide +kernel) rfl ?_
    refine zT.iald (n := 187) (k := 0) rfl rfl (by decide) (by decide) (by decide +kernel) ?_
    refine zT.cge (tgt := 53) (off := 32) (by decide +kernel) (by decide) (fun _ => ?_) (fun c => absurd (zGeY (n := n) (((lo_l_X10_countIt_14 M n oz 0 (by decide) n (zU (g_X10_chosenNow M n).2 1 4 3)).trans (congrFun (fr_X10_chosenNow M n 1 (by decide)) 0)).trans hn)) c)
    refine zT.run [(.aload_n 0, 0, 0, 0), (.iload_n 1, 0, 0, 0)] (pe := 55) (ls' := [some (.ref 0), some (.int (g_X10_chosenNow M n).1), some (.int (nI n))]) (st' := [.int (g_X10_chosenNow M n).1, .ref 0]) (M' := (r_X10_countIt_14 M n oz)) (by decide +kernel) rfl ?_
    refine zT.cV_all (o := 0) (idx := 146) (av := [.int (g_X10_chosenNow M n).1]) (rv := none) (st := []) (S1 := []) (c_X10_addOutcome (r_X10_countIt_14 M n oz) gp n oz (g_X10_chosenNow M n).1 (((lo_l_X10_countIt_14 M n oz 0 (by decide) n (zU (g_X10_chosenNow M n).2 1 4 3)).trans (congrFun (fr_X10_chosenNow M n 1 (by decide)) 0)).trans hn) h9 (((lo_l_X10_countIt_14 M n oz 9 (by decide) n (zU (g_X10_chosenNow M n).2 1 4 3)).trans (congrFun (fr_X10_chosenNow M n 1 (by decide)) 9)).trans hoz) h12 ((e_X10_chosenNow M n).le h9)) k_X10_addOutcome _ _ rfl rfl rfl (zIn (w := 6083) (by decide +kernel) rfl) (by decide +kernel) (by decide +kernel) rfl (Nat.le_of_ble_eq_true rfl) rfl ?_
    refine zT.run [(.iload_n 1, 0, 0, 0), (.iconst (-1), 0, 0, 0)] (pe := 60) (ls' := [some (.ref 0), some (.int (g_X10_chosenNow M n).1), some (.int (nI n))]) (st' := [.int (-1), .int (g_X10_chosenNow M n).1]) (M' := (g_X10_addOutcome (r_X10_countIt_14 M n oz) n oz (g_X10_chosenNow M n).1)) (by decide +kernel) rfl ?_
    refine zT.cne (tgt := 68) (off := 8) (by decide +kernel) (by decide) (fun (c3 : ¬ (g_X10_chosenNow M n).1 = (-1)) => ?_) (fun (c3 : (g_X10_chosenNow M n).1 = (-1)) => ?_)
    · skip
      refine zT.run [(.iload_n 1, 0, 0, 0)] (pe := 69) (ls' := [some (.ref 0), some (.int (g_X10_chosenNow M n).1), some (.int (nI n))]) (st' := [.int (g_X10_chosenNow M n).1]) (M' := (g_X10_addOutcome (r_X10_countIt_14 M n oz) n oz (g_X10_chosenNow M n).1)) (by decide +kernel) rfl ?_
      exact zT.iret (ty := Jvm.ClassFile.FieldType.int) (by simp only [g_X10_countIt, if_neg c3]; try rfl) (by simp only [g_X10_countIt, if_neg c3]; try rfl) rfl rfl (by decide +kernel)
    · skip
      refine zT.run [(.bipush 100, 0, 0, 0), (.goto 4, 0, 0, 0)] (pe := 69) (ls' := [some (.ref 0), some (.int (g_X10_chosenNow M n).1), some (.int (nI n))]) (st' := [.int 100]) (M' := (g_X10_addOutcome (r_X10_countIt_14 M n oz) n oz (g_X10_chosenNow M n).1)) (by decide +kernel) rfl ?_
      exact zT.iret (ty := Jvm.ClassFile.FieldType.int) (by simp only [g_X10_countIt, if_pos c3]; try rfl) (by simp only [g_X10_countIt, if_pos c3]; try rfl) rfl rfl (by decide +kernel)
theorem fr_X10_countIt (M : zM) (n : Nat) (oz : Nat) (o : Nat) (ho : o ≠ 0 ∧ o ≠ 1 ∧ o ≠ 20) : (g_X10_countIt M n oz).2 o = M o := by
  simp only [g_X10_countIt]
  (repeat' split) <;> simp only [zU_ne ho.1, zU_ne ho.2.1, zU_ne ho.2.2, zUa_ne ho.1, zUa_ne ho.2.1, zUa_ne ho.2.2, (fun (MM : zM) (n : Nat) (oz : Nat) (ch : Int32) => fr_X10_addOutcome MM n oz ch o (by omega)), r_X10_countIt_14, (fr_l_X10_countIt_14 M n oz o (by omega)), (fun (MM : zM) (n : Nat) => fr_X10_chosenNow MM n o (by omega))]
theorem lo_X10_countIt (M : zM) (n : Nat) (oz : Nat) (o : Nat) (ho : o < 10 ∧ o ≠ 4 ∧ o ≠ 9) : (g_X10_countIt M n oz).2 1 o = M 1 o := by
  simp only [g_X10_countIt]
  (repeat' split) <;> (try simp only [(fun (MM : zM) (n : Nat) (oz : Nat) (ch : Int32) => lo_X10_addOutcome MM n oz ch o (by omega)), r_X10_countIt_14, (lo_l_X10_countIt_14 M n oz o (by omega)), zU_k (c := 1) (i := 4) (o := o) (by omega), (fun (MM : zM) (n : Nat) => fr_X10_chosenNow MM n 1 (by decide))])
theorem k_X10_countIt : zCal yy_X10_countIt 0 := ⟨⟨⟨⟨zIn (w := 6066) (by decide +kernel) rfl, zIn (w := 1012) (by decide +kernel) rfl⟩, by decide +kernel⟩, by decide +kernel⟩, ⟨zIn (w := 6065) (by decide +kernel) rfl, zIn (w := 46) (by decide +kernel) rfl⟩⟩
noncomputable abbrev yy_X10_noRecount : zY := (yX10_noRecount, cX10_noRecount, 2, (some Jvm.ClassFile.FieldType.int), 2, 43)
noncomputable def g_X10_noRecount (M : zM) (oz : Nat) (r : Nat) : Int32 := (if (M 1 4) = 3 then (if (g_X10_isOnRoll M (nI r)) = 0 then 6 else (if (g_X10_isUp M r) = 0 then 3 else (if (g_X10_outcomeOf M oz 0 1) = (nI r) then 15 else (if (M 1 8) < (M 1 3) then 0 else 14)))) else 13)
set_option maxRecDepth 100000 in
theorem c_X10_noRecount (M : zM) (gp : Nat → Option Nat) (oz : Nat) (r : Nat) (hoz : M 1 9 = nI oz) (h12 : oz ≤ 12) (hP : M 1 4 = 3 → 0 < oz) (h_r : r < 9) : zC yy_X10_noRecount 0 0 [.ref 0, .int (nI r)] (sh_Model gp) M (some (.int (g_X10_noRecount M oz r))) (sh_Model gp) M := by
  refine zC.of (by decide +kernel) rfl (Nat.le_of_ble_eq_true rfl) ?_
  refine zT.run [(.aload_n 0, 0, 0, 0), (.getfield 9, 8, 1, 5150), (.iconst 4, 0, 0, 0)] (pe := 5) (ls' := [some (.ref 0), some (.int (nI r))]) (st' := [.int 4, .ref 1]) (M' := M) (by decide +kernel) rfl ?_
  refine zT.iald (n := 187) (k := 4) rfl rfl (by decide) (by decide) (by decide +kernel) ?_
  refine zT.run [(.iconst 3, 0, 0, 0)] (pe := 7) (ls' := [some (.ref 0), some (.int (nI r))]) (st' := [.int 3, .int (M 1 4)]) (M' := M) (by decide +kernel) rfl ?_
  refine zT.ceq (tgt := 13) (off := 6) (by decide +kernel) (by decide) (fun (c1 : (M 1 4) = 3) => ?_) (fun (c1 : ¬ (M 1 4) = 3) => ?_)
  · skip
    refine zT.run [(.aload_n 0, 0, 0, 0), (.iload_n 1, 0, 0, 0)] (pe := 15) (ls' := [some (.ref 0), some (.int (nI r))]) (st' := [.int (nI r), .ref 0]) (M' := M) (by decide +kernel) rfl ?_
    refine zT.cV_own (o := 0) (idx := 106) (av := [.int (nI r)]) (rv := (some (.int (g_X10_isOnRoll M (nI r))))) (st := []) (S1 := [.int (g_X10_isOnRoll M (nI r))]) (c_X10_isOnRoll M gp (nI r)) k_X10_isOnRoll _ _ rfl rfl rfl (zIn (w := 5145) (by decide +kernel) rfl) (by decide +kernel) (by decide +kernel) rfl (Nat.le_of_ble_eq_true rfl) rfl ?_
    refine zT.zne (tgt := 24) (off := 6) (by decide +kernel) (by decide) (fun (c2 : ¬ (g_X10_isOnRoll M (nI r)) = 0) => ?_) (fun (c2 : (g_X10_isOnRoll M (nI r)) = 0) => ?_)
    · skip
      refine zT.run [(.aload_n 0, 0, 0, 0), (.iload_n 1, 0, 0, 0)] (pe := 26) (ls' := [some (.ref 0), some (.int (nI r))]) (st' := [.int (nI r), .ref 0]) (M' := M) (by decide +kernel) rfl ?_
      refine zT.cV_own (o := 0) (idx := 86) (av := [.int (nI r)]) (rv := (some (.int (g_X10_isUp M r)))) (st := []) (S1 := [.int (g_X10_isUp M r)]) (c_X10_isUp M gp r (by omega)) k_X10_isUp _ _ rfl rfl rfl (zIn (w := 5120) (by decide +kernel) rfl) (by decide +kernel) (by decide +kernel) rfl (Nat.le_of_ble_eq_true rfl) rfl ?_
      refine zT.zne (tgt := 34) (off := 5) (by decide +kernel) (by decide) (fun (c3 : ¬ (g_X10_isUp M r) = 0) => ?_) (fun (c3 : (g_X10_isUp M r) = 0) => ?_)
      · skip
        refine zT.run [(.aload_n 0, 0, 0, 0), (.iconst 0, 0, 0, 0), (.iconst 1, 0, 0, 0)] (pe := 37) (ls' := [some (.ref 0), some (.int (nI r))]) (st' := [.int 1, .int 0, .ref 0]) (M' := M) (by decide +kernel) rfl ?_
        refine zT.cV_own (o := 0) (idx := 150) (av := [.int (nI 0), .int (nI 1)]) (rv := (some (.int (g_X10_outcomeOf M oz 0 1)))) (st := []) (S1 := [.int (g_X10_outcomeOf M oz 0 1)]) (c_X10_outcomeOf M gp oz 0 1 hoz h12 (hP (by assumption)) (by decide)) k_X10_outcomeOf _ _ rfl rfl rfl (zIn (w := 6095) (by decide +kernel) rfl) (by decide +kernel) (by decide +kernel) rfl (Nat.le_of_ble_eq_true rfl) rfl ?_
        refine zT.run [(.iload_n 1, 0, 0, 0)] (pe := 41) (ls' := [some (.ref 0), some (.int (nI r))]) (st' := [.int (nI r), .int (g_X10_outcomeOf M oz 0 1)]) (M' := M) (by decide +kernel) rfl ?_
        refine zT.cne (tgt := 49) (off := 8) (by decide +kernel) (by decide) (fun (c4 : ¬ (g_X10_outcomeOf M oz 0 1) = (nI r)) => ?_) (fun (c4 : (g_X10_outcomeOf M oz 0 1) = (nI r)) => ?_)
        · skip
          refine zT.run [(.aload_n 0, 0, 0, 0), (.getfield 9, 8, 1, 5150), (.bipush 8, 0, 0, 0)] (pe := 55) (ls' := [some (.ref 0), some (.int (nI r))]) (st' := [.int 8, .ref 1]) (M' := M) (by decide +kernel) rfl ?_
          refine zT.iald (n := 187) (k := 8) rfl rfl (by decide) (by decide) (by decide +kernel) ?_
          refine zT.run [(.aload_n 0, 0, 0, 0), (.getfield 9, 8, 1, 5150), (.iconst 3, 0, 0, 0)] (pe := 61) (ls' := [some (.ref 0), some (.int (nI r))]) (st' := [.int 3, .ref 1, .int (M 1 8)]) (M' := M) (by decide +kernel) rfl ?_
          refine zT.iald (n := 187) (k := 3) rfl rfl (by decide) (by decide) (by decide +kernel) ?_
          refine zT.clt (tgt := 70) (off := 8) (by decide +kernel) (by decide) (fun (c5 : (M 1 8) < (M 1 3)) => ?_) (fun (c5 : ¬ (M 1 8) < (M 1 3)) => ?_)
          · skip
            refine zT.run [(.iconst 0, 0, 0, 0)] (pe := 71) (ls' := [some (.ref 0), some (.int (nI r))]) (st' := [.int 0]) (M' := M) (by decide +kernel) rfl ?_
            exact zT.iret (ty := Jvm.ClassFile.FieldType.int) (by simp only [g_X10_noRecount, if_pos c1, if_neg c2, if_neg c3, if_neg c4, if_pos c5]; try rfl) rfl rfl rfl (by decide +kernel)
          · skip
            refine zT.run [(.bipush 14, 0, 0, 0), (.goto 4, 0, 0, 0)] (pe := 71) (ls' := [some (.ref 0), some (.int (nI r))]) (st' := [.int 14]) (M' := M) (by decide +kernel) rfl ?_
            exact zT.iret (ty := Jvm.ClassFile.FieldType.int) (by simp only [g_X10_noRecount, if_pos c1, if_neg c2, if_neg c3, if_neg c4, if_neg c5]; try rfl) rfl rfl rfl (by decide +kernel)
        · skip
          refine zT.run [(.bipush 15, 0, 0, 0), (.goto 25, 0, 0, 0)] (pe := 71) (ls' := [some (.ref 0), some (.int (nI r))]) (st' := [.int 15]) (M' := M) (by decide +kernel) rfl ?_
          exact zT.iret (ty := Jvm.ClassFile.FieldType.int) (by simp only [g_X10_noRecount, if_pos c1, if_neg c2, if_neg c3, if_pos c4]; try rfl) rfl rfl rfl (by decide +kernel)
      · skip
        refine zT.run [(.iconst 3, 0, 0, 0)] (pe := 33) (ls' := [some (.ref 0), some (.int (nI r))]) (st' := [.int 3]) (M' := M) (by decide +kernel) rfl ?_
        exact zT.iret (ty := Jvm.ClassFile.FieldType.int) (by simp only [g_X10_noRecount, if_pos c1, if_neg c2, if_pos c3]; try rfl) rfl rfl rfl (by decide +kernel)
    · skip
      refine zT.run [(.bipush 6, 0, 0, 0)] (pe := 23) (ls' := [some (.ref 0), some (.int (nI r))]) (st' := [.int 6]) (M' := M) (by decide +kernel) rfl ?_
      exact zT.iret (ty := Jvm.ClassFile.FieldType.int) (by simp only [g_X10_noRecount, if_pos c1, if_pos c2]; try rfl) rfl rfl rfl (by decide +kernel)
  · skip
    refine zT.run [(.bipush 13, 0, 0, 0)] (pe := 12) (ls' := [some (.ref 0), some (.int (nI r))]) (st' := [.int 13]) (M' := M) (by decide +kernel) rfl ?_
    exact zT.iret (ty := Jvm.ClassFile.FieldType.int) (by simp only [g_X10_noRecount, if_neg c1]; try rfl) rfl rfl rfl (by decide +kernel)
theorem k_X10_noRecount : zCal yy_X10_noRecount 1 := ⟨⟨⟨⟨zIn (w := 6094) (by decide +kernel) rfl, zIn (w := 1012) (by decide +kernel) rfl⟩, by decide +kernel⟩, by decide +kernel⟩, ⟨zIn (w := 6093) (by decide +kernel) rfl, zIn (w := 52) (by decide +kernel) rfl⟩⟩
noncomputable abbrev yy_X10_recountIt : zY := (yX10_recountIt, cX10_recountIt, 4, (some Jvm.ClassFile.FieldType.int), 1, 23)
noncomputable def l_X10_recountIt_11 (M : zM) (n : Nat) (oz : Nat) (i1 : Nat) (s1 : Int32 × zM) : Int32 × zM := (if (g_X10_isOnRoll s1.2 (nI i1)) = 0 then (s1.1, s1.2) else (if (g_X10_of s1.2 i1 6) = 3 then (if (g_X10_of s1.2 i1 7) = 1 then (if (g_X10_isOnRoll (g_X10_put (g_X10_put s1.2 i1 6 1) i1 7 (-1)) (nI i1)) = 0 then ((s1.1 + 1), (g_X10_put (g_X10_put s1.2 i1 6 1) i1 7 (-1))) else (if (g_X10_outcomeOf M oz 0 1) = (-1) then ((s1.1 + 1), (g_X10_put (g_X10_put s1.2 i1 6 1) i1 7 (-1))) else (if (g_X10_of (g_X10_put (g_X10_put s1.2 i1 6 1) i1 7 (-1)) i1 4) = (g_X10_outcomeOf M oz 0 1) then ((s1.1 + 1), (g_X10_put (g_X10_put (g_X10_put s1.2 i1 6 1) i1 7 (-1)) i1 4 (-1))) else ((s1.1 + 1), (g_X10_put (g_X10_put s1.2 i1 6 1) i1 7 (-1)))))) else (if (g_X10_outcomeOf M oz 0 1) = (-1) then (s1.1, s1.2) else (if (g_X10_of s1.2 i1 4) = (g_X10_outcomeOf M oz 0 1) then (s1.1, (g_X10_put s1.2 i1 4 (-1))) else (s1.1, s1.2)))) else (if (g_X10_outcomeOf M oz 0 1) = (-1) then (s1.1, s1.2) else (if (g_X10_of s1.2 i1 4) = (g_X10_outcomeOf M oz 0 1) then (s1.1, (g_X10_put s1.2 i1 4 (-1))) else (s1.1, s1.2)))))
theorem fr_l_X10_recountIt_11 (M : zM) (n : Nat) (oz : Nat) (o : Nat) (ho : o ≠ 1) : ∀ (k : Nat) (s : Int32 × zM), (zIt (l_X10_recountIt_11 M n oz) k s).2 o = s.2 o := by
  intro k
  induction k with
  | zero => intro s; rfl
  | succ k ih =>
    intro s
    rw [← ih s]
    show (l_X10_recountIt_11 M n oz k (zIt (l_X10_recountIt_11 M n oz) k s)).2 o = _
    generalize zIt (l_X10_recountIt_11 M n oz) k s = t
    simp only [l_X10_recountIt_11]
    (repeat' split) <;> simp only [zU_ne ho, (fun (MM : zM) (r : Nat) (w : Nat) (v : Int32) => fr_X10_put MM r w v o (by omega)), (fun (MM : zM) (r : Nat) (w : Nat) (v : Int32) => fr_X10_put MM r w v o (by omega)), (fun (MM : zM) (r : Nat) (w : Nat) (v : Int32) => fr_X10_put MM r w v o (by omega)), (fun (MM : zM) (r : Nat) (w : Nat) (v : Int32) => fr_X10_put MM r w v o (by omega)), (fun (MM : zM) (r : Nat) (w : Nat) (v : Int32) => fr_X10_put MM r w v o (by omega)), (fun (MM : zM) (r : Nat) (w : Nat) (v : Int32) => fr_X10_put MM r w v o (by omega)), (fun (MM : zM) (r : Nat) (w : Nat) (v : Int32) => fr_X10_put MM r w v o (by omega)), (fun (MM : zM) (r : Nat) (w : Nat) (v : Int32) => fr_X10_put MM r w v o (by omega)), (fun (MM : zM) (r : Nat) (w : Nat) (v : Int32) => fr_X10_put MM r w v o (by omega)), (fun (MM : zM) (r : Nat) (w : Nat) (v : Int32) => fr_X10_put MM r w v o (by omega)), (fun (MM : zM) (r : Nat) (w : Nat) (v : Int32) => fr_X10_put MM r w v o (by omega))]
theorem lo_l_X10_recountIt_11 (M : zM) (n : Nat) (oz : Nat) (o : Nat) (ho : o < 10) : ∀ (k : Nat) (s : Int32 × zM), (zIt (l_X10_recountIt_11 M n oz) k s).2 1 o = s.2 1 o := by
  intro k
  induction k with
  | zero => intro s; rfl
  | succ k ih =>
    intro s
    rw [← ih s]
    show (l_X10_recountIt_11 M n oz k (zIt (l_X10_recountIt_11 M n oz) k s)).2 1 o = _
    generalize zIt (l_X10_recountIt_11 M n oz) k s = t
    simp only [l_X10_recountIt_11]
    (repeat' split) <;> (try simp only [(fun (MM : zM) (r : Nat) (w : Nat) (v : Int32) => lo_X10_put MM r w v o (by omega))])
noncomputable def r_X10_recountIt_11 (M : zM) (n : Nat) (oz : Nat) : Int32 × zM := (zIt (l_X10_recountIt_11 M n oz) n (0, M))
noncomputable def g_X10_recountIt (M : zM) (n : Nat) (oz : Nat) : Int32 × zM := ((r_X10_recountIt_11 M n oz).1, (zU (zU (zU (r_X10_recountIt_11 M n oz).2 1 9 (((r_X10_recountIt_11 M n oz).2 1 9) - 1)) 1 4 2) 1 8 (((r_X10_recountIt_11 M n oz).2 1 8) + 1)))
set_option maxRecDepth 100000 in
theorem c_X10_recountIt (M : zM) (gp : Nat → Option Nat) (n : Nat) (oz : Nat) (hn : M 1 0 = nI n) (h9 : n ≤ 9) (hoz : M 1 9 = nI oz) (h12 : oz ≤ 12) (hp : 0 < oz) : zC yy_X10_recountIt 0 0 [.ref 0] (sh_Model gp) M (some (.int (g_X10_recountIt M n oz).1)) (sh_Model gp) (g_X10_recountIt M n oz).2 := by
  refine zC.of (by decide +kernel) rfl (Nat.le_of_ble_eq_true rfl) ?_
  refine zT.run [(.aload_n 0, 0, 0, 0), (.iconst 0, 0, 0, 0), (.iconst 1, 0, 0, 0)] (pe := 3) (ls' := [some (.ref 0), none, none, none]) (st' := [.int 1, .int 0, .ref 0]) (M' := M) (by decide +kernel) rfl ?_
  refine zT.cV_own (o := 0) (idx := 150) (av := [.int (nI 0), .int (nI 1)]) (rv := (some (.int (g_X10_outcomeOf M oz 0 1)))) (st := []) (S1 := [.int (g_X10_outcomeOf M oz 0 1)]) (c_X10_outcomeOf M gp oz 0 1 hoz h12 (by omega) (by decide)) k_X10_outcomeOf _ _ rfl rfl rfl (zIn (w := 6095) (by decide +kernel) rfl) (by decide +kernel) (by decide +kernel) rfl (Nat.le_of_ble_eq_true rfl) rfl ?_
  refine zT.run [(.istore_n 1, 0, 0, 0), (.iconst 0, 0, 0, 0), (.istore_n 2, 0, 0, 0), (.iconst 0, 0, 0, 0), (.istore_n 3, 0, 0, 0)] (pe := 11) (ls' := [some (.ref 0), some (.int (g_X10_outcomeOf M oz 0 1)), some (.int 0), some (.int 0)]) (st' := []) (M' := M) (by decide +kernel) rfl ?_
  refine zT.loop (l_X10_recountIt_11 M n oz) (fun (i : Nat) (s : Int32 × zM) => (11, [some (.ref 0), some (.int (g_X10_outcomeOf M oz 0 1)), some (.int s.1), some (.int (nI i))], [], (sh_Model gp), s.2)) n (0, M) (fun i1 hi1 k1 => ?_) ?_
  · skip
    generalize hs1 : zIt (l_X10_recountIt_11 M n oz) i1 (0, M) = s1 at k1 ⊢
    have hm1 : ∀ o : Nat, (o ≠ 1) → s1.2 o = M o := fun o ho => by rw [← hs1]; exact fr_l_X10_recountIt_11 M n oz o ho i1 (0, M)
    have hl1 : ∀ o : Nat, (o < 10) → s1.2 1 o = M 1 o := fun o ho => by rw [← hs1]; exact lo_l_X10_recountIt_11 M n oz o ho i1 (0, M)
    show zT _ _ _ _ (11, [some (.ref 0), some (.int (g_X10_outcomeOf M oz 0 1)), some (.int s1.1), some (.int (nI i1))], [], (sh_Model gp), s1.2)
    refine zT.run [(.iload_n 3, 0, 0, 0), (.aload_n 0, 0, 0, 0), (.getfield 9, 8, 1, 5150), (.iconst 0, 0, 0, 0)] (pe := 17) (ls' := [some (.ref 0), some (.int (g_X10_outcomeOf M oz 0 1)), some (.int s1.1), some (.int (nI i1))]) (st' := [.int 0, .ref 1, .int (nI i1)]) (M' := s1.2) (by decide +kernel) rfl ?_
    refine zT.iald (n := 187) (k := 0) rfl rfl (by decide) (by decide) (by decide +kernel) ?_
    refine zT.cge (tgt := 106) (off := 88) (by decide +kernel) (by decide) (fun c => absurd c (zGeN (n := n) ((hl1 0 (by decide)).trans hn) (by omega) (by omega))) (fun _ => ?_)
    refine zT.run [(.aload_n 0, 0, 0, 0), (.iload_n 3, 0, 0, 0)] (pe := 23) (ls' := [some (.ref 0), some (.int (g_X10_outcomeOf M oz 0 1)), some (.int s1.1), some (.int (nI i1))]) (st' := [.int (nI i1), .ref 0]) (M' := s1.2) (by decide +kernel) rfl ?_
    refine zT.cV_own (o := 0) (idx := 106) (av := [.int (nI i1)]) (rv := (some (.int (g_X10_isOnRoll s1.2 (nI i1))))) (st := []) (S1 := [.int (g_X10_isOnRoll s1.2 (nI i1))]) (c_X10_isOnRoll s1.2 gp (nI i1)) k_X10_isOnRoll _ _ rfl rfl rfl (zIn (w := 5145) (by decide +kernel) rfl) (by decide +kernel) (by decide +kernel) rfl (Nat.le_of_ble_eq_true rfl) rfl ?_
    refine zT.zeq (tgt := 70) (off := 44) (by decide +kernel) (by decide) (fun (c1 : (g_X10_isOnRoll s1.2 (nI i1)) = 0) => ?_) (fun (c1 : ¬ (g_X10_isOnRoll s1.2 (nI i1)) = 0) => ?_)
    · skip
      refine zT.run [(.aload_n 0, 0, 0, 0), (.iload_n 3, 0, 0, 0)] (pe := 72) (ls' := [some (.ref 0), some (.int (g_X10_outcomeOf M oz 0 1)), some (.int s1.1), some (.int (nI i1))]) (st' := [.int (nI i1), .ref 0]) (M' := s1.2) (by decide +kernel) rfl ?_
      refine zT.cV_own (o := 0) (idx := 106) (av := [.int (nI i1)]) (rv := (some (.int (g_X10_isOnRoll s1.2 (nI i1))))) (st := []) (S1 := [.int (g_X10_isOnRoll s1.2 (nI i1))]) (c_X10_isOnRoll s1.2 gp (nI i1)) k_X10_isOnRoll _ _ rfl rfl rfl (zIn (w := 5145) (by decide +kernel) rfl) (by decide +kernel) (by decide +kernel) rfl (Nat.le_of_ble_eq_true rfl) rfl ?_
      refine zT.zeq (tgt := 100) (off := 25) (by decide +kernel) (by decide) (fun _ => ?_) (fun c => absurd c1 c)
      refine zT.run [(.iinc 3 1, 0, 0, 0), (.goto (-92), 0, 0, 0)] (pe := 11) (ls' := [some (.ref 0), some (.int (g_X10_outcomeOf M oz 0 1)), some (.int s1.1), some (.int ((nI i1) + 1))]) (st' := []) (M' := s1.2) (by decide +kernel) rfl ?_
      exact zT.eq (by simp only [l_X10_recountIt_11, if_pos c1, nI_succ, zDl]; try rfl) k1
    · skip
      refine zT.run [(.aload_n 0, 0, 0, 0), (.iload_n 3, 0, 0, 0), (.bipush 6, 0, 0, 0)] (pe := 33) (ls' := [some (.ref 0), some (.int (g_X10_outcomeOf M oz 0 1)), some (.int s1.1), some (.int (nI i1))]) (st' := [.int 6, .int (nI i1), .ref 0]) (M' := s1.2) (by decide +kernel) rfl ?_
      refine zT.cV_own (o := 0) (idx := 80) (av := [.int (nI i1), .int (nI 6)]) (rv := (some (.int (g_X10_of s1.2 i1 6)))) (st := []) (S1 := [.int (g_X10_of s1.2 i1 6)]) (c_X10_of s1.2 gp i1 6 (by omega) (by decide)) k_X10_of _ _ rfl rfl rfl (zIn (w := 5108) (by decide +kernel) rfl) (by decide +kernel) (by decide +kernel) rfl (Nat.le_of_ble_eq_true rfl) rfl ?_
      refine zT.run [(.iconst 3, 0, 0, 0)] (pe := 37) (ls' := [some (.ref 0), some (.int (g_X10_outcomeOf M oz 0 1)), some (.int s1.1), some (.int (nI i1))]) (st' := [.int 3, .int (g_X10_of s1.2 i1 6)]) (M' := s1.2) (by decide +kernel) rfl ?_
      refine zT.cne (tgt := 70) (off := 33) (by decide +kernel) (by decide) (fun (c2 : ¬ (g_X10_of s1.2 i1 6) = 3) => ?_) (fun (c2 : (g_X10_of s1.2 i1 6) = 3) => ?_)
      · skip
        refine zT.run [(.aload_n 0, 0, 0, 0), (.iload_n 3, 0, 0, 0)] (pe := 72) (ls' := [some (.ref 0), some (.int (g_X10_outcomeOf M oz 0 1)), some (.int s1.1), some (.int (nI i1))]) (st' := [.int (nI i1), .ref 0]) (M' := s1.2) (by decide +kernel) rfl ?_
        refine zT.cV_own (o := 0) (idx := 106) (av := [.int (nI i1)]) (rv := (some (.int (g_X10_isOnRoll s1.2 (nI i1))))) (st := []) (S1 := [.int (g_X10_isOnRoll s1.2 (nI i1))]) (c_X10_isOnRoll s1.2 gp (nI i1)) k_X10_isOnRoll _ _ rfl rfl rfl (zIn (w := 5145) (by decide +kernel) rfl) (by decide +kernel) (by decide +kernel) rfl (Nat.le_of_ble_eq_true rfl) rfl ?_
        refine zT.zeq (tgt := 100) (off := 25) (by decide +kernel) (by decide) (fun c => absurd c c1) (fun _ => ?_)
        refine zT.run [(.iload_n 1, 0, 0, 0), (.iconst (-1), 0, 0, 0)] (pe := 80) (ls' := [some (.ref 0), some (.int (g_X10_outcomeOf M oz 0 1)), some (.int s1.1), some (.int (nI i1))]) (st' := [.int (-1), .int (g_X10_outcomeOf M oz 0 1)]) (M' := s1.2) (by decide +kernel) rfl ?_
        refine zT.ceq (tgt := 100) (off := 20) (by decide +kernel) (by decide) (fun (c3 : (g_X10_outcomeOf M oz 0 1) = (-1)) => ?_) (fun (c3 : ¬ (g_X10_outcomeOf M oz 0 1) = (-1)) => ?_)
        · skip
          refine zT.run [(.iinc 3 1, 0, 0, 0), (.goto (-92), 0, 0, 0)] (pe := 11) (ls' := [some (.ref 0), some (.int (g_X10_outcomeOf M oz 0 1)), some (.int s1.1), some (.int ((nI i1) + 1))]) (st' := []) (M' := s1.2) (by decide +kernel) rfl ?_
          exact zT.eq (by simp only [l_X10_recountIt_11, if_neg c1, if_neg c2, if_pos c3, nI_succ, zDl]; try rfl) k1
        · skip
          refine zT.run [(.aload_n 0, 0, 0, 0), (.iload_n 3, 0, 0, 0), (.iconst 4, 0, 0, 0)] (pe := 86) (ls' := [some (.ref 0), some (.int (g_X10_outcomeOf M oz 0 1)), some (.int s1.1), some (.int (nI i1))]) (st' := [.int 4, .int (nI i1), .ref 0]) (M' := s1.2) (by decide +kernel) rfl ?_
          refine zT.cV_own (o := 0) (idx := 80) (av := [.int (nI i1), .int (nI 4)]) (rv := (some (.int (g_X10_of s1.2 i1 4)))) (st := []) (S1 := [.int (g_X10_of s1.2 i1 4)]) (c_X10_of s1.2 gp i1 4 (by omega) (by decide)) k_X10_of _ _ rfl rfl rfl (zIn (w := 5108) (by decide +kernel) rfl) (by decide +kernel) (by decide +kernel) rfl (Nat.le_of_ble_eq_true rfl) rfl ?_
          refine zT.run [(.iload_n 1, 0, 0, 0)] (pe := 90) (ls' := [some (.ref 0), some (.int (g_X10_outcomeOf M oz 0 1)), some (.int s1.1), some (.int (nI i1))]) (st' := [.int (g_X10_outcomeOf M oz 0 1), .int (g_X10_of s1.2 i1 4)]) (M' := s1.2) (by decide +kernel) rfl ?_
          refine zT.cne (tgt := 100) (off := 10) (by decide +kernel) (by decide) (fun (c4 : ¬ (g_X10_of s1.2 i1 4) = (g_X10_outcomeOf M oz 0 1)) => ?_) (fun (c4 : (g_X10_of s1.2 i1 4) = (g_X10_outcomeOf M oz 0 1)) => ?_)
          · skip
            refine zT.run [(.iinc 3 1, 0, 0, 0), (.goto (-92), 0, 0, 0)] (pe := 11) (ls' := [some (.ref 0), some (.int (g_X10_outcomeOf M oz 0 1)), some (.int s1.1), some (.int ((nI i1) + 1))]) (st' := []) (M' := s1.2) (by decide +kernel) rfl ?_
            exact zT.eq (by simp only [l_X10_recountIt_11, if_neg c1, if_neg c2, if_neg c3, if_neg c4, nI_succ, zDl]; try rfl) k1
          · skip
            refine zT.run [(.aload_n 0, 0, 0, 0), (.iload_n 3, 0, 0, 0), (.iconst 4, 0, 0, 0), (.iconst (-1), 0, 0, 0)] (pe := 97) (ls' := [some (.ref 0), some (.int (g_X10_outcomeOf M oz 0 1)), some (.int s1.1), some (.int (nI i1))]) (st' := [.int (-1), .int 4, .int (nI i1), .ref 0]) (M' := s1.2) (by decide +kernel) rfl ?_
            refine zT.cV_all (o := 0) (idx := 76) (av := [.int (nI i1), .int (nI 4), .int (-1)]) (rv := none) (st := []) (S1 := []) (c_X10_put s1.2 gp i1 4 (-1) (by omega) (by decide)) k_X10_put _ _ rfl rfl rfl (zIn (w := 5100) (by decide +kernel) rfl) (by decide +kernel) (by decide +kernel) rfl (Nat.le_of_ble_eq_true rfl) rfl ?_
            refine zT.run [(.iinc 3 1, 0, 0, 0), (.goto (-92), 0, 0, 0)] (pe := 11) (ls' := [some (.ref 0), some (.int (g_X10_outcomeOf M oz 0 1)), some (.int s1.1), some (.int ((nI i1) + 1))]) (st' := []) (M' := (g_X10_put s1.2 i1 4 (-1))) (by decide +kernel) rfl ?_
            exact zT.eq (by simp only [l_X10_recountIt_11, if_neg c1, if_neg c2, if_neg c3, if_pos c4, nI_succ, zDl]; try rfl) k1
      · skip
        refine zT.run [(.aload_n 0, 0, 0, 0), (.iload_n 3, 0, 0, 0), (.bipush 7, 0, 0, 0)] (pe := 44) (ls' := [some (.ref 0), some (.int (g_X10_outcomeOf M oz 0 1)), some (.int s1.1), some (.int (nI i1))]) (st' := [.int 7, .int (nI i1), .ref 0]) (M' := s1.2) (by decide +kernel) rfl ?_
        refine zT.cV_own (o := 0) (idx := 80) (av := [.int (nI i1), .int (nI 7)]) (rv := (some (.int (g_X10_of s1.2 i1 7)))) (st := []) (S1 := [.int (g_X10_of s1.2 i1 7)]) (c_X10_of s1.2 gp i1 7 (by omega) (by decide)) k_X10_of _ _ rfl rfl rfl (zIn (w := 5108) (by decide +kernel) rfl) (by decide +kernel) (by decide +kernel) rfl (Nat.le_of_ble_eq_true rfl) rfl ?_
        refine zT.run [(.iconst 1, 0, 0, 0)] (pe := 48) (ls' := [some (.ref 0), some (.int (g_X10_outcomeOf M oz 0 1)), some (.int s1.1), some (.int (nI i1))]) (st' := [.int 1, .int (g_X10_of s1.2 i1 7)]) (M' := s1.2) (by decide +kernel) rfl ?_
        refine zT.cne (tgt := 70) (off := 22) (by decide +kernel) (by decide) (fun (c5 : ¬ (g_X10_of s1.2 i1 7) = 1) => ?_) (fun (c5 : (g_X10_of s1.2 i1 7) = 1) => ?_)
        · skip
          refine zT.run [(.aload_n 0, 0, 0, 0), (.iload_n 3, 0, 0, 0)] (pe := 72) (ls' := [some (.ref 0), some (.int (g_X10_outcomeOf M oz 0 1)), some (.int s1.1), some (.int (nI i1))]) (st' := [.int (nI i1), .ref 0]) (M' := s1.2) (by decide +kernel) rfl ?_
          refine zT.cV_own (o := 0) (idx := 106) (av := [.int (nI i1)]) (rv := (some (.int (g_X10_isOnRoll s1.2 (nI i1))))) (st := []) (S1 := [.int (g_X10_isOnRoll s1.2 (nI i1))]) (c_X10_isOnRoll s1.2 gp (nI i1)) k_X10_isOnRoll _ _ rfl rfl rfl (zIn (w := 5145) (by decide +kernel) rfl) (by decide +kernel) (by decide +kernel) rfl (Nat.le_of_ble_eq_true rfl) rfl ?_
          refine zT.zeq (tgt := 100) (off := 25) (by decide +kernel) (by decide) (fun c => absurd c c1) (fun _ => ?_)
          refine zT.run [(.iload_n 1, 0, 0, 0), (.iconst (-1), 0, 0, 0)] (pe := 80) (ls' := [some (.ref 0), some (.int (g_X10_outcomeOf M oz 0 1)), some (.int s1.1), some (.int (nI i1))]) (st' := [.int (-1), .int (g_X10_outcomeOf M oz 0 1)]) (M' := s1.2) (by decide +kernel) rfl ?_
          refine zT.ceq (tgt := 100) (off := 20) (by decide +kernel) (by decide) (fun (c6 : (g_X10_outcomeOf M oz 0 1) = (-1)) => ?_) (fun (c6 : ¬ (g_X10_outcomeOf M oz 0 1) = (-1)) => ?_)
          · skip
            refine zT.run [(.iinc 3 1, 0, 0, 0), (.goto (-92), 0, 0, 0)] (pe := 11) (ls' := [some (.ref 0), some (.int (g_X10_outcomeOf M oz 0 1)), some (.int s1.1), some (.int ((nI i1) + 1))]) (st' := []) (M' := s1.2) (by decide +kernel) rfl ?_
            exact zT.eq (by simp only [l_X10_recountIt_11, if_neg c1, if_pos c2, if_neg c5, if_pos c6, nI_succ, zDl]; try rfl) k1
          · skip
            refine zT.run [(.aload_n 0, 0, 0, 0), (.iload_n 3, 0, 0, 0), (.iconst 4, 0, 0, 0)] (pe := 86) (ls' := [some (.ref 0), some (.int (g_X10_outcomeOf M oz 0 1)), some (.int s1.1), some (.int (nI i1))]) (st' := [.int 4, .int (nI i1), .ref 0]) (M' := s1.2) (by decide +kernel) rfl ?_
            refine zT.cV_own (o := 0) (idx := 80) (av := [.int (nI i1), .int (nI 4)]) (rv := (some (.int (g_X10_of s1.2 i1 4)))) (st := []) (S1 := [.int (g_X10_of s1.2 i1 4)]) (c_X10_of s1.2 gp i1 4 (by omega) (by decide)) k_X10_of _ _ rfl rfl rfl (zIn (w := 5108) (by decide +kernel) rfl) (by decide +kernel) (by decide +kernel) rfl (Nat.le_of_ble_eq_true rfl) rfl ?_
            refine zT.run [(.iload_n 1, 0, 0, 0)] (pe := 90) (ls' := [some (.ref 0), some (.int (g_X10_outcomeOf M oz 0 1)), some (.int s1.1), some (.int (nI i1))]) (st' := [.int (g_X10_outcomeOf M oz 0 1), .int (g_X10_of s1.2 i1 4)]) (M' := s1.2) (by decide +kernel) rfl ?_
            refine zT.cne (tgt := 100) (off := 10) (by decide +kernel) (by decide) (fun (c7 : ¬ (g_X10_of s1.2 i1 4) = (g_X10_outcomeOf M oz 0 1)) => ?_) (fun (c7 : (g_X10_of s1.2 i1 4) = (g_X10_outcomeOf M oz 0 1)) => ?_)
            · skip
              refine zT.run [(.iinc 3 1, 0, 0, 0), (.goto (-92), 0, 0, 0)] (pe := 11) (ls' := [some (.ref 0), some (.int (g_X10_outcomeOf M oz 0 1)), some (.int s1.1), some (.int ((nI i1) + 1))]) (st' := []) (M' := s1.2) (by decide +kernel) rfl ?_
              exact zT.eq (by simp only [l_X10_recountIt_11, if_neg c1, if_pos c2, if_neg c5, if_neg c6, if_neg c7, nI_succ, zDl]; try rfl) k1
            · skip
              refine zT.run [(.aload_n 0, 0, 0, 0), (.iload_n 3, 0, 0, 0), (.iconst 4, 0, 0, 0), (.iconst (-1), 0, 0, 0)] (pe := 97) (ls' := [some (.ref 0), some (.int (g_X10_outcomeOf M oz 0 1)), some (.int s1.1), some (.int (nI i1))]) (st' := [.int (-1), .int 4, .int (nI i1), .ref 0]) (M' := s1.2) (by decide +kernel) rfl ?_
              refine zT.cV_all (o := 0) (idx := 76) (av := [.int (nI i1), .int (nI 4), .int (-1)]) (rv := none) (st := []) (S1 := []) (c_X10_put s1.2 gp i1 4 (-1) (by omega) (by decide)) k_X10_put _ _ rfl rfl rfl (zIn (w := 5100) (by decide +kernel) rfl) (by decide +kernel) (by decide +kernel) rfl (Nat.le_of_ble_eq_true rfl) rfl ?_
              refine zT.run [(.iinc 3 1, 0, 0, 0), (.goto (-92), 0, 0, 0)] (pe := 11) (ls' := [some (.ref 0), some (.int (g_X10_outcomeOf M oz 0 1)), some (.int s1.1), some (.int ((nI i1) + 1))]) (st' := []) (M' := (g_X10_put s1.2 i1 4 (-1))) (by decide +kernel) rfl ?_
              exact zT.eq (by simp only [l_X10_recountIt_11, if_neg c1, if_pos c2, if_neg c5, if_neg c6, if_pos c7, nI_succ, zDl]; try rfl) k1
        · skip
          refine zT.run [(.aload_n 0, 0, 0, 0), (.iload_n 3, 0, 0, 0), (.bipush 6, 0, 0, 0), (.iconst 1, 0, 0, 0)] (pe := 56) (ls' := [some (.ref 0), some (.int (g_X10_outcomeOf M oz 0 1)), some (.int s1.1), some (.int (nI i1))]) (st' := [.int 1, .int 6, .int (nI i1), .ref 0]) (M' := s1.2) (by decide +kernel) rfl ?_
          refine zT.cV_all (o := 0) (idx := 76) (av := [.int (nI i1), .int (nI 6), .int 1]) (rv := none) (st := []) (S1 := []) (c_X10_put s1.2 gp i1 6 1 (by omega) (by decide)) k_X10_put _ _ rfl rfl rfl (zIn (w := 5100) (by decide +kernel) rfl) (by decide +kernel) (by decide +kernel) rfl (Nat.le_of_ble_eq_true rfl) rfl ?_
          refine zT.run [(.aload_n 0, 0, 0, 0), (.iload_n 3, 0, 0, 0), (.bipush 7, 0, 0, 0), (.iconst (-1), 0, 0, 0)] (pe := 64) (ls' := [some (.ref 0), some (.int (g_X10_outcomeOf M oz 0 1)), some (.int s1.1), some (.int (nI i1))]) (st' := [.int (-1), .int 7, .int (nI i1), .ref 0]) (M' := (g_X10_put s1.2 i1 6 1)) (by decide +kernel) rfl ?_
          refine zT.cV_all (o := 0) (idx := 76) (av := [.int (nI i1), .int (nI 7), .int (-1)]) (rv := none) (st := []) (S1 := []) (c_X10_put (g_X10_put s1.2 i1 6 1) gp i1 7 (-1) (by omega) (by decide)) k_X10_put _ _ rfl rfl rfl (zIn (w := 5100) (by decide +kernel) rfl) (by decide +kernel) (by decide +kernel) rfl (Nat.le_of_ble_eq_true rfl) rfl ?_
          refine zT.run [(.iinc 2 1, 0, 0, 0), (.aload_n 0, 0, 0, 0), (.iload_n 3, 0, 0, 0)] (pe := 72) (ls' := [some (.ref 0), some (.int (g_X10_outcomeOf M oz 0 1)), some (.int (s1.1 + 1)), some (.int (nI i1))]) (st' := [.int (nI i1), .ref 0]) (M' := (g_X10_put (g_X10_put s1.2 i1 6 1) i1 7 (-1))) (by decide +kernel) rfl ?_
          refine zT.cV_own (o := 0) (idx := 106) (av := [.int (nI i1)]) (rv := (some (.int (g_X10_isOnRoll (g_X10_put (g_X10_put s1.2 i1 6 1) i1 7 (-1)) (nI i1))))) (st := []) (S1 := [.int (g_X10_isOnRoll (g_X10_put (g_X10_put s1.2 i1 6 1) i1 7 (-1)) (nI i1))]) (c_X10_isOnRoll (g_X10_put (g_X10_put s1.2 i1 6 1) i1 7 (-1)) gp (nI i1)) k_X10_isOnRoll _ _ rfl rfl rfl (zIn (w := 5145) (by decide +kernel) rfl) (by decide +kernel) (by decide +kernel) rfl (Nat.le_of_ble_eq_true rfl) rfl ?_
          refine zT.zeq (tgt := 100) (off := 25) (by decide +kernel) (by decide) (fun (c8 : (g_X10_isOnRoll (g_X10_put (g_X10_put s1.2 i1 6 1) i1 7 (-1)) (nI i1)) = 0) => ?_) (fun (c8 : ¬ (g_X10_isOnRoll (g_X10_put (g_X10_put s1.2 i1 6 1) i1 7 (-1)) (nI i1)) = 0) => ?_)
          · skip
            refine zT.run [(.iinc 3 1, 0, 0, 0), (.goto (-92), 0, 0, 0)] (pe := 11) (ls' := [some (.ref 0), some (.int (g_X10_outcomeOf M oz 0 1)), some (.int (s1.1 + 1)), some (.int ((nI i1) + 1))]) (st' := []) (M' := (g_X10_put (g_X10_put s1.2 i1 6 1) i1 7 (-1))) (by decide +kernel) rfl ?_
            exact zT.eq (by simp only [l_X10_recountIt_11, if_neg c1, if_pos c2, if_pos c5, if_pos c8, nI_succ, zDl]; try rfl) k1
          · skip
            refine zT.run [(.iload_n 1, 0, 0, 0), (.iconst (-1), 0, 0, 0)] (pe := 80) (ls' := [some (.ref 0), some (.int (g_X10_outcomeOf M oz 0 1)), some (.int (s1.1 + 1)), some (.int (nI i1))]) (st' := [.int (-1), .int (g_X10_outcomeOf M oz 0 1)]) (M' := (g_X10_put (g_X10_put s1.2 i1 6 1) i1 7 (-1))) (by decide +kernel) rfl ?_
            refine zT.ceq (tgt := 100) (off := 20) (by decide +kernel) (by decide) (fun (c9 : (g_X10_outcomeOf M oz 0 1) = (-1)) => ?_) (fun (c9 : ¬ (g_X10_outcomeOf M oz 0 1) = (-1)) => ?_)
            · skip
              refine zT.run [(.iinc 3 1, 0, 0, 0), (.goto (-92), 0, 0, 0)] (pe := 11) (ls' := [some (.ref 0), some (.int (g_X10_outcomeOf M oz 0 1)), some (.int (s1.1 + 1)), some (.int ((nI i1) + 1))]) (st' := []) (M' := (g_X10_put (g_X10_put s1.2 i1 6 1) i1 7 (-1))) (by decide +kernel) rfl ?_
              exact zT.eq (by simp only [l_X10_recountIt_11, if_neg c1, if_pos c2, if_pos c5, if_neg c8, if_pos c9, nI_succ, zDl]; try rfl) k1
            · skip
              refine zT.run [(.aload_n 0, 0, 0, 0), (.iload_n 3, 0, 0, 0), (.iconst 4, 0, 0, 0)] (pe := 86) (ls' := [some (.ref 0), some (.int (g_X10_outcomeOf M oz 0 1)), some (.int (s1.1 + 1)), some (.int (nI i1))]) (st' := [.int 4, .int (nI i1), .ref 0]) (M' := (g_X10_put (g_X10_put s1.2 i1 6 1) i1 7 (-1))) (by decide +kernel) rfl ?_
              refine zT.cV_own (o := 0) (idx := 80) (av := [.int (nI i1), .int (nI 4)]) (rv := (some (.int (g_X10_of (g_X10_put (g_X10_put s1.2 i1 6 1) i1 7 (-1)) i1 4)))) (st := []) (S1 := [.int (g_X10_of (g_X10_put (g_X10_put s1.2 i1 6 1) i1 7 (-1)) i1 4)]) (c_X10_of (g_X10_put (g_X10_put s1.2 i1 6 1) i1 7 (-1)) gp i1 4 (by omega) (by decide)) k_X10_of _ _ rfl rfl rfl (zIn (w := 5108) (by decide +kernel) rfl) (by decide +kernel) (by decide +kernel) rfl (Nat.le_of_ble_eq_true rfl) rfl ?_
              refine zT.run [(.iload_n 1, 0, 0, 0)] (pe := 90) (ls' := [some (.ref 0), some (.int (g_X10_outcomeOf M oz 0 1)), some (.int (s1.1 + 1)), some (.int (nI i1))]) (st' := [.int (g_X10_outcomeOf M oz 0 1), .int (g_X10_of (g_X10_put (g_X10_put s1.2 i1 6 1) i1 7 (-1)) i1 4)]) (M' := (g_X10_put (g_X10_put s1.2 i1 6 1) i1 7 (-1))) (by decide +kernel) rfl ?_
              refine zT.cne (tgt := 100) (off := 10) (by decide +kernel) (by decide) (fun (c10 : ¬ (g_X10_of (g_X10_put (g_X10_put s1.2 i1 6 1) i1 7 (-1)) i1 4) = (g_X10_outcomeOf M oz 0 1)) => ?_) (fun (c10 : (g_X10_of (g_X10_put (g_X10_put s1.2 i1 6 1) i1 7 (-1)) i1 4) = (g_X10_outcomeOf M oz 0 1)) => ?_)
              · skip
                refine zT.run [(.iinc 3 1, 0, 0, 0), (.goto (-92), 0, 0, 0)] (pe := 11) (ls' := [some (.ref 0), some (.int (g_X10_outcomeOf M oz 0 1)), some (.int (s1.1 + 1)), some (.int ((nI i1) + 1))]) (st' := []) (M' := (g_X10_put (g_X10_put s1.2 i1 6 1) i1 7 (-1))) (by decide +kernel) rfl ?_
                exact zT.eq (by simp only [l_X10_recountIt_11, if_neg c1, if_pos c2, if_pos c5, if_neg c8, if_neg c9, if_neg c10, nI_succ, zDl]; try rfl) k1
              · skip
                refine zT.run [(.aload_n 0, 0, 0, 0), (.iload_n 3, 0, 0, 0), (.iconst 4, 0, 0, 0), (.iconst (-1), 0, 0, 0)] (pe := 97) (ls' := [some (.ref 0), some (.int (g_X10_outcomeOf M oz 0 1)), some (.int (s1.1 + 1)), some (.int (nI i1))]) (st' := [.int (-1), .int 4, .int (nI i1), .ref 0]) (M' := (g_X10_put (g_X10_put s1.2 i1 6 1) i1 7 (-1))) (by decide +kernel) rfl ?_
                refine zT.cV_all (o := 0) (idx := 76) (av := [.int (nI i1), .int (nI 4), .int (-1)]) (rv := none) (st := []) (S1 := []) (c_X10_put (g_X10_put (g_X10_put s1.2 i1 6 1) i1 7 (-1)) gp i1 4 (-1) (by omega) (by decide)) k_X10_put _ _ rfl rfl rfl (zIn (w := 5100) (by decide +kernel) rfl) (by decide +kernel) (by decide +kernel) rfl (Nat.le_of_ble_eq_true rfl) rfl ?_
                refine zT.run [(.iinc 3 1, 0, 0, 0), (.goto (-92), 0, 0, 0)] (pe := 11) (ls' := [some (.ref 0), some (.int (g_X10_outcomeOf M oz 0 1)), some (.int (s1.1 + 1)), some (.int ((nI i1) + 1))]) (st' := []) (M' := (g_X10_put (g_X10_put (g_X10_put s1.2 i1 6 1) i1 7 (-1)) i1 4 (-1))) (by decide +kernel) rfl ?_
                exact zT.eq (by simp only [l_X10_recountIt_11, if_neg c1, if_pos c2, if_pos c5, if_neg c8, if_neg c9, if_pos c10, nI_succ, zDl]; try rfl) k1
  · skip
    show zT _ _ _ _ (11, [some (.ref 0), some (.int (g_X10_outcomeOf M oz 0 1)), some (.int (r_X10_recountIt_11 M n oz).1), some (.int (nI n))], [], (sh_Model gp), (r_X10_recountIt_11 M n oz).2)
    refine zT.run [(.iload_n 3, 0, 0, 0), (.aload_n 0, 0, 0, 0), (.getfield 9, 8, 1, 5150), (.iconst 0, 0, 0, 0)] (pe := 17) (ls' := [some (.ref 0), some (.int (g_X10_outcomeOf M oz 0 1)), some (.int (r_X10_recountIt_11 M n oz).1), some (.int (nI n))]) (st' := [.int 0, .ref 1, .int (nI n)]) (M' := (r_X10_recountIt_11 M n oz).2) (by decide +kernel) rfl ?_
    refine zT.iald (n := 187) (k := 0) rfl rfl (by decide) (by decide) (by decide +kernel) ?_
    refine zT.cge (tgt := 106) (off := 88) (by decide +kernel) (by decide) (fun _ => ?_) (fun c => absurd (zGeY (n := n) ((lo_l_X10_recountIt_11 M n oz 0 (by decide) n (0, M)).trans hn)) c)
    refine zT.run [(.aload_n 0, 0, 0, 0), (.getfield 9, 8, 1, 5150), (.bipush 9, 0, 0, 0), (.dup2, 0, 0, 0)] (pe := 113) (ls' := [some (.ref 0), some (.int (g_X10_outcomeOf M oz 0 1)), some (.int (r_X10_recountIt_11 M n oz).1), some (.int (nI n))]) (st' := [.int 9, .ref 1, .int 9, .ref 1]) (M' := (r_X10_recountIt_11 M n oz).2) (by decide +kernel) rfl ?_
    refine zT.iald (n := 187) (k := 9) rfl rfl (by decide) (by decide) (by decide +kernel) ?_
    refine zT.run [(.iconst 1, 0, 0, 0), (.isub, 0, 0, 0)] (pe := 116) (ls' := [some (.ref 0), some (.int (g_X10_outcomeOf M oz 0 1)), some (.int (r_X10_recountIt_11 M n oz).1), some (.int (nI n))]) (st' := [.int (((r_X10_recountIt_11 M n oz).2 1 9) - 1), .int 9, .ref 1]) (M' := (r_X10_recountIt_11 M n oz).2) (by decide +kernel) rfl ?_
    refine zT.iast (n := 187) (k := 9) rfl rfl (by decide) (by decide) (by decide +kernel) ?_
    refine zT.run [(.aload_n 0, 0, 0, 0), (.getfield 9, 8, 1, 5150), (.iconst 4, 0, 0, 0), (.iconst 2, 0, 0, 0)] (pe := 123) (ls' := [some (.ref 0), some (.int (g_X10_outcomeOf M oz 0 1)), some (.int (r_X10_recountIt_11 M n oz).1), some (.int (nI n))]) (st' := [.int 2, .int 4, .ref 1]) (M' := (zU (r_X10_recountIt_11 M n oz).2 1 9 (((r_X10_recountIt_11 M n oz).2 1 9) - 1))) (by decide +kernel) rfl ?_
    refine zT.iast (n := 187) (k := 4) rfl rfl (by decide) (by decide) (by decide +kernel) ?_
    refine zT.run [(.aload_n 0, 0, 0, 0), (.getfield 9, 8, 1, 5150), (.bipush 8, 0, 0, 0), (.dup2, 0, 0, 0)] (pe := 131) (ls' := [some (.ref 0), some (.int (g_X10_outcomeOf M oz 0 1)), some (.int (r_X10_recountIt_11 M n oz).1), some (.int (nI n))]) (st' := [.int 8, .ref 1, .int 8, .ref 1]) (M' := (zU (zU (r_X10_recountIt_11 M n oz).2 1 9 (((r_X10_recountIt_11 M n oz).2 1 9) - 1)) 1 4 2)) (by decide +kernel) rfl ?_
    refine zT.iald (n := 187) (k := 8) rfl rfl (by decide) (by decide) (by decide +kernel) ?_
    refine zT.run [(.iconst 1, 0, 0, 0), (.iadd, 0, 0, 0)] (pe := 134) (ls' := [some (.ref 0), some (.int (g_X10_outcomeOf M oz 0 1)), some (.int (r_X10_recountIt_11 M n oz).1), some (.int (nI n))]) (st' := [.int (((r_X10_recountIt_11 M n oz).2 1 8) + 1), .int 8, .ref 1]) (M' := (zU (zU (r_X10_recountIt_11 M n oz).2 1 9 (((r_X10_recountIt_11 M n oz).2 1 9) - 1)) 1 4 2)) (by decide +kernel) rfl ?_
    refine zT.iast (n := 187) (k := 8) rfl rfl (by decide) (by decide) (by decide +kernel) ?_
    refine zT.run [(.iload_n 2, 0, 0, 0)] (pe := 136) (ls' := [some (.ref 0), some (.int (g_X10_outcomeOf M oz 0 1)), some (.int (r_X10_recountIt_11 M n oz).1), some (.int (nI n))]) (st' := [.int (r_X10_recountIt_11 M n oz).1]) (M' := (zU (zU (zU (r_X10_recountIt_11 M n oz).2 1 9 (((r_X10_recountIt_11 M n oz).2 1 9) - 1)) 1 4 2) 1 8 (((r_X10_recountIt_11 M n oz).2 1 8) + 1))) (by decide +kernel) rfl ?_
    exact zT.iret (ty := Jvm.ClassFile.FieldType.int) (by simp only [g_X10_recountIt]; try rfl) (by simp only [g_X10_recountIt]; try rfl) rfl rfl (by decide +kernel)
theorem fr_X10_recountIt (M : zM) (n : Nat) (oz : Nat) (o : Nat) (ho : o ≠ 1) : (g_X10_recountIt M n oz).2 o = M o := by
  simp only [g_X10_recountIt]
  (repeat' split) <;> simp only [zU_ne ho, zUa_ne ho, r_X10_recountIt_11, (fr_l_X10_recountIt_11 M n oz o (by omega))]
theorem lo_X10_recountIt (M : zM) (n : Nat) (oz : Nat) (o : Nat) (ho : o < 10 ∧ o ≠ 4 ∧ o ≠ 8 ∧ o ≠ 9) : (g_X10_recountIt M n oz).2 1 o = M 1 o := by
  simp only [g_X10_recountIt]
  (repeat' split) <;> (try simp only [zU_k (c := 1) (i := 8) (o := o) (by omega), zU_k (c := 1) (i := 4) (o := o) (by omega), zU_k (c := 1) (i := 9) (o := o) (by omega), r_X10_recountIt_11, (lo_l_X10_recountIt_11 M n oz o (by omega))])
theorem k_X10_recountIt : zCal yy_X10_recountIt 0 := ⟨⟨⟨⟨zIn (w := 6102) (by decide +kernel) rfl, zIn (w := 1012) (by decide +kernel) rfl⟩, by decide +kernel⟩, by decide +kernel⟩, ⟨zIn (w := 6101) (by decide +kernel) rfl, zIn (w := 54) (by decide +kernel) rfl⟩⟩
