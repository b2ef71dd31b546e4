section ZFL
variable {Y : zY} {kc nc : Nat} {Z : zS → Prop} {pc : Nat} {ls : zL} {st : List Value} {sh : List va_E} {M M' : zM}
theorem zT.fconst0 (hd : decode Y.2.1 pc = .ok (.fconst 0, 1)) (k1 : zT Y kc nc Z (pc + 1, ls, .float FP.fconst0 :: st, sh, M)) : zT Y kc nc Z (pc, ls, st, sh, M) := by
  refine zT.step (S1 := (pc + 1, ls, .float FP.fconst0 :: st, sh, M)) rfl ?_ k1
  intro p l e R s m args below meth c D cA ex A E Q cells slots as _ _ k9 H locs lsR hP hD hS hl
  exact lv_fconst0 E.1 E.2.1 hd (k9 H locs lsR hP hD hS hl)
theorem zT.dconst0 (hd : decode Y.2.1 pc = .ok (.dconst 0, 1)) (k1 : zT Y kc nc Z (pc + 1, ls, .double FP.dconst0 :: st, sh, M)) : zT Y kc nc Z (pc, ls, st, sh, M) := by
  refine zT.step (S1 := (pc + 1, ls, .double FP.dconst0 :: st, sh, M)) rfl ?_ k1
  intro p l e R s m args below meth c D cA ex A E Q cells slots as _ _ k9 H locs lsR hP hD hS hl
  exact lv_dconst0 E.1 E.2.1 hd (k9 H locs lsR hP hD hS hl)
theorem zT.i2f {x : Int32} (hd : decode Y.2.1 pc = .ok (.i2f, 1)) (k1 : zT Y kc nc Z (pc + 1, ls, .float (FP.i2f x) :: st, sh, M)) : zT Y kc nc Z (pc, ls, .int x :: st, sh, M) := by
  refine zT.step (S1 := (pc + 1, ls, .float (FP.i2f x) :: st, sh, M)) rfl ?_ k1
  intro p l e R s m args below meth c D cA ex A E Q cells slots as _ _ k9 H locs lsR hP hD hS hl
  exact lv_i2f E.1 E.2.1 hd (k9 H locs lsR hP hD hS hl)
theorem zT.i2d {x : Int32} (hd : decode Y.2.1 pc = .ok (.i2d, 1)) (k1 : zT Y kc nc Z (pc + 1, ls, .double (FP.i2d x) :: st, sh, M)) : zT Y kc nc Z (pc, ls, .int x :: st, sh, M) := by
  refine zT.step (S1 := (pc + 1, ls, .double (FP.i2d x) :: st, sh, M)) rfl ?_ k1
  intro p l e R s m args below meth c D cA ex A E Q cells slots as _ _ k9 H locs lsR hP hD hS hl
  exact lv_i2d E.1 E.2.1 hd (k9 H locs lsR hP hD hS hl)
theorem zT.fdiv {x y : UInt32} (hd : decode Y.2.1 pc = .ok (.fdiv, 1)) (hne : vf_n32 (FP.fdiv x y)) (k1 : zT Y kc nc Z (pc + 1, ls, .float (FP.fdiv x y) :: st, sh, M)) : zT Y kc nc Z (pc, ls, .float y :: .float x :: st, sh, M) := by
  refine zT.step (S1 := (pc + 1, ls, .float (FP.fdiv x y) :: st, sh, M)) rfl ?_ k1
  intro p l e R s m args below meth c D cA ex A E Q cells slots as _ _ k9 H locs lsR hP hD hS hl
  exact lv_fdiv E.1 E.2.1 hd hne (k9 H locs lsR hP hD hS hl)
theorem zT.ddiv {x y : UInt64} (hd : decode Y.2.1 pc = .ok (.ddiv, 1)) (hne : vf_n64 (FP.ddiv x y)) (k1 : zT Y kc nc Z (pc + 1, ls, .double (FP.ddiv x y) :: st, sh, M)) : zT Y kc nc Z (pc, ls, .double y :: .double x :: st, sh, M) := by
  refine zT.step (S1 := (pc + 1, ls, .double (FP.ddiv x y) :: st, sh, M)) rfl ?_ k1
  intro p l e R s m args below meth c D cA ex A E Q cells slots as _ _ k9 H locs lsR hP hD hS hl
  exact lv_ddiv E.1 E.2.1 hd hne (k9 H locs lsR hP hD hS hl)
theorem zT.fret {v v' : UInt32} (hv : v' = v) (hm : M' = M) (hr : Y.2.2.2.1 = some .float) (hd : decode Y.2.1 pc = .ok (.freturn, 1)) : zT Y 0 0 (zEnd Y (some (.float v')) sh M') (pc, ls, [.float v], sh, M) := by
  subst hv hm
  exact zT.here ⟨rfl, rfl, rfl, Or.inr (Or.inr (Or.inr (Or.inl ⟨_, rfl, hr, hd⟩)))⟩
theorem zT.dret {v v' : UInt64} (hv : v' = v) (hm : M' = M) (hr : Y.2.2.2.1 = some .double) (hd : decode Y.2.1 pc = .ok (.dreturn, 1)) : zT Y 0 0 (zEnd Y (some (.double v')) sh M') (pc, ls, [.double v], sh, M) := by
  subst hv hm
  exact zT.here ⟨rfl, rfl, rfl, Or.inr (Or.inr (Or.inr (Or.inr ⟨_, rfl, hr, hd⟩)))⟩
end ZFL
theorem zOz {B : Int32} {oz : Nat} (hB : B = nI oz) (c : ¬ B = 0) : 0 < oz := by
  rcases Nat.eq_zero_or_pos oz with h | h
  · subst h
    exact absurd hB c
  · exact h
noncomputable abbrev yy_X10_turnout : zY := (yX10_turnout, cX10_turnout, 1, (some Jvm.ClassFile.FieldType.float), 2, 45)
noncomputable def g_X10_turnout (M : zM) (gq : Nat → Nat) (pc : Nat) (n : Nat) : UInt32 × zM := (if (M 1 4) = 0 then (FP.fconst0, (zU M 0 0 0)) else ((FP.fdiv (FP.i2f (g_X10_votesOf (zU M 0 0 0) n 2)) (FP.i2f (g_X10_ones (M 1 7)))), (zU M 0 0 0)))
set_option maxRecDepth 100000 in
theorem c_X10_turnout (M : zM) (gq : Nat → Nat) (pc : Nat) (n : Nat) (hM : M 0 3 = nI pc) (hpc : pc ≤ 10) (hq : zPm gq) (hn : M 1 0 = nI n) (h9 : n ≤ 9) (hf : ¬ M 1 4 = 0 → vf_n32 (FP.fdiv (FP.i2f (g_X10_votesOf (zU M 0 0 0) n 2)) (FP.i2f (g_X10_ones (M 1 7))))) : zC yy_X10_turnout 0 0 [.ref 0] (sh_Model (zGp gq)) M (some (.float (g_X10_turnout M gq pc n).1)) (sh_Model (zGp gq)) (g_X10_turnout M gq pc n).2 := by
  refine zC.of (by decide +kernel) rfl (Nat.le_of_ble_eq_true rfl) ?_
  refine zT.run [(.aload_n 0, 0, 0, 0), (.iconst 0, 0, 0, 0), (.putfield 61, 8, 0, 5149), (.aload_n 0, 0, 0, 0), (.getfield 9, 8, 1, 5150), (.iconst 4, 0, 0, 0)] (pe := 10) (ls' := [some (.ref 0)]) (st' := [.int 4, .ref 1]) (M' := (zU M 0 0 0)) (by decide +kernel) rfl ?_
  refine zT.iald (n := 187) (k := 4) rfl rfl (by decide) (by decide) (by decide +kernel) ?_
  refine zT.zne (tgt := 18) (off := 7) (by decide +kernel) (by decide) (fun (c1 : ¬ (M 1 4) = 0) => ?_) (fun (c1 : (M 1 4) = 0) => ?_)
  · skip
    refine zT.run [(.aload_n 0, 0, 0, 0), (.iconst 2, 0, 0, 0)] (pe := 20) (ls' := [some (.ref 0)]) (st' := [.int 2, .ref 0]) (M' := (zU M 0 0 0)) (by decide +kernel) rfl ?_
    refine zT.cV_own (o := 0) (idx := 124) (av := [.int 2]) (rv := (some (.int (g_X10_votesOf (zU M 0 0 0) n 2)))) (st := []) (S1 := [.int (g_X10_votesOf (zU M 0 0 0) n 2)]) (c_X10_votesOf (zU M 0 0 0) (zGp gq) n 2 hn h9) k_X10_votesOf _ _ rfl rfl rfl (zIn (w := 5141) (by decide +kernel) rfl) (by decide +kernel) (by decide +kernel) rfl (Nat.le_of_ble_eq_true rfl) rfl ?_
    refine zT.i2f (by decide +kernel) ?_
    refine zT.run [(.aload_n 0, 0, 0, 0), (.getfield 9, 8, 1, 5150), (.bipush 7, 0, 0, 0)] (pe := 30) (ls' := [some (.ref 0)]) (st' := [.int 7, .ref 1, .float (FP.i2f (g_X10_votesOf (zU M 0 0 0) n 2))]) (M' := (zU M 0 0 0)) (by decide +kernel) rfl ?_
    refine zT.iald (n := 187) (k := 7) rfl rfl (by decide) (by decide) (by decide +kernel) ?_
    refine zT.cS_nil (idx := 83) (av := [.int (M 1 7)]) (rv := (some (.int (g_X10_ones (M 1 7))))) (st := [.float (FP.i2f (g_X10_votesOf (zU M 0 0 0) n 2))]) (S1 := [.int (g_X10_ones (M 1 7)), .float (FP.i2f (g_X10_votesOf (zU M 0 0 0) n 2))]) (c_X10_ones (M 1 7)) k_X10_ones rfl (zIn (w := 5232) (by decide +kernel) rfl) (by decide +kernel) (by decide +kernel) rfl (Nat.le_of_ble_eq_true rfl) rfl ?_
    refine zT.i2f (by decide +kernel) ?_
    refine zT.fdiv (by decide +kernel) (hf (by assumption)) ?_
    exact zT.fret (by simp only [g_X10_turnout, if_neg c1]; try rfl) (by simp only [g_X10_turnout, if_neg c1]; try rfl) rfl (by decide +kernel)
  · skip
    refine zT.fconst0 (by decide +kernel) ?_
    refine zT.run [(.goto 21, 0, 0, 0)] (pe := 36) (ls' := [some (.ref 0)]) (st' := [.float FP.fconst0]) (M' := (zU M 0 0 0)) (by decide +kernel) rfl ?_
    exact zT.fret (by simp only [g_X10_turnout, if_pos c1]; try rfl) (by simp only [g_X10_turnout, if_pos c1]; try rfl) rfl (by decide +kernel)
theorem k_X10_turnout : zCal yy_X10_turnout 0 := ⟨⟨⟨⟨zIn (w := 7106) (by decide +kernel) rfl, zIn (w := 1012) (by decide +kernel) rfl⟩, by decide +kernel⟩, by decide +kernel⟩, ⟨zIn (w := 7104) (by decide +kernel) rfl, zIn (w := 7105) (by decide +kernel) rfl⟩⟩
noncomputable abbrev yy_X10_meanAge : zY := (yX10_meanAge, cX10_meanAge, 3, (some Jvm.ClassFile.FieldType.double), 2, 44)
noncomputable def l_X10_meanAge_9 (M : zM) (gq : Nat → Nat) (pc : Nat) (n : Nat) (i1 : Nat) (s1 : Int32) : Int32 := (s1 + (if (g_X10_isUp (zU M 0 0 0) i1) = 0 then (0 : Int32) else (g_X10_of (zU M 0 0 0) i1 0)))
noncomputable def g_X10_meanAge (M : zM) (gq : Nat → Nat) (pc : Nat) (n : Nat) : UInt64 × zM := (if (g_X10_ups (zU M 0 0 0) n) = 0 then (FP.dconst0, (zU M 0 0 0)) else ((FP.ddiv (FP.i2d (zIt (l_X10_meanAge_9 M gq pc n) n 0)) (FP.i2d (g_X10_ups (zU M 0 0 0) n))), (zU M 0 0 0)))
set_option maxRecDepth 100000 in
theorem c_X10_meanAge (M : zM) (gq : Nat → Nat) (pc : Nat) (n : Nat) (hM : M 0 3 = nI pc) (hpc : pc ≤ 10) (hq : zPm gq) (hn : M 1 0 = nI n) (h9 : n ≤ 9) (hf : ¬ g_X10_ups (zU M 0 0 0) n = 0 → vf_n64 (FP.ddiv (FP.i2d (zIt (l_X10_meanAge_9 M gq pc n) n 0)) (FP.i2d (g_X10_ups (zU M 0 0 0) n)))) : zC yy_X10_meanAge 0 0 [.ref 0] (sh_Model (zGp gq)) M (some (.double (g_X10_meanAge M gq pc n).1)) (sh_Model (zGp gq)) (g_X10_meanAge M gq pc n).2 := by
  refine zC.of (by decide +kernel) rfl (Nat.le_of_ble_eq_true rfl) ?_
  refine zT.run [(.aload_n 0, 0, 0, 0), (.iconst 0, 0, 0, 0), (.putfield 61, 8, 0, 5149), (.iconst 0, 0, 0, 0), (.istore_n 1, 0, 0, 0), (.iconst 0, 0, 0, 0), (.istore_n 2, 0, 0, 0)] (pe := 9) (ls' := [some (.ref 0), some (.int 0), some (.int 0)]) (st' := []) (M' := (zU M 0 0 0)) (by decide +kernel) rfl ?_
  refine zT.loop (l_X10_meanAge_9 M gq pc n) (fun (i : Nat) (s : Int32) => (9, [some (.ref 0), some (.int s), some (.int (nI i))], [], (sh_Model (zGp gq)), (zU M 0 0 0))) n 0 (fun i1 hi1 k1 => ?_) ?_
  · skip
    generalize hs1 : zIt (l_X10_meanAge_9 M gq pc n) i1 0 = s1 at k1 ⊢
    show zT _ _ _ _ (9, [some (.ref 0), some (.int s1), some (.int (nI i1))], [], (sh_Model (zGp gq)), (zU M 0 0 0))
    refine zT.run [(.iload_n 2, 0, 0, 0), (.aload_n 0, 0, 0, 0), (.getfield 9, 8, 1, 5150), (.iconst 0, 0, 0, 0)] (pe := 15) (ls' := [some (.ref 0), some (.int s1), some (.int (nI i1))]) (st' := [.int 0, .ref 1, .int (nI i1)]) (M' := (zU M 0 0 0)) (by decide +kernel) rfl ?_
    refine zT.iald (n := 187) (k := 0) rfl rfl (by decide) (by decide) (by decide +kernel) ?_
    refine zT.cge (tgt := 46) (off := 30) (by decide +kernel) (by decide) (fun c => absurd c (zGeN (n := n) hn (by omega) (by omega))) (fun _ => ?_)
    refine zT.run [(.iload_n 1, 0, 0, 0), (.aload_n 0, 0, 0, 0), (.iload_n 2, 0, 0, 0)] (pe := 22) (ls' := [some (.ref 0), some (.int s1), some (.int (nI i1))]) (st' := [.int (nI i1), .ref 0, .int s1]) (M' := (zU M 0 0 0)) (by decide +kernel) rfl ?_
    refine zT.cV_own (o := 0) (idx := 86) (av := [.int (nI i1)]) (rv := (some (.int (g_X10_isUp (zU M 0 0 0) i1)))) (st := [.int s1]) (S1 := [.int (g_X10_isUp (zU M 0 0 0) i1), .int s1]) (c_X10_isUp (zU M 0 0 0) (zGp gq) i1 (by omega)) k_X10_isUp _ _ rfl rfl rfl (zIn (w := 5120) (by decide +kernel) rfl) (by decide +kernel) (by decide +kernel) rfl (Nat.le_of_ble_eq_true rfl) rfl ?_
    refine zT.join (38, [some (.ref 0), some (.int s1), some (.int (nI i1))], [.int (if (g_X10_isUp (zU M 0 0 0) i1) = 0 then (0 : Int32) else (g_X10_of (zU M 0 0 0) i1 0)), .int s1], (sh_Model (zGp gq)), (zU M 0 0 0)) ?_ ?_
    · refine zT.zeq (tgt := 37) (off := 12) (by decide +kernel) (by decide) (fun (c1 : (g_X10_isUp (zU M 0 0 0) i1) = 0) => ?_) (fun (c1 : ¬ (g_X10_isUp (zU M 0 0 0) i1) = 0) => ?_)
      · skip
        refine zT.run [(.iconst 0, 0, 0, 0)] (pe := 38) (ls' := [some (.ref 0), some (.int s1), some (.int (nI i1))]) (st' := [.int 0, .int s1]) (M' := (zU M 0 0 0)) (by decide +kernel) rfl ?_
        exact zT.here (by simp only [if_pos c1]; try rfl)
      · skip
        refine zT.run [(.aload_n 0, 0, 0, 0), (.iload_n 2, 0, 0, 0), (.iconst 0, 0, 0, 0)] (pe := 31) (ls' := [some (.ref 0), some (.int s1), some (.int (nI i1))]) (st' := [.int 0, .int (nI i1), .ref 0, .int s1]) (M' := (zU M 0 0 0)) (by decide +kernel) rfl ?_
        refine zT.cV_own (o := 0) (idx := 80) (av := [.int (nI i1), .int (nI 0)]) (rv := (some (.int (g_X10_of (zU M 0 0 0) i1 0)))) (st := [.int s1]) (S1 := [.int (g_X10_of (zU M 0 0 0) i1 0), .int s1]) (c_X10_of (zU M 0 0 0) (zGp gq) i1 0 (by omega) (by decide)) k_X10_of _ _ rfl rfl rfl (zIn (w := 5108) (by decide +kernel) rfl) (by decide +kernel) (by decide +kernel) rfl (Nat.le_of_ble_eq_true rfl) rfl ?_
        refine zT.run [(.goto 4, 0, 0, 0)] (pe := 38) (ls' := [some (.ref 0), some (.int s1), some (.int (nI i1))]) (st' := [.int (g_X10_of (zU M 0 0 0) i1 0), .int s1]) (M' := (zU M 0 0 0)) (by decide +kernel) rfl ?_
        exact zT.here (by simp only [if_neg c1]; try rfl)
    · skip
      refine zT.run [(.iadd, 0, 0, 0), (.istore_n 1, 0, 0, 0), (.iinc 2 1, 0, 0, 0), (.goto (-34), 0, 0, 0)] (pe := 9) (ls' := [some (.ref 0), some (.int (s1 + (if (g_X10_isUp (zU M 0 0 0) i1) = 0 then (0 : Int32) else (g_X10_of (zU M 0 0 0) i1 0)))), some (.int ((nI i1) + 1))]) (st' := []) (M' := (zU M 0 0 0)) (by decide +kernel) rfl ?_
      exact zT.eq (by simp only [l_X10_meanAge_9, nI_succ, zDl]; try rfl) k1
  · skip
    show zT _ _ _ _ (9, [some (.ref 0), some (.int (zIt (l_X10_meanAge_9 M gq pc n) n 0)), some (.int (nI n))], [], (sh_Model (zGp gq)), (zU M 0 0 0))
    refine zT.run [(.iload_n 2, 0, 0, 0), (.aload_n 0, 0, 0, 0), (.getfield 9, 8, 1, 5150), (.iconst 0, 0, 0, 0)] (pe := 15) (ls' := [some (.ref 0), some (.int (zIt (l_X10_meanAge_9 M gq pc n) n 0)), some (.int (nI n))]) (st' := [.int 0, .ref 1, .int (nI n)]) (M' := (zU M 0 0 0)) (by decide +kernel) rfl ?_
    refine zT.iald (n := 187) (k := 0) rfl rfl (by decide) (by decide) (by decide +kernel) ?_
    refine zT.cge (tgt := 46) (off := 30) (by decide +kernel) (by decide) (fun _ => ?_) (fun c => absurd (zGeY (n := n) hn) c)
    refine zT.run [(.aload_n 0, 0, 0, 0)] (pe := 47) (ls' := [some (.ref 0), some (.int (zIt (l_X10_meanAge_9 M gq pc n) n 0)), some (.int (nI n))]) (st' := [.ref 0]) (M' := (zU M 0 0 0)) (by decide +kernel) rfl ?_
    refine zT.cV_own (o := 0) (idx := 153) (av := []) (rv := (some (.int (g_X10_ups (zU M 0 0 0) n)))) (st := []) (S1 := [.int (g_X10_ups (zU M 0 0 0) n)]) (c_X10_ups (zU M 0 0 0) (zGp gq) n hn h9) k_X10_ups _ _ rfl rfl rfl (zIn (w := 6119) (by decide +kernel) rfl) (by decide +kernel) (by decide +kernel) rfl (Nat.le_of_ble_eq_true rfl) rfl ?_
    refine zT.zne (tgt := 57) (off := 7) (by decide +kernel) (by decide) (fun (c2 : ¬ (g_X10_ups (zU M 0 0 0) n) = 0) => ?_) (fun (c2 : (g_X10_ups (zU M 0 0 0) n) = 0) => ?_)
    · skip
      refine zT.run [(.iload_n 1, 0, 0, 0)] (pe := 58) (ls' := [some (.ref 0), some (.int (zIt (l_X10_meanAge_9 M gq pc n) n 0)), some (.int (nI n))]) (st' := [.int (zIt (l_X10_meanAge_9 M gq pc n) n 0)]) (M' := (zU M 0 0 0)) (by decide +kernel) rfl ?_
      refine zT.i2d (by decide +kernel) ?_
      refine zT.run [(.aload_n 0, 0, 0, 0)] (pe := 60) (ls' := [some (.ref 0), some (.int (zIt (l_X10_meanAge_9 M gq pc n) n 0)), some (.int (nI n))]) (st' := [.ref 0, .double (FP.i2d (zIt (l_X10_meanAge_9 M gq pc n) n 0))]) (M' := (zU M 0 0 0)) (by decide +kernel) rfl ?_
      refine zT.cV_own (o := 0) (idx := 153) (av := []) (rv := (some (.int (g_X10_ups (zU M 0 0 0) n)))) (st := [.double (FP.i2d (zIt (l_X10_meanAge_9 M gq pc n) n 0))]) (S1 := [.int (g_X10_ups (zU M 0 0 0) n), .double (FP.i2d (zIt (l_X10_meanAge_9 M gq pc n) n 0))]) (c_X10_ups (zU M 0 0 0) (zGp gq) n hn h9) k_X10_ups _ _ rfl rfl rfl (zIn (w := 6119) (by decide +kernel) rfl) (by decide +kernel) (by decide +kernel) rfl (Nat.le_of_ble_eq_true rfl) rfl ?_
      refine zT.i2d (by decide +kernel) ?_
      refine zT.ddiv (by decide +kernel) (hf (by assumption)) ?_
      exact zT.dret (by simp only [g_X10_meanAge, if_neg c2]; try rfl) (by simp only [g_X10_meanAge, if_neg c2]; try rfl) rfl (by decide +kernel)
    · skip
      refine zT.dconst0 (by decide +kernel) ?_
      refine zT.run [(.goto 11, 0, 0, 0)] (pe := 65) (ls' := [some (.ref 0), some (.int (zIt (l_X10_meanAge_9 M gq pc n) n 0)), some (.int (nI n))]) (st' := [.double FP.dconst0]) (M' := (zU M 0 0 0)) (by decide +kernel) rfl ?_
      exact zT.dret (by simp only [g_X10_meanAge, if_pos c2]; try rfl) (by simp only [g_X10_meanAge, if_pos c2]; try rfl) rfl (by decide +kernel)
theorem k_X10_meanAge : zCal yy_X10_meanAge 0 := ⟨⟨⟨⟨zIn (w := 7110) (by decide +kernel) rfl, zIn (w := 1012) (by decide +kernel) rfl⟩, by decide +kernel⟩, by decide +kernel⟩, ⟨zIn (w := 7108) (by decide +kernel) rfl, zIn (w := 7109) (by decide +kernel) rfl⟩⟩
noncomputable abbrev yy_X10_nonceFor : zY := (yX10_nonceFor, cX10_nonceFor, 4, (some Jvm.ClassFile.FieldType.int), 2, 45)
noncomputable def f_X10_nonceFor_46 (M : zM) (gq : Nat → Nat) (pc : Nat) (n : Nat) (r : Nat) (cd : Nat) (i1 : Nat) : Option Int32 := (if (g_X10_sealOf (nI cd) (nI i1) (M 1 5)) = (g_X10_of (zU M 0 0 0) r 8) then (some (nI i1)) else none)
noncomputable def g_X10_nonceFor (M : zM) (gq : Nat → Nat) (pc : Nat) (n : Nat) (r : Nat) (cd : Nat) : Int32 × zM := (if (g_X10_isOnRoll (zU M 0 0 0) (nI r)) = 0 then ((-1), (zU M 0 0 0)) else (if (g_X10_of (zU M 0 0 0) r 6) = 1 then ((zFst (f_X10_nonceFor_46 M gq pc n r cd) (-1 : Int32) 1000 0), (zU M 0 0 0)) else ((-1), (zU M 0 0 0))))
set_option maxRecDepth 100000 in
theorem c_X10_nonceFor (M : zM) (gq : Nat → Nat) (pc : Nat) (n : Nat) (r : Nat) (cd : Nat) (hM : M 0 3 = nI pc) (hpc : pc ≤ 10) (hq : zPm gq) (hn : M 1 0 = nI n) (h9 : n ≤ 9) (h_r : r < n) (h_cd : cd < n) : zC yy_X10_nonceFor 0 0 [.ref 0, .int (nI r), .int (nI cd)] (sh_Model (zGp gq)) M (some (.int (g_X10_nonceFor M gq pc n r cd).1)) (sh_Model (zGp gq)) (g_X10_nonceFor M gq pc n r cd).2 := by
  refine zC.of (by decide +kernel) rfl (Nat.le_of_ble_eq_true rfl) ?_
  refine zT.run [(.aload_n 0, 0, 0, 0), (.iconst 0, 0, 0, 0), (.putfield 61, 8, 0, 5149), (.aload_n 0, 0, 0, 0), (.iload_n 1, 0, 0, 0)] (pe := 7) (ls' := [some (.ref 0), some (.int (nI r)), some (.int (nI cd)), none]) (st' := [.int (nI r), .ref 0]) (M' := (zU M 0 0 0)) (by decide +kernel) rfl ?_
  refine zT.cV_own (o := 0) (idx := 160) (av := [.int (nI r)]) (rv := (some (.int 0))) (st := []) (S1 := [.int 0]) (c_X10_noReplica_ok (zU M 0 0 0) (zGp gq) n r hn h9 h_r) k_X10_noReplica _ _ rfl rfl rfl (zIn (w := 5216) (by decide +kernel) rfl) (by decide +kernel) (by decide +kernel) rfl (Nat.le_of_ble_eq_true rfl) rfl ?_
  refine zT.zne (tgt := 21) (off := 11) (by decide +kernel) (by decide) (fun c => absurd (by decide) c) (fun _ => ?_)
  refine zT.run [(.aload_n 0, 0, 0, 0), (.iload_n 2, 0, 0, 0)] (pe := 15) (ls' := [some (.ref 0), some (.int (nI r)), some (.int (nI cd)), none]) (st' := [.int (nI cd), .ref 0]) (M' := (zU M 0 0 0)) (by decide +kernel) rfl ?_
  refine zT.cV_own (o := 0) (idx := 160) (av := [.int (nI cd)]) (rv := (some (.int 0))) (st := []) (S1 := [.int 0]) (c_X10_noReplica_ok (zU M 0 0 0) (zGp gq) n cd hn h9 h_cd) k_X10_noReplica _ _ rfl rfl rfl (zIn (w := 5216) (by decide +kernel) rfl) (by decide +kernel) (by decide +kernel) rfl (Nat.le_of_ble_eq_true rfl) rfl ?_
  refine zT.zeq (tgt := 23) (off := 5) (by decide +kernel) (by decide) (fun _ => ?_) (fun c => absurd (by decide) c)
  refine zT.run [(.aload_n 0, 0, 0, 0), (.iload_n 1, 0, 0, 0)] (pe := 25) (ls' := [some (.ref 0), some (.int (nI r)), some (.int (nI cd)), none]) (st' := [.int (nI r), .ref 0]) (M' := (zU M 0 0 0)) (by decide +kernel) rfl ?_
  refine zT.cV_own (o := 0) (idx := 106) (av := [.int (nI r)]) (rv := (some (.int (g_X10_isOnRoll (zU M 0 0 0) (nI r))))) (st := []) (S1 := [.int (g_X10_isOnRoll (zU M 0 0 0) (nI r))]) (c_X10_isOnRoll (zU M 0 0 0) (zGp gq) (nI r)) k_X10_isOnRoll _ _ rfl rfl rfl (zIn (w := 5145) (by decide +kernel) rfl) (by decide +kernel) (by decide +kernel) rfl (Nat.le_of_ble_eq_true rfl) rfl ?_
  refine zT.zeq (tgt := 42) (off := 14) (by decide +kernel) (by decide) (fun (c1 : (g_X10_isOnRoll (zU M 0 0 0) (nI r)) = 0) => ?_) (fun (c1 : ¬ (g_X10_isOnRoll (zU M 0 0 0) (nI r)) = 0) => ?_)
  · skip
    refine zT.run [(.iconst (-1), 0, 0, 0)] (pe := 43) (ls' := [some (.ref 0), some (.int (nI r)), some (.int (nI cd)), none]) (st' := [.int (-1)]) (M' := (zU M 0 0 0)) (by decide +kernel) rfl ?_
    exact zT.iret (ty := Jvm.ClassFile.FieldType.int) (by simp only [g_X10_nonceFor, if_pos c1]; try rfl) (by simp only [g_X10_nonceFor, if_pos c1]; try rfl) rfl rfl (by decide +kernel)
  · skip
    refine zT.run [(.aload_n 0, 0, 0, 0), (.iload_n 1, 0, 0, 0), (.bipush 6, 0, 0, 0)] (pe := 35) (ls' := [some (.ref 0), some (.int (nI r)), some (.int (nI cd)), none]) (st' := [.int 6, .int (nI r), .ref 0]) (M' := (zU M 0 0 0)) (by decide +kernel) rfl ?_
    refine zT.cV_own (o := 0) (idx := 80) (av := [.int (nI r), .int (nI 6)]) (rv := (some (.int (g_X10_of (zU M 0 0 0) r 6)))) (st := []) (S1 := [.int (g_X10_of (zU M 0 0 0) r 6)]) (c_X10_of (zU M 0 0 0) (zGp gq) r 6 (by omega) (by decide)) k_X10_of _ _ rfl rfl rfl (zIn (w := 5108) (by decide +kernel) rfl) (by decide +kernel) (by decide +kernel) rfl (Nat.le_of_ble_eq_true rfl) rfl ?_
    refine zT.run [(.iconst 1, 0, 0, 0)] (pe := 39) (ls' := [some (.ref 0), some (.int (nI r)), some (.int (nI cd)), none]) (st' := [.int 1, .int (g_X10_of (zU M 0 0 0) r 6)]) (M' := (zU M 0 0 0)) (by decide +kernel) rfl ?_
    refine zT.ceq (tgt := 44) (off := 5) (by decide +kernel) (by decide) (fun (c2 : (g_X10_of (zU M 0 0 0) r 6) = 1) => ?_) (fun (c2 : ¬ (g_X10_of (zU M 0 0 0) r 6) = 1) => ?_)
    · skip
      refine zT.run [(.iconst 0, 0, 0, 0), (.istore_n 3, 0, 0, 0)] (pe := 46) (ls' := [some (.ref 0), some (.int (nI r)), some (.int (nI cd)), some (.int 0)]) (st' := []) (M' := (zU M 0 0 0)) (by decide +kernel) rfl ?_
      refine zT.fst (f_X10_nonceFor_46 M gq pc n r cd) (-1 : Int32) 1000 (fun (i : Nat) => (46, [some (.ref 0), some (.int (nI r)), some (.int (nI cd)), some (.int (nI i))], [], (sh_Model (zGp gq)), (zU M 0 0 0))) (R := (zFst (f_X10_nonceFor_46 M gq pc n r cd) (-1 : Int32) 1000 0)) rfl (fun i1 hi1 k1 kk1 => ?_) (fun k1 => ?_)
      · skip
        show zT _ _ _ _ (46, [some (.ref 0), some (.int (nI r)), some (.int (nI cd)), some (.int (nI i1))], [], (sh_Model (zGp gq)), (zU M 0 0 0))
        refine zT.run [(.iload_n 3, 0, 0, 0), (.sipush 999, 0, 0, 0)] (pe := 50) (ls' := [some (.ref 0), some (.int (nI r)), some (.int (nI cd)), some (.int (nI i1))]) (st' := [.int 999, .int (nI i1)]) (M' := (zU M 0 0 0)) (by decide +kernel) rfl ?_
        refine zT.cgt (tgt := 82) (off := 32) (by decide +kernel) (by decide) (fun c => absurd c (nI_nlt (a := 999) (b := i1) (by omega) (by decide))) (fun _ => ?_)
        refine zT.run [(.iload_n 2, 0, 0, 0), (.iload_n 3, 0, 0, 0), (.aload_n 0, 0, 0, 0), (.getfield 9, 8, 1, 5150), (.iconst 5, 0, 0, 0)] (pe := 60) (ls' := [some (.ref 0), some (.int (nI r)), some (.int (nI cd)), some (.int (nI i1))]) (st' := [.int 5, .ref 1, .int (nI i1), .int (nI cd)]) (M' := (zU M 0 0 0)) (by decide +kernel) rfl ?_
        refine zT.iald (n := 187) (k := 5) rfl rfl (by decide) (by decide) (by decide +kernel) ?_
        refine zT.cS_nil (idx := 53) (av := [.int (nI cd), .int (nI i1), .int (M 1 5)]) (rv := (some (.int (g_X10_sealOf (nI cd) (nI i1) (M 1 5))))) (st := []) (S1 := [.int (g_X10_sealOf (nI cd) (nI i1) (M 1 5))]) (c_X10_sealOf (nI cd) (nI i1) (M 1 5)) k_X10_sealOf rfl (zIn (w := 5128) (by decide +kernel) rfl) (by decide +kernel) (by decide +kernel) rfl (Nat.le_of_ble_eq_true rfl) rfl ?_
        refine zT.run [(.aload_n 0, 0, 0, 0), (.iload_n 1, 0, 0, 0), (.bipush 8, 0, 0, 0)] (pe := 68) (ls' := [some (.ref 0), some (.int (nI r)), some (.int (nI cd)), some (.int (nI i1))]) (st' := [.int 8, .int (nI r), .ref 0, .int (g_X10_sealOf (nI cd) (nI i1) (M 1 5))]) (M' := (zU M 0 0 0)) (by decide +kernel) rfl ?_
        refine zT.cV_own (o := 0) (idx := 80) (av := [.int (nI r), .int (nI 8)]) (rv := (some (.int (g_X10_of (zU M 0 0 0) r 8)))) (st := [.int (g_X10_sealOf (nI cd) (nI i1) (M 1 5))]) (S1 := [.int (g_X10_of (zU M 0 0 0) r 8), .int (g_X10_sealOf (nI cd) (nI i1) (M 1 5))]) (c_X10_of (zU M 0 0 0) (zGp gq) r 8 (by omega) (by decide)) k_X10_of _ _ rfl rfl rfl (zIn (w := 5108) (by decide +kernel) rfl) (by decide +kernel) (by decide +kernel) rfl (Nat.le_of_ble_eq_true rfl) rfl ?_
        refine zT.cne (tgt := 76) (off := 5) (by decide +kernel) (by decide) (fun (c3 : ¬ (g_X10_sealOf (nI cd) (nI i1) (M 1 5)) = (g_X10_of (zU M 0 0 0) r 8)) => ?_) (fun (c3 : (g_X10_sealOf (nI cd) (nI i1) (M 1 5)) = (g_X10_of (zU M 0 0 0) r 8)) => ?_)
        · skip
          refine zT.run [(.iinc 3 1, 0, 0, 0), (.goto (-33), 0, 0, 0)] (pe := 46) (ls' := [some (.ref 0), some (.int (nI r)), some (.int (nI cd)), some (.int ((nI i1) + 1))]) (st' := []) (M' := (zU M 0 0 0)) (by decide +kernel) rfl ?_
          exact zT.eq (by simp only [nI_succ, zDl]; try rfl) (k1 (by simp only [f_X10_nonceFor_46, if_neg c3]))
        · skip
          refine zT.run [(.iload_n 3, 0, 0, 0)] (pe := 75) (ls' := [some (.ref 0), some (.int (nI r)), some (.int (nI cd)), some (.int (nI i1))]) (st' := [.int (nI i1)]) (M' := (zU M 0 0 0)) (by decide +kernel) rfl ?_
          exact zT.iret (ty := Jvm.ClassFile.FieldType.int) ((show _ = (zFst (f_X10_nonceFor_46 M gq pc n r cd) (-1 : Int32) 1000 0) from (by simp only [g_X10_nonceFor, if_neg c1, if_pos c2]; try rfl)).trans (kk1 _ (by simp only [f_X10_nonceFor_46, if_pos c3]))) (by simp only [g_X10_nonceFor, if_neg c1, if_pos c2]; try rfl) rfl rfl (by decide +kernel)
      · skip
        show zT _ _ _ _ (46, [some (.ref 0), some (.int (nI r)), some (.int (nI cd)), some (.int (nI 1000))], [], (sh_Model (zGp gq)), (zU M 0 0 0))
        refine zT.run [(.iload_n 3, 0, 0, 0), (.sipush 999, 0, 0, 0)] (pe := 50) (ls' := [some (.ref 0), some (.int (nI r)), some (.int (nI cd)), some (.int (nI 1000))]) (st' := [.int 999, .int (nI 1000)]) (M' := (zU M 0 0 0)) (by decide +kernel) rfl ?_
        refine zT.cgt (tgt := 82) (off := 32) (by decide +kernel) (by decide) (fun _ => ?_) (fun c => absurd (nI_lt (a := 999) (b := 1000) (by decide) (by decide)) c)
        refine zT.run [(.iconst (-1), 0, 0, 0)] (pe := 83) (ls' := [some (.ref 0), some (.int (nI r)), some (.int (nI cd)), some (.int (nI 1000))]) (st' := [.int (-1)]) (M' := (zU M 0 0 0)) (by decide +kernel) rfl ?_
        exact zT.iret (ty := Jvm.ClassFile.FieldType.int) ((show _ = (zFst (f_X10_nonceFor_46 M gq pc n r cd) (-1 : Int32) 1000 0) from (by simp only [g_X10_nonceFor, if_neg c1, if_pos c2]; try rfl)).trans k1) (by simp only [g_X10_nonceFor, if_neg c1, if_pos c2]; try rfl) rfl rfl (by decide +kernel)
    · skip
      refine zT.run [(.iconst (-1), 0, 0, 0)] (pe := 43) (ls' := [some (.ref 0), some (.int (nI r)), some (.int (nI cd)), none]) (st' := [.int (-1)]) (M' := (zU M 0 0 0)) (by decide +kernel) rfl ?_
      exact zT.iret (ty := Jvm.ClassFile.FieldType.int) (by simp only [g_X10_nonceFor, if_neg c1, if_neg c2]; try rfl) (by simp only [g_X10_nonceFor, if_neg c1, if_neg c2]; try rfl) rfl rfl (by decide +kernel)
theorem k_X10_nonceFor : zCal yy_X10_nonceFor 2 := ⟨⟨⟨⟨zIn (w := 7067) (by decide +kernel) rfl, zIn (w := 1012) (by decide +kernel) rfl⟩, by decide +kernel⟩, by decide +kernel⟩, ⟨zIn (w := 7065) (by decide +kernel) rfl, zIn (w := 7066) (by decide +kernel) rfl⟩⟩
