theorem sub_Office_10_Outcomes : zSub sh_Office 10 sh_Outcomes := zSub.of rfl
noncomputable abbrev yy_X4_linksCut : zY := (yX4_linksCut, cX4_linksCut, 4, (some Jvm.ClassFile.FieldType.int), 1, 21)
noncomputable def l_X4_linksCut_14 (M : zM) (n : Nat) (i1 : Nat) (s1 : Int32) (i2 : Nat) (s2 : Int32) : Int32 := (s2 + (if (g_X9_has (M 6 i1) (nI i2)) = 0 then 1 else 0))
noncomputable def l_X4_linksCut_4 (M : zM) (n : Nat) (i1 : Nat) (s1 : Int32) : Int32 := (zIt (l_X4_linksCut_14 M n i1 s1) i1 s1)
noncomputable def g_X4_linksCut (M : zM) (n : Nat) : Int32 := (zIt (l_X4_linksCut_4 M n) n 0)
set_option maxRecDepth 100000 in
theorem c_X4_linksCut (M : zM) (n : Nat) (hn : M 0 0 = nI n) (h9 : n ≤ 9) : zC yy_X4_linksCut 0 0 [.ref 0] sh_Office M (some (.int (g_X4_linksCut M n))) sh_Office M := by
  refine zC.of (by decide +kernel) rfl (Nat.le_of_ble_eq_true rfl) ?_
  refine zT.run [(.iconst 0, 0, 0, 0), (.istore_n 1, 0, 0, 0), (.iconst 0, 0, 0, 0), (.istore_n 2, 0, 0, 0)] (pe := 4) (ls' := [some (.ref 0), some (.int 0), some (.int 0), none]) (st' := []) (M' := M) (by decide +kernel) rfl ?_
  refine zT.loop (l_X4_linksCut_4 M n) (fun (i : Nat) (s : Int32) => (4, [some (.ref 0), some (.int s), some (.int (nI i)), none], [], sh_Office, M)) n 0 (fun i1 hi1 k1 => ?_) ?_
  · skip
    generalize hs1 : zIt (l_X4_linksCut_4 M n) i1 0 = s1 at k1 ⊢
    show zT _ _ _ _ (4, [some (.ref 0), some (.int s1), some (.int (nI i1)), none], [], sh_Office, M)
    refine zT.run [(.iload_n 2, 0, 0, 0), (.aload_n 0, 0, 0, 0), (.getfield 51, 2, 0, 1171)] (pe := 9) (ls' := [some (.ref 0), some (.int s1), some (.int (nI i1)), none]) (st' := [.int (M 0 0), .int (nI i1)]) (M' := M) (by decide +kernel) rfl ?_
    refine zT.cge (tgt := 52) (off := 43) (by decide +kernel) (by decide) (fun c => absurd c (zGeN (n := n) hn (by omega) (by omega))) (fun _ => ?_)
    refine zT.run [(.iconst 0, 0, 0, 0), (.istore_n 3, 0, 0, 0)] (pe := 14) (ls' := [some (.ref 0), some (.int s1), some (.int (nI i1)), some (.int 0)]) (st' := []) (M' := M) (by decide +kernel) rfl ?_
    refine zT.loop (l_X4_linksCut_14 M n i1 s1) (fun (i : Nat) (s : Int32) => (14, [some (.ref 0), some (.int s), some (.int (nI i1)), some (.int (nI i))], [], sh_Office, M)) i1 s1 (fun i2 hi2 k2 => ?_) ?_
    · skip
      generalize hs2 : zIt (l_X4_linksCut_14 M n i1 s1) i2 s1 = s2 at k2 ⊢
      show zT _ _ _ _ (14, [some (.ref 0), some (.int s2), some (.int (nI i1)), some (.int (nI i2))], [], sh_Office, M)
      refine zT.run [(.iload_n 3, 0, 0, 0), (.iload_n 2, 0, 0, 0)] (pe := 16) (ls' := [some (.ref 0), some (.int s2), some (.int (nI i1)), some (.int (nI i2))]) (st' := [.int (nI i1), .int (nI i2)]) (M' := M) (by decide +kernel) rfl ?_
      refine zT.cge (tgt := 46) (off := 30) (by decide +kernel) (by decide) (fun c => absurd c (zGeN (n := i1) rfl (by omega) (by omega))) (fun _ => ?_)
      refine zT.run [(.iload_n 1, 0, 0, 0), (.aload_n 0, 0, 0, 0), (.getfield 27, 2, 7, 1182), (.iload_n 2, 0, 0, 0)] (pe := 25) (ls' := [some (.ref 0), some (.int s2), some (.int (nI i1)), some (.int (nI i2))]) (st' := [.int (nI i1), .ref 6, .int s2]) (M' := M) (by decide +kernel) rfl ?_
      refine zT.iald (n := 9) (k := i1) rfl rfl (by omega) (by decide) (by decide +kernel) ?_
      refine zT.run [(.iload_n 3, 0, 0, 0)] (pe := 27) (ls' := [some (.ref 0), some (.int s2), some (.int (nI i1)), some (.int (nI i2))]) (st' := [.int (nI i2), .int (M 6 i1), .int s2]) (M' := M) (by decide +kernel) rfl ?_
      refine zT.cN_nil "SealedBallots" (idx := 83) (av := [.int (M 6 i1), .int (nI i2)]) (rv := (some (.int (g_X9_has (M 6 i1) (nI i2))))) (st := [.int s2]) (S1 := [.int (g_X9_has (M 6 i1) (nI i2)), .int s2]) (c_X9_has (M 6 i1) (nI i2)) k_X9_has rfl (zInN (w := 2017) (by decide +kernel) rfl) (by decide +kernel) (by decide +kernel) rfl (Nat.le_of_ble_eq_true rfl) rfl ?_
      refine zT.join (38, [some (.ref 0), some (.int s2), some (.int (nI i1)), some (.int (nI i2))], [.int (if (g_X9_has (M 6 i1) (nI i2)) = 0 then 1 else 0), .int s2], sh_Office, M) ?_ ?_
      · refine zT.zeq (tgt := 37) (off := 7) (by decide +kernel) (by decide) (fun (c1 : (g_X9_has (M 6 i1) (nI i2)) = 0) => ?_) (fun (c1 : ¬ (g_X9_has (M 6 i1) (nI i2)) = 0) => ?_)
        · skip
          refine zT.run [(.iconst 1, 0, 0, 0)] (pe := 38) (ls' := [some (.ref 0), some (.int s2), some (.int (nI i1)), some (.int (nI i2))]) (st' := [.int 1, .int s2]) (M' := M) (by decide +kernel) rfl ?_
          exact zT.here (by simp only [if_pos c1])
        · skip
          refine zT.run [(.iconst 0, 0, 0, 0), (.goto 4, 0, 0, 0)] (pe := 38) (ls' := [some (.ref 0), some (.int s2), some (.int (nI i1)), some (.int (nI i2))]) (st' := [.int 0, .int s2]) (M' := M) (by decide +kernel) rfl ?_
          exact zT.here (by simp only [if_neg c1])
      · skip
        refine zT.run [(.iadd, 0, 0, 0), (.istore_n 1, 0, 0, 0), (.iinc 3 1, 0, 0, 0), (.goto (-29), 0, 0, 0)] (pe := 14) (ls' := [some (.ref 0), some (.int (s2 + (if (g_X9_has (M 6 i1) (nI i2)) = 0 then 1 else 0))), some (.int (nI i1)), some (.int ((nI i2) + 1))]) (st' := []) (M' := M) (by decide +kernel) rfl ?_
        exact zT.eq (by simp only [l_X4_linksCut_14, nI_succ, zDl]; try rfl) k2
    · skip
      show zT _ _ _ _ (14, [some (.ref 0), some (.int (zIt (l_X4_linksCut_14 M n i1 s1) i1 s1)), some (.int (nI i1)), some (.int (nI i1))], [], sh_Office, M)
      refine zT.run [(.iload_n 3, 0, 0, 0), (.iload_n 2, 0, 0, 0)] (pe := 16) (ls' := [some (.ref 0), some (.int (zIt (l_X4_linksCut_14 M n i1 s1) i1 s1)), some (.int (nI i1)), some (.int (nI i1))]) (st' := [.int (nI i1), .int (nI i1)]) (M' := M) (by decide +kernel) rfl ?_
      refine zT.cge (tgt := 46) (off := 30) (by decide +kernel) (by decide) (fun _ => ?_) (fun c => absurd (zGeY (n := i1) rfl) c)
      refine zT.run [(.iinc 2 1, 0, 0, 0), (.goto (-45), 0, 0, 0)] (pe := 4) (ls' := [some (.ref 0), some (.int (zIt (l_X4_linksCut_14 M n i1 s1) i1 s1)), some (.int ((nI i1) + 1)), some (.int (nI i1))]) (st' := []) (M' := M) (by decide +kernel) rfl ?_
      refine zT.drop 3 ?_
      exact zT.eq (by simp only [l_X4_linksCut_4, nI_succ, zDl]; try rfl) k1
  · skip
    show zT _ _ _ _ (4, [some (.ref 0), some (.int (zIt (l_X4_linksCut_4 M n) n 0)), some (.int (nI n)), none], [], sh_Office, M)
    refine zT.run [(.iload_n 2, 0, 0, 0), (.aload_n 0, 0, 0, 0), (.getfield 51, 2, 0, 1171)] (pe := 9) (ls' := [some (.ref 0), some (.int (zIt (l_X4_linksCut_4 M n) n 0)), some (.int (nI n)), none]) (st' := [.int (M 0 0), .int (nI n)]) (M' := M) (by decide +kernel) rfl ?_
    refine zT.cge (tgt := 52) (off := 43) (by decide +kernel) (by decide) (fun _ => ?_) (fun c => absurd (zGeY (n := n) hn) c)
    refine zT.run [(.iload_n 1, 0, 0, 0)] (pe := 53) (ls' := [some (.ref 0), some (.int (zIt (l_X4_linksCut_4 M n) n 0)), some (.int (nI n)), none]) (st' := [.int (zIt (l_X4_linksCut_4 M n) n 0)]) (M' := M) (by decide +kernel) rfl ?_
    exact zT.iret (ty := Jvm.ClassFile.FieldType.int) (by simp only [g_X4_linksCut]; try rfl) rfl rfl rfl (by decide +kernel)
theorem k_X4_linksCut : zCal yy_X4_linksCut 0 := ⟨⟨⟨⟨zIn (w := 4228) (by decide +kernel) rfl, zIn (w := 1004) (by decide +kernel) rfl⟩, by decide +kernel⟩, by decide +kernel⟩, ⟨zIn (w := 4227) (by decide +kernel) rfl, zIn (w := 18) (by decide +kernel) rfl⟩⟩
noncomputable abbrev yy_X4_tell : zY := (yX4_tell, cX4_tell, 2, (some Jvm.ClassFile.FieldType.int), 2, 83)
noncomputable def g_X4_tell (M : zM) (n : Nat) (w : Int32) : Int32 := (if w = 0 then (M 0 0) else (if w = 1 then (g_J6_bitCount_0f7a4 (M 0 1)) else (if w = 2 then (M 1 0) else (if w = 3 then (M 1 1) else (if w = 4 then (M 1 2) else (if w = 5 then (M 7 0) else (if w = 14 then (M 10 0) else (if w = 15 then (g_X4_greatestTermOf M n ((1 <<< ((M 0 0) &&& 31)) - 1)) else (g_X4_linksCut M n)))))))))
set_option maxRecDepth 100000 in
theorem c_X4_tell (M : zM) (n : Nat) (w : Int32) (hn : M 0 0 = nI n) (h9 : n ≤ 9) : zC yy_X4_tell 0 0 [.ref 0, .int w] sh_Office M (some (.int (g_X4_tell M n w))) sh_Office M := by
  refine zC.of (by decide +kernel) rfl (Nat.le_of_ble_eq_true rfl) ?_
  refine zT.run [(.iload_n 1, 0, 0, 0)] (pe := 1) (ls' := [some (.ref 0), some (.int w)]) (st' := [.int w]) (M' := M) (by decide +kernel) rfl ?_
  by_cases c1 : w = 0
  · skip
    refine zT.tabEq (v := 0) c1 (tgt := 80) (off := 79) (dflt := 142) (lo := 0) (hi := 15) (offs := #[79, 84, 92, 99, 106, 113, 142, 142, 142, 142, 142, 142, 142, 142, 121, 129]) (len := 79) (by decide +kernel) (by decide) (by decide) (by decide) (by decide) ?_
    refine zT.run [(.aload_n 0, 0, 0, 0), (.getfield 51, 2, 0, 1171)] (pe := 84) (ls' := [some (.ref 0), some (.int w)]) (st' := [.int (M 0 0)]) (M' := M) (by decide +kernel) rfl ?_
    exact zT.iret (ty := Jvm.ClassFile.FieldType.int) (by simp only [g_X4_tell, if_pos c1]; try rfl) rfl rfl rfl (by decide +kernel)
  · skip
    by_cases c2 : w = 1
    · skip
      refine zT.tabEq (v := 1) c2 (tgt := 85) (off := 84) (dflt := 142) (lo := 0) (hi := 15) (offs := #[79, 84, 92, 99, 106, 113, 142, 142, 142, 142, 142, 142, 142, 142, 121, 129]) (len := 79) (by decide +kernel) (by decide) (by decide) (by decide) (by decide) ?_
      refine zT.run [(.aload_n 0, 0, 0, 0), (.getfield 55, 2, 1, 1174)] (pe := 89) (ls' := [some (.ref 0), some (.int w)]) (st' := [.int (M 0 1)]) (M' := M) (by decide +kernel) rfl ?_
      refine zT.cS_nil (idx := 124) (av := [.int (M 0 1)]) (rv := (some (.int (g_J6_bitCount_0f7a4 (M 0 1))))) (st := []) (S1 := [.int (g_J6_bitCount_0f7a4 (M 0 1))]) (c_J6_bitCount_0f7a4 (M 0 1)) k_J6_bitCount_0f7a4 rfl (zIn (w := 2024) (by decide +kernel) rfl) (by decide +kernel) (by decide +kernel) rfl (Nat.le_of_ble_eq_true rfl) rfl ?_
      exact zT.iret (ty := Jvm.ClassFile.FieldType.int) (by simp only [g_X4_tell, if_neg c1, if_pos c2]; try rfl) rfl rfl rfl (by decide +kernel)
    · skip
      by_cases c3 : w = 2
      · skip
        refine zT.tabEq (v := 2) c3 (tgt := 93) (off := 92) (dflt := 142) (lo := 0) (hi := 15) (offs := #[79, 84, 92, 99, 106, 113, 142, 142, 142, 142, 142, 142, 142, 142, 121, 129]) (len := 79) (by decide +kernel) (by decide) (by decide) (by decide) (by decide) ?_
        refine zT.run [(.aload_n 0, 0, 0, 0), (.getfield 9, 2, 2, 1176), (.iconst 0, 0, 0, 0)] (pe := 98) (ls' := [some (.ref 0), some (.int w)]) (st' := [.int 0, .ref 1]) (M' := M) (by decide +kernel) rfl ?_
        refine zT.iald (n := 3) (k := 0) rfl rfl (by decide) (by decide) (by decide +kernel) ?_
        exact zT.iret (ty := Jvm.ClassFile.FieldType.int) (by simp only [g_X4_tell, if_neg c1, if_neg c2, if_pos c3]; try rfl) rfl rfl rfl (by decide +kernel)
      · skip
        by_cases c4 : w = 3
        · skip
          refine zT.tabEq (v := 3) c4 (tgt := 100) (off := 99) (dflt := 142) (lo := 0) (hi := 15) (offs := #[79, 84, 92, 99, 106, 113, 142, 142, 142, 142, 142, 142, 142, 142, 121, 129]) (len := 79) (by decide +kernel) (by decide) (by decide) (by decide) (by decide) ?_
          refine zT.run [(.aload_n 0, 0, 0, 0), (.getfield 9, 2, 2, 1176), (.iconst 1, 0, 0, 0)] (pe := 105) (ls' := [some (.ref 0), some (.int w)]) (st' := [.int 1, .ref 1]) (M' := M) (by decide +kernel) rfl ?_
          refine zT.iald (n := 3) (k := 1) rfl rfl (by decide) (by decide) (by decide +kernel) ?_
          exact zT.iret (ty := Jvm.ClassFile.FieldType.int) (by simp only [g_X4_tell, if_neg c1, if_neg c2, if_neg c3, if_pos c4]; try rfl) rfl rfl rfl (by decide +kernel)
        · skip
          by_cases c5 : w = 4
          · skip
            refine zT.tabEq (v := 4) c5 (tgt := 107) (off := 106) (dflt := 142) (lo := 0) (hi := 15) (offs := #[79, 84, 92, 99, 106, 113, 142, 142, 142, 142, 142, 142, 142, 142, 121, 129]) (len := 79) (by decide +kernel) (by decide) (by decide) (by decide) (by decide) ?_
            refine zT.run [(.aload_n 0, 0, 0, 0), (.getfield 9, 2, 2, 1176), (.iconst 2, 0, 0, 0)] (pe := 112) (ls' := [some (.ref 0), some (.int w)]) (st' := [.int 2, .ref 1]) (M' := M) (by decide +kernel) rfl ?_
            refine zT.iald (n := 3) (k := 2) rfl rfl (by decide) (by decide) (by decide +kernel) ?_
            exact zT.iret (ty := Jvm.ClassFile.FieldType.int) (by simp only [g_X4_tell, if_neg c1, if_neg c2, if_neg c3, if_neg c4, if_pos c5]; try rfl) rfl rfl rfl (by decide +kernel)
          · skip
            by_cases c6 : w = 5
            · skip
              refine zT.tabEq (v := 5) c6 (tgt := 114) (off := 113) (dflt := 142) (lo := 0) (hi := 15) (offs := #[79, 84, 92, 99, 106, 113, 142, 142, 142, 142, 142, 142, 142, 142, 121, 129]) (len := 79) (by decide +kernel) (by decide) (by decide) (by decide) (by decide) ?_
              refine zT.run [(.aload_n 0, 0, 0, 0), (.getfield 33, 2, 8, 1184), (.getfield 80, 0, 0, 1089)] (pe := 121) (ls' := [some (.ref 0), some (.int w)]) (st' := [.int (M 7 0)]) (M' := M) (by decide +kernel) rfl ?_
              exact zT.iret (ty := Jvm.ClassFile.FieldType.int) (by simp only [g_X4_tell, if_neg c1, if_neg c2, if_neg c3, if_neg c4, if_neg c5, if_pos c6]; try rfl) rfl rfl rfl (by decide +kernel)
            · skip
              by_cases c7 : w = 14
              · skip
                refine zT.tabEq (v := 14) c7 (tgt := 122) (off := 121) (dflt := 142) (lo := 0) (hi := 15) (offs := #[79, 84, 92, 99, 106, 113, 142, 142, 142, 142, 142, 142, 142, 142, 121, 129]) (len := 79) (by decide +kernel) (by decide) (by decide) (by decide) (by decide) ?_
                refine zT.run [(.aload_n 0, 0, 0, 0), (.getfield 40, 2, 9, 1186), (.getfield 70, 4, 0, 1137)] (pe := 129) (ls' := [some (.ref 0), some (.int w)]) (st' := [.int (M 10 0)]) (M' := M) (by decide +kernel) rfl ?_
                exact zT.iret (ty := Jvm.ClassFile.FieldType.int) (by simp only [g_X4_tell, if_neg c1, if_neg c2, if_neg c3, if_neg c4, if_neg c5, if_neg c6, if_pos c7]; try rfl) rfl rfl rfl (by decide +kernel)
              · skip
                by_cases c8 : w = 15
                · skip
                  refine zT.tabEq (v := 15) c8 (tgt := 130) (off := 129) (dflt := 142) (lo := 0) (hi := 15) (offs := #[79, 84, 92, 99, 106, 113, 142, 142, 142, 142, 142, 142, 142, 142, 121, 129]) (len := 79) (by decide +kernel) (by decide) (by decide) (by decide) (by decide) ?_
                  refine zT.run [(.aload_n 0, 0, 0, 0), (.iconst 1, 0, 0, 0), (.aload_n 0, 0, 0, 0), (.getfield 51, 2, 0, 1171), (.ishl, 0, 0, 0), (.iconst 1, 0, 0, 0), (.isub, 0, 0, 0)] (pe := 139) (ls' := [some (.ref 0), some (.int w)]) (st' := [.int ((1 <<< ((M 0 0) &&& 31)) - 1), .ref 0]) (M' := M) (by decide +kernel) rfl ?_
                  refine zT.cV_own (o := 0) (idx := 91) (av := [.int ((1 <<< ((M 0 0) &&& 31)) - 1)]) (rv := (some (.int (g_X4_greatestTermOf M n ((1 <<< ((M 0 0) &&& 31)) - 1))))) (st := []) (S1 := [.int (g_X4_greatestTermOf M n ((1 <<< ((M 0 0) &&& 31)) - 1))]) (c_X4_greatestTermOf M n ((1 <<< ((M 0 0) &&& 31)) - 1) hn h9) k_X4_greatestTermOf _ _ rfl rfl rfl (zIn (w := 2038) (by decide +kernel) rfl) (by decide +kernel) (by decide +kernel) rfl (Nat.le_of_ble_eq_true rfl) rfl ?_
                  exact zT.iret (ty := Jvm.ClassFile.FieldType.int) (by simp only [g_X4_tell, if_neg c1, if_neg c2, if_neg c3, if_neg c4, if_neg c5, if_neg c6, if_neg c7, if_pos c8]; try rfl) rfl rfl rfl (by decide +kernel)
                · skip
                  refine zT.tabDef (tgt := 143) (dflt := 142) (lo := 0) (hi := 15) (offs := #[79, 84, 92, 99, 106, 113, 142, 142, 142, 142, 142, 142, 142, 142, 121, 129]) (len := 79) (by decide +kernel) (by intro k h1 h2; rcases (show k = 0 ∨ k = 1 ∨ k = 2 ∨ k = 3 ∨ k = 4 ∨ k = 5 ∨ k = 6 ∨ k = 7 ∨ k = 8 ∨ k = 9 ∨ k = 10 ∨ k = 11 ∨ k = 12 ∨ k = 13 ∨ k = 14 ∨ k = 15 by omega) with rfl | rfl | rfl | rfl | rfl | rfl | rfl | rfl | rfl | rfl | rfl | rfl | rfl | rfl | rfl | rfl; exact Or.inr (zNe rfl c1); exact Or.inr (zNe rfl c2); exact Or.inr (zNe rfl c3); exact Or.inr (zNe rfl c4); exact Or.inr (zNe rfl c5); exact Or.inr (zNe rfl c6); exact Or.inl rfl; exact Or.inl rfl; exact Or.inl rfl; exact Or.inl rfl; exact Or.inl rfl; exact Or.inl rfl; exact Or.inl rfl; exact Or.inl rfl; exact Or.inr (zNe rfl c7); exact Or.inr (zNe rfl c8)) (by decide) ?_
                  refine zT.run [(.aload_n 0, 0, 0, 0)] (pe := 144) (ls' := [some (.ref 0), some (.int w)]) (st' := [.ref 0]) (M' := M) (by decide +kernel) rfl ?_
                  refine zT.cV_own (o := 0) (idx := 192) (av := []) (rv := (some (.int (g_X4_linksCut M n)))) (st := []) (S1 := [.int (g_X4_linksCut M n)]) (c_X4_linksCut M n hn h9) k_X4_linksCut _ _ rfl rfl rfl (zIn (w := 4225) (by decide +kernel) rfl) (by decide +kernel) (by decide +kernel) rfl (Nat.le_of_ble_eq_true rfl) rfl ?_
                  exact zT.iret (ty := Jvm.ClassFile.FieldType.int) (by simp only [g_X4_tell, if_neg c1, if_neg c2, if_neg c3, if_neg c4, if_neg c5, if_neg c6, if_neg c7, if_neg c8]; try rfl) rfl rfl rfl (by decide +kernel)
theorem k_X4_tell : zCal yy_X4_tell 1 := ⟨⟨⟨⟨zIn (w := 4224) (by decide +kernel) rfl, zIn (w := 1004) (by decide +kernel) rfl⟩, by decide +kernel⟩, by decide +kernel⟩, ⟨zIn (w := 4222) (by decide +kernel) rfl, zIn (w := 4223) (by decide +kernel) rfl⟩⟩
noncomputable abbrev yy_X4_tellOf : zY := (yX4_tellOf, cX4_tellOf, 3, (some Jvm.ClassFile.FieldType.int), 2, 44)
noncomputable def g_X4_tellOf (M : zM) (r : Nat) (w : Int32) : Int32 := (if w = 0 then (M 2 r) else (if w = 1 then (M 3 r) else (if w = 2 then (if (g_X9_has (M 0 1) (nI r)) = 0 then 0 else 1) else (if w = 3 then (M 4 r) else (if w = 4 then (M 5 r) else (if w = 5 then (g_X4_othersLinked M r) else (if w = 6 then (if (g_X1_isOnRoll (zPl M 7) (nI r)) = 0 then (-1) else (g_X1_stateOf (zPl M 7) (nI r))) else (if w = 7 then (M 9 r) else (if w = 8 then (g_X1_validVotesFor (zPl M 7) (nI r)) else (if (g_X9_has (g_X4_reachedSet M) (nI r)) = 0 then 0 else 1))))))))))
set_option maxRecDepth 100000 in
theorem c_X4_tellOf (M : zM) (r : Nat) (w : Int32) (hc : zHc M) (h_r : r < 9) : zC yy_X4_tellOf 0 0 [.ref 0, .int (nI r), .int w] sh_Office M (some (.int (g_X4_tellOf M r w))) sh_Office M := by
  refine zC.of (by decide +kernel) rfl (Nat.le_of_ble_eq_true rfl) ?_
  refine zT.run [(.iload_n 2, 0, 0, 0)] (pe := 1) (ls' := [some (.ref 0), some (.int (nI r)), some (.int w)]) (st' := [.int w]) (M' := M) (by decide +kernel) rfl ?_
  by_cases c1 : w = 0
  · skip
    refine zT.tabEq (v := 0) c1 (tgt := 52) (off := 51) (dflt := 145) (lo := 0) (hi := 8) (offs := #[51, 58, 65, 82, 89, 96, 102, 126, 136]) (len := 51) (by decide +kernel) (by decide) (by decide) (by decide) (by decide) ?_
    refine zT.run [(.aload_n 0, 0, 0, 0), (.getfield 15, 2, 3, 1178), (.iload_n 1, 0, 0, 0)] (pe := 57) (ls' := [some (.ref 0), some (.int (nI r)), some (.int w)]) (st' := [.int (nI r), .ref 2]) (M' := M) (by decide +kernel) rfl ?_
    refine zT.iald (n := 9) (k := r) rfl rfl (by omega) (by decide) (by decide +kernel) ?_
    exact zT.iret (ty := Jvm.ClassFile.FieldType.int) (by simp only [g_X4_tellOf, if_pos c1]; try rfl) rfl rfl rfl (by decide +kernel)
  · skip
    by_cases c2 : w = 1
    · skip
      refine zT.tabEq (v := 1) c2 (tgt := 59) (off := 58) (dflt := 145) (lo := 0) (hi := 8) (offs := #[51, 58, 65, 82, 89, 96, 102, 126, 136]) (len := 51) (by decide +kernel) (by decide) (by decide) (by decide) (by decide) ?_
      refine zT.run [(.aload_n 0, 0, 0, 0), (.getfield 18, 2, 4, 1179), (.iload_n 1, 0, 0, 0)] (pe := 64) (ls' := [some (.ref 0), some (.int (nI r)), some (.int w)]) (st' := [.int (nI r), .ref 3]) (M' := M) (by decide +kernel) rfl ?_
      refine zT.iald (n := 9) (k := r) rfl rfl (by omega) (by decide) (by decide +kernel) ?_
      exact zT.iret (ty := Jvm.ClassFile.FieldType.int) (by simp only [g_X4_tellOf, if_neg c1, if_pos c2]; try rfl) rfl rfl rfl (by decide +kernel)
    · skip
      by_cases c3 : w = 2
      · skip
        refine zT.tabEq (v := 2) c3 (tgt := 66) (off := 65) (dflt := 145) (lo := 0) (hi := 8) (offs := #[51, 58, 65, 82, 89, 96, 102, 126, 136]) (len := 51) (by decide +kernel) (by decide) (by decide) (by decide) (by decide) ?_
        refine zT.run [(.aload_n 0, 0, 0, 0), (.getfield 55, 2, 1, 1174), (.iload_n 1, 0, 0, 0)] (pe := 71) (ls' := [some (.ref 0), some (.int (nI r)), some (.int w)]) (st' := [.int (nI r), .int (M 0 1)]) (M' := M) (by decide +kernel) rfl ?_
        refine zT.cN_nil "SealedBallots" (idx := 83) (av := [.int (M 0 1), .int (nI r)]) (rv := (some (.int (g_X9_has (M 0 1) (nI r))))) (st := []) (S1 := [.int (g_X9_has (M 0 1) (nI r))]) (c_X9_has (M 0 1) (nI r)) k_X9_has rfl (zInN (w := 2017) (by decide +kernel) rfl) (by decide +kernel) (by decide +kernel) rfl (Nat.le_of_ble_eq_true rfl) rfl ?_
        refine zT.zeq (tgt := 81) (off := 7) (by decide +kernel) (by decide) (fun (c4 : (g_X9_has (M 0 1) (nI r)) = 0) => ?_) (fun (c4 : ¬ (g_X9_has (M 0 1) (nI r)) = 0) => ?_)
        · skip
          refine zT.run [(.iconst 0, 0, 0, 0)] (pe := 82) (ls' := [some (.ref 0), some (.int (nI r)), some (.int w)]) (st' := [.int 0]) (M' := M) (by decide +kernel) rfl ?_
          exact zT.iret (ty := Jvm.ClassFile.FieldType.int) (by simp only [g_X4_tellOf, if_neg c1, if_neg c2, if_pos c3, if_pos c4]; try rfl) rfl rfl rfl (by decide +kernel)
        · skip
          refine zT.run [(.iconst 1, 0, 0, 0), (.goto 4, 0, 0, 0)] (pe := 82) (ls' := [some (.ref 0), some (.int (nI r)), some (.int w)]) (st' := [.int 1]) (M' := M) (by decide +kernel) rfl ?_
          exact zT.iret (ty := Jvm.ClassFile.FieldType.int) (by simp only [g_X4_tellOf, if_neg c1, if_neg c2, if_pos c3, if_neg c4]; try rfl) rfl rfl rfl (by decide +kernel)
      · skip
        by_cases c5 : w = 3
        · skip
          refine zT.tabEq (v := 3) c5 (tgt := 83) (off := 82) (dflt := 145) (lo := 0) (hi := 8) (offs := #[51, 58, 65, 82, 89, 96, 102, 126, 136]) (len := 51) (by decide +kernel) (by decide) (by decide) (by decide) (by decide) ?_
          refine zT.run [(.aload_n 0, 0, 0, 0), (.getfield 21, 2, 5, 1180), (.iload_n 1, 0, 0, 0)] (pe := 88) (ls' := [some (.ref 0), some (.int (nI r)), some (.int w)]) (st' := [.int (nI r), .ref 4]) (M' := M) (by decide +kernel) rfl ?_
          refine zT.iald (n := 9) (k := r) rfl rfl (by omega) (by decide) (by decide +kernel) ?_
          exact zT.iret (ty := Jvm.ClassFile.FieldType.int) (by simp only [g_X4_tellOf, if_neg c1, if_neg c2, if_neg c3, if_pos c5]; try rfl) rfl rfl rfl (by decide +kernel)
        · skip
          by_cases c6 : w = 4
          · skip
            refine zT.tabEq (v := 4) c6 (tgt := 90) (off := 89) (dflt := 145) (lo := 0) (hi := 8) (offs := #[51, 58, 65, 82, 89, 96, 102, 126, 136]) (len := 51) (by decide +kernel) (by decide) (by decide) (by decide) (by decide) ?_
            refine zT.run [(.aload_n 0, 0, 0, 0), (.getfield 24, 2, 6, 1181), (.iload_n 1, 0, 0, 0)] (pe := 95) (ls' := [some (.ref 0), some (.int (nI r)), some (.int w)]) (st' := [.int (nI r), .ref 5]) (M' := M) (by decide +kernel) rfl ?_
            refine zT.iald (n := 9) (k := r) rfl rfl (by omega) (by decide) (by decide +kernel) ?_
            exact zT.iret (ty := Jvm.ClassFile.FieldType.int) (by simp only [g_X4_tellOf, if_neg c1, if_neg c2, if_neg c3, if_neg c5, if_pos c6]; try rfl) rfl rfl rfl (by decide +kernel)
          · skip
            by_cases c7 : w = 5
            · skip
              refine zT.tabEq (v := 5) c7 (tgt := 97) (off := 96) (dflt := 145) (lo := 0) (hi := 8) (offs := #[51, 58, 65, 82, 89, 96, 102, 126, 136]) (len := 51) (by decide +kernel) (by decide) (by decide) (by decide) (by decide) ?_
              refine zT.run [(.aload_n 0, 0, 0, 0), (.iload_n 1, 0, 0, 0)] (pe := 99) (ls' := [some (.ref 0), some (.int (nI r)), some (.int w)]) (st' := [.int (nI r), .ref 0]) (M' := M) (by decide +kernel) rfl ?_
              refine zT.cV_own (o := 0) (idx := 189) (av := [.int (nI r)]) (rv := (some (.int (g_X4_othersLinked M r)))) (st := []) (S1 := [.int (g_X4_othersLinked M r)]) (c_X4_othersLinked M r (by omega)) k_X4_othersLinked _ _ rfl rfl rfl (zIn (w := 2020) (by decide +kernel) rfl) (by decide +kernel) (by decide +kernel) rfl (Nat.le_of_ble_eq_true rfl) rfl ?_
              exact zT.iret (ty := Jvm.ClassFile.FieldType.int) (by simp only [g_X4_tellOf, if_neg c1, if_neg c2, if_neg c3, if_neg c5, if_neg c6, if_pos c7]; try rfl) rfl rfl rfl (by decide +kernel)
            · skip
              by_cases c8 : w = 6
              · skip
                refine zT.tabEq (v := 6) c8 (tgt := 103) (off := 102) (dflt := 145) (lo := 0) (hi := 8) (offs := #[51, 58, 65, 82, 89, 96, 102, 126, 136]) (len := 51) (by decide +kernel) (by decide) (by decide) (by decide) (by decide) ?_
                refine zT.run [(.aload_n 0, 0, 0, 0), (.getfield 33, 2, 8, 1184), (.iload_n 1, 0, 0, 0)] (pe := 108) (ls' := [some (.ref 0), some (.int (nI r)), some (.int w)]) (st' := [.int (nI r), .ref 7]) (M' := M) (by decide +kernel) rfl ?_
                refine zT.cV_pure 7 (o := 0) (idx := 110) (av := [.int (nI r)]) (rv := (some (.int (g_X1_isOnRoll (zPl M 7) (nI r))))) (st := []) (S1 := [.int (g_X1_isOnRoll (zPl M 7) (nI r))]) (c_X1_isOnRoll (zPl M 7) (nI r)) sub_Office_7_Ballot k_X1_isOnRoll _ _ rfl rfl rfl (zIn (w := 2059) (by decide +kernel) rfl) (by decide +kernel) (by decide +kernel) rfl (Nat.le_of_ble_eq_true rfl) rfl ?_
                refine zT.zeq (tgt := 125) (off := 14) (by decide +kernel) (by decide) (fun (c9 : (g_X1_isOnRoll (zPl M 7) (nI r)) = 0) => ?_) (fun (c9 : ¬ (g_X1_isOnRoll (zPl M 7) (nI r)) = 0) => ?_)
                · skip
                  refine zT.run [(.iconst (-1), 0, 0, 0)] (pe := 126) (ls' := [some (.ref 0), some (.int (nI r)), some (.int w)]) (st' := [.int (-1)]) (M' := M) (by decide +kernel) rfl ?_
                  exact zT.iret (ty := Jvm.ClassFile.FieldType.int) (by simp only [g_X4_tellOf, if_neg c1, if_neg c2, if_neg c3, if_neg c5, if_neg c6, if_neg c7, if_pos c8, if_pos c9]; try rfl) rfl rfl rfl (by decide +kernel)
                · skip
                  refine zT.run [(.aload_n 0, 0, 0, 0), (.getfield 33, 2, 8, 1184), (.iload_n 1, 0, 0, 0)] (pe := 119) (ls' := [some (.ref 0), some (.int (nI r)), some (.int w)]) (st' := [.int (nI r), .ref 7]) (M' := M) (by decide +kernel) rfl ?_
                  refine zT.cV_pure 7 (o := 0) (idx := 195) (av := [.int (nI r)]) (rv := (some (.int (g_X1_stateOf (zPl M 7) (nI r))))) (st := []) (S1 := [.int (g_X1_stateOf (zPl M 7) (nI r))]) (c_X1_stateOf (zPl M 7) (nI r)) sub_Office_7_Ballot k_X1_stateOf _ _ rfl rfl rfl (zIn (w := 5000) (by decide +kernel) rfl) (by decide +kernel) (by decide +kernel) rfl (Nat.le_of_ble_eq_true rfl) rfl ?_
                  refine zT.run [(.goto 4, 0, 0, 0)] (pe := 126) (ls' := [some (.ref 0), some (.int (nI r)), some (.int w)]) (st' := [.int (g_X1_stateOf (zPl M 7) (nI r))]) (M' := M) (by decide +kernel) rfl ?_
                  exact zT.iret (ty := Jvm.ClassFile.FieldType.int) (by simp only [g_X4_tellOf, if_neg c1, if_neg c2, if_neg c3, if_neg c5, if_neg c6, if_neg c7, if_pos c8, if_neg c9]; try rfl) rfl rfl rfl (by decide +kernel)
              · skip
                by_cases c10 : w = 7
                · skip
                  refine zT.tabEq (v := 7) c10 (tgt := 127) (off := 126) (dflt := 145) (lo := 0) (hi := 8) (offs := #[51, 58, 65, 82, 89, 96, 102, 126, 136]) (len := 51) (by decide +kernel) (by decide) (by decide) (by decide) (by decide) ?_
                  refine zT.run [(.aload_n 0, 0, 0, 0), (.getfield 33, 2, 8, 1184), (.getfield 198, 0, 9, 1108), (.iload_n 1, 0, 0, 0)] (pe := 135) (ls' := [some (.ref 0), some (.int (nI r)), some (.int w)]) (st' := [.int (nI r), .ref 9]) (M' := M) (by decide +kernel) rfl ?_
                  refine zT.iald (n := 9) (k := r) rfl rfl (by omega) (by decide) (by decide +kernel) ?_
                  exact zT.iret (ty := Jvm.ClassFile.FieldType.int) (by simp only [g_X4_tellOf, if_neg c1, if_neg c2, if_neg c3, if_neg c5, if_neg c6, if_neg c7, if_neg c8, if_pos c10]; try rfl) rfl rfl rfl (by decide +kernel)
                · skip
                  by_cases c11 : w = 8
                  · skip
                    refine zT.tabEq (v := 8) c11 (tgt := 137) (off := 136) (dflt := 145) (lo := 0) (hi := 8) (offs := #[51, 58, 65, 82, 89, 96, 102, 126, 136]) (len := 51) (by decide +kernel) (by decide) (by decide) (by decide) (by decide) ?_
                    refine zT.run [(.aload_n 0, 0, 0, 0), (.getfield 33, 2, 8, 1184), (.iload_n 1, 0, 0, 0)] (pe := 142) (ls' := [some (.ref 0), some (.int (nI r)), some (.int w)]) (st' := [.int (nI r), .ref 7]) (M' := M) (by decide +kernel) rfl ?_
                    refine zT.cV_pure 7 (o := 0) (idx := 201) (av := [.int (nI r)]) (rv := (some (.int (g_X1_validVotesFor (zPl M 7) (nI r))))) (st := []) (S1 := [.int (g_X1_validVotesFor (zPl M 7) (nI r))]) (c_X1_validVotesFor (zPl M 7) (nI r)) sub_Office_7_Ballot k_X1_validVotesFor _ _ rfl rfl rfl (zIn (w := 5001) (by decide +kernel) rfl) (by decide +kernel) (by decide +kernel) rfl (Nat.le_of_ble_eq_true rfl) rfl ?_
                    exact zT.iret (ty := Jvm.ClassFile.FieldType.int) (by simp only [g_X4_tellOf, if_neg c1, if_neg c2, if_neg c3, if_neg c5, if_neg c6, if_neg c7, if_neg c8, if_neg c10, if_pos c11]; try rfl) rfl rfl rfl (by decide +kernel)
                  · skip
                    refine zT.tabDef (tgt := 146) (dflt := 145) (lo := 0) (hi := 8) (offs := #[51, 58, 65, 82, 89, 96, 102, 126, 136]) (len := 51) (by decide +kernel) (by intro k h1 h2; rcases (show k = 0 ∨ k = 1 ∨ k = 2 ∨ k = 3 ∨ k = 4 ∨ k = 5 ∨ k = 6 ∨ k = 7 ∨ k = 8 by omega) with rfl | rfl | rfl | rfl | rfl | rfl | rfl | rfl | rfl; exact Or.inr (zNe rfl c1); exact Or.inr (zNe rfl c2); exact Or.inr (zNe rfl c3); exact Or.inr (zNe rfl c5); exact Or.inr (zNe rfl c6); exact Or.inr (zNe rfl c7); exact Or.inr (zNe rfl c8); exact Or.inr (zNe rfl c10); exact Or.inr (zNe rfl c11)) (by decide) ?_
                    refine zT.run [(.aload_n 0, 0, 0, 0)] (pe := 147) (ls' := [some (.ref 0), some (.int (nI r)), some (.int w)]) (st' := [.ref 0]) (M' := M) (by decide +kernel) rfl ?_
                    refine zT.cV_own (o := 0) (idx := 116) (av := []) (rv := (some (.int (g_X4_reachedSet M)))) (st := []) (S1 := [.int (g_X4_reachedSet M)]) (c_X4_reachedSet M hc) k_X4_reachedSet _ _ rfl rfl rfl (zIn (w := 2064) (by decide +kernel) rfl) (by decide +kernel) (by decide +kernel) rfl (Nat.le_of_ble_eq_true rfl) rfl ?_
                    refine zT.run [(.iload_n 1, 0, 0, 0)] (pe := 151) (ls' := [some (.ref 0), some (.int (nI r)), some (.int w)]) (st' := [.int (nI r), .int (g_X4_reachedSet M)]) (M' := M) (by decide +kernel) rfl ?_
                    refine zT.cN_nil "SealedBallots" (idx := 83) (av := [.int (g_X4_reachedSet M), .int (nI r)]) (rv := (some (.int (g_X9_has (g_X4_reachedSet M) (nI r))))) (st := []) (S1 := [.int (g_X9_has (g_X4_reachedSet M) (nI r))]) (c_X9_has (g_X4_reachedSet M) (nI r)) k_X9_has rfl (zInN (w := 2017) (by decide +kernel) rfl) (by decide +kernel) (by decide +kernel) rfl (Nat.le_of_ble_eq_true rfl) rfl ?_
                    refine zT.zeq (tgt := 161) (off := 7) (by decide +kernel) (by decide) (fun (c12 : (g_X9_has (g_X4_reachedSet M) (nI r)) = 0) => ?_) (fun (c12 : ¬ (g_X9_has (g_X4_reachedSet M) (nI r)) = 0) => ?_)
                    · skip
                      refine zT.run [(.iconst 0, 0, 0, 0)] (pe := 162) (ls' := [some (.ref 0), some (.int (nI r)), some (.int w)]) (st' := [.int 0]) (M' := M) (by decide +kernel) rfl ?_
                      exact zT.iret (ty := Jvm.ClassFile.FieldType.int) (by simp only [g_X4_tellOf, if_neg c1, if_neg c2, if_neg c3, if_neg c5, if_neg c6, if_neg c7, if_neg c8, if_neg c10, if_neg c11, if_pos c12]; try rfl) rfl rfl rfl (by decide +kernel)
                    · skip
                      refine zT.run [(.iconst 1, 0, 0, 0), (.goto 4, 0, 0, 0)] (pe := 162) (ls' := [some (.ref 0), some (.int (nI r)), some (.int w)]) (st' := [.int 1]) (M' := M) (by decide +kernel) rfl ?_
                      exact zT.iret (ty := Jvm.ClassFile.FieldType.int) (by simp only [g_X4_tellOf, if_neg c1, if_neg c2, if_neg c3, if_neg c5, if_neg c6, if_neg c7, if_neg c8, if_neg c10, if_neg c11, if_neg c12]; try rfl) rfl rfl rfl (by decide +kernel)
theorem k_X4_tellOf : zCal yy_X4_tellOf 2 := ⟨⟨⟨⟨zIn (w := 4239) (by decide +kernel) rfl, zIn (w := 1004) (by decide +kernel) rfl⟩, by decide +kernel⟩, by decide +kernel⟩, ⟨zIn (w := 4237) (by decide +kernel) rfl, zIn (w := 4238) (by decide +kernel) rfl⟩⟩
noncomputable abbrev yy_X4_agesOfUp : zY := (yX4_agesOfUp, cX4_agesOfUp, 3, (some Jvm.ClassFile.FieldType.int), 1, 21)
noncomputable def l_X4_agesOfUp_4 (M : zM) (n : Nat) (i1 : Nat) (s1 : Int32) : Int32 := (s1 + (if (g_X9_has (M 0 1) (nI i1)) = 0 then 0 else (M 2 i1)))
noncomputable def g_X4_agesOfUp (M : zM) (n : Nat) : Int32 := (zIt (l_X4_agesOfUp_4 M n) n 0)
set_option maxRecDepth 100000 in
theorem c_X4_agesOfUp (M : zM) (n : Nat) (hn : M 0 0 = nI n) (h9 : n ≤ 9) : zC yy_X4_agesOfUp 0 0 [.ref 0] sh_Office M (some (.int (g_X4_agesOfUp M n))) sh_Office M := by
  refine zC.of (by decide +kernel) rfl (Nat.le_of_ble_eq_true rfl) ?_
  refine zT.run [(.iconst 0, 0, 0, 0), (.istore_n 1, 0, 0, 0), (.iconst 0, 0, 0, 0), (.istore_n 2, 0, 0, 0)] (pe := 4) (ls' := [some (.ref 0), some (.int 0), some (.int 0)]) (st' := []) (M' := M) (by decide +kernel) rfl ?_
  refine zT.loop (l_X4_agesOfUp_4 M n) (fun (i : Nat) (s : Int32) => (4, [some (.ref 0), some (.int s), some (.int (nI i))], [], sh_Office, M)) n 0 (fun i1 hi1 k1 => ?_) ?_
  · skip
    generalize hs1 : zIt (l_X4_agesOfUp_4 M n) i1 0 = s1 at k1 ⊢
    show zT _ _ _ _ (4, [some (.ref 0), some (.int s1), some (.int (nI i1))], [], sh_Office, M)
    refine zT.run [(.iload_n 2, 0, 0, 0), (.aload_n 0, 0, 0, 0), (.getfield 51, 2, 0, 1171)] (pe := 9) (ls' := [some (.ref 0), some (.int s1), some (.int (nI i1))]) (st' := [.int (M 0 0), .int (nI i1)]) (M' := M) (by decide +kernel) rfl ?_
    refine zT.cge (tgt := 42) (off := 33) (by decide +kernel) (by decide) (fun c => absurd c (zGeN (n := n) hn (by omega) (by omega))) (fun _ => ?_)
    refine zT.run [(.iload_n 1, 0, 0, 0), (.aload_n 0, 0, 0, 0), (.getfield 55, 2, 1, 1174), (.iload_n 2, 0, 0, 0)] (pe := 18) (ls' := [some (.ref 0), some (.int s1), some (.int (nI i1))]) (st' := [.int (nI i1), .int (M 0 1), .int s1]) (M' := M) (by decide +kernel) rfl ?_
    refine zT.cN_nil "SealedBallots" (idx := 83) (av := [.int (M 0 1), .int (nI i1)]) (rv := (some (.int (g_X9_has (M 0 1) (nI i1))))) (st := [.int s1]) (S1 := [.int (g_X9_has (M 0 1) (nI i1)), .int s1]) (c_X9_has (M 0 1) (nI i1)) k_X9_has rfl (zInN (w := 2017) (by decide +kernel) rfl) (by decide +kernel) (by decide +kernel) rfl (Nat.le_of_ble_eq_true rfl) rfl ?_
    refine zT.join (34, [some (.ref 0), some (.int s1), some (.int (nI i1))], [.int (if (g_X9_has (M 0 1) (nI i1)) = 0 then 0 else (M 2 i1)), .int s1], sh_Office, M) ?_ ?_
    · refine zT.zeq (tgt := 33) (off := 12) (by decide +kernel) (by decide) (fun (c1 : (g_X9_has (M 0 1) (nI i1)) = 0) => ?_) (fun (c1 : ¬ (g_X9_has (M 0 1) (nI i1)) = 0) => ?_)
      · skip
        refine zT.run [(.iconst 0, 0, 0, 0)] (pe := 34) (ls' := [some (.ref 0), some (.int s1), some (.int (nI i1))]) (st' := [.int 0, .int s1]) (M' := M) (by decide +kernel) rfl ?_
        exact zT.here (by simp only [if_pos c1])
      · skip
        refine zT.run [(.aload_n 0, 0, 0, 0), (.getfield 15, 2, 3, 1178), (.iload_n 2, 0, 0, 0)] (pe := 29) (ls' := [some (.ref 0), some (.int s1), some (.int (nI i1))]) (st' := [.int (nI i1), .ref 2, .int s1]) (M' := M) (by decide +kernel) rfl ?_
        refine zT.iald (n := 9) (k := i1) rfl rfl (by omega) (by decide) (by decide +kernel) ?_
        refine zT.run [(.goto 4, 0, 0, 0)] (pe := 34) (ls' := [some (.ref 0), some (.int s1), some (.int (nI i1))]) (st' := [.int (M 2 i1), .int s1]) (M' := M) (by decide +kernel) rfl ?_
        exact zT.here (by simp only [if_neg c1])
    · skip
      refine zT.run [(.iadd, 0, 0, 0), (.istore_n 1, 0, 0, 0), (.iinc 2 1, 0, 0, 0), (.goto (-35), 0, 0, 0)] (pe := 4) (ls' := [some (.ref 0), some (.int (s1 + (if (g_X9_has (M 0 1) (nI i1)) = 0 then 0 else (M 2 i1)))), some (.int ((nI i1) + 1))]) (st' := []) (M' := M) (by decide +kernel) rfl ?_
      exact zT.eq (by simp only [l_X4_agesOfUp_4, nI_succ, zDl]; try rfl) k1
  · skip
    show zT _ _ _ _ (4, [some (.ref 0), some (.int (zIt (l_X4_agesOfUp_4 M n) n 0)), some (.int (nI n))], [], sh_Office, M)
    refine zT.run [(.iload_n 2, 0, 0, 0), (.aload_n 0, 0, 0, 0), (.getfield 51, 2, 0, 1171)] (pe := 9) (ls' := [some (.ref 0), some (.int (zIt (l_X4_agesOfUp_4 M n) n 0)), some (.int (nI n))]) (st' := [.int (M 0 0), .int (nI n)]) (M' := M) (by decide +kernel) rfl ?_
    refine zT.cge (tgt := 42) (off := 33) (by decide +kernel) (by decide) (fun _ => ?_) (fun c => absurd (zGeY (n := n) hn) c)
    refine zT.run [(.iload_n 1, 0, 0, 0)] (pe := 43) (ls' := [some (.ref 0), some (.int (zIt (l_X4_agesOfUp_4 M n) n 0)), some (.int (nI n))]) (st' := [.int (zIt (l_X4_agesOfUp_4 M n) n 0)]) (M' := M) (by decide +kernel) rfl ?_
    exact zT.iret (ty := Jvm.ClassFile.FieldType.int) (by simp only [g_X4_agesOfUp]; try rfl) rfl rfl rfl (by decide +kernel)
theorem k_X4_agesOfUp : zCal yy_X4_agesOfUp 0 := ⟨⟨⟨⟨zIn (w := 3222) (by decide +kernel) rfl, zIn (w := 1004) (by decide +kernel) rfl⟩, by decide +kernel⟩, by decide +kernel⟩, ⟨zIn (w := 3220) (by decide +kernel) rfl, zIn (w := 3221) (by decide +kernel) rfl⟩⟩
noncomputable abbrev yy_X4_chosenNow : zY := (yX4_chosenNow, cX4_chosenNow, 3, (some Jvm.ClassFile.FieldType.int), 3, 69)
noncomputable def g_X4_chosenNow (M : zM) (l : Int32) (t : Int32) : Int32 × zM := (if (M 7 0) = 2 then ((g_X7_chosenBy (g_X7_take M (-1) 0) l t), (g_X7_take M (-1) 0)) else (if (M 7 0) = 3 then ((g_X7_chosenBy (g_X7_take M (-1) 0) l t), (g_X7_take M (-1) 0)) else ((-1), M)))
set_option maxRecDepth 100000 in
theorem c_X4_chosenNow (M : zM) (l : Int32) (t : Int32)  : zC yy_X4_chosenNow 0 0 [.ref 0, .int l, .int t] sh_Office M (some (.int (g_X4_chosenNow M l t).1)) sh_Office (g_X4_chosenNow M l t).2 := by
  refine zC.of (by decide +kernel) rfl (Nat.le_of_ble_eq_true rfl) ?_
  refine zT.run [(.aload_n 0, 0, 0, 0), (.getfield 33, 2, 8, 1184), (.getfield 80, 0, 0, 1089), (.iconst 2, 0, 0, 0)] (pe := 8) (ls' := [some (.ref 0), some (.int l), some (.int t)]) (st' := [.int 2, .int (M 7 0)]) (M' := M) (by decide +kernel) rfl ?_
  refine zT.ceq (tgt := 24) (off := 16) (by decide +kernel) (by decide) (fun (c1 : (M 7 0) = 2) => ?_) (fun (c1 : ¬ (M 7 0) = 2) => ?_)
  · skip
    refine zT.run [(.aload_n 0, 0, 0, 0), (.getfield 47, 2, 10, 1188), (.aload_n 0, 0, 0, 0), (.getfield 33, 2, 8, 1184), (.aload_n 0, 0, 0, 0), (.getfield 15, 2, 3, 1178), (.iconst (-1), 0, 0, 0), (.iconst 0, 0, 0, 0)] (pe := 38) (ls' := [some (.ref 0), some (.int l), some (.int t)]) (st' := [.int 0, .int (-1), .ref 2, .ref 7, .ref 12]) (M' := M) (by decide +kernel) rfl ?_
    refine zT.cV_all (o := 12) (idx := 142) (av := [.ref 7, .ref 2, .int (-1), .int 0]) (rv := none) (st := []) (S1 := []) (c_X7_take M (-1) 0) k_X7_take _ _ rfl rfl rfl (zIn (w := 3036) (by decide +kernel) rfl) (by decide +kernel) (by decide +kernel) rfl (Nat.le_of_ble_eq_true rfl) rfl ?_
    refine zT.run [(.aload_n 0, 0, 0, 0), (.getfield 47, 2, 10, 1188), (.iload_n 1, 0, 0, 0), (.iload_n 2, 0, 0, 0)] (pe := 47) (ls' := [some (.ref 0), some (.int l), some (.int t)]) (st' := [.int t, .int l, .ref 12]) (M' := (g_X7_take M (-1) 0)) (by decide +kernel) rfl ?_
    refine zT.cV_own (o := 12) (idx := 146) (av := [.int l, .int t]) (rv := (some (.int (g_X7_chosenBy (g_X7_take M (-1) 0) l t)))) (st := []) (S1 := [.int (g_X7_chosenBy (g_X7_take M (-1) 0) l t)]) (c_X7_chosenBy (g_X7_take M (-1) 0) l t) k_X7_chosenBy _ _ rfl rfl rfl (zIn (w := 3049) (by decide +kernel) rfl) (by decide +kernel) (by decide +kernel) rfl (Nat.le_of_ble_eq_true rfl) rfl ?_
    exact zT.iret (ty := Jvm.ClassFile.FieldType.int) (by simp only [g_X4_chosenNow, if_pos c1]; try rfl) (by simp only [g_X4_chosenNow, if_pos c1]; try rfl) rfl rfl (by decide +kernel)
  · skip
    refine zT.run [(.aload_n 0, 0, 0, 0), (.getfield 33, 2, 8, 1184), (.getfield 80, 0, 0, 1089), (.iconst 3, 0, 0, 0)] (pe := 19) (ls' := [some (.ref 0), some (.int l), some (.int t)]) (st' := [.int 3, .int (M 7 0)]) (M' := M) (by decide +kernel) rfl ?_
    refine zT.ceq (tgt := 24) (off := 5) (by decide +kernel) (by decide) (fun (c2 : (M 7 0) = 3) => ?_) (fun (c2 : ¬ (M 7 0) = 3) => ?_)
    · skip
      refine zT.run [(.aload_n 0, 0, 0, 0), (.getfield 47, 2, 10, 1188), (.aload_n 0, 0, 0, 0), (.getfield 33, 2, 8, 1184), (.aload_n 0, 0, 0, 0), (.getfield 15, 2, 3, 1178), (.iconst (-1), 0, 0, 0), (.iconst 0, 0, 0, 0)] (pe := 38) (ls' := [some (.ref 0), some (.int l), some (.int t)]) (st' := [.int 0, .int (-1), .ref 2, .ref 7, .ref 12]) (M' := M) (by decide +kernel) rfl ?_
      refine zT.cV_all (o := 12) (idx := 142) (av := [.ref 7, .ref 2, .int (-1), .int 0]) (rv := none) (st := []) (S1 := []) (c_X7_take M (-1) 0) k_X7_take _ _ rfl rfl rfl (zIn (w := 3036) (by decide +kernel) rfl) (by decide +kernel) (by decide +kernel) rfl (Nat.le_of_ble_eq_true rfl) rfl ?_
      refine zT.run [(.aload_n 0, 0, 0, 0), (.getfield 47, 2, 10, 1188), (.iload_n 1, 0, 0, 0), (.iload_n 2, 0, 0, 0)] (pe := 47) (ls' := [some (.ref 0), some (.int l), some (.int t)]) (st' := [.int t, .int l, .ref 12]) (M' := (g_X7_take M (-1) 0)) (by decide +kernel) rfl ?_
      refine zT.cV_own (o := 12) (idx := 146) (av := [.int l, .int t]) (rv := (some (.int (g_X7_chosenBy (g_X7_take M (-1) 0) l t)))) (st := []) (S1 := [.int (g_X7_chosenBy (g_X7_take M (-1) 0) l t)]) (c_X7_chosenBy (g_X7_take M (-1) 0) l t) k_X7_chosenBy _ _ rfl rfl rfl (zIn (w := 3049) (by decide +kernel) rfl) (by decide +kernel) (by decide +kernel) rfl (Nat.le_of_ble_eq_true rfl) rfl ?_
      exact zT.iret (ty := Jvm.ClassFile.FieldType.int) (by simp only [g_X4_chosenNow, if_neg c1, if_pos c2]; try rfl) (by simp only [g_X4_chosenNow, if_neg c1, if_pos c2]; try rfl) rfl rfl (by decide +kernel)
    · skip
      refine zT.run [(.iconst (-1), 0, 0, 0)] (pe := 23) (ls' := [some (.ref 0), some (.int l), some (.int t)]) (st' := [.int (-1)]) (M' := M) (by decide +kernel) rfl ?_
      exact zT.iret (ty := Jvm.ClassFile.FieldType.int) (by simp only [g_X4_chosenNow, if_neg c1, if_neg c2]; try rfl) (by simp only [g_X4_chosenNow, if_neg c1, if_neg c2]; try rfl) rfl rfl (by decide +kernel)
theorem fr_X4_chosenNow (M : zM) (l : Int32) (t : Int32) (o : Nat) (ho : o ≠ 12 ∧ o ≠ 13) : (g_X4_chosenNow M l t).2 o = M o := by
  simp only [g_X4_chosenNow]
  (repeat' split) <;> simp only [zU_ne ho.1, zU_ne ho.2, zUa_ne ho.1, zUa_ne ho.2, (fun (MM : zM) (f : Int32) (m : Int32) => fr_X7_take MM f m o (by omega))]
theorem k_X4_chosenNow : zCal yy_X4_chosenNow 2 := ⟨⟨⟨⟨zIn (w := 3166) (by decide +kernel) rfl, zIn (w := 1004) (by decide +kernel) rfl⟩, by decide +kernel⟩, by decide +kernel⟩, ⟨zIn (w := 3164) (by decide +kernel) rfl, zIn (w := 3165) (by decide +kernel) rfl⟩⟩
noncomputable abbrev yy_X4_couldBeChosen : zY := (yX4_couldBeChosen, cX4_couldBeChosen, 5, (some Jvm.ClassFile.FieldType.boolean), 3, 69)
noncomputable def l_X4_couldBeChosen_31 (M : zM) (n : Nat) (r : Nat) (i1 : Nat) (s1 : Int32) : Int32 := (s1 + (if (g_X9_has ((M 7 5) &&& (g_X4_reachedSet M)) (nI i1)) = 0 then 0 else (if (g_X4_flawOf M i1 r) = 0 then 1 else 0)))
noncomputable def g_X4_couldBeChosen (M : zM) (n : Nat) (r : Nat) : Int32 × zM := (if (M 7 0) = 2 then (if (g_X7_chosenBy (g_X7_take M (nI r) (zIt (l_X4_couldBeChosen_31 M n r) n 0)) ((g_X7_take M (nI r) (zIt (l_X4_couldBeChosen_31 M n r) n 0)) 1 0) ((g_X7_take M (nI r) (zIt (l_X4_couldBeChosen_31 M n r) n 0)) 1 1)) = (nI r) then (1, (g_X7_take M (nI r) (zIt (l_X4_couldBeChosen_31 M n r) n 0))) else (0, (g_X7_take M (nI r) (zIt (l_X4_couldBeChosen_31 M n r) n 0)))) else (0, M))
set_option maxRecDepth 100000 in
theorem c_X4_couldBeChosen (M : zM) (n : Nat) (r : Nat) (hn : M 0 0 = nI n) (h9 : n ≤ 9) (hc : zHc M) (h_r : r < 9) : zC yy_X4_couldBeChosen 0 0 [.ref 0, .int (nI r)] sh_Office M (some (.int (g_X4_couldBeChosen M n r).1)) sh_Office (g_X4_couldBeChosen M n r).2 := by
  refine zC.of (by decide +kernel) rfl (Nat.le_of_ble_eq_true rfl) ?_
  refine zT.run [(.aload_n 0, 0, 0, 0), (.getfield 33, 2, 8, 1184), (.getfield 80, 0, 0, 1089), (.iconst 2, 0, 0, 0)] (pe := 8) (ls' := [some (.ref 0), some (.int (nI r)), none, none, none]) (st' := [.int 2, .int (M 7 0)]) (M' := M) (by decide +kernel) rfl ?_
  refine zT.ceq (tgt := 13) (off := 5) (by decide +kernel) (by decide) (fun (c1 : (M 7 0) = 2) => ?_) (fun (c1 : ¬ (M 7 0) = 2) => ?_)
  · skip
    refine zT.run [(.aload_n 0, 0, 0, 0), (.getfield 33, 2, 8, 1184), (.getfield 113, 0, 5, 1100), (.aload_n 0, 0, 0, 0)] (pe := 21) (ls' := [some (.ref 0), some (.int (nI r)), none, none, none]) (st' := [.ref 0, .int (M 7 5)]) (M' := M) (by decide +kernel) rfl ?_
    refine zT.cV_own (o := 0) (idx := 116) (av := []) (rv := (some (.int (g_X4_reachedSet M)))) (st := [.int (M 7 5)]) (S1 := [.int (g_X4_reachedSet M), .int (M 7 5)]) (c_X4_reachedSet M hc) k_X4_reachedSet _ _ rfl rfl rfl (zIn (w := 2064) (by decide +kernel) rfl) (by decide +kernel) (by decide +kernel) rfl (Nat.le_of_ble_eq_true rfl) rfl ?_
    refine zT.run [(.iand, 0, 0, 0), (.istore_n 2, 0, 0, 0), (.iconst 0, 0, 0, 0), (.istore_n 3, 0, 0, 0), (.iconst 0, 0, 0, 0), (.istore 4, 0, 0, 0)] (pe := 31) (ls' := [some (.ref 0), some (.int (nI r)), some (.int ((M 7 5) &&& (g_X4_reachedSet M))), some (.int 0), some (.int 0)]) (st' := []) (M' := M) (by decide +kernel) rfl ?_
    refine zT.loop (l_X4_couldBeChosen_31 M n r) (fun (i : Nat) (s : Int32) => (31, [some (.ref 0), some (.int (nI r)), some (.int ((M 7 5) &&& (g_X4_reachedSet M))), some (.int s), some (.int (nI i))], [], sh_Office, M)) n 0 (fun i1 hi1 k1 => ?_) ?_
    · skip
      generalize hs1 : zIt (l_X4_couldBeChosen_31 M n r) i1 0 = s1 at k1 ⊢
      show zT _ _ _ _ (31, [some (.ref 0), some (.int (nI r)), some (.int ((M 7 5) &&& (g_X4_reachedSet M))), some (.int s1), some (.int (nI i1))], [], sh_Office, M)
      refine zT.run [(.iload 4, 0, 0, 0), (.aload_n 0, 0, 0, 0), (.getfield 51, 2, 0, 1171)] (pe := 37) (ls' := [some (.ref 0), some (.int (nI r)), some (.int ((M 7 5) &&& (g_X4_reachedSet M))), some (.int s1), some (.int (nI i1))]) (st' := [.int (M 0 0), .int (nI i1)]) (M' := M) (by decide +kernel) rfl ?_
      refine zT.cge (tgt := 73) (off := 36) (by decide +kernel) (by decide) (fun c => absurd c (zGeN (n := n) hn (by omega) (by omega))) (fun _ => ?_)
      refine zT.run [(.iload_n 3, 0, 0, 0), (.iload_n 2, 0, 0, 0), (.iload 4, 0, 0, 0)] (pe := 44) (ls' := [some (.ref 0), some (.int (nI r)), some (.int ((M 7 5) &&& (g_X4_reachedSet M))), some (.int s1), some (.int (nI i1))]) (st' := [.int (nI i1), .int ((M 7 5) &&& (g_X4_reachedSet M)), .int s1]) (M' := M) (by decide +kernel) rfl ?_
      refine zT.cN_nil "SealedBallots" (idx := 83) (av := [.int ((M 7 5) &&& (g_X4_reachedSet M)), .int (nI i1)]) (rv := (some (.int (g_X9_has ((M 7 5) &&& (g_X4_reachedSet M)) (nI i1))))) (st := [.int s1]) (S1 := [.int (g_X9_has ((M 7 5) &&& (g_X4_reachedSet M)) (nI i1)), .int s1]) (c_X9_has ((M 7 5) &&& (g_X4_reachedSet M)) (nI i1)) k_X9_has rfl (zInN (w := 2017) (by decide +kernel) rfl) (by decide +kernel) (by decide +kernel) rfl (Nat.le_of_ble_eq_true rfl) rfl ?_
      refine zT.join (65, [some (.ref 0), some (.int (nI r)), some (.int ((M 7 5) &&& (g_X4_reachedSet M))), some (.int s1), some (.int (nI i1))], [.int (if (g_X9_has ((M 7 5) &&& (g_X4_reachedSet M)) (nI i1)) = 0 then 0 else (if (g_X4_flawOf M i1 r) = 0 then 1 else 0)), .int s1], sh_Office, M) ?_ ?_
      · refine zT.zeq (tgt := 64) (off := 17) (by decide +kernel) (by decide) (fun (c2 : (g_X9_has ((M 7 5) &&& (g_X4_reachedSet M)) (nI i1)) = 0) => ?_) (fun (c2 : ¬ (g_X9_has ((M 7 5) &&& (g_X4_reachedSet M)) (nI i1)) = 0) => ?_)
        · skip
          refine zT.run [(.iconst 0, 0, 0, 0)] (pe := 65) (ls' := [some (.ref 0), some (.int (nI r)), some (.int ((M 7 5) &&& (g_X4_reachedSet M))), some (.int s1), some (.int (nI i1))]) (st' := [.int 0, .int s1]) (M' := M) (by decide +kernel) rfl ?_
          exact zT.here (by simp only [if_pos c2])
        · skip
          refine zT.run [(.aload_n 0, 0, 0, 0), (.iload 4, 0, 0, 0), (.iload_n 1, 0, 0, 0)] (pe := 54) (ls' := [some (.ref 0), some (.int (nI r)), some (.int ((M 7 5) &&& (g_X4_reachedSet M))), some (.int s1), some (.int (nI i1))]) (st' := [.int (nI r), .int (nI i1), .ref 0, .int s1]) (M' := M) (by decide +kernel) rfl ?_
          refine zT.cV_own (o := 0) (idx := 136) (av := [.int (nI i1), .int (nI r)]) (rv := (some (.int (g_X4_flawOf M i1 r)))) (st := [.int s1]) (S1 := [.int (g_X4_flawOf M i1 r), .int s1]) (c_X4_flawOf M i1 r (by omega) (by omega)) k_X4_flawOf _ _ rfl rfl rfl (zIn (w := 3024) (by decide +kernel) rfl) (by decide +kernel) (by decide +kernel) rfl (Nat.le_of_ble_eq_true rfl) rfl ?_
          refine zT.zne (tgt := 64) (off := 7) (by decide +kernel) (by decide) (fun (c3 : ¬ (g_X4_flawOf M i1 r) = 0) => ?_) (fun (c3 : (g_X4_flawOf M i1 r) = 0) => ?_)
          · skip
            refine zT.run [(.iconst 0, 0, 0, 0)] (pe := 65) (ls' := [some (.ref 0), some (.int (nI r)), some (.int ((M 7 5) &&& (g_X4_reachedSet M))), some (.int s1), some (.int (nI i1))]) (st' := [.int 0, .int s1]) (M' := M) (by decide +kernel) rfl ?_
            exact zT.here (by simp only [if_neg c2, if_neg c3])
          · skip
            refine zT.run [(.iconst 1, 0, 0, 0), (.goto 4, 0, 0, 0)] (pe := 65) (ls' := [some (.ref 0), some (.int (nI r)), some (.int ((M 7 5) &&& (g_X4_reachedSet M))), some (.int s1), some (.int (nI i1))]) (st' := [.int 1, .int s1]) (M' := M) (by decide +kernel) rfl ?_
            exact zT.here (by simp only [if_neg c2, if_pos c3])
      · skip
        refine zT.run [(.iadd, 0, 0, 0), (.istore_n 3, 0, 0, 0), (.iinc 4 1, 0, 0, 0), (.goto (-39), 0, 0, 0)] (pe := 31) (ls' := [some (.ref 0), some (.int (nI r)), some (.int ((M 7 5) &&& (g_X4_reachedSet M))), some (.int (s1 + (if (g_X9_has ((M 7 5) &&& (g_X4_reachedSet M)) (nI i1)) = 0 then 0 else (if (g_X4_flawOf M i1 r) = 0 then 1 else 0)))), some (.int ((nI i1) + 1))]) (st' := []) (M' := M) (by decide +kernel) rfl ?_
        exact zT.eq (by simp only [l_X4_couldBeChosen_31, nI_succ, zDl]; try rfl) k1
    · skip
      show zT _ _ _ _ (31, [some (.ref 0), some (.int (nI r)), some (.int ((M 7 5) &&& (g_X4_reachedSet M))), some (.int (zIt (l_X4_couldBeChosen_31 M n r) n 0)), some (.int (nI n))], [], sh_Office, M)
      refine zT.run [(.iload 4, 0, 0, 0), (.aload_n 0, 0, 0, 0), (.getfield 51, 2, 0, 1171)] (pe := 37) (ls' := [some (.ref 0), some (.int (nI r)), some (.int ((M 7 5) &&& (g_X4_reachedSet M))), some (.int (zIt (l_X4_couldBeChosen_31 M n r) n 0)), some (.int (nI n))]) (st' := [.int (M 0 0), .int (nI n)]) (M' := M) (by decide +kernel) rfl ?_
      refine zT.cge (tgt := 73) (off := 36) (by decide +kernel) (by decide) (fun _ => ?_) (fun c => absurd (zGeY (n := n) hn) c)
      refine zT.run [(.aload_n 0, 0, 0, 0), (.getfield 47, 2, 10, 1188), (.aload_n 0, 0, 0, 0), (.getfield 33, 2, 8, 1184), (.aload_n 0, 0, 0, 0), (.getfield 15, 2, 3, 1178), (.iload_n 1, 0, 0, 0), (.iload_n 3, 0, 0, 0)] (pe := 87) (ls' := [some (.ref 0), some (.int (nI r)), some (.int ((M 7 5) &&& (g_X4_reachedSet M))), some (.int (zIt (l_X4_couldBeChosen_31 M n r) n 0)), some (.int (nI n))]) (st' := [.int (zIt (l_X4_couldBeChosen_31 M n r) n 0), .int (nI r), .ref 2, .ref 7, .ref 12]) (M' := M) (by decide +kernel) rfl ?_
      refine zT.cV_all (o := 12) (idx := 142) (av := [.ref 7, .ref 2, .int (nI r), .int (zIt (l_X4_couldBeChosen_31 M n r) n 0)]) (rv := none) (st := []) (S1 := []) (c_X7_take M (nI r) (zIt (l_X4_couldBeChosen_31 M n r) n 0)) k_X7_take _ _ rfl rfl rfl (zIn (w := 3036) (by decide +kernel) rfl) (by decide +kernel) (by decide +kernel) rfl (Nat.le_of_ble_eq_true rfl) rfl ?_
      refine zT.run [(.aload_n 0, 0, 0, 0), (.getfield 47, 2, 10, 1188), (.aload_n 0, 0, 0, 0), (.getfield 9, 2, 2, 1176), (.iconst 0, 0, 0, 0)] (pe := 99) (ls' := [some (.ref 0), some (.int (nI r)), some (.int ((M 7 5) &&& (g_X4_reachedSet M))), some (.int (zIt (l_X4_couldBeChosen_31 M n r) n 0)), some (.int (nI n))]) (st' := [.int 0, .ref 1, .ref 12]) (M' := (g_X7_take M (nI r) (zIt (l_X4_couldBeChosen_31 M n r) n 0))) (by decide +kernel) rfl ?_
      refine zT.iald (n := 3) (k := 0) rfl rfl (by decide) (by decide) (by decide +kernel) ?_
      refine zT.run [(.aload_n 0, 0, 0, 0), (.getfield 9, 2, 2, 1176), (.iconst 1, 0, 0, 0)] (pe := 105) (ls' := [some (.ref 0), some (.int (nI r)), some (.int ((M 7 5) &&& (g_X4_reachedSet M))), some (.int (zIt (l_X4_couldBeChosen_31 M n r) n 0)), some (.int (nI n))]) (st' := [.int 1, .ref 1, .int ((g_X7_take M (nI r) (zIt (l_X4_couldBeChosen_31 M n r) n 0)) 1 0), .ref 12]) (M' := (g_X7_take M (nI r) (zIt (l_X4_couldBeChosen_31 M n r) n 0))) (by decide +kernel) rfl ?_
      refine zT.iald (n := 3) (k := 1) rfl rfl (by decide) (by decide) (by decide +kernel) ?_
      refine zT.cV_own (o := 12) (idx := 146) (av := [.int ((g_X7_take M (nI r) (zIt (l_X4_couldBeChosen_31 M n r) n 0)) 1 0), .int ((g_X7_take M (nI r) (zIt (l_X4_couldBeChosen_31 M n r) n 0)) 1 1)]) (rv := (some (.int (g_X7_chosenBy (g_X7_take M (nI r) (zIt (l_X4_couldBeChosen_31 M n r) n 0)) ((g_X7_take M (nI r) (zIt (l_X4_couldBeChosen_31 M n r) n 0)) 1 0) ((g_X7_take M (nI r) (zIt (l_X4_couldBeChosen_31 M n r) n 0)) 1 1))))) (st := []) (S1 := [.int (g_X7_chosenBy (g_X7_take M (nI r) (zIt (l_X4_couldBeChosen_31 M n r) n 0)) ((g_X7_take M (nI r) (zIt (l_X4_couldBeChosen_31 M n r) n 0)) 1 0) ((g_X7_take M (nI r) (zIt (l_X4_couldBeChosen_31 M n r) n 0)) 1 1))]) (c_X7_chosenBy (g_X7_take M (nI r) (zIt (l_X4_couldBeChosen_31 M n r) n 0)) ((g_X7_take M (nI r) (zIt (l_X4_couldBeChosen_31 M n r) n 0)) 1 0) ((g_X7_take M (nI r) (zIt (l_X4_couldBeChosen_31 M n r) n 0)) 1 1)) k_X7_chosenBy _ _ rfl rfl rfl (zIn (w := 3049) (by decide +kernel) rfl) (by decide +kernel) (by decide +kernel) rfl (Nat.le_of_ble_eq_true rfl) rfl ?_
      refine zT.run [(.iload_n 1, 0, 0, 0)] (pe := 110) (ls' := [some (.ref 0), some (.int (nI r)), some (.int ((M 7 5) &&& (g_X4_reachedSet M))), some (.int (zIt (l_X4_couldBeChosen_31 M n r) n 0)), some (.int (nI n))]) (st' := [.int (nI r), .int (g_X7_chosenBy (g_X7_take M (nI r) (zIt (l_X4_couldBeChosen_31 M n r) n 0)) ((g_X7_take M (nI r) (zIt (l_X4_couldBeChosen_31 M n r) n 0)) 1 0) ((g_X7_take M (nI r) (zIt (l_X4_couldBeChosen_31 M n r) n 0)) 1 1))]) (M' := (g_X7_take M (nI r) (zIt (l_X4_couldBeChosen_31 M n r) n 0))) (by decide +kernel) rfl ?_
      refine zT.cne (tgt := 117) (off := 7) (by decide +kernel) (by decide) (fun (c4 : ¬ (g_X7_chosenBy (g_X7_take M (nI r) (zIt (l_X4_couldBeChosen_31 M n r) n 0)) ((g_X7_take M (nI r) (zIt (l_X4_couldBeChosen_31 M n r) n 0)) 1 0) ((g_X7_take M (nI r) (zIt (l_X4_couldBeChosen_31 M n r) n 0)) 1 1)) = (nI r)) => ?_) (fun (c4 : (g_X7_chosenBy (g_X7_take M (nI r) (zIt (l_X4_couldBeChosen_31 M n r) n 0)) ((g_X7_take M (nI r) (zIt (l_X4_couldBeChosen_31 M n r) n 0)) 1 0) ((g_X7_take M (nI r) (zIt (l_X4_couldBeChosen_31 M n r) n 0)) 1 1)) = (nI r)) => ?_)
      · skip
        refine zT.run [(.iconst 0, 0, 0, 0)] (pe := 118) (ls' := [some (.ref 0), some (.int (nI r)), some (.int ((M 7 5) &&& (g_X4_reachedSet M))), some (.int (zIt (l_X4_couldBeChosen_31 M n r) n 0)), some (.int (nI n))]) (st' := [.int 0]) (M' := (g_X7_take M (nI r) (zIt (l_X4_couldBeChosen_31 M n r) n 0))) (by decide +kernel) rfl ?_
        exact zT.iret (ty := Jvm.ClassFile.FieldType.boolean) (by simp only [g_X4_couldBeChosen, if_pos c1, if_neg c4]; try rfl) (by simp only [g_X4_couldBeChosen, if_pos c1, if_neg c4]; try rfl) rfl rfl (by decide +kernel)
      · skip
        refine zT.run [(.iconst 1, 0, 0, 0), (.goto 4, 0, 0, 0)] (pe := 118) (ls' := [some (.ref 0), some (.int (nI r)), some (.int ((M 7 5) &&& (g_X4_reachedSet M))), some (.int (zIt (l_X4_couldBeChosen_31 M n r) n 0)), some (.int (nI n))]) (st' := [.int 1]) (M' := (g_X7_take M (nI r) (zIt (l_X4_couldBeChosen_31 M n r) n 0))) (by decide +kernel) rfl ?_
        exact zT.iret (ty := Jvm.ClassFile.FieldType.boolean) (by simp only [g_X4_couldBeChosen, if_pos c1, if_pos c4]; try rfl) (by simp only [g_X4_couldBeChosen, if_pos c1, if_pos c4]; try rfl) rfl rfl (by decide +kernel)
  · skip
    refine zT.run [(.iconst 0, 0, 0, 0)] (pe := 12) (ls' := [some (.ref 0), some (.int (nI r)), none, none, none]) (st' := [.int 0]) (M' := M) (by decide +kernel) rfl ?_
    exact zT.iret (ty := Jvm.ClassFile.FieldType.boolean) (by simp only [g_X4_couldBeChosen, if_neg c1]; try rfl) (by simp only [g_X4_couldBeChosen, if_neg c1]; try rfl) rfl rfl (by decide +kernel)
theorem fr_X4_couldBeChosen (M : zM) (n : Nat) (r : Nat) (o : Nat) (ho : o ≠ 12 ∧ o ≠ 13) : (g_X4_couldBeChosen M n r).2 o = M o := by
  simp only [g_X4_couldBeChosen]
  (repeat' split) <;> simp only [zU_ne ho.1, zU_ne ho.2, zUa_ne ho.1, zUa_ne ho.2, (fun (MM : zM) (f : Int32) (m : Int32) => fr_X7_take MM f m o (by omega))]
theorem k_X4_couldBeChosen : zCal yy_X4_couldBeChosen 1 := ⟨⟨⟨⟨zIn (w := 5043) (by decide +kernel) rfl, zIn (w := 1004) (by decide +kernel) rfl⟩, by decide +kernel⟩, by decide +kernel⟩, ⟨zIn (w := 5041) (by decide +kernel) rfl, zIn (w := 5042) (by decide +kernel) rfl⟩⟩
noncomputable abbrev yy_X4_callersIf : zY := (yX4_callersIf, cX4_callersIf, 4, (some Jvm.ClassFile.FieldType.int), 2, 41)
noncomputable def l_X4_callersIf_4 (M : zM) (n : Nat) (up : Int32) (i1 : Nat) (s1 : Int32) : Int32 := (if (g_X9_has up (nI i1)) = 0 then s1 else (if (g_X4_isMajority M ((M 6 i1) &&& up)) = 0 then s1 else (s1 ||| (1 <<< ((nI i1) &&& 31)))))
noncomputable def g_X4_callersIf (M : zM) (n : Nat) (up : Int32) : Int32 := (zIt (l_X4_callersIf_4 M n up) n 0)
set_option maxRecDepth 100000 in
theorem c_X4_callersIf (M : zM) (n : Nat) (up : Int32) (hn : M 0 0 = nI n) (h9 : n ≤ 9) : zC yy_X4_callersIf 0 0 [.ref 0, .int up] sh_Office M (some (.int (g_X4_callersIf M n up))) sh_Office M := by
  refine zC.of (by decide +kernel) rfl (Nat.le_of_ble_eq_true rfl) ?_
  refine zT.run [(.iconst 0, 0, 0, 0), (.istore_n 2, 0, 0, 0), (.iconst 0, 0, 0, 0), (.istore_n 3, 0, 0, 0)] (pe := 4) (ls' := [some (.ref 0), some (.int up), some (.int 0), some (.int 0)]) (st' := []) (M' := M) (by decide +kernel) rfl ?_
  refine zT.loop (l_X4_callersIf_4 M n up) (fun (i : Nat) (s : Int32) => (4, [some (.ref 0), some (.int up), some (.int s), some (.int (nI i))], [], sh_Office, M)) n 0 (fun i1 hi1 k1 => ?_) ?_
  · skip
    generalize hs1 : zIt (l_X4_callersIf_4 M n up) i1 0 = s1 at k1 ⊢
    show zT _ _ _ _ (4, [some (.ref 0), some (.int up), some (.int s1), some (.int (nI i1))], [], sh_Office, M)
    refine zT.run [(.iload_n 3, 0, 0, 0), (.aload_n 0, 0, 0, 0), (.getfield 51, 2, 0, 1171)] (pe := 9) (ls' := [some (.ref 0), some (.int up), some (.int s1), some (.int (nI i1))]) (st' := [.int (M 0 0), .int (nI i1)]) (M' := M) (by decide +kernel) rfl ?_
    refine zT.cge (tgt := 47) (off := 38) (by decide +kernel) (by decide) (fun c => absurd c (zGeN (n := n) hn (by omega) (by omega))) (fun _ => ?_)
    refine zT.run [(.iload_n 1, 0, 0, 0), (.iload_n 3, 0, 0, 0)] (pe := 14) (ls' := [some (.ref 0), some (.int up), some (.int s1), some (.int (nI i1))]) (st' := [.int (nI i1), .int up]) (M' := M) (by decide +kernel) rfl ?_
    refine zT.cN_nil "SealedBallots" (idx := 83) (av := [.int up, .int (nI i1)]) (rv := (some (.int (g_X9_has up (nI i1))))) (st := []) (S1 := [.int (g_X9_has up (nI i1))]) (c_X9_has up (nI i1)) k_X9_has rfl (zInN (w := 2017) (by decide +kernel) rfl) (by decide +kernel) (by decide +kernel) rfl (Nat.le_of_ble_eq_true rfl) rfl ?_
    refine zT.join (41, [some (.ref 0), some (.int up), some (.int (if (g_X9_has up (nI i1)) = 0 then s1 else (if (g_X4_isMajority M ((M 6 i1) &&& up)) = 0 then s1 else (s1 ||| (1 <<< ((nI i1) &&& 31)))))), some (.int (nI i1))], [], sh_Office, M) ?_ ?_
    · refine zT.zeq (tgt := 41) (off := 24) (by decide +kernel) (by decide) (fun (c1 : (g_X9_has up (nI i1)) = 0) => ?_) (fun (c1 : ¬ (g_X9_has up (nI i1)) = 0) => ?_)
      · skip
        exact zT.here (by simp only [if_pos c1])
      · skip
        refine zT.run [(.aload_n 0, 0, 0, 0), (.aload_n 0, 0, 0, 0), (.getfield 27, 2, 7, 1182), (.iload_n 3, 0, 0, 0)] (pe := 26) (ls' := [some (.ref 0), some (.int up), some (.int s1), some (.int (nI i1))]) (st' := [.int (nI i1), .ref 6, .ref 0]) (M' := M) (by decide +kernel) rfl ?_
        refine zT.iald (n := 9) (k := i1) rfl rfl (by omega) (by decide) (by decide +kernel) ?_
        refine zT.run [(.iload_n 1, 0, 0, 0), (.iand, 0, 0, 0)] (pe := 29) (ls' := [some (.ref 0), some (.int up), some (.int s1), some (.int (nI i1))]) (st' := [.int ((M 6 i1) &&& up), .ref 0]) (M' := M) (by decide +kernel) rfl ?_
        refine zT.cV_own (o := 0) (idx := 87) (av := [.int ((M 6 i1) &&& up)]) (rv := (some (.int (g_X4_isMajority M ((M 6 i1) &&& up))))) (st := []) (S1 := [.int (g_X4_isMajority M ((M 6 i1) &&& up))]) (c_X4_isMajority M ((M 6 i1) &&& up)) k_X4_isMajority _ _ rfl rfl rfl (zIn (w := 2034) (by decide +kernel) rfl) (by decide +kernel) (by decide +kernel) rfl (Nat.le_of_ble_eq_true rfl) rfl ?_
        refine zT.zeq (tgt := 41) (off := 9) (by decide +kernel) (by decide) (fun (c2 : (g_X4_isMajority M ((M 6 i1) &&& up)) = 0) => ?_) (fun (c2 : ¬ (g_X4_isMajority M ((M 6 i1) &&& up)) = 0) => ?_)
        · skip
          exact zT.here (by simp only [if_neg c1, if_pos c2])
        · skip
          refine zT.run [(.iload_n 2, 0, 0, 0), (.iconst 1, 0, 0, 0), (.iload_n 3, 0, 0, 0), (.ishl, 0, 0, 0), (.ior, 0, 0, 0), (.istore_n 2, 0, 0, 0)] (pe := 41) (ls' := [some (.ref 0), some (.int up), some (.int (s1 ||| (1 <<< ((nI i1) &&& 31)))), some (.int (nI i1))]) (st' := []) (M' := M) (by decide +kernel) rfl ?_
          exact zT.here (by simp only [if_neg c1, if_neg c2])
    · skip
      refine zT.run [(.iinc 3 1, 0, 0, 0), (.goto (-40), 0, 0, 0)] (pe := 4) (ls' := [some (.ref 0), some (.int up), some (.int (if (g_X9_has up (nI i1)) = 0 then s1 else (if (g_X4_isMajority M ((M 6 i1) &&& up)) = 0 then s1 else (s1 ||| (1 <<< ((nI i1) &&& 31)))))), some (.int ((nI i1) + 1))]) (st' := []) (M' := M) (by decide +kernel) rfl ?_
      exact zT.eq (by simp only [l_X4_callersIf_4, nI_succ, zDl]; try rfl) k1
  · skip
    show zT _ _ _ _ (4, [some (.ref 0), some (.int up), some (.int (zIt (l_X4_callersIf_4 M n up) n 0)), some (.int (nI n))], [], sh_Office, M)
    refine zT.run [(.iload_n 3, 0, 0, 0), (.aload_n 0, 0, 0, 0), (.getfield 51, 2, 0, 1171)] (pe := 9) (ls' := [some (.ref 0), some (.int up), some (.int (zIt (l_X4_callersIf_4 M n up) n 0)), some (.int (nI n))]) (st' := [.int (M 0 0), .int (nI n)]) (M' := M) (by decide +kernel) rfl ?_
    refine zT.cge (tgt := 47) (off := 38) (by decide +kernel) (by decide) (fun _ => ?_) (fun c => absurd (zGeY (n := n) hn) c)
    refine zT.run [(.iload_n 2, 0, 0, 0)] (pe := 48) (ls' := [some (.ref 0), some (.int up), some (.int (zIt (l_X4_callersIf_4 M n up) n 0)), some (.int (nI n))]) (st' := [.int (zIt (l_X4_callersIf_4 M n up) n 0)]) (M' := M) (by decide +kernel) rfl ?_
    exact zT.iret (ty := Jvm.ClassFile.FieldType.int) (by simp only [g_X4_callersIf]; try rfl) rfl rfl rfl (by decide +kernel)
theorem k_X4_callersIf : zCal yy_X4_callersIf 1 := ⟨⟨⟨⟨zIn (w := 3174) (by decide +kernel) rfl, zIn (w := 1004) (by decide +kernel) rfl⟩, by decide +kernel⟩, by decide +kernel⟩, ⟨zIn (w := 3172) (by decide +kernel) rfl, zIn (w := 3173) (by decide +kernel) rfl⟩⟩
noncomputable abbrev yy_X4_vitalSet : zY := (yX4_vitalSet, cX4_vitalSet, 3, (some Jvm.ClassFile.FieldType.int), 3, 64)
noncomputable def l_X4_vitalSet_17 (M : zM) (n : Nat) (i1 : Nat) (s1 : Int32) : Int32 := (if (g_X9_has (M 0 1) (nI i1)) = 0 then s1 else (if (g_X4_callersIf M n ((M 0 1) &&& ((1 <<< ((nI i1) &&& 31)) ^^^ (-1)))) = 0 then (s1 ||| (1 <<< ((nI i1) &&& 31))) else s1))
noncomputable def g_X4_vitalSet (M : zM) (n : Nat) : Int32 := (if (g_X4_callersIf M n (M 0 1)) = 0 then 0 else (zIt (l_X4_vitalSet_17 M n) n 0))
set_option maxRecDepth 100000 in
theorem c_X4_vitalSet (M : zM) (n : Nat) (hn : M 0 0 = nI n) (h9 : n ≤ 9) : zC yy_X4_vitalSet 0 0 [.ref 0] sh_Office M (some (.int (g_X4_vitalSet M n))) sh_Office M := by
  refine zC.of (by decide +kernel) rfl (Nat.le_of_ble_eq_true rfl) ?_
  refine zT.run [(.aload_n 0, 0, 0, 0), (.aload_n 0, 0, 0, 0), (.getfield 55, 2, 1, 1174)] (pe := 5) (ls' := [some (.ref 0), none, none]) (st' := [.int (M 0 1), .ref 0]) (M' := M) (by decide +kernel) rfl ?_
  refine zT.cV_own (o := 0) (idx := 212) (av := [.int (M 0 1)]) (rv := (some (.int (g_X4_callersIf M n (M 0 1))))) (st := []) (S1 := [.int (g_X4_callersIf M n (M 0 1))]) (c_X4_callersIf M n (M 0 1) hn h9) k_X4_callersIf _ _ rfl rfl rfl (zIn (w := 3183) (by decide +kernel) rfl) (by decide +kernel) (by decide +kernel) rfl (Nat.le_of_ble_eq_true rfl) rfl ?_
  refine zT.zne (tgt := 13) (off := 5) (by decide +kernel) (by decide) (fun (c1 : ¬ (g_X4_callersIf M n (M 0 1)) = 0) => ?_) (fun (c1 : (g_X4_callersIf M n (M 0 1)) = 0) => ?_)
  · skip
    refine zT.run [(.iconst 0, 0, 0, 0), (.istore_n 1, 0, 0, 0), (.iconst 0, 0, 0, 0), (.istore_n 2, 0, 0, 0)] (pe := 17) (ls' := [some (.ref 0), some (.int 0), some (.int 0)]) (st' := []) (M' := M) (by decide +kernel) rfl ?_
    refine zT.loop (l_X4_vitalSet_17 M n) (fun (i : Nat) (s : Int32) => (17, [some (.ref 0), some (.int s), some (.int (nI i))], [], sh_Office, M)) n 0 (fun i1 hi1 k1 => ?_) ?_
    · skip
      generalize hs1 : zIt (l_X4_vitalSet_17 M n) i1 0 = s1 at k1 ⊢
      show zT _ _ _ _ (17, [some (.ref 0), some (.int s1), some (.int (nI i1))], [], sh_Office, M)
      refine zT.run [(.iload_n 2, 0, 0, 0), (.aload_n 0, 0, 0, 0), (.getfield 51, 2, 0, 1171)] (pe := 22) (ls' := [some (.ref 0), some (.int s1), some (.int (nI i1))]) (st' := [.int (M 0 0), .int (nI i1)]) (M' := M) (by decide +kernel) rfl ?_
      refine zT.cge (tgt := 65) (off := 43) (by decide +kernel) (by decide) (fun c => absurd c (zGeN (n := n) hn (by omega) (by omega))) (fun _ => ?_)
      refine zT.run [(.aload_n 0, 0, 0, 0), (.getfield 55, 2, 1, 1174), (.iload_n 2, 0, 0, 0)] (pe := 30) (ls' := [some (.ref 0), some (.int s1), some (.int (nI i1))]) (st' := [.int (nI i1), .int (M 0 1)]) (M' := M) (by decide +kernel) rfl ?_
      refine zT.cN_nil "SealedBallots" (idx := 83) (av := [.int (M 0 1), .int (nI i1)]) (rv := (some (.int (g_X9_has (M 0 1) (nI i1))))) (st := []) (S1 := [.int (g_X9_has (M 0 1) (nI i1))]) (c_X9_has (M 0 1) (nI i1)) k_X9_has rfl (zInN (w := 2017) (by decide +kernel) rfl) (by decide +kernel) (by decide +kernel) rfl (Nat.le_of_ble_eq_true rfl) rfl ?_
      refine zT.join (59, [some (.ref 0), some (.int (if (g_X9_has (M 0 1) (nI i1)) = 0 then s1 else (if (g_X4_callersIf M n ((M 0 1) &&& ((1 <<< ((nI i1) &&& 31)) ^^^ (-1)))) = 0 then (s1 ||| (1 <<< ((nI i1) &&& 31))) else s1))), some (.int (nI i1))], [], sh_Office, M) ?_ ?_
      · refine zT.zeq (tgt := 59) (off := 26) (by decide +kernel) (by decide) (fun (c2 : (g_X9_has (M 0 1) (nI i1)) = 0) => ?_) (fun (c2 : ¬ (g_X9_has (M 0 1) (nI i1)) = 0) => ?_)
        · skip
          exact zT.here (by simp only [if_pos c2])
        · skip
          refine zT.run [(.aload_n 0, 0, 0, 0), (.aload_n 0, 0, 0, 0), (.getfield 55, 2, 1, 1174), (.iconst 1, 0, 0, 0), (.iload_n 2, 0, 0, 0), (.ishl, 0, 0, 0), (.iconst (-1), 0, 0, 0), (.ixor, 0, 0, 0), (.iand, 0, 0, 0)] (pe := 47) (ls' := [some (.ref 0), some (.int s1), some (.int (nI i1))]) (st' := [.int ((M 0 1) &&& ((1 <<< ((nI i1) &&& 31)) ^^^ (-1))), .ref 0]) (M' := M) (by decide +kernel) rfl ?_
          refine zT.cV_own (o := 0) (idx := 212) (av := [.int ((M 0 1) &&& ((1 <<< ((nI i1) &&& 31)) ^^^ (-1)))]) (rv := (some (.int (g_X4_callersIf M n ((M 0 1) &&& ((1 <<< ((nI i1) &&& 31)) ^^^ (-1))))))) (st := []) (S1 := [.int (g_X4_callersIf M n ((M 0 1) &&& ((1 <<< ((nI i1) &&& 31)) ^^^ (-1))))]) (c_X4_callersIf M n ((M 0 1) &&& ((1 <<< ((nI i1) &&& 31)) ^^^ (-1))) hn h9) k_X4_callersIf _ _ rfl rfl rfl (zIn (w := 3183) (by decide +kernel) rfl) (by decide +kernel) (by decide +kernel) rfl (Nat.le_of_ble_eq_true rfl) rfl ?_
          refine zT.zne (tgt := 59) (off := 9) (by decide +kernel) (by decide) (fun (c3 : ¬ (g_X4_callersIf M n ((M 0 1) &&& ((1 <<< ((nI i1) &&& 31)) ^^^ (-1)))) = 0) => ?_) (fun (c3 : (g_X4_callersIf M n ((M 0 1) &&& ((1 <<< ((nI i1) &&& 31)) ^^^ (-1)))) = 0) => ?_)
          · skip
            exact zT.here (by simp only [if_neg c2, if_neg c3])
          · skip
            refine zT.run [(.iload_n 1, 0, 0, 0), (.iconst 1, 0, 0, 0), (.iload_n 2, 0, 0, 0), (.ishl, 0, 0, 0), (.ior, 0, 0, 0), (.istore_n 1, 0, 0, 0)] (pe := 59) (ls' := [some (.ref 0), some (.int (s1 ||| (1 <<< ((nI i1) &&& 31)))), some (.int (nI i1))]) (st' := []) (M' := M) (by decide +kernel) rfl ?_
            exact zT.here (by simp only [if_neg c2, if_pos c3])
      · skip
        refine zT.run [(.iinc 2 1, 0, 0, 0), (.goto (-45), 0, 0, 0)] (pe := 17) (ls' := [some (.ref 0), some (.int (if (g_X9_has (M 0 1) (nI i1)) = 0 then s1 else (if (g_X4_callersIf M n ((M 0 1) &&& ((1 <<< ((nI i1) &&& 31)) ^^^ (-1)))) = 0 then (s1 ||| (1 <<< ((nI i1) &&& 31))) else s1))), some (.int ((nI i1) + 1))]) (st' := []) (M' := M) (by decide +kernel) rfl ?_
        exact zT.eq (by simp only [l_X4_vitalSet_17, nI_succ, zDl]; try rfl) k1
    · skip
      show zT _ _ _ _ (17, [some (.ref 0), some (.int (zIt (l_X4_vitalSet_17 M n) n 0)), some (.int (nI n))], [], sh_Office, M)
      refine zT.run [(.iload_n 2, 0, 0, 0), (.aload_n 0, 0, 0, 0), (.getfield 51, 2, 0, 1171)] (pe := 22) (ls' := [some (.ref 0), some (.int (zIt (l_X4_vitalSet_17 M n) n 0)), some (.int (nI n))]) (st' := [.int (M 0 0), .int (nI n)]) (M' := M) (by decide +kernel) rfl ?_
      refine zT.cge (tgt := 65) (off := 43) (by decide +kernel) (by decide) (fun _ => ?_) (fun c => absurd (zGeY (n := n) hn) c)
      refine zT.run [(.iload_n 1, 0, 0, 0)] (pe := 66) (ls' := [some (.ref 0), some (.int (zIt (l_X4_vitalSet_17 M n) n 0)), some (.int (nI n))]) (st' := [.int (zIt (l_X4_vitalSet_17 M n) n 0)]) (M' := M) (by decide +kernel) rfl ?_
      exact zT.iret (ty := Jvm.ClassFile.FieldType.int) (by simp only [g_X4_vitalSet, if_neg c1]; try rfl) rfl rfl rfl (by decide +kernel)
  · skip
    refine zT.run [(.iconst 0, 0, 0, 0)] (pe := 12) (ls' := [some (.ref 0), none, none]) (st' := [.int 0]) (M' := M) (by decide +kernel) rfl ?_
    exact zT.iret (ty := Jvm.ClassFile.FieldType.int) (by simp only [g_X4_vitalSet, if_pos c1]; try rfl) rfl rfl rfl (by decide +kernel)
theorem k_X4_vitalSet : zCal yy_X4_vitalSet 0 := ⟨⟨⟨⟨zIn (w := 3182) (by decide +kernel) rfl, zIn (w := 1004) (by decide +kernel) rfl⟩, by decide +kernel⟩, by decide +kernel⟩, ⟨zIn (w := 3180) (by decide +kernel) rfl, zIn (w := 3181) (by decide +kernel) rfl⟩⟩
noncomputable abbrev yy_X4_termsAstray : zY := (yX4_termsAstray, cX4_termsAstray, 3, (some Jvm.ClassFile.FieldType.int), 2, 42)
noncomputable def l_X4_termsAstray_4 (M : zM) (n : Nat) (i1 : Nat) (s1 : Int32) : Int32 := (s1 + (if (g_X1_isOnRoll (zPl M 7) (nI i1)) = 0 then 0 else (if (M 4 i1) = (M 7 1) then 0 else 1)))
noncomputable def g_X4_termsAstray (M : zM) (n : Nat) : Int32 := (zIt (l_X4_termsAstray_4 M n) n 0)
set_option maxRecDepth 100000 in
theorem c_X4_termsAstray (M : zM) (n : Nat) (hn : M 0 0 = nI n) (h9 : n ≤ 9) : zC yy_X4_termsAstray 0 0 [.ref 0] sh_Office M (some (.int (g_X4_termsAstray M n))) sh_Office M := by
  refine zC.of (by decide +kernel) rfl (Nat.le_of_ble_eq_true rfl) ?_
  refine zT.run [(.iconst 0, 0, 0, 0), (.istore_n 1, 0, 0, 0), (.iconst 0, 0, 0, 0), (.istore_n 2, 0, 0, 0)] (pe := 4) (ls' := [some (.ref 0), some (.int 0), some (.int 0)]) (st' := []) (M' := M) (by decide +kernel) rfl ?_
  refine zT.loop (l_X4_termsAstray_4 M n) (fun (i : Nat) (s : Int32) => (4, [some (.ref 0), some (.int s), some (.int (nI i))], [], sh_Office, M)) n 0 (fun i1 hi1 k1 => ?_) ?_
  · skip
    generalize hs1 : zIt (l_X4_termsAstray_4 M n) i1 0 = s1 at k1 ⊢
    show zT _ _ _ _ (4, [some (.ref 0), some (.int s1), some (.int (nI i1))], [], sh_Office, M)
    refine zT.run [(.iload_n 2, 0, 0, 0), (.aload_n 0, 0, 0, 0), (.getfield 51, 2, 0, 1171)] (pe := 9) (ls' := [some (.ref 0), some (.int s1), some (.int (nI i1))]) (st' := [.int (M 0 0), .int (nI i1)]) (M' := M) (by decide +kernel) rfl ?_
    refine zT.cge (tgt := 53) (off := 44) (by decide +kernel) (by decide) (fun c => absurd c (zGeN (n := n) hn (by omega) (by omega))) (fun _ => ?_)
    refine zT.run [(.iload_n 1, 0, 0, 0), (.aload_n 0, 0, 0, 0), (.getfield 33, 2, 8, 1184), (.iload_n 2, 0, 0, 0)] (pe := 18) (ls' := [some (.ref 0), some (.int s1), some (.int (nI i1))]) (st' := [.int (nI i1), .ref 7, .int s1]) (M' := M) (by decide +kernel) rfl ?_
    refine zT.cV_pure 7 (o := 0) (idx := 110) (av := [.int (nI i1)]) (rv := (some (.int (g_X1_isOnRoll (zPl M 7) (nI i1))))) (st := [.int s1]) (S1 := [.int (g_X1_isOnRoll (zPl M 7) (nI i1)), .int s1]) (c_X1_isOnRoll (zPl M 7) (nI i1)) sub_Office_7_Ballot k_X1_isOnRoll _ _ rfl rfl rfl (zIn (w := 2059) (by decide +kernel) rfl) (by decide +kernel) (by decide +kernel) rfl (Nat.le_of_ble_eq_true rfl) rfl ?_
    refine zT.join (45, [some (.ref 0), some (.int s1), some (.int (nI i1))], [.int (if (g_X1_isOnRoll (zPl M 7) (nI i1)) = 0 then 0 else (if (M 4 i1) = (M 7 1) then 0 else 1)), .int s1], sh_Office, M) ?_ ?_
    · refine zT.zeq (tgt := 44) (off := 23) (by decide +kernel) (by decide) (fun (c1 : (g_X1_isOnRoll (zPl M 7) (nI i1)) = 0) => ?_) (fun (c1 : ¬ (g_X1_isOnRoll (zPl M 7) (nI i1)) = 0) => ?_)
      · skip
        refine zT.run [(.iconst 0, 0, 0, 0)] (pe := 45) (ls' := [some (.ref 0), some (.int s1), some (.int (nI i1))]) (st' := [.int 0, .int s1]) (M' := M) (by decide +kernel) rfl ?_
        exact zT.here (by simp only [if_pos c1])
      · skip
        refine zT.run [(.aload_n 0, 0, 0, 0), (.getfield 21, 2, 5, 1180), (.iload_n 2, 0, 0, 0)] (pe := 29) (ls' := [some (.ref 0), some (.int s1), some (.int (nI i1))]) (st' := [.int (nI i1), .ref 4, .int s1]) (M' := M) (by decide +kernel) rfl ?_
        refine zT.iald (n := 9) (k := i1) rfl rfl (by omega) (by decide) (by decide +kernel) ?_
        refine zT.run [(.aload_n 0, 0, 0, 0), (.getfield 33, 2, 8, 1184), (.getfield 99, 0, 1, 1091)] (pe := 37) (ls' := [some (.ref 0), some (.int s1), some (.int (nI i1))]) (st' := [.int (M 7 1), .int (M 4 i1), .int s1]) (M' := M) (by decide +kernel) rfl ?_
        refine zT.ceq (tgt := 44) (off := 7) (by decide +kernel) (by decide) (fun (c2 : (M 4 i1) = (M 7 1)) => ?_) (fun (c2 : ¬ (M 4 i1) = (M 7 1)) => ?_)
        · skip
          refine zT.run [(.iconst 0, 0, 0, 0)] (pe := 45) (ls' := [some (.ref 0), some (.int s1), some (.int (nI i1))]) (st' := [.int 0, .int s1]) (M' := M) (by decide +kernel) rfl ?_
          exact zT.here (by simp only [if_neg c1, if_pos c2])
        · skip
          refine zT.run [(.iconst 1, 0, 0, 0), (.goto 4, 0, 0, 0)] (pe := 45) (ls' := [some (.ref 0), some (.int s1), some (.int (nI i1))]) (st' := [.int 1, .int s1]) (M' := M) (by decide +kernel) rfl ?_
          exact zT.here (by simp only [if_neg c1, if_neg c2])
    · skip
      refine zT.run [(.iadd, 0, 0, 0), (.istore_n 1, 0, 0, 0), (.iinc 2 1, 0, 0, 0), (.goto (-46), 0, 0, 0)] (pe := 4) (ls' := [some (.ref 0), some (.int (s1 + (if (g_X1_isOnRoll (zPl M 7) (nI i1)) = 0 then 0 else (if (M 4 i1) = (M 7 1) then 0 else 1)))), some (.int ((nI i1) + 1))]) (st' := []) (M' := M) (by decide +kernel) rfl ?_
      exact zT.eq (by simp only [l_X4_termsAstray_4, nI_succ, zDl]; try rfl) k1
  · skip
    show zT _ _ _ _ (4, [some (.ref 0), some (.int (zIt (l_X4_termsAstray_4 M n) n 0)), some (.int (nI n))], [], sh_Office, M)
    refine zT.run [(.iload_n 2, 0, 0, 0), (.aload_n 0, 0, 0, 0), (.getfield 51, 2, 0, 1171)] (pe := 9) (ls' := [some (.ref 0), some (.int (zIt (l_X4_termsAstray_4 M n) n 0)), some (.int (nI n))]) (st' := [.int (M 0 0), .int (nI n)]) (M' := M) (by decide +kernel) rfl ?_
    refine zT.cge (tgt := 53) (off := 44) (by decide +kernel) (by decide) (fun _ => ?_) (fun c => absurd (zGeY (n := n) hn) c)
    refine zT.run [(.iload_n 1, 0, 0, 0)] (pe := 54) (ls' := [some (.ref 0), some (.int (zIt (l_X4_termsAstray_4 M n) n 0)), some (.int (nI n))]) (st' := [.int (zIt (l_X4_termsAstray_4 M n) n 0)]) (M' := M) (by decide +kernel) rfl ?_
    exact zT.iret (ty := Jvm.ClassFile.FieldType.int) (by simp only [g_X4_termsAstray]; try rfl) rfl rfl rfl (by decide +kernel)
theorem k_X4_termsAstray : zCal yy_X4_termsAstray 0 := ⟨⟨⟨⟨zIn (w := 3204) (by decide +kernel) rfl, zIn (w := 1004) (by decide +kernel) rfl⟩, by decide +kernel⟩, by decide +kernel⟩, ⟨zIn (w := 3202) (by decide +kernel) rfl, zIn (w := 3203) (by decide +kernel) rfl⟩⟩
noncomputable abbrev yy_X4_oneWayLinks : zY := (yX4_oneWayLinks, cX4_oneWayLinks, 4, (some Jvm.ClassFile.FieldType.int), 1, 21)
noncomputable def l_X4_oneWayLinks_14 (M : zM) (n : Nat) (i1 : Nat) (s1 : Int32) (i2 : Nat) (s2 : Int32) : Int32 := (s2 + (if (g_X9_has (M 6 i1) (nI i2)) = (g_X9_has (M 6 i2) (nI i1)) then 0 else 1))
noncomputable def l_X4_oneWayLinks_4 (M : zM) (n : Nat) (i1 : Nat) (s1 : Int32) : Int32 := (zIt (l_X4_oneWayLinks_14 M n i1 s1) i1 s1)
noncomputable def g_X4_oneWayLinks (M : zM) (n : Nat) : Int32 := (zIt (l_X4_oneWayLinks_4 M n) n 0)
set_option maxRecDepth 100000 in
theorem c_X4_oneWayLinks (M : zM) (n : Nat) (hn : M 0 0 = nI n) (h9 : n ≤ 9) : zC yy_X4_oneWayLinks 0 0 [.ref 0] sh_Office M (some (.int (g_X4_oneWayLinks M n))) sh_Office M := by
  refine zC.of (by decide +kernel) rfl (Nat.le_of_ble_eq_true rfl) ?_
  refine zT.run [(.iconst 0, 0, 0, 0), (.istore_n 1, 0, 0, 0), (.iconst 0, 0, 0, 0), (.istore_n 2, 0, 0, 0)] (pe := 4) (ls' := [some (.ref 0), some (.int 0), some (.int 0), none]) (st' := []) (M' := M) (by decide +kernel) rfl ?_
  refine zT.loop (l_X4_oneWayLinks_4 M n) (fun (i : Nat) (s : Int32) => (4, [some (.ref 0), some (.int s), some (.int (nI i)), none], [], sh_Office, M)) n 0 (fun i1 hi1 k1 => ?_) ?_
  · skip
    generalize hs1 : zIt (l_X4_oneWayLinks_4 M n) i1 0 = s1 at k1 ⊢
    show zT _ _ _ _ (4, [some (.ref 0), some (.int s1), some (.int (nI i1)), none], [], sh_Office, M)
    refine zT.run [(.iload_n 2, 0, 0, 0), (.aload_n 0, 0, 0, 0), (.getfield 51, 2, 0, 1171)] (pe := 9) (ls' := [some (.ref 0), some (.int s1), some (.int (nI i1)), none]) (st' := [.int (M 0 0), .int (nI i1)]) (M' := M) (by decide +kernel) rfl ?_
    refine zT.cge (tgt := 62) (off := 53) (by decide +kernel) (by decide) (fun c => absurd c (zGeN (n := n) hn (by omega) (by omega))) (fun _ => ?_)
    refine zT.run [(.iconst 0, 0, 0, 0), (.istore_n 3, 0, 0, 0)] (pe := 14) (ls' := [some (.ref 0), some (.int s1), some (.int (nI i1)), some (.int 0)]) (st' := []) (M' := M) (by decide +kernel) rfl ?_
    refine zT.loop (l_X4_oneWayLinks_14 M n i1 s1) (fun (i : Nat) (s : Int32) => (14, [some (.ref 0), some (.int s), some (.int (nI i1)), some (.int (nI i))], [], sh_Office, M)) i1 s1 (fun i2 hi2 k2 => ?_) ?_
    · skip
      generalize hs2 : zIt (l_X4_oneWayLinks_14 M n i1 s1) i2 s1 = s2 at k2 ⊢
      show zT _ _ _ _ (14, [some (.ref 0), some (.int s2), some (.int (nI i1)), some (.int (nI i2))], [], sh_Office, M)
      refine zT.run [(.iload_n 3, 0, 0, 0), (.iload_n 2, 0, 0, 0)] (pe := 16) (ls' := [some (.ref 0), some (.int s2), some (.int (nI i1)), some (.int (nI i2))]) (st' := [.int (nI i1), .int (nI i2)]) (M' := M) (by decide +kernel) rfl ?_
      refine zT.cge (tgt := 56) (off := 40) (by decide +kernel) (by decide) (fun c => absurd c (zGeN (n := i1) rfl (by omega) (by omega))) (fun _ => ?_)
      refine zT.run [(.iload_n 1, 0, 0, 0), (.aload_n 0, 0, 0, 0), (.getfield 27, 2, 7, 1182), (.iload_n 2, 0, 0, 0)] (pe := 25) (ls' := [some (.ref 0), some (.int s2), some (.int (nI i1)), some (.int (nI i2))]) (st' := [.int (nI i1), .ref 6, .int s2]) (M' := M) (by decide +kernel) rfl ?_
      refine zT.iald (n := 9) (k := i1) rfl rfl (by omega) (by decide) (by decide +kernel) ?_
      refine zT.run [(.iload_n 3, 0, 0, 0)] (pe := 27) (ls' := [some (.ref 0), some (.int s2), some (.int (nI i1)), some (.int (nI i2))]) (st' := [.int (nI i2), .int (M 6 i1), .int s2]) (M' := M) (by decide +kernel) rfl ?_
      refine zT.cN_nil "SealedBallots" (idx := 83) (av := [.int (M 6 i1), .int (nI i2)]) (rv := (some (.int (g_X9_has (M 6 i1) (nI i2))))) (st := [.int s2]) (S1 := [.int (g_X9_has (M 6 i1) (nI i2)), .int s2]) (c_X9_has (M 6 i1) (nI i2)) k_X9_has rfl (zInN (w := 2017) (by decide +kernel) rfl) (by decide +kernel) (by decide +kernel) rfl (Nat.le_of_ble_eq_true rfl) rfl ?_
      refine zT.run [(.aload_n 0, 0, 0, 0), (.getfield 27, 2, 7, 1182), (.iload_n 3, 0, 0, 0)] (pe := 35) (ls' := [some (.ref 0), some (.int s2), some (.int (nI i1)), some (.int (nI i2))]) (st' := [.int (nI i2), .ref 6, .int (g_X9_has (M 6 i1) (nI i2)), .int s2]) (M' := M) (by decide +kernel) rfl ?_
      refine zT.iald (n := 9) (k := i2) rfl rfl (by omega) (by decide) (by decide +kernel) ?_
      refine zT.run [(.iload_n 2, 0, 0, 0)] (pe := 37) (ls' := [some (.ref 0), some (.int s2), some (.int (nI i1)), some (.int (nI i2))]) (st' := [.int (nI i1), .int (M 6 i2), .int (g_X9_has (M 6 i1) (nI i2)), .int s2]) (M' := M) (by decide +kernel) rfl ?_
      refine zT.cN_nil "SealedBallots" (idx := 83) (av := [.int (M 6 i2), .int (nI i1)]) (rv := (some (.int (g_X9_has (M 6 i2) (nI i1))))) (st := [.int (g_X9_has (M 6 i1) (nI i2)), .int s2]) (S1 := [.int (g_X9_has (M 6 i2) (nI i1)), .int (g_X9_has (M 6 i1) (nI i2)), .int s2]) (c_X9_has (M 6 i2) (nI i1)) k_X9_has rfl (zInN (w := 2017) (by decide +kernel) rfl) (by decide +kernel) (by decide +kernel) rfl (Nat.le_of_ble_eq_true rfl) rfl ?_
      refine zT.join (48, [some (.ref 0), some (.int s2), some (.int (nI i1)), some (.int (nI i2))], [.int (if (g_X9_has (M 6 i1) (nI i2)) = (g_X9_has (M 6 i2) (nI i1)) then 0 else 1), .int s2], sh_Office, M) ?_ ?_
      · refine zT.cne (tgt := 47) (off := 7) (by decide +kernel) (by decide) (fun (c1 : ¬ (g_X9_has (M 6 i1) (nI i2)) = (g_X9_has (M 6 i2) (nI i1))) => ?_) (fun (c1 : (g_X9_has (M 6 i1) (nI i2)) = (g_X9_has (M 6 i2) (nI i1))) => ?_)
        · skip
          refine zT.run [(.iconst 1, 0, 0, 0)] (pe := 48) (ls' := [some (.ref 0), some (.int s2), some (.int (nI i1)), some (.int (nI i2))]) (st' := [.int 1, .int s2]) (M' := M) (by decide +kernel) rfl ?_
          exact zT.here (by simp only [if_neg c1])
        · skip
          refine zT.run [(.iconst 0, 0, 0, 0), (.goto 4, 0, 0, 0)] (pe := 48) (ls' := [some (.ref 0), some (.int s2), some (.int (nI i1)), some (.int (nI i2))]) (st' := [.int 0, .int s2]) (M' := M) (by decide +kernel) rfl ?_
          exact zT.here (by simp only [if_pos c1])
      · skip
        refine zT.run [(.iadd, 0, 0, 0), (.istore_n 1, 0, 0, 0), (.iinc 3 1, 0, 0, 0), (.goto (-39), 0, 0, 0)] (pe := 14) (ls' := [some (.ref 0), some (.int (s2 + (if (g_X9_has (M 6 i1) (nI i2)) = (g_X9_has (M 6 i2) (nI i1)) then 0 else 1))), some (.int (nI i1)), some (.int ((nI i2) + 1))]) (st' := []) (M' := M) (by decide +kernel) rfl ?_
        exact zT.eq (by simp only [l_X4_oneWayLinks_14, nI_succ, zDl]; try rfl) k2
    · skip
      show zT _ _ _ _ (14, [some (.ref 0), some (.int (zIt (l_X4_oneWayLinks_14 M n i1 s1) i1 s1)), some (.int (nI i1)), some (.int (nI i1))], [], sh_Office, M)
      refine zT.run [(.iload_n 3, 0, 0, 0), (.iload_n 2, 0, 0, 0)] (pe := 16) (ls' := [some (.ref 0), some (.int (zIt (l_X4_oneWayLinks_14 M n i1 s1) i1 s1)), some (.int (nI i1)), some (.int (nI i1))]) (st' := [.int (nI i1), .int (nI i1)]) (M' := M) (by decide +kernel) rfl ?_
      refine zT.cge (tgt := 56) (off := 40) (by decide +kernel) (by decide) (fun _ => ?_) (fun c => absurd (zGeY (n := i1) rfl) c)
      refine zT.run [(.iinc 2 1, 0, 0, 0), (.goto (-55), 0, 0, 0)] (pe := 4) (ls' := [some (.ref 0), some (.int (zIt (l_X4_oneWayLinks_14 M n i1 s1) i1 s1)), some (.int ((nI i1) + 1)), some (.int (nI i1))]) (st' := []) (M' := M) (by decide +kernel) rfl ?_
      refine zT.drop 3 ?_
      exact zT.eq (by simp only [l_X4_oneWayLinks_4, nI_succ, zDl]; try rfl) k1
  · skip
    show zT _ _ _ _ (4, [some (.ref 0), some (.int (zIt (l_X4_oneWayLinks_4 M n) n 0)), some (.int (nI n)), none], [], sh_Office, M)
    refine zT.run [(.iload_n 2, 0, 0, 0), (.aload_n 0, 0, 0, 0), (.getfield 51, 2, 0, 1171)] (pe := 9) (ls' := [some (.ref 0), some (.int (zIt (l_X4_oneWayLinks_4 M n) n 0)), some (.int (nI n)), none]) (st' := [.int (M 0 0), .int (nI n)]) (M' := M) (by decide +kernel) rfl ?_
    refine zT.cge (tgt := 62) (off := 53) (by decide +kernel) (by decide) (fun _ => ?_) (fun c => absurd (zGeY (n := n) hn) c)
    refine zT.run [(.iload_n 1, 0, 0, 0)] (pe := 63) (ls' := [some (.ref 0), some (.int (zIt (l_X4_oneWayLinks_4 M n) n 0)), some (.int (nI n)), none]) (st' := [.int (zIt (l_X4_oneWayLinks_4 M n) n 0)]) (M' := M) (by decide +kernel) rfl ?_
    exact zT.iret (ty := Jvm.ClassFile.FieldType.int) (by simp only [g_X4_oneWayLinks]; try rfl) rfl rfl rfl (by decide +kernel)
theorem k_X4_oneWayLinks : zCal yy_X4_oneWayLinks 0 := ⟨⟨⟨⟨zIn (w := 3208) (by decide +kernel) rfl, zIn (w := 1004) (by decide +kernel) rfl⟩, by decide +kernel⟩, by decide +kernel⟩, ⟨zIn (w := 3206) (by decide +kernel) rfl, zIn (w := 3207) (by decide +kernel) rfl⟩⟩
theorem e_makeRoom {M : zM} {sz : Nat} (hsz : M 0 0 = nI sz) (h12 : sz ≤ 12) : g_X6_makeRoom M 0 0 = nI (zMr sz) := by
  simp only [g_X6_makeRoom, zMr]
  by_cases c : sz < 12
  · rw [if_neg (zGeN (n := 12) (B := 12) rfl c (by decide) |> fun h => by rw [hsz]; exact h), if_pos c]
    show M 0 0 + 1 = _
    rw [hsz, nI_1]
  · rw [if_pos (by rw [hsz]; exact nI_le (a := 12) (by omega) (by omega)), if_neg c]
    show M 0 0 = _
    exact hsz
noncomputable abbrev yy_X4_keepOutcome : zY := (yX4_keepOutcome, cX4_keepOutcome, 2, none, 2, 80)
noncomputable def m_X4_keepOutcome_1 (M : zM) (sz : Nat) (ch : Int32) : zM := (zPs (zPs (zPs M 10 2 (g_X6_makeRoom (zPl M 10))) 10 2 (g_X6_write (zPl (zPs M 10 2 (g_X6_makeRoom (zPl M 10))) 10) (zMr sz) 0 (M 7 1))) 10 2 (g_X6_write (zPl (zPs (zPs M 10 2 (g_X6_makeRoom (zPl M 10))) 10 2 (g_X6_write (zPl (zPs M 10 2 (g_X6_makeRoom (zPl M 10))) 10) (zMr sz) 0 (M 7 1))) 10) (zMr sz) 1 ch))
noncomputable def m_X4_keepOutcome_2 (M : zM) (sz : Nat) (ch : Int32) : zM := (zPs (zPs (m_X4_keepOutcome_1 M sz ch) 10 2 (g_X6_write (zPl (m_X4_keepOutcome_1 M sz ch) 10) (zMr sz) 2 (if ch = (-1) then 0 else (M 12 1)))) 10 2 (g_X6_write (zPl (zPs (m_X4_keepOutcome_1 M sz ch) 10 2 (g_X6_write (zPl (m_X4_keepOutcome_1 M sz ch) 10) (zMr sz) 2 (if ch = (-1) then 0 else (M 12 1)))) 10) (zMr sz) 3 (g_J6_bitCount_0f7a4 (M 7 6))))
noncomputable def m_X4_keepOutcome_3 (M : zM) (sz : Nat) (ch : Int32) : zM := (zPs (zPs (m_X4_keepOutcome_2 M sz ch) 10 2 (g_X6_write (zPl (m_X4_keepOutcome_2 M sz ch) 10) (zMr sz) 4 (g_J6_bitCount_0f7a4 (M 7 7)))) 10 2 (g_X6_write (zPl (zPs (m_X4_keepOutcome_2 M sz ch) 10 2 (g_X6_write (zPl (m_X4_keepOutcome_2 M sz ch) 10) (zMr sz) 4 (g_J6_bitCount_0f7a4 (M 7 7)))) 10) (zMr sz) 5 (if ch = (-1) then 0 else (if (M 12 2) ≤ 1 then 0 else 1))))
noncomputable def m_X4_keepOutcome_4 (M : zM) (sz : Nat) (ch : Int32) : zM := (zPs (zPs (m_X4_keepOutcome_3 M sz ch) 10 2 (g_X6_write (zPl (m_X4_keepOutcome_3 M sz ch) 10) (zMr sz) 6 (M 1 0))) 10 2 (g_X6_write (zPl (zPs (m_X4_keepOutcome_3 M sz ch) 10 2 (g_X6_write (zPl (m_X4_keepOutcome_3 M sz ch) 10) (zMr sz) 6 (M 1 0))) 10) (zMr sz) 7 (M 1 1)))
noncomputable def g_X4_keepOutcome (M : zM) (sz : Nat) (ch : Int32) : zM := (m_X4_keepOutcome_4 M sz ch)
set_option maxRecDepth 100000 in
theorem c_X4_keepOutcome (M : zM) (sz : Nat) (ch : Int32) (hsz : M 10 0 = nI sz) (h12 : sz ≤ 12) : zC yy_X4_keepOutcome 0 0 [.ref 0, .int ch] sh_Office M none sh_Office (g_X4_keepOutcome M sz ch) := by
  refine zC.of (by decide +kernel) rfl (Nat.le_of_ble_eq_true rfl) ?_
  have hmr : zPs M 10 2 (g_X6_makeRoom (zPl M 10)) 10 0 = nI (zMr sz) := e_makeRoom (M := zPl M 10) hsz h12
  refine zT.run [(.aload_n 0, 0, 0, 0), (.getfield 40, 2, 9, 1186)] (pe := 4) (ls' := [some (.ref 0), some (.int ch)]) (st' := [.ref 10]) (M' := M) (by decide +kernel) rfl ?_
  refine zT.cV_sub 10 (o := 0) (idx := 156) (av := []) (rv := none) (st := []) (S1 := []) (c_X6_makeRoom (zPl M 10)) sub_Office_10_Outcomes k_X6_makeRoom _ _ rfl rfl rfl (zIn (w := 3061) (by decide +kernel) rfl) (by decide +kernel) (by decide +kernel) rfl (Nat.le_of_ble_eq_true rfl) rfl ?_
  refine zT.run [(.aload_n 0, 0, 0, 0), (.getfield 40, 2, 9, 1186), (.iconst 0, 0, 0, 0), (.aload_n 0, 0, 0, 0), (.getfield 33, 2, 8, 1184), (.getfield 99, 0, 1, 1091)] (pe := 19) (ls' := [some (.ref 0), some (.int ch)]) (st' := [.int (M 7 1), .int 0, .ref 10]) (M' := (zPs M 10 2 (g_X6_makeRoom (zPl M 10)))) (by decide +kernel) rfl ?_
  refine zT.cV_sub 10 (o := 0) (idx := 159) (av := [.int (nI 0), .int (M 7 1)]) (rv := none) (st := []) (S1 := []) (c_X6_write (zPl (zPs M 10 2 (g_X6_makeRoom (zPl M 10))) 10) (zMr sz) 0 (M 7 1) hmr (zMr_le h12) (by omega)) sub_Office_10_Outcomes k_X6_write _ _ rfl rfl rfl (zIn (w := 3066) (by decide +kernel) rfl) (by decide +kernel) (by decide +kernel) rfl (Nat.le_of_ble_eq_true rfl) rfl ?_
  refine zT.run [(.aload_n 0, 0, 0, 0), (.getfield 40, 2, 9, 1186), (.iconst 1, 0, 0, 0), (.iload_n 1, 0, 0, 0)] (pe := 28) (ls' := [some (.ref 0), some (.int ch)]) (st' := [.int ch, .int 1, .ref 10]) (M' := (zPs (zPs M 10 2 (g_X6_makeRoom (zPl M 10))) 10 2 (g_X6_write (zPl (zPs M 10 2 (g_X6_makeRoom (zPl M 10))) 10) (zMr sz) 0 (M 7 1)))) (by decide +kernel) rfl ?_
  refine zT.cV_sub 10 (o := 0) (idx := 159) (av := [.int (nI 1), .int ch]) (rv := none) (st := []) (S1 := []) (c_X6_write (zPl (zPs (zPs M 10 2 (g_X6_makeRoom (zPl M 10))) 10 2 (g_X6_write (zPl (zPs M 10 2 (g_X6_makeRoom (zPl M 10))) 10) (zMr sz) 0 (M 7 1))) 10) (zMr sz) 1 ch ((congrFun (zPs_fr (M := (zPs M 10 2 (g_X6_makeRoom (zPl M 10)))) (b := 10) (n := 2) (N := (g_X6_write (zPl (zPs M 10 2 (g_X6_makeRoom (zPl M 10))) 10) (zMr sz) 0 (M 7 1))) (o := 10) (fun j hj e => (fr_X6_write (zPl (zPs M 10 2 (g_X6_makeRoom (zPl M 10))) 10) (zMr sz) 0 (M 7 1) j (by omega)))) 0).trans hmr) (zMr_le h12) (by omega)) sub_Office_10_Outcomes k_X6_write _ _ rfl rfl rfl (zIn (w := 3066) (by decide +kernel) rfl) (by decide +kernel) (by decide +kernel) rfl (Nat.le_of_ble_eq_true rfl) rfl ?_
  refine zT.eqM (M2 := (m_X4_keepOutcome_1 M sz ch)) rfl ?_
  refine zT.run [(.aload_n 0, 0, 0, 0), (.getfield 40, 2, 9, 1186), (.iconst 2, 0, 0, 0), (.iload_n 1, 0, 0, 0), (.iconst (-1), 0, 0, 0)] (pe := 38) (ls' := [some (.ref 0), some (.int ch)]) (st' := [.int (-1), .int ch, .int 2, .ref 10]) (M' := (m_X4_keepOutcome_1 M sz ch)) (by decide +kernel) rfl ?_
  refine zT.join (52, [some (.ref 0), some (.int ch)], [.int (if ch = (-1) then 0 else (M 12 1)), .int 2, .ref 10], sh_Office, (m_X4_keepOutcome_1 M sz ch)) ?_ ?_
  · refine zT.cne (tgt := 45) (off := 7) (by decide +kernel) (by decide) (fun (c1 : ¬ ch = (-1)) => ?_) (fun (c1 : ch = (-1)) => ?_)
    · skip
      refine zT.run [(.aload_n 0, 0, 0, 0), (.getfield 47, 2, 10, 1188), (.getfield 162, 5, 1, 1153)] (pe := 52) (ls' := [some (.ref 0), some (.int ch)]) (st' := [.int (M 12 1), .int 2, .ref 10]) (M' := (m_X4_keepOutcome_1 M sz ch)) (by decide +kernel) rfl ?_
      exact zT.here (by simp only [if_neg c1])
    · skip
      refine zT.run [(.iconst 0, 0, 0, 0), (.goto 10, 0, 0, 0)] (pe := 52) (ls' := [some (.ref 0), some (.int ch)]) (st' := [.int 0, .int 2, .ref 10]) (M' := (m_X4_keepOutcome_1 M sz ch)) (by decide +kernel) rfl ?_
      exact zT.here (by simp only [if_pos c1])
  · skip
    refine zT.cV_sub 10 (o := 0) (idx := 159) (av := [.int (nI 2), .int (if ch = (-1) then 0 else (M 12 1))]) (rv := none) (st := []) (S1 := []) (c_X6_write (zPl (m_X4_keepOutcome_1 M sz ch) 10) (zMr sz) 2 (if ch = (-1) then 0 else (M 12 1)) ((congrFun (zPs_fr (M := (zPs (zPs M 10 2 (g_X6_makeRoom (zPl M 10))) 10 2 (g_X6_write (zPl (zPs M 10 2 (g_X6_makeRoom (zPl M 10))) 10) (zMr sz) 0 (M 7 1)))) (b := 10) (n := 2) (N := (g_X6_write (zPl (zPs (zPs M 10 2 (g_X6_makeRoom (zPl M 10))) 10 2 (g_X6_write (zPl (zPs M 10 2 (g_X6_makeRoom (zPl M 10))) 10) (zMr sz) 0 (M 7 1))) 10) (zMr sz) 1 ch)) (o := 10) (fun j hj e => (fr_X6_write (zPl (zPs (zPs M 10 2 (g_X6_makeRoom (zPl M 10))) 10 2 (g_X6_write (zPl (zPs M 10 2 (g_X6_makeRoom (zPl M 10))) 10) (zMr sz) 0 (M 7 1))) 10) (zMr sz) 1 ch j (by omega)))) 0).trans ((congrFun (zPs_fr (M := (zPs M 10 2 (g_X6_makeRoom (zPl M 10)))) (b := 10) (n := 2) (N := (g_X6_write (zPl (zPs M 10 2 (g_X6_makeRoom (zPl M 10))) 10) (zMr sz) 0 (M 7 1))) (o := 10) (fun j hj e => (fr_X6_write (zPl (zPs M 10 2 (g_X6_makeRoom (zPl M 10))) 10) (zMr sz) 0 (M 7 1) j (by omega)))) 0).trans hmr)) (zMr_le h12) (by omega)) sub_Office_10_Outcomes k_X6_write _ _ rfl rfl rfl (zIn (w := 3066) (by decide +kernel) rfl) (by decide +kernel) (by decide +kernel) rfl (Nat.le_of_ble_eq_true rfl) rfl ?_
    refine zT.run [(.aload_n 0, 0, 0, 0), (.getfield 40, 2, 9, 1186), (.iconst 3, 0, 0, 0), (.aload_n 0, 0, 0, 0), (.getfield 33, 2, 8, 1184), (.getfield 165, 0, 6, 1102)] (pe := 67) (ls' := [some (.ref 0), some (.int ch)]) (st' := [.int (M 7 6), .int 3, .ref 10]) (M' := (zPs (m_X4_keepOutcome_1 M sz ch) 10 2 (g_X6_write (zPl (m_X4_keepOutcome_1 M sz ch) 10) (zMr sz) 2 (if ch = (-1) then 0 else (M 12 1))))) (by decide +kernel) rfl ?_
    refine zT.cS_nil (idx := 124) (av := [.int (M 7 6)]) (rv := (some (.int (g_J6_bitCount_0f7a4 (M 7 6))))) (st := [.int 3, .ref 10]) (S1 := [.int (g_J6_bitCount_0f7a4 (M 7 6)), .int 3, .ref 10]) (c_J6_bitCount_0f7a4 (M 7 6)) k_J6_bitCount_0f7a4 rfl (zIn (w := 2024) (by decide +kernel) rfl) (by decide +kernel) (by decide +kernel) rfl (Nat.le_of_ble_eq_true rfl) rfl ?_
    refine zT.cV_sub 10 (o := 0) (idx := 159) (av := [.int (nI 3), .int (g_J6_bitCount_0f7a4 (M 7 6))]) (rv := none) (st := []) (S1 := []) (c_X6_write (zPl (zPs (m_X4_keepOutcome_1 M sz ch) 10 2 (g_X6_write (zPl (m_X4_keepOutcome_1 M sz ch) 10) (zMr sz) 2 (if ch = (-1) then 0 else (M 12 1)))) 10) (zMr sz) 3 (g_J6_bitCount_0f7a4 (M 7 6)) ((congrFun (zPs_fr (M := (m_X4_keepOutcome_1 M sz ch)) (b := 10) (n := 2) (N := (g_X6_write (zPl (m_X4_keepOutcome_1 M sz ch) 10) (zMr sz) 2 (if ch = (-1) then 0 else (M 12 1)))) (o := 10) (fun j hj e => (fr_X6_write (zPl (m_X4_keepOutcome_1 M sz ch) 10) (zMr sz) 2 (if ch = (-1) then 0 else (M 12 1)) j (by omega)))) 0).trans ((congrFun (zPs_fr (M := (zPs (zPs M 10 2 (g_X6_makeRoom (zPl M 10))) 10 2 (g_X6_write (zPl (zPs M 10 2 (g_X6_makeRoom (zPl M 10))) 10) (zMr sz) 0 (M 7 1)))) (b := 10) (n := 2) (N := (g_X6_write (zPl (zPs (zPs M 10 2 (g_X6_makeRoom (zPl M 10))) 10 2 (g_X6_write (zPl (zPs M 10 2 (g_X6_makeRoom (zPl M 10))) 10) (zMr sz) 0 (M 7 1))) 10) (zMr sz) 1 ch)) (o := 10) (fun j hj e => (fr_X6_write (zPl (zPs (zPs M 10 2 (g_X6_makeRoom (zPl M 10))) 10 2 (g_X6_write (zPl (zPs M 10 2 (g_X6_makeRoom (zPl M 10))) 10) (zMr sz) 0 (M 7 1))) 10) (zMr sz) 1 ch j (by omega)))) 0).trans ((congrFun (zPs_fr (M := (zPs M 10 2 (g_X6_makeRoom (zPl M 10)))) (b := 10) (n := 2) (N := (g_X6_write (zPl (zPs M 10 2 (g_X6_makeRoom (zPl M 10))) 10) (zMr sz) 0 (M 7 1))) (o := 10) (fun j hj e => (fr_X6_write (zPl (zPs M 10 2 (g_X6_makeRoom (zPl M 10))) 10) (zMr sz) 0 (M 7 1) j (by omega)))) 0).trans hmr))) (zMr_le h12) (by omega)) sub_Office_10_Outcomes k_X6_write _ _ rfl rfl rfl (zIn (w := 3066) (by decide +kernel) rfl) (by decide +kernel) (by decide +kernel) rfl (Nat.le_of_ble_eq_true rfl) rfl ?_
    refine zT.eqM (M2 := (m_X4_keepOutcome_2 M sz ch)) rfl ?_
    refine zT.run [(.aload_n 0, 0, 0, 0), (.getfield 40, 2, 9, 1186), (.iconst 4, 0, 0, 0), (.aload_n 0, 0, 0, 0), (.getfield 33, 2, 8, 1184), (.getfield 168, 0, 7, 1105)] (pe := 85) (ls' := [some (.ref 0), some (.int ch)]) (st' := [.int (M 7 7), .int 4, .ref 10]) (M' := (m_X4_keepOutcome_2 M sz ch)) (by decide +kernel) rfl ?_
    refine zT.cS_nil (idx := 124) (av := [.int (M 7 7)]) (rv := (some (.int (g_J6_bitCount_0f7a4 (M 7 7))))) (st := [.int 4, .ref 10]) (S1 := [.int (g_J6_bitCount_0f7a4 (M 7 7)), .int 4, .ref 10]) (c_J6_bitCount_0f7a4 (M 7 7)) k_J6_bitCount_0f7a4 rfl (zIn (w := 2024) (by decide +kernel) rfl) (by decide +kernel) (by decide +kernel) rfl (Nat.le_of_ble_eq_true rfl) rfl ?_
    refine zT.cV_sub 10 (o := 0) (idx := 159) (av := [.int (nI 4), .int (g_J6_bitCount_0f7a4 (M 7 7))]) (rv := none) (st := []) (S1 := []) (c_X6_write (zPl (m_X4_keepOutcome_2 M sz ch) 10) (zMr sz) 4 (g_J6_bitCount_0f7a4 (M 7 7)) ((congrFun (zPs_fr (M := (zPs (m_X4_keepOutcome_1 M sz ch) 10 2 (g_X6_write (zPl (m_X4_keepOutcome_1 M sz ch) 10) (zMr sz) 2 (if ch = (-1) then 0 else (M 12 1))))) (b := 10) (n := 2) (N := (g_X6_write (zPl (zPs (m_X4_keepOutcome_1 M sz ch) 10 2 (g_X6_write (zPl (m_X4_keepOutcome_1 M sz ch) 10) (zMr sz) 2 (if ch = (-1) then 0 else (M 12 1)))) 10) (zMr sz) 3 (g_J6_bitCount_0f7a4 (M 7 6)))) (o := 10) (fun j hj e => (fr_X6_write (zPl (zPs (m_X4_keepOutcome_1 M sz ch) 10 2 (g_X6_write (zPl (m_X4_keepOutcome_1 M sz ch) 10) (zMr sz) 2 (if ch = (-1) then 0 else (M 12 1)))) 10) (zMr sz) 3 (g_J6_bitCount_0f7a4 (M 7 6)) j (by omega)))) 0).trans ((congrFun (zPs_fr (M := (m_X4_keepOutcome_1 M sz ch)) (b := 10) (n := 2) (N := (g_X6_write (zPl (m_X4_keepOutcome_1 M sz ch) 10) (zMr sz) 2 (if ch = (-1) then 0 else (M 12 1)))) (o := 10) (fun j hj e => (fr_X6_write (zPl (m_X4_keepOutcome_1 M sz ch) 10) (zMr sz) 2 (if ch = (-1) then 0 else (M 12 1)) j (by omega)))) 0).trans ((congrFun (zPs_fr (M := (zPs (zPs M 10 2 (g_X6_makeRoom (zPl M 10))) 10 2 (g_X6_write (zPl (zPs M 10 2 (g_X6_makeRoom (zPl M 10))) 10) (zMr sz) 0 (M 7 1)))) (b := 10) (n := 2) (N := (g_X6_write (zPl (zPs (zPs M 10 2 (g_X6_makeRoom (zPl M 10))) 10 2 (g_X6_write (zPl (zPs M 10 2 (g_X6_makeRoom (zPl M 10))) 10) (zMr sz) 0 (M 7 1))) 10) (zMr sz) 1 ch)) (o := 10) (fun j hj e => (fr_X6_write (zPl (zPs (zPs M 10 2 (g_X6_makeRoom (zPl M 10))) 10 2 (g_X6_write (zPl (zPs M 10 2 (g_X6_makeRoom (zPl M 10))) 10) (zMr sz) 0 (M 7 1))) 10) (zMr sz) 1 ch j (by omega)))) 0).trans ((congrFun (zPs_fr (M := (zPs M 10 2 (g_X6_makeRoom (zPl M 10)))) (b := 10) (n := 2) (N := (g_X6_write (zPl (zPs M 10 2 (g_X6_makeRoom (zPl M 10))) 10) (zMr sz) 0 (M 7 1))) (o := 10) (fun j hj e => (fr_X6_write (zPl (zPs M 10 2 (g_X6_makeRoom (zPl M 10))) 10) (zMr sz) 0 (M 7 1) j (by omega)))) 0).trans hmr)))) (zMr_le h12) (by omega)) sub_Office_10_Outcomes k_X6_write _ _ rfl rfl rfl (zIn (w := 3066) (by decide +kernel) rfl) (by decide +kernel) (by decide +kernel) rfl (Nat.le_of_ble_eq_true rfl) rfl ?_
    refine zT.run [(.aload_n 0, 0, 0, 0), (.getfield 40, 2, 9, 1186), (.iconst 5, 0, 0, 0), (.iload_n 1, 0, 0, 0), (.iconst (-1), 0, 0, 0)] (pe := 98) (ls' := [some (.ref 0), some (.int ch)]) (st' := [.int (-1), .int ch, .int 5, .ref 10]) (M' := (zPs (m_X4_keepOutcome_2 M sz ch) 10 2 (g_X6_write (zPl (m_X4_keepOutcome_2 M sz ch) 10) (zMr sz) 4 (g_J6_bitCount_0f7a4 (M 7 7))))) (by decide +kernel) rfl ?_
    refine zT.join (117, [some (.ref 0), some (.int ch)], [.int (if ch = (-1) then 0 else (if (M 12 2) ≤ 1 then 0 else 1)), .int 5, .ref 10], sh_Office, (zPs (m_X4_keepOutcome_2 M sz ch) 10 2 (g_X6_write (zPl (m_X4_keepOutcome_2 M sz ch) 10) (zMr sz) 4 (g_J6_bitCount_0f7a4 (M 7 7))))) ?_ ?_
    · refine zT.ceq (tgt := 116) (off := 18) (by decide +kernel) (by decide) (fun (c2 : ch = (-1)) => ?_) (fun (c2 : ¬ ch = (-1)) => ?_)
      · skip
        refine zT.run [(.iconst 0, 0, 0, 0)] (pe := 117) (ls' := [some (.ref 0), some (.int ch)]) (st' := [.int 0, .int 5, .ref 10]) (M' := (zPs (m_X4_keepOutcome_2 M sz ch) 10 2 (g_X6_write (zPl (m_X4_keepOutcome_2 M sz ch) 10) (zMr sz) 4 (g_J6_bitCount_0f7a4 (M 7 7))))) (by decide +kernel) rfl ?_
        exact zT.here (by simp only [if_pos c2])
      · skip
        refine zT.run [(.aload_n 0, 0, 0, 0), (.getfield 47, 2, 10, 1188), (.getfield 171, 5, 2, 1155), (.iconst 1, 0, 0, 0)] (pe := 109) (ls' := [some (.ref 0), some (.int ch)]) (st' := [.int 1, .int (M 12 2), .int 5, .ref 10]) (M' := (zPs (m_X4_keepOutcome_2 M sz ch) 10 2 (g_X6_write (zPl (m_X4_keepOutcome_2 M sz ch) 10) (zMr sz) 4 (g_J6_bitCount_0f7a4 (M 7 7))))) (by decide +kernel) rfl ?_
        refine zT.cle (tgt := 116) (off := 7) (by decide +kernel) (by decide) (fun (c3 : (M 12 2) ≤ 1) => ?_) (fun (c3 : ¬ (M 12 2) ≤ 1) => ?_)
        · skip
          refine zT.run [(.iconst 0, 0, 0, 0)] (pe := 117) (ls' := [some (.ref 0), some (.int ch)]) (st' := [.int 0, .int 5, .ref 10]) (M' := (zPs (m_X4_keepOutcome_2 M sz ch) 10 2 (g_X6_write (zPl (m_X4_keepOutcome_2 M sz ch) 10) (zMr sz) 4 (g_J6_bitCount_0f7a4 (M 7 7))))) (by decide +kernel) rfl ?_
          exact zT.here (by simp only [if_neg c2, if_pos c3])
        · skip
          refine zT.run [(.iconst 1, 0, 0, 0), (.goto 4, 0, 0, 0)] (pe := 117) (ls' := [some (.ref 0), some (.int ch)]) (st' := [.int 1, .int 5, .ref 10]) (M' := (zPs (m_X4_keepOutcome_2 M sz ch) 10 2 (g_X6_write (zPl (m_X4_keepOutcome_2 M sz ch) 10) (zMr sz) 4 (g_J6_bitCount_0f7a4 (M 7 7))))) (by decide +kernel) rfl ?_
          exact zT.here (by simp only [if_neg c2, if_neg c3])
    · skip
      refine zT.cV_sub 10 (o := 0) (idx := 159) (av := [.int (nI 5), .int (if ch = (-1) then 0 else (if (M 12 2) ≤ 1 then 0 else 1))]) (rv := none) (st := []) (S1 := []) (c_X6_write (zPl (zPs (m_X4_keepOutcome_2 M sz ch) 10 2 (g_X6_write (zPl (m_X4_keepOutcome_2 M sz ch) 10) (zMr sz) 4 (g_J6_bitCount_0f7a4 (M 7 7)))) 10) (zMr sz) 5 (if ch = (-1) then 0 else (if (M 12 2) ≤ 1 then 0 else 1)) ((congrFun (zPs_fr (M := (m_X4_keepOutcome_2 M sz ch)) (b := 10) (n := 2) (N := (g_X6_write (zPl (m_X4_keepOutcome_2 M sz ch) 10) (zMr sz) 4 (g_J6_bitCount_0f7a4 (M 7 7)))) (o := 10) (fun j hj e => (fr_X6_write (zPl (m_X4_keepOutcome_2 M sz ch) 10) (zMr sz) 4 (g_J6_bitCount_0f7a4 (M 7 7)) j (by omega)))) 0).trans ((congrFun (zPs_fr (M := (zPs (m_X4_keepOutcome_1 M sz ch) 10 2 (g_X6_write (zPl (m_X4_keepOutcome_1 M sz ch) 10) (zMr sz) 2 (if ch = (-1) then 0 else (M 12 1))))) (b := 10) (n := 2) (N := (g_X6_write (zPl (zPs (m_X4_keepOutcome_1 M sz ch) 10 2 (g_X6_write (zPl (m_X4_keepOutcome_1 M sz ch) 10) (zMr sz) 2 (if ch = (-1) then 0 else (M 12 1)))) 10) (zMr sz) 3 (g_J6_bitCount_0f7a4 (M 7 6)))) (o := 10) (fun j hj e => (fr_X6_write (zPl (zPs (m_X4_keepOutcome_1 M sz ch) 10 2 (g_X6_write (zPl (m_X4_keepOutcome_1 M sz ch) 10) (zMr sz) 2 (if ch = (-1) then 0 else (M 12 1)))) 10) (zMr sz) 3 (g_J6_bitCount_0f7a4 (M 7 6)) j (by omega)))) 0).trans ((congrFun (zPs_fr (M := (m_X4_keepOutcome_1 M sz ch)) (b := 10) (n := 2) (N := (g_X6_write (zPl (m_X4_keepOutcome_1 M sz ch) 10) (zMr sz) 2 (if ch = (-1) then 0 else (M 12 1)))) (o := 10) (fun j hj e => (fr_X6_write (zPl (m_X4_keepOutcome_1 M sz ch) 10) (zMr sz) 2 (if ch = (-1) then 0 else (M 12 1)) j (by omega)))) 0).trans ((congrFun (zPs_fr (M := (zPs (zPs M 10 2 (g_X6_makeRoom (zPl M 10))) 10 2 (g_X6_write (zPl (zPs M 10 2 (g_X6_makeRoom (zPl M 10))) 10) (zMr sz) 0 (M 7 1)))) (b := 10) (n := 2) (N := (g_X6_write (zPl (zPs (zPs M 10 2 (g_X6_makeRoom (zPl M 10))) 10 2 (g_X6_write (zPl (zPs M 10 2 (g_X6_makeRoom (zPl M 10))) 10) (zMr sz) 0 (M 7 1))) 10) (zMr sz) 1 ch)) (o := 10) (fun j hj e => (fr_X6_write (zPl (zPs (zPs M 10 2 (g_X6_makeRoom (zPl M 10))) 10 2 (g_X6_write (zPl (zPs M 10 2 (g_X6_makeRoom (zPl M 10))) 10) (zMr sz) 0 (M 7 1))) 10) (zMr sz) 1 ch j (by omega)))) 0).trans ((congrFun (zPs_fr (M := (zPs M 10 2 (g_X6_makeRoom (zPl M 10)))) (b := 10) (n := 2) (N := (g_X6_write (zPl (zPs M 10 2 (g_X6_makeRoom (zPl M 10))) 10) (zMr sz) 0 (M 7 1))) (o := 10) (fun j hj e => (fr_X6_write (zPl (zPs M 10 2 (g_X6_makeRoom (zPl M 10))) 10) (zMr sz) 0 (M 7 1) j (by omega)))) 0).trans hmr))))) (zMr_le h12) (by omega)) sub_Office_10_Outcomes k_X6_write _ _ rfl rfl rfl (zIn (w := 3066) (by decide +kernel) rfl) (by decide +kernel) (by decide +kernel) rfl (Nat.le_of_ble_eq_true rfl) rfl ?_
      refine zT.eqM (M2 := (m_X4_keepOutcome_3 M sz ch)) rfl ?_
      refine zT.run [(.aload_n 0, 0, 0, 0), (.getfield 40, 2, 9, 1186), (.bipush 6, 0, 0, 0), (.aload_n 0, 0, 0, 0), (.getfield 9, 2, 2, 1176), (.iconst 0, 0, 0, 0)] (pe := 131) (ls' := [some (.ref 0), some (.int ch)]) (st' := [.int 0, .ref 1, .int 6, .ref 10]) (M' := (m_X4_keepOutcome_3 M sz ch)) (by decide +kernel) rfl ?_
      refine zT.iald (n := 3) (k := 0) rfl rfl (by decide) (by decide) (by decide +kernel) ?_
      refine zT.cV_sub 10 (o := 0) (idx := 159) (av := [.int (nI 6), .int (M 1 0)]) (rv := none) (st := []) (S1 := []) (c_X6_write (zPl (m_X4_keepOutcome_3 M sz ch) 10) (zMr sz) 6 (M 1 0) ((congrFun (zPs_fr (M := (zPs (m_X4_keepOutcome_2 M sz ch) 10 2 (g_X6_write (zPl (m_X4_keepOutcome_2 M sz ch) 10) (zMr sz) 4 (g_J6_bitCount_0f7a4 (M 7 7))))) (b := 10) (n := 2) (N := (g_X6_write (zPl (zPs (m_X4_keepOutcome_2 M sz ch) 10 2 (g_X6_write (zPl (m_X4_keepOutcome_2 M sz ch) 10) (zMr sz) 4 (g_J6_bitCount_0f7a4 (M 7 7)))) 10) (zMr sz) 5 (if ch = (-1) then 0 else (if (M 12 2) ≤ 1 then 0 else 1)))) (o := 10) (fun j hj e => (fr_X6_write (zPl (zPs (m_X4_keepOutcome_2 M sz ch) 10 2 (g_X6_write (zPl (m_X4_keepOutcome_2 M sz ch) 10) (zMr sz) 4 (g_J6_bitCount_0f7a4 (M 7 7)))) 10) (zMr sz) 5 (if ch = (-1) then 0 else (if (M 12 2) ≤ 1 then 0 else 1)) j (by omega)))) 0).trans ((congrFun (zPs_fr (M := (m_X4_keepOutcome_2 M sz ch)) (b := 10) (n := 2) (N := (g_X6_write (zPl (m_X4_keepOutcome_2 M sz ch) 10) (zMr sz) 4 (g_J6_bitCount_0f7a4 (M 7 7)))) (o := 10) (fun j hj e => (fr_X6_write (zPl (m_X4_keepOutcome_2 M sz ch) 10) (zMr sz) 4 (g_J6_bitCount_0f7a4 (M 7 7)) j (by omega)))) 0).trans ((congrFun (zPs_fr (M := (zPs (m_X4_keepOutcome_1 M sz ch) 10 2 (g_X6_write (zPl (m_X4_keepOutcome_1 M sz ch) 10) (zMr sz) 2 (if ch = (-1) then 0 else (M 12 1))))) (b := 10) (n := 2) (N := (g_X6_write (zPl (zPs (m_X4_keepOutcome_1 M sz ch) 10 2 (g_X6_write (zPl (m_X4_keepOutcome_1 M sz ch) 10) (zMr sz) 2 (if ch = (-1) then 0 else (M 12 1)))) 10) (zMr sz) 3 (g_J6_bitCount_0f7a4 (M 7 6)))) (o := 10) (fun j hj e => (fr_X6_write (zPl (zPs (m_X4_keepOutcome_1 M sz ch) 10 2 (g_X6_write (zPl (m_X4_keepOutcome_1 M sz ch) 10) (zMr sz) 2 (if ch = (-1) then 0 else (M 12 1)))) 10) (zMr sz) 3 (g_J6_bitCount_0f7a4 (M 7 6)) j (by omega)))) 0).trans ((congrFun (zPs_fr (M := (m_X4_keepOutcome_1 M sz ch)) (b := 10) (n := 2) (N := (g_X6_write (zPl (m_X4_keepOutcome_1 M sz ch) 10) (zMr sz) 2 (if ch = (-1) then 0 else (M 12 1)))) (o := 10) (fun j hj e => (fr_X6_write (zPl (m_X4_keepOutcome_1 M sz ch) 10) (zMr sz) 2 (if ch = (-1) then 0 else (M 12 1)) j (by omega)))) 0).trans ((congrFun (zPs_fr (M := (zPs (zPs M 10 2 (g_X6_makeRoom (zPl M 10))) 10 2 (g_X6_write (zPl (zPs M 10 2 (g_X6_makeRoom (zPl M 10))) 10) (zMr sz) 0 (M 7 1)))) (b := 10) (n := 2) (N := (g_X6_write (zPl (zPs (zPs M 10 2 (g_X6_makeRoom (zPl M 10))) 10 2 (g_X6_write (zPl (zPs M 10 2 (g_X6_makeRoom (zPl M 10))) 10) (zMr sz) 0 (M 7 1))) 10) (zMr sz) 1 ch)) (o := 10) (fun j hj e => (fr_X6_write (zPl (zPs (zPs M 10 2 (g_X6_makeRoom (zPl M 10))) 10 2 (g_X6_write (zPl (zPs M 10 2 (g_X6_makeRoom (zPl M 10))) 10) (zMr sz) 0 (M 7 1))) 10) (zMr sz) 1 ch j (by omega)))) 0).trans ((congrFun (zPs_fr (M := (zPs M 10 2 (g_X6_makeRoom (zPl M 10)))) (b := 10) (n := 2) (N := (g_X6_write (zPl (zPs M 10 2 (g_X6_makeRoom (zPl M 10))) 10) (zMr sz) 0 (M 7 1))) (o := 10) (fun j hj e => (fr_X6_write (zPl (zPs M 10 2 (g_X6_makeRoom (zPl M 10))) 10) (zMr sz) 0 (M 7 1) j (by omega)))) 0).trans hmr)))))) (zMr_le h12) (by omega)) sub_Office_10_Outcomes k_X6_write _ _ rfl rfl rfl (zIn (w := 3066) (by decide +kernel) rfl) (by decide +kernel) (by decide +kernel) rfl (Nat.le_of_ble_eq_true rfl) rfl ?_
      refine zT.run [(.aload_n 0, 0, 0, 0), (.getfield 40, 2, 9, 1186), (.bipush 7, 0, 0, 0), (.aload_n 0, 0, 0, 0), (.getfield 9, 2, 2, 1176), (.iconst 1, 0, 0, 0)] (pe := 146) (ls' := [some (.ref 0), some (.int ch)]) (st' := [.int 1, .ref 1, .int 7, .ref 10]) (M' := (zPs (m_X4_keepOutcome_3 M sz ch) 10 2 (g_X6_write (zPl (m_X4_keepOutcome_3 M sz ch) 10) (zMr sz) 6 (M 1 0)))) (by decide +kernel) rfl ?_
      refine zT.iald (n := 3) (k := 1) rfl rfl (by decide) (by decide) (by decide +kernel) ?_
      refine zT.cV_sub 10 (o := 0) (idx := 159) (av := [.int (nI 7), .int (M 1 1)]) (rv := none) (st := []) (S1 := []) (c_X6_write (zPl (zPs (m_X4_keepOutcome_3 M sz ch) 10 2 (g_X6_write (zPl (m_X4_keepOutcome_3 M sz ch) 10) (zMr sz) 6 (M 1 0))) 10) (zMr sz) 7 (M 1 1) ((congrFun (zPs_fr (M := (m_X4_keepOutcome_3 M sz ch)) (b := 10) (n := 2) (N := (g_X6_write (zPl (m_X4_keepOutcome_3 M sz ch) 10) (zMr sz) 6 (M 1 0))) (o := 10) (fun j hj e => (fr_X6_write (zPl (m_X4_keepOutcome_3 M sz ch) 10) (zMr sz) 6 (M 1 0) j (by omega)))) 0).trans ((congrFun (zPs_fr (M := (zPs (m_X4_keepOutcome_2 M sz ch) 10 2 (g_X6_write (zPl (m_X4_keepOutcome_2 M sz ch) 10) (zMr sz) 4 (g_J6_bitCount_0f7a4 (M 7 7))))) (b := 10) (n := 2) (N := (g_X6_write (zPl (zPs (m_X4_keepOutcome_2 M sz ch) 10 2 (g_X6_write (zPl (m_X4_keepOutcome_2 M sz ch) 10) (zMr sz) 4 (g_J6_bitCount_0f7a4 (M 7 7)))) 10) (zMr sz) 5 (if ch = (-1) then 0 else (if (M 12 2) ≤ 1 then 0 else 1)))) (o := 10) (fun j hj e => (fr_X6_write (zPl (zPs (m_X4_keepOutcome_2 M sz ch) 10 2 (g_X6_write (zPl (m_X4_keepOutcome_2 M sz ch) 10) (zMr sz) 4 (g_J6_bitCount_0f7a4 (M 7 7)))) 10) (zMr sz) 5 (if ch = (-1) then 0 else (if (M 12 2) ≤ 1 then 0 else 1)) j (by omega)))) 0).trans ((congrFun (zPs_fr (M := (m_X4_keepOutcome_2 M sz ch)) (b := 10) (n := 2) (N := (g_X6_write (zPl (m_X4_keepOutcome_2 M sz ch) 10) (zMr sz) 4 (g_J6_bitCount_0f7a4 (M 7 7)))) (o := 10) (fun j hj e => (fr_X6_write (zPl (m_X4_keepOutcome_2 M sz ch) 10) (zMr sz) 4 (g_J6_bitCount_0f7a4 (M 7 7)) j (by omega)))) 0).trans ((congrFun (zPs_fr (M := (zPs (m_X4_keepOutcome_1 M sz ch) 10 2 (g_X6_write (zPl (m_X4_keepOutcome_1 M sz ch) 10) (zMr sz) 2 (if ch = (-1) then 0 else (M 12 1))))) (b := 10) (n := 2) (N := (g_X6_write (zPl (zPs (m_X4_keepOutcome_1 M sz ch) 10 2 (g_X6_write (zPl (m_X4_keepOutcome_1 M sz ch) 10) (zMr sz) 2 (if ch = (-1) then 0 else (M 12 1)))) 10) (zMr sz) 3 (g_J6_bitCount_0f7a4 (M 7 6)))) (o := 10) (fun j hj e => (fr_X6_write (zPl (zPs (m_X4_keepOutcome_1 M sz ch) 10 2 (g_X6_write (zPl (m_X4_keepOutcome_1 M sz ch) 10) (zMr sz) 2 (if ch = (-1) then 0 else (M 12 1)))) 10) (zMr sz) 3 (g_J6_bitCount_0f7a4 (M 7 6)) j (by omega)))) 0).trans ((congrFun (zPs_fr (M := (m_X4_keepOutcome_1 M sz ch)) (b := 10) (n := 2) (N := (g_X6_write (zPl (m_X4_keepOutcome_1 M sz ch) 10) (zMr sz) 2 (if ch = (-1) then 0 else (M 12 1)))) (o := 10) (fun j hj e => (fr_X6_write (zPl (m_X4_keepOutcome_1 M sz ch) 10) (zMr sz) 2 (if ch = (-1) then 0 else (M 12 1)) j (by omega)))) 0).trans ((congrFun (zPs_fr (M := (zPs (zPs M 10 2 (g_X6_makeRoom (zPl M 10))) 10 2 (g_X6_write (zPl (zPs M 10 2 (g_X6_makeRoom (zPl M 10))) 10) (zMr sz) 0 (M 7 1)))) (b := 10) (n := 2) (N := (g_X6_write (zPl (zPs (zPs M 10 2 (g_X6_makeRoom (zPl M 10))) 10 2 (g_X6_write (zPl (zPs M 10 2 (g_X6_makeRoom (zPl M 10))) 10) (zMr sz) 0 (M 7 1))) 10) (zMr sz) 1 ch)) (o := 10) (fun j hj e => (fr_X6_write (zPl (zPs (zPs M 10 2 (g_X6_makeRoom (zPl M 10))) 10 2 (g_X6_write (zPl (zPs M 10 2 (g_X6_makeRoom (zPl M 10))) 10) (zMr sz) 0 (M 7 1))) 10) (zMr sz) 1 ch j (by omega)))) 0).trans ((congrFun (zPs_fr (M := (zPs M 10 2 (g_X6_makeRoom (zPl M 10)))) (b := 10) (n := 2) (N := (g_X6_write (zPl (zPs M 10 2 (g_X6_makeRoom (zPl M 10))) 10) (zMr sz) 0 (M 7 1))) (o := 10) (fun j hj e => (fr_X6_write (zPl (zPs M 10 2 (g_X6_makeRoom (zPl M 10))) 10) (zMr sz) 0 (M 7 1) j (by omega)))) 0).trans hmr))))))) (zMr_le h12) (by omega)) sub_Office_10_Outcomes k_X6_write _ _ rfl rfl rfl (zIn (w := 3066) (by decide +kernel) rfl) (by decide +kernel) (by decide +kernel) rfl (Nat.le_of_ble_eq_true rfl) rfl ?_
      refine zT.eqM (M2 := (m_X4_keepOutcome_4 M sz ch)) rfl ?_
      exact zT.vret (by simp only [g_X4_keepOutcome]; try rfl) rfl (by decide +kernel)
theorem fr_X4_keepOutcome (M : zM) (sz : Nat) (ch : Int32) (o : Nat) (ho : o ≠ 10 ∧ o ≠ 11) : (g_X4_keepOutcome M sz ch) o = M o := by
  simp only [g_X4_keepOutcome]
  (repeat' split) <;> simp only [zU_ne ho.1, zU_ne ho.2, zUa_ne ho.1, zUa_ne ho.2, m_X4_keepOutcome_4, (fun (MM : zM) (sz : Nat) (w : Nat) (x : Int32) => zPs_fr (M := MM) (b := 10) (n := 2) (N := (g_X6_write (zPl MM 10) sz w x)) (o := o) (fun j hj e => fr_X6_write (zPl MM 10) sz w x j (by omega))), m_X4_keepOutcome_3, m_X4_keepOutcome_2, m_X4_keepOutcome_1, (fun (MM : zM) => zPs_fr (M := MM) (b := 10) (n := 2) (N := (g_X6_makeRoom (zPl MM 10))) (o := o) (fun j hj e => fr_X6_makeRoom (zPl MM 10) j (by omega)))]
theorem k_X4_keepOutcome : zCal yy_X4_keepOutcome 1 := ⟨⟨⟨⟨zIn (w := 3060) (by decide +kernel) rfl, zIn (w := 1004) (by decide +kernel) rfl⟩, by decide +kernel⟩, by decide +kernel⟩, ⟨zIn (w := 3059) (by decide +kernel) rfl, zIn (w := 13) (by decide +kernel) rfl⟩⟩
noncomputable abbrev yy_X4_countVotes : zY := (yX4_countVotes, cX4_countVotes, 4, (some Jvm.ClassFile.FieldType.int), 3, 101)
noncomputable def l_X4_countVotes_81 (M : zM) (n : Nat) (sz : Nat) (i1 : Nat) (s1 : zM) : zM := (if (g_X9_has ((s1 7 3) &&& (g_X4_reachedSet M)) (nI i1)) = 0 then s1 else (zU s1 5 i1 (g_X7_chosenBy (g_X7_take (zU M 7 0 3) (-1) 0) ((g_X7_take (zU M 7 0 3) (-1) 0) 1 0) ((g_X7_take (zU M 7 0 3) (-1) 0) 1 1))))
theorem fr_l_X4_countVotes_81 (M : zM) (n : Nat) (sz : Nat) (o : Nat) (ho : o ≠ 5) : ∀ (k : Nat) (s : zM), (zIt (l_X4_countVotes_81 M n sz) k s) o = s o := by
  intro k
  induction k with
  | zero => intro s; rfl
  | succ k ih =>
    intro s
    rw [← ih s]
    show (l_X4_countVotes_81 M n sz k (zIt (l_X4_countVotes_81 M n sz) k s)) o = _
    generalize zIt (l_X4_countVotes_81 M n sz) k s = t
    simp only [l_X4_countVotes_81]
    (repeat' split) <;> simp only [zU_ne ho]
noncomputable def m_X4_countVotes_1 (M : zM) (n : Nat) (sz : Nat) : zM := (g_X4_keepOutcome (zIt (l_X4_countVotes_81 M n sz) n (g_X7_take (zU M 7 0 3) (-1) 0)) sz (g_X7_chosenBy (g_X7_take (zU M 7 0 3) (-1) 0) ((g_X7_take (zU M 7 0 3) (-1) 0) 1 0) ((g_X7_take (zU M 7 0 3) (-1) 0) 1 1)))
noncomputable def g_X4_countVotes (M : zM) (n : Nat) (sz : Nat) : Int32 × zM := (if (M 7 0) = 2 then (if ((M 7 5) &&& (g_X4_reachedSet M)) = 0 then (if (g_X7_chosenBy (g_X7_take (zU M 7 0 3) (-1) 0) ((g_X7_take (zU M 7 0 3) (-1) 0) 1 0) ((g_X7_take (zU M 7 0 3) (-1) 0) 1 1)) = (-1) then (100, (m_X4_countVotes_1 M n sz)) else ((g_X7_chosenBy (g_X7_take (zU M 7 0 3) (-1) 0) ((g_X7_take (zU M 7 0 3) (-1) 0) 1 0) ((g_X7_take (zU M 7 0 3) (-1) 0) 1 1)), (m_X4_countVotes_1 M n sz))) else ((-12), M)) else ((-10), M))
set_option maxRecDepth 100000 in
theorem c_X4_countVotes (M : zM) (n : Nat) (sz : Nat) (hn : M 0 0 = nI n) (h9 : n ≤ 9) (hsz : M 10 0 = nI sz) (h12 : sz ≤ 12) (hc : zHc M) : zC yy_X4_countVotes 0 0 [.ref 0] sh_Office M (some (.int (g_X4_countVotes M n sz).1)) sh_Office (g_X4_countVotes M n sz).2 := by
  refine zC.of (by decide +kernel) rfl (Nat.le_of_ble_eq_true rfl) ?_
  refine zT.run [(.aload_n 0, 0, 0, 0), (.getfield 33, 2, 8, 1184), (.getfield 80, 0, 0, 1089), (.iconst 2, 0, 0, 0)] (pe := 8) (ls' := [some (.ref 0), none, none, none]) (st' := [.int 2, .int (M 7 0)]) (M' := M) (by decide +kernel) rfl ?_
  refine zT.ceq (tgt := 14) (off := 6) (by decide +kernel) (by decide) (fun (c1 : (M 7 0) = 2) => ?_) (fun (c1 : ¬ (M 7 0) = 2) => ?_)
  · skip
    refine zT.run [(.aload_n 0, 0, 0, 0)] (pe := 15) (ls' := [some (.ref 0), none, none, none]) (st' := [.ref 0]) (M' := M) (by decide +kernel) rfl ?_
    refine zT.cV_own (o := 0) (idx := 116) (av := []) (rv := (some (.int (g_X4_reachedSet M)))) (st := []) (S1 := [.int (g_X4_reachedSet M)]) (c_X4_reachedSet M hc) k_X4_reachedSet _ _ rfl rfl rfl (zIn (w := 2064) (by decide +kernel) rfl) (by decide +kernel) (by decide +kernel) rfl (Nat.le_of_ble_eq_true rfl) rfl ?_
    refine zT.run [(.istore_n 1, 0, 0, 0), (.aload_n 0, 0, 0, 0), (.getfield 33, 2, 8, 1184), (.getfield 113, 0, 5, 1100), (.iload_n 1, 0, 0, 0), (.iand, 0, 0, 0)] (pe := 28) (ls' := [some (.ref 0), some (.int (g_X4_reachedSet M)), none, none]) (st' := [.int ((M 7 5) &&& (g_X4_reachedSet M))]) (M' := M) (by decide +kernel) rfl ?_
    refine zT.zeq (tgt := 34) (off := 6) (by decide +kernel) (by decide) (fun (c2 : ((M 7 5) &&& (g_X4_reachedSet M)) = 0) => ?_) (fun (c2 : ¬ ((M 7 5) &&& (g_X4_reachedSet M)) = 0) => ?_)
    · skip
      refine zT.run [(.aload_n 0, 0, 0, 0), (.getfield 33, 2, 8, 1184), (.iconst 3, 0, 0, 0), (.putfield 80, 0, 0, 1089), (.aload_n 0, 0, 0, 0), (.getfield 47, 2, 10, 1188), (.aload_n 0, 0, 0, 0), (.getfield 33, 2, 8, 1184), (.aload_n 0, 0, 0, 0), (.getfield 15, 2, 3, 1178), (.iconst (-1), 0, 0, 0), (.iconst 0, 0, 0, 0)] (pe := 56) (ls' := [some (.ref 0), some (.int (g_X4_reachedSet M)), none, none]) (st' := [.int 0, .int (-1), .ref 2, .ref 7, .ref 12]) (M' := (zU M 7 0 3)) (by decide +kernel) rfl ?_
      refine zT.cV_all (o := 12) (idx := 142) (av := [.ref 7, .ref 2, .int (-1), .int 0]) (rv := none) (st := []) (S1 := []) (c_X7_take (zU M 7 0 3) (-1) 0) k_X7_take _ _ rfl rfl rfl (zIn (w := 3036) (by decide +kernel) rfl) (by decide +kernel) (by decide +kernel) rfl (Nat.le_of_ble_eq_true rfl) rfl ?_
      refine zT.run [(.aload_n 0, 0, 0, 0), (.getfield 47, 2, 10, 1188), (.aload_n 0, 0, 0, 0), (.getfield 9, 2, 2, 1176), (.iconst 0, 0, 0, 0)] (pe := 68) (ls' := [some (.ref 0), some (.int (g_X4_reachedSet M)), none, none]) (st' := [.int 0, .ref 1, .ref 12]) (M' := (g_X7_take (zU M 7 0 3) (-1) 0)) (by decide +kernel) rfl ?_
      refine zT.iald (n := 3) (k := 0) rfl rfl (by decide) (by decide) (by decide +kernel) ?_
      refine zT.run [(.aload_n 0, 0, 0, 0), (.getfield 9, 2, 2, 1176), (.iconst 1, 0, 0, 0)] (pe := 74) (ls' := [some (.ref 0), some (.int (g_X4_reachedSet M)), none, none]) (st' := [.int 1, .ref 1, .int ((g_X7_take (zU M 7 0 3) (-1) 0) 1 0), .ref 12]) (M' := (g_X7_take (zU M 7 0 3) (-1) 0)) (by decide +kernel) rfl ?_
      refine zT.iald (n := 3) (k := 1) rfl rfl (by decide) (by decide) (by decide +kernel) ?_
      refine zT.cV_own (o := 12) (idx := 146) (av := [.int ((g_X7_take (zU M 7 0 3) (-1) 0) 1 0), .int ((g_X7_take (zU M 7 0 3) (-1) 0) 1 1)]) (rv := (some (.int (g_X7_chosenBy (g_X7_take (zU M 7 0 3) (-1) 0) ((g_X7_take (zU M 7 0 3) (-1) 0) 1 0) ((g_X7_take (zU M 7 0 3) (-1) 0) 1 1))))) (st := []) (S1 := [.int (g_X7_chosenBy (g_X7_take (zU M 7 0 3) (-1) 0) ((g_X7_take (zU M 7 0 3) (-1) 0) 1 0) ((g_X7_take (zU M 7 0 3) (-1) 0) 1 1))]) (c_X7_chosenBy (g_X7_take (zU M 7 0 3) (-1) 0) ((g_X7_take (zU M 7 0 3) (-1) 0) 1 0) ((g_X7_take (zU M 7 0 3) (-1) 0) 1 1)) k_X7_chosenBy _ _ rfl rfl rfl (zIn (w := 3049) (by decide +kernel) rfl) (by decide +kernel) (by decide +kernel) rfl (Nat.le_of_ble_eq_true rfl) rfl ?_
      refine zT.run [(.istore_n 2, 0, 0, 0), (.iconst 0, 0, 0, 0), (.istore_n 3, 0, 0, 0)] (pe := 81) (ls' := [some (.ref 0), some (.int (g_X4_reachedSet M)), some (.int (g_X7_chosenBy (g_X7_take (zU M 7 0 3) (-1) 0) ((g_X7_take (zU M 7 0 3) (-1) 0) 1 0) ((g_X7_take (zU M 7 0 3) (-1) 0) 1 1))), some (.int 0)]) (st' := []) (M' := (g_X7_take (zU M 7 0 3) (-1) 0)) (by decide +kernel) rfl ?_
      refine zT.loop (l_X4_countVotes_81 M n sz) (fun (i : Nat) (s : zM) => (81, [some (.ref 0), some (.int (g_X4_reachedSet M)), some (.int (g_X7_chosenBy (g_X7_take (zU M 7 0 3) (-1) 0) ((g_X7_take (zU M 7 0 3) (-1) 0) 1 0) ((g_X7_take (zU M 7 0 3) (-1) 0) 1 1))), some (.int (nI i))], [], sh_Office, s)) n (g_X7_take (zU M 7 0 3) (-1) 0) (fun i1 hi1 k1 => ?_) ?_
      · skip
        generalize hs1 : zIt (l_X4_countVotes_81 M n sz) i1 (g_X7_take (zU M 7 0 3) (-1) 0) = s1 at k1 ⊢
        have hm1 : ∀ o : Nat, (o ≠ 5) → s1 o = (g_X7_take (zU M 7 0 3) (-1) 0) o := fun o ho => by rw [← hs1]; exact fr_l_X4_countVotes_81 M n sz o ho i1 (g_X7_take (zU M 7 0 3) (-1) 0)
        show zT _ _ _ _ (81, [some (.ref 0), some (.int (g_X4_reachedSet M)), some (.int (g_X7_chosenBy (g_X7_take (zU M 7 0 3) (-1) 0) ((g_X7_take (zU M 7 0 3) (-1) 0) 1 0) ((g_X7_take (zU M 7 0 3) (-1) 0) 1 1))), some (.int (nI i1))], [], sh_Office, s1)
        refine zT.run [(.iload_n 3, 0, 0, 0), (.aload_n 0, 0, 0, 0), (.getfield 51, 2, 0, 1171)] (pe := 86) (ls' := [some (.ref 0), some (.int (g_X4_reachedSet M)), some (.int (g_X7_chosenBy (g_X7_take (zU M 7 0 3) (-1) 0) ((g_X7_take (zU M 7 0 3) (-1) 0) 1 0) ((g_X7_take (zU M 7 0 3) (-1) 0) 1 1))), some (.int (nI i1))]) (st' := [.int (s1 0 0), .int (nI i1)]) (M' := s1) (by decide +kernel) rfl ?_
        refine zT.cge (tgt := 118) (off := 32) (by decide +kernel) (by decide) (fun c => absurd c (zGeN (n := n) ((congrFun ((hm1 0 (by decide)).trans (fr_X7_take (zU M 7 0 3) (-1) 0 0 (by decide))) 0).trans hn) (by omega) (by omega))) (fun _ => ?_)
        refine zT.run [(.aload_n 0, 0, 0, 0), (.getfield 33, 2, 8, 1184), (.getfield 149, 0, 3, 1096), (.iload_n 1, 0, 0, 0), (.iand, 0, 0, 0), (.iload_n 3, 0, 0, 0)] (pe := 99) (ls' := [some (.ref 0), some (.int (g_X4_reachedSet M)), some (.int (g_X7_chosenBy (g_X7_take (zU M 7 0 3) (-1) 0) ((g_X7_take (zU M 7 0 3) (-1) 0) 1 0) ((g_X7_take (zU M 7 0 3) (-1) 0) 1 1))), some (.int (nI i1))]) (st' := [.int (nI i1), .int ((s1 7 3) &&& (g_X4_reachedSet M))]) (M' := s1) (by decide +kernel) rfl ?_
        refine zT.cN_nil "SealedBallots" (idx := 83) (av := [.int ((s1 7 3) &&& (g_X4_reachedSet M)), .int (nI i1)]) (rv := (some (.int (g_X9_has ((s1 7 3) &&& (g_X4_reachedSet M)) (nI i1))))) (st := []) (S1 := [.int (g_X9_has ((s1 7 3) &&& (g_X4_reachedSet M)) (nI i1))]) (c_X9_has ((s1 7 3) &&& (g_X4_reachedSet M)) (nI i1)) k_X9_has rfl (zInN (w := 2017) (by decide +kernel) rfl) (by decide +kernel) (by decide +kernel) rfl (Nat.le_of_ble_eq_true rfl) rfl ?_
        refine zT.zeq (tgt := 112) (off := 10) (by decide +kernel) (by decide) (fun (c3 : (g_X9_has ((s1 7 3) &&& (g_X4_reachedSet M)) (nI i1)) = 0) => ?_) (fun (c3 : ¬ (g_X9_has ((s1 7 3) &&& (g_X4_reachedSet M)) (nI i1)) = 0) => ?_)
        · skip
          refine zT.run [(.iinc 3 1, 0, 0, 0), (.goto (-34), 0, 0, 0)] (pe := 81) (ls' := [some (.ref 0), some (.int (g_X4_reachedSet M)), some (.int (g_X7_chosenBy (g_X7_take (zU M 7 0 3) (-1) 0) ((g_X7_take (zU M 7 0 3) (-1) 0) 1 0) ((g_X7_take (zU M 7 0 3) (-1) 0) 1 1))), some (.int ((nI i1) + 1))]) (st' := []) (M' := s1) (by decide +kernel) rfl ?_
          exact zT.eq (by simp only [l_X4_countVotes_81, if_pos c3, nI_succ, zDl]; try rfl) k1
        · skip
          refine zT.run [(.aload_n 0, 0, 0, 0), (.getfield 24, 2, 6, 1181), (.iload_n 3, 0, 0, 0), (.iload_n 2, 0, 0, 0)] (pe := 111) (ls' := [some (.ref 0), some (.int (g_X4_reachedSet M)), some (.int (g_X7_chosenBy (g_X7_take (zU M 7 0 3) (-1) 0) ((g_X7_take (zU M 7 0 3) (-1) 0) 1 0) ((g_X7_take (zU M 7 0 3) (-1) 0) 1 1))), some (.int (nI i1))]) (st' := [.int (g_X7_chosenBy (g_X7_take (zU M 7 0 3) (-1) 0) ((g_X7_take (zU M 7 0 3) (-1) 0) 1 0) ((g_X7_take (zU M 7 0 3) (-1) 0) 1 1)), .int (nI i1), .ref 5]) (M' := s1) (by decide +kernel) rfl ?_
          refine zT.iast (n := 9) (k := i1) rfl rfl (by omega) (by decide) (by decide +kernel) ?_
          refine zT.run [(.iinc 3 1, 0, 0, 0), (.goto (-34), 0, 0, 0)] (pe := 81) (ls' := [some (.ref 0), some (.int (g_X4_reachedSet M)), some (.int (g_X7_chosenBy (g_X7_take (zU M 7 0 3) (-1) 0) ((g_X7_take (zU M 7 0 3) (-1) 0) 1 0) ((g_X7_take (zU M 7 0 3) (-1) 0) 1 1))), some (.int ((nI i1) + 1))]) (st' := []) (M' := (zU s1 5 i1 (g_X7_chosenBy (g_X7_take (zU M 7 0 3) (-1) 0) ((g_X7_take (zU M 7 0 3) (-1) 0) 1 0) ((g_X7_take (zU M 7 0 3) (-1) 0) 1 1)))) (by decide +kernel) rfl ?_
          exact zT.eq (by simp only [l_X4_countVotes_81, if_neg c3, nI_succ, zDl]; try rfl) k1
      · skip
        show zT _ _ _ _ (81, [some (.ref 0), some (.int (g_X4_reachedSet M)), some (.int (g_X7_chosenBy (g_X7_take (zU M 7 0 3) (-1) 0) ((g_X7_take (zU M 7 0 3) (-1) 0) 1 0) ((g_X7_take (zU M 7 0 3) (-1) 0) 1 1))), some (.int (nI n))], [], sh_Office, (zIt (l_X4_countVotes_81 M n sz) n (g_X7_take (zU M 7 0 3) (-1) 0)))
        refine zT.run [(.iload_n 3, 0, 0, 0), (.aload_n 0, 0, 0, 0), (.getfield 51, 2, 0, 1171)] (pe := 86) (ls' := [some (.ref 0), some (.int (g_X4_reachedSet M)), some (.int (g_X7_chosenBy (g_X7_take (zU M 7 0 3) (-1) 0) ((g_X7_take (zU M 7 0 3) (-1) 0) 1 0) ((g_X7_take (zU M 7 0 3) (-1) 0) 1 1))), some (.int (nI n))]) (st' := [.int ((zIt (l_X4_countVotes_81 M n sz) n (g_X7_take (zU M 7 0 3) (-1) 0)) 0 0), .int (nI n)]) (M' := (zIt (l_X4_countVotes_81 M n sz) n (g_X7_take (zU M 7 0 3) (-1) 0))) (by decide +kernel) rfl ?_
        refine zT.cge (tgt := 118) (off := 32) (by decide +kernel) (by decide) (fun _ => ?_) (fun c => absurd (zGeY (n := n) ((congrFun ((fr_l_X4_countVotes_81 M n sz 0 (by decide) n (g_X7_take (zU M 7 0 3) (-1) 0)).trans (fr_X7_take (zU M 7 0 3) (-1) 0 0 (by decide))) 0).trans hn)) c)
        refine zT.run [(.aload_n 0, 0, 0, 0), (.iload_n 2, 0, 0, 0)] (pe := 120) (ls' := [some (.ref 0), some (.int (g_X4_reachedSet M)), some (.int (g_X7_chosenBy (g_X7_take (zU M 7 0 3) (-1) 0) ((g_X7_take (zU M 7 0 3) (-1) 0) 1 0) ((g_X7_take (zU M 7 0 3) (-1) 0) 1 1))), some (.int (nI n))]) (st' := [.int (g_X7_chosenBy (g_X7_take (zU M 7 0 3) (-1) 0) ((g_X7_take (zU M 7 0 3) (-1) 0) 1 0) ((g_X7_take (zU M 7 0 3) (-1) 0) 1 1)), .ref 0]) (M' := (zIt (l_X4_countVotes_81 M n sz) n (g_X7_take (zU M 7 0 3) (-1) 0))) (by decide +kernel) rfl ?_
        refine zT.cV_all (o := 0) (idx := 152) (av := [.int (g_X7_chosenBy (g_X7_take (zU M 7 0 3) (-1) 0) ((g_X7_take (zU M 7 0 3) (-1) 0) 1 0) ((g_X7_take (zU M 7 0 3) (-1) 0) 1 1))]) (rv := none) (st := []) (S1 := []) (c_X4_keepOutcome (zIt (l_X4_countVotes_81 M n sz) n (g_X7_take (zU M 7 0 3) (-1) 0)) sz (g_X7_chosenBy (g_X7_take (zU M 7 0 3) (-1) 0) ((g_X7_take (zU M 7 0 3) (-1) 0) 1 0) ((g_X7_take (zU M 7 0 3) (-1) 0) 1 1)) ((congrFun ((fr_l_X4_countVotes_81 M n sz 10 (by decide) n (g_X7_take (zU M 7 0 3) (-1) 0)).trans (fr_X7_take (zU M 7 0 3) (-1) 0 10 (by decide))) 0).trans hsz) h12) k_X4_keepOutcome _ _ rfl rfl rfl (zIn (w := 3057) (by decide +kernel) rfl) (by decide +kernel) (by decide +kernel) rfl (Nat.le_of_ble_eq_true rfl) rfl ?_
        refine zT.eqM (M2 := (m_X4_countVotes_1 M n sz)) rfl ?_
        refine zT.run [(.iload_n 2, 0, 0, 0), (.iconst (-1), 0, 0, 0)] (pe := 125) (ls' := [some (.ref 0), some (.int (g_X4_reachedSet M)), some (.int (g_X7_chosenBy (g_X7_take (zU M 7 0 3) (-1) 0) ((g_X7_take (zU M 7 0 3) (-1) 0) 1 0) ((g_X7_take (zU M 7 0 3) (-1) 0) 1 1))), some (.int (nI n))]) (st' := [.int (-1), .int (g_X7_chosenBy (g_X7_take (zU M 7 0 3) (-1) 0) ((g_X7_take (zU M 7 0 3) (-1) 0) 1 0) ((g_X7_take (zU M 7 0 3) (-1) 0) 1 1))]) (M' := (m_X4_countVotes_1 M n sz)) (by decide +kernel) rfl ?_
        refine zT.cne (tgt := 133) (off := 8) (by decide +kernel) (by decide) (fun (c4 : ¬ (g_X7_chosenBy (g_X7_take (zU M 7 0 3) (-1) 0) ((g_X7_take (zU M 7 0 3) (-1) 0) 1 0) ((g_X7_take (zU M 7 0 3) (-1) 0) 1 1)) = (-1)) => ?_) (fun (c4 : (g_X7_chosenBy (g_X7_take (zU M 7 0 3) (-1) 0) ((g_X7_take (zU M 7 0 3) (-1) 0) 1 0) ((g_X7_take (zU M 7 0 3) (-1) 0) 1 1)) = (-1)) => ?_)
        · skip
          refine zT.run [(.iload_n 2, 0, 0, 0)] (pe := 134) (ls' := [some (.ref 0), some (.int (g_X4_reachedSet M)), some (.int (g_X7_chosenBy (g_X7_take (zU M 7 0 3) (-1) 0) ((g_X7_take (zU M 7 0 3) (-1) 0) 1 0) ((g_X7_take (zU M 7 0 3) (-1) 0) 1 1))), some (.int (nI n))]) (st' := [.int (g_X7_chosenBy (g_X7_take (zU M 7 0 3) (-1) 0) ((g_X7_take (zU M 7 0 3) (-1) 0) 1 0) ((g_X7_take (zU M 7 0 3) (-1) 0) 1 1))]) (M' := (m_X4_countVotes_1 M n sz)) (by decide +kernel) rfl ?_
          exact zT.iret (ty := Jvm.ClassFile.FieldType.int) (by simp only [g_X4_countVotes, if_pos c1, if_pos c2, if_neg c4]; try rfl) (by simp only [g_X4_countVotes, if_pos c1, if_pos c2, if_neg c4]; try rfl) rfl rfl (by decide +kernel)
        · skip
          refine zT.run [(.bipush 100, 0, 0, 0), (.goto 4, 0, 0, 0)] (pe := 134) (ls' := [some (.ref 0), some (.int (g_X4_reachedSet M)), some (.int (g_X7_chosenBy (g_X7_take (zU M 7 0 3) (-1) 0) ((g_X7_take (zU M 7 0 3) (-1) 0) 1 0) ((g_X7_take (zU M 7 0 3) (-1) 0) 1 1))), some (.int (nI n))]) (st' := [.int 100]) (M' := (m_X4_countVotes_1 M n sz)) (by decide +kernel) rfl ?_
          exact zT.iret (ty := Jvm.ClassFile.FieldType.int) (by simp only [g_X4_countVotes, if_pos c1, if_pos c2, if_pos c4]; try rfl) (by simp only [g_X4_countVotes, if_pos c1, if_pos c2, if_pos c4]; try rfl) rfl rfl (by decide +kernel)
    · skip
      refine zT.run [(.bipush (-12), 0, 0, 0)] (pe := 33) (ls' := [some (.ref 0), some (.int (g_X4_reachedSet M)), none, none]) (st' := [.int (-12)]) (M' := M) (by decide +kernel) rfl ?_
      exact zT.iret (ty := Jvm.ClassFile.FieldType.int) (by simp only [g_X4_countVotes, if_pos c1, if_neg c2]; try rfl) (by simp only [g_X4_countVotes, if_pos c1, if_neg c2]; try rfl) rfl rfl (by decide +kernel)
  · skip
    refine zT.run [(.bipush (-10), 0, 0, 0)] (pe := 13) (ls' := [some (.ref 0), none, none, none]) (st' := [.int (-10)]) (M' := M) (by decide +kernel) rfl ?_
    exact zT.iret (ty := Jvm.ClassFile.FieldType.int) (by simp only [g_X4_countVotes, if_neg c1]; try rfl) (by simp only [g_X4_countVotes, if_neg c1]; try rfl) rfl rfl (by decide +kernel)
theorem fr_X4_countVotes (M : zM) (n : Nat) (sz : Nat) (o : Nat) (ho : o ≠ 5 ∧ o ≠ 7 ∧ o ≠ 10 ∧ o ≠ 11 ∧ o ≠ 12 ∧ o ≠ 13) : (g_X4_countVotes M n sz).2 o = M o := by
  simp only [g_X4_countVotes]
  (repeat' split) <;> simp only [zU_ne ho.1, zU_ne ho.2.1, zU_ne ho.2.2.1, zU_ne ho.2.2.2.1, zU_ne ho.2.2.2.2.1, zU_ne ho.2.2.2.2.2, zUa_ne ho.1, zUa_ne ho.2.1, zUa_ne ho.2.2.1, zUa_ne ho.2.2.2.1, zUa_ne ho.2.2.2.2.1, zUa_ne ho.2.2.2.2.2, m_X4_countVotes_1, (fun (MM : zM) (sz : Nat) (ch : Int32) => fr_X4_keepOutcome MM sz ch o (by omega)), (fr_l_X4_countVotes_81 M n sz o (by omega)), (fun (MM : zM) (f : Int32) (m : Int32) => fr_X7_take MM f m o (by omega))]
theorem k_X4_countVotes : zCal yy_X4_countVotes 0 := ⟨⟨⟨⟨zIn (w := 3035) (by decide +kernel) rfl, zIn (w := 1004) (by decide +kernel) rfl⟩, by decide +kernel⟩, by decide +kernel⟩, ⟨zIn (w := 3033) (by decide +kernel) rfl, zIn (w := 3034) (by decide +kernel) rfl⟩⟩
noncomputable abbrev yy_X4_askRecount : zY := (yX4_askRecount, cX4_askRecount, 3, (some Jvm.ClassFile.FieldType.int), 2, 44)
noncomputable def m_X4_askRecount_1 (M : zM) (n : Nat) (sz : Nat) (r : Nat) : zM := (g_X4_forgetLeader (zPs (zU (zU M 7 4 ((M 7 4) + 1)) 7 0 2) 10 2 (g_X6_dropLatest (zPl (zU (zU M 7 4 ((M 7 4) + 1)) 7 0 2) 10))) n (M 7 3) (g_X6_tell (zPl M 10) sz 0 1))
noncomputable def g_X4_askRecount (M : zM) (n : Nat) (sz : Nat) (r : Nat) : Int32 × zM := (if (M 7 0) = 3 then (if (g_X1_isOnRoll (zPl M 7) (nI r)) = 0 then ((-6), M) else (if (g_X9_has (M 0 1) (nI r)) = 0 then ((-3), M) else (if (g_X6_tell (zPl M 10) sz 0 1) = (nI r) then ((-15), M) else (if (M 7 4) < (M 1 2) then ((g_X1_sealMisfitsAgain (zPl (m_X4_askRecount_1 M n sz r) 7)).1, (zPs (m_X4_askRecount_1 M n sz r) 7 3 (g_X1_sealMisfitsAgain (zPl (m_X4_askRecount_1 M n sz r) 7)).2)) else ((-14), M))))) else ((-13), M))
set_option maxRecDepth 100000 in
theorem c_X4_askRecount (M : zM) (n : Nat) (sz : Nat) (r : Nat) (hn : M 0 0 = nI n) (h9 : n ≤ 9) (hsz : M 10 0 = nI sz) (h12 : sz ≤ 12) (h_r : r < 9) : zC yy_X4_askRecount 0 0 [.ref 0, .int (nI r)] sh_Office M (some (.int (g_X4_askRecount M n sz r).1)) sh_Office (g_X4_askRecount M n sz r).2 := by
  refine zC.of (by decide +kernel) rfl (Nat.le_of_ble_eq_true rfl) ?_
  refine zT.run [(.aload_n 0, 0, 0, 0), (.getfield 33, 2, 8, 1184), (.getfield 80, 0, 0, 1089), (.iconst 3, 0, 0, 0)] (pe := 8) (ls' := [some (.ref 0), some (.int (nI r)), none]) (st' := [.int 3, .int (M 7 0)]) (M' := M) (by decide +kernel) rfl ?_
  refine zT.ceq (tgt := 14) (off := 6) (by decide +kernel) (by decide) (fun (c1 : (M 7 0) = 3) => ?_) (fun (c1 : ¬ (M 7 0) = 3) => ?_)
  · skip
    refine zT.run [(.aload_n 0, 0, 0, 0), (.getfield 33, 2, 8, 1184), (.iload_n 1, 0, 0, 0)] (pe := 19) (ls' := [some (.ref 0), some (.int (nI r)), none]) (st' := [.int (nI r), .ref 7]) (M' := M) (by decide +kernel) rfl ?_
    refine zT.cV_pure 7 (o := 0) (idx := 110) (av := [.int (nI r)]) (rv := (some (.int (g_X1_isOnRoll (zPl M 7) (nI r))))) (st := []) (S1 := [.int (g_X1_isOnRoll (zPl M 7) (nI r))]) (c_X1_isOnRoll (zPl M 7) (nI r)) sub_Office_7_Ballot k_X1_isOnRoll _ _ rfl rfl rfl (zIn (w := 2059) (by decide +kernel) rfl) (by decide +kernel) (by decide +kernel) rfl (Nat.le_of_ble_eq_true rfl) rfl ?_
    refine zT.zne (tgt := 28) (off := 6) (by decide +kernel) (by decide) (fun (c2 : ¬ (g_X1_isOnRoll (zPl M 7) (nI r)) = 0) => ?_) (fun (c2 : (g_X1_isOnRoll (zPl M 7) (nI r)) = 0) => ?_)
    · skip
      refine zT.run [(.aload_n 0, 0, 0, 0), (.getfield 55, 2, 1, 1174), (.iload_n 1, 0, 0, 0)] (pe := 33) (ls' := [some (.ref 0), some (.int (nI r)), none]) (st' := [.int (nI r), .int (M 0 1)]) (M' := M) (by decide +kernel) rfl ?_
      refine zT.cN_nil "SealedBallots" (idx := 83) (av := [.int (M 0 1), .int (nI r)]) (rv := (some (.int (g_X9_has (M 0 1) (nI r))))) (st := []) (S1 := [.int (g_X9_has (M 0 1) (nI r))]) (c_X9_has (M 0 1) (nI r)) k_X9_has rfl (zInN (w := 2017) (by decide +kernel) rfl) (by decide +kernel) (by decide +kernel) rfl (Nat.le_of_ble_eq_true rfl) rfl ?_
      refine zT.zne (tgt := 42) (off := 6) (by decide +kernel) (by decide) (fun (c3 : ¬ (g_X9_has (M 0 1) (nI r)) = 0) => ?_) (fun (c3 : (g_X9_has (M 0 1) (nI r)) = 0) => ?_)
      · skip
        refine zT.run [(.aload_n 0, 0, 0, 0), (.getfield 40, 2, 9, 1186), (.iconst 0, 0, 0, 0), (.iconst 1, 0, 0, 0)] (pe := 48) (ls' := [some (.ref 0), some (.int (nI r)), none]) (st' := [.int 1, .int 0, .ref 10]) (M' := M) (by decide +kernel) rfl ?_
        refine zT.cV_pure 10 (o := 0) (idx := 174) (av := [.int 0, .int (nI 1)]) (rv := (some (.int (g_X6_tell (zPl M 10) sz 0 1)))) (st := []) (S1 := [.int (g_X6_tell (zPl M 10) sz 0 1)]) (c_X6_tell (zPl M 10) sz 0 1 hsz h12 (by omega)) sub_Office_10_Outcomes k_X6_tell _ _ rfl rfl rfl (zIn (w := 3074) (by decide +kernel) rfl) (by decide +kernel) (by decide +kernel) rfl (Nat.le_of_ble_eq_true rfl) rfl ?_
        refine zT.run [(.istore_n 2, 0, 0, 0), (.iload_n 2, 0, 0, 0), (.iload_n 1, 0, 0, 0)] (pe := 54) (ls' := [some (.ref 0), some (.int (nI r)), some (.int (g_X6_tell (zPl M 10) sz 0 1))]) (st' := [.int (nI r), .int (g_X6_tell (zPl M 10) sz 0 1)]) (M' := M) (by decide +kernel) rfl ?_
        refine zT.cne (tgt := 60) (off := 6) (by decide +kernel) (by decide) (fun (c4 : ¬ (g_X6_tell (zPl M 10) sz 0 1) = (nI r)) => ?_) (fun (c4 : (g_X6_tell (zPl M 10) sz 0 1) = (nI r)) => ?_)
        · skip
          refine zT.run [(.aload_n 0, 0, 0, 0), (.getfield 33, 2, 8, 1184), (.getfield 177, 0, 4, 1098), (.aload_n 0, 0, 0, 0), (.getfield 9, 2, 2, 1176), (.iconst 2, 0, 0, 0)] (pe := 72) (ls' := [some (.ref 0), some (.int (nI r)), some (.int (g_X6_tell (zPl M 10) sz 0 1))]) (st' := [.int 2, .ref 1, .int (M 7 4)]) (M' := M) (by decide +kernel) rfl ?_
          refine zT.iald (n := 3) (k := 2) rfl rfl (by decide) (by decide) (by decide +kernel) ?_
          refine zT.clt (tgt := 79) (off := 6) (by decide +kernel) (by decide) (fun (c5 : (M 7 4) < (M 1 2)) => ?_) (fun (c5 : ¬ (M 7 4) < (M 1 2)) => ?_)
          · skip
            refine zT.run [(.aload_n 0, 0, 0, 0), (.getfield 33, 2, 8, 1184), (.dup, 0, 0, 0), (.getfield 177, 0, 4, 1098), (.iconst 1, 0, 0, 0), (.iadd, 0, 0, 0), (.putfield 177, 0, 4, 1098), (.aload_n 0, 0, 0, 0), (.getfield 33, 2, 8, 1184), (.iconst 2, 0, 0, 0), (.putfield 80, 0, 0, 1089), (.aload_n 0, 0, 0, 0), (.getfield 40, 2, 9, 1186)] (pe := 104) (ls' := [some (.ref 0), some (.int (nI r)), some (.int (g_X6_tell (zPl M 10) sz 0 1))]) (st' := [.ref 10]) (M' := (zU (zU M 7 4 ((M 7 4) + 1)) 7 0 2)) (by decide +kernel) rfl ?_
            refine zT.cV_sub 10 (o := 0) (idx := 180) (av := []) (rv := none) (st := []) (S1 := []) (c_X6_dropLatest (zPl (zU (zU M 7 4 ((M 7 4) + 1)) 7 0 2) 10)) sub_Office_10_Outcomes k_X6_dropLatest _ _ rfl rfl rfl (zIn (w := 3078) (by decide +kernel) rfl) (by decide +kernel) (by decide +kernel) rfl (Nat.le_of_ble_eq_true rfl) rfl ?_
            refine zT.run [(.aload_n 0, 0, 0, 0), (.aload_n 0, 0, 0, 0), (.getfield 33, 2, 8, 1184), (.getfield 149, 0, 3, 1096), (.iload_n 2, 0, 0, 0)] (pe := 116) (ls' := [some (.ref 0), some (.int (nI r)), some (.int (g_X6_tell (zPl M 10) sz 0 1))]) (st' := [.int (g_X6_tell (zPl M 10) sz 0 1), .int (M 7 3), .ref 0]) (M' := (zPs (zU (zU M 7 4 ((M 7 4) + 1)) 7 0 2) 10 2 (g_X6_dropLatest (zPl (zU (zU M 7 4 ((M 7 4) + 1)) 7 0 2) 10)))) (by decide +kernel) rfl ?_
            refine zT.cV_all (o := 0) (idx := 183) (av := [.int (M 7 3), .int (g_X6_tell (zPl M 10) sz 0 1)]) (rv := none) (st := []) (S1 := []) (c_X4_forgetLeader (zPs (zU (zU M 7 4 ((M 7 4) + 1)) 7 0 2) 10 2 (g_X6_dropLatest (zPl (zU (zU M 7 4 ((M 7 4) + 1)) 7 0 2) 10))) n (M 7 3) (g_X6_tell (zPl M 10) sz 0 1) hn h9) k_X4_forgetLeader _ _ rfl rfl rfl (zIn (w := 3082) (by decide +kernel) rfl) (by decide +kernel) (by decide +kernel) rfl (Nat.le_of_ble_eq_true rfl) rfl ?_
            refine zT.eqM (M2 := (m_X4_askRecount_1 M n sz r)) rfl ?_
            refine zT.run [(.aload_n 0, 0, 0, 0), (.getfield 33, 2, 8, 1184)] (pe := 123) (ls' := [some (.ref 0), some (.int (nI r)), some (.int (g_X6_tell (zPl M 10) sz 0 1))]) (st' := [.ref 7]) (M' := (m_X4_askRecount_1 M n sz r)) (by decide +kernel) rfl ?_
            refine zT.cV_sub 7 (o := 0) (idx := 186) (av := []) (rv := (some (.int (g_X1_sealMisfitsAgain (zPl (m_X4_askRecount_1 M n sz r) 7)).1))) (st := []) (S1 := [.int (g_X1_sealMisfitsAgain (zPl (m_X4_askRecount_1 M n sz r) 7)).1]) (c_X1_sealMisfitsAgain (zPl (m_X4_askRecount_1 M n sz r) 7)) sub_Office_7_Ballot k_X1_sealMisfitsAgain _ _ rfl rfl rfl (zIn (w := 3086) (by decide +kernel) rfl) (by decide +kernel) (by decide +kernel) rfl (Nat.le_of_ble_eq_true rfl) rfl ?_
            exact zT.iret (ty := Jvm.ClassFile.FieldType.int) (by simp only [g_X4_askRecount, if_pos c1, if_neg c2, if_neg c3, if_neg c4, if_pos c5]; try rfl) (by simp only [g_X4_askRecount, if_pos c1, if_neg c2, if_neg c3, if_neg c4, if_pos c5]; try rfl) rfl rfl (by decide +kernel)
          · skip
            refine zT.run [(.bipush (-14), 0, 0, 0)] (pe := 78) (ls' := [some (.ref 0), some (.int (nI r)), some (.int (g_X6_tell (zPl M 10) sz 0 1))]) (st' := [.int (-14)]) (M' := M) (by decide +kernel) rfl ?_
            exact zT.iret (ty := Jvm.ClassFile.FieldType.int) (by simp only [g_X4_askRecount, if_pos c1, if_neg c2, if_neg c3, if_neg c4, if_neg c5]; try rfl) (by simp only [g_X4_askRecount, if_pos c1, if_neg c2, if_neg c3, if_neg c4, if_neg c5]; try rfl) rfl rfl (by decide +kernel)
        · skip
          refine zT.run [(.bipush (-15), 0, 0, 0)] (pe := 59) (ls' := [some (.ref 0), some (.int (nI r)), some (.int (g_X6_tell (zPl M 10) sz 0 1))]) (st' := [.int (-15)]) (M' := M) (by decide +kernel) rfl ?_
          exact zT.iret (ty := Jvm.ClassFile.FieldType.int) (by simp only [g_X4_askRecount, if_pos c1, if_neg c2, if_neg c3, if_pos c4]; try rfl) (by simp only [g_X4_askRecount, if_pos c1, if_neg c2, if_neg c3, if_pos c4]; try rfl) rfl rfl (by decide +kernel)
      · skip
        refine zT.run [(.bipush (-3), 0, 0, 0)] (pe := 41) (ls' := [some (.ref 0), some (.int (nI r)), none]) (st' := [.int (-3)]) (M' := M) (by decide +kernel) rfl ?_
        exact zT.iret (ty := Jvm.ClassFile.FieldType.int) (by simp only [g_X4_askRecount, if_pos c1, if_neg c2, if_pos c3]; try rfl) (by simp only [g_X4_askRecount, if_pos c1, if_neg c2, if_pos c3]; try rfl) rfl rfl (by decide +kernel)
    · skip
      refine zT.run [(.bipush (-6), 0, 0, 0)] (pe := 27) (ls' := [some (.ref 0), some (.int (nI r)), none]) (st' := [.int (-6)]) (M' := M) (by decide +kernel) rfl ?_
      exact zT.iret (ty := Jvm.ClassFile.FieldType.int) (by simp only [g_X4_askRecount, if_pos c1, if_pos c2]; try rfl) (by simp only [g_X4_askRecount, if_pos c1, if_pos c2]; try rfl) rfl rfl (by decide +kernel)
  · skip
    refine zT.run [(.bipush (-13), 0, 0, 0)] (pe := 13) (ls' := [some (.ref 0), some (.int (nI r)), none]) (st' := [.int (-13)]) (M' := M) (by decide +kernel) rfl ?_
    exact zT.iret (ty := Jvm.ClassFile.FieldType.int) (by simp only [g_X4_askRecount, if_neg c1]; try rfl) (by simp only [g_X4_askRecount, if_neg c1]; try rfl) rfl rfl (by decide +kernel)
theorem fr_X4_askRecount (M : zM) (n : Nat) (sz : Nat) (r : Nat) (o : Nat) (ho : o ≠ 5 ∧ o ≠ 7 ∧ o ≠ 9 ∧ o ≠ 10) : (g_X4_askRecount M n sz r).2 o = M o := by
  simp only [g_X4_askRecount]
  (repeat' split) <;> simp only [zU_ne ho.1, zU_ne ho.2.1, zU_ne ho.2.2.1, zU_ne ho.2.2.2, zUa_ne ho.1, zUa_ne ho.2.1, zUa_ne ho.2.2.1, zUa_ne ho.2.2.2, (fun (MM : zM) => zPs_fr (M := MM) (b := 7) (n := 3) (N := (g_X1_sealMisfitsAgain (zPl MM 7)).2) (o := o) (fun j hj e => fr_X1_sealMisfitsAgain (zPl MM 7) j (by omega))), m_X4_askRecount_1, (fun (MM : zM) (n : Nat) (set : Int32) (ld : Int32) => fr_X4_forgetLeader MM n set ld o (by omega)), (fun (MM : zM) => zPs_fr (M := MM) (b := 10) (n := 2) (N := (g_X6_dropLatest (zPl MM 10))) (o := o) (fun j hj e => fr_X6_dropLatest (zPl MM 10) j (by omega)))]
theorem k_X4_askRecount : zCal yy_X4_askRecount 1 := ⟨⟨⟨⟨zIn (w := 3073) (by decide +kernel) rfl, zIn (w := 1004) (by decide +kernel) rfl⟩, by decide +kernel⟩, by decide +kernel⟩, ⟨zIn (w := 3071) (by decide +kernel) rfl, zIn (w := 3072) (by decide +kernel) rfl⟩⟩
noncomputable abbrev yy_X4_whyNotChosen : zY := (yX4_whyNotChosen, cX4_whyNotChosen, 3, (some Jvm.ClassFile.FieldType.int), 3, 69)
noncomputable def g_X4_whyNotChosen (M : zM) (sz : Nat) (r : Nat) : Int32 × zM := (if (M 10 0) = 0 then (1, M) else (if (g_X6_tell (zPl M 10) sz 0 1) = (nI r) then (0, M) else (if (M 7 0) = 0 then (2, M) else (if (M 7 1) = (g_X6_tell (zPl M 10) sz 0 0) then (if (g_X1_isOnRoll (zPl M 7) (nI r)) = 0 then (3, M) else (if ((g_X7_take M (-1) 0) 12 1) ≤ ((g_X7_take M (-1) 0) 13 r) then (if (g_X7_aheadBy (g_X7_take M (-1) 0) (g_X6_tell (zPl (g_X7_take M (-1) 0) 10) sz 0 7)) = (-1) then (6, (g_X7_take M (-1) 0)) else (if (g_X7_aheadBy (g_X7_take M (-1) 0) (g_X6_tell (zPl (g_X7_take M (-1) 0) 10) sz 0 7)) = (nI r) then (7, (g_X7_take M (-1) 0)) else (5, (g_X7_take M (-1) 0)))) else (4, (g_X7_take M (-1) 0)))) else (2, M)))))
set_option maxRecDepth 100000 in
theorem c_X4_whyNotChosen (M : zM) (sz : Nat) (r : Nat) (hsz : M 10 0 = nI sz) (h12 : sz ≤ 12) (h_r : r < 9) : zC yy_X4_whyNotChosen 0 0 [.ref 0, .int (nI r)] sh_Office M (some (.int (g_X4_whyNotChosen M sz r).1)) sh_Office (g_X4_whyNotChosen M sz r).2 := by
  refine zC.of (by decide +kernel) rfl (Nat.le_of_ble_eq_true rfl) ?_
  refine zT.run [(.aload_n 0, 0, 0, 0), (.getfield 40, 2, 9, 1186), (.getfield 70, 4, 0, 1137)] (pe := 7) (ls' := [some (.ref 0), some (.int (nI r)), none]) (st' := [.int (M 10 0)]) (M' := M) (by decide +kernel) rfl ?_
  refine zT.zne (tgt := 12) (off := 5) (by decide +kernel) (by decide) (fun (c1 : ¬ (M 10 0) = 0) => ?_) (fun (c1 : (M 10 0) = 0) => ?_)
  · skip
    refine zT.run [(.aload_n 0, 0, 0, 0), (.getfield 40, 2, 9, 1186), (.iconst 0, 0, 0, 0), (.iconst 1, 0, 0, 0)] (pe := 18) (ls' := [some (.ref 0), some (.int (nI r)), none]) (st' := [.int 1, .int 0, .ref 10]) (M' := M) (by decide +kernel) rfl ?_
    refine zT.cV_pure 10 (o := 0) (idx := 174) (av := [.int 0, .int (nI 1)]) (rv := (some (.int (g_X6_tell (zPl M 10) sz 0 1)))) (st := []) (S1 := [.int (g_X6_tell (zPl M 10) sz 0 1)]) (c_X6_tell (zPl M 10) sz 0 1 hsz h12 (by omega)) sub_Office_10_Outcomes k_X6_tell _ _ rfl rfl rfl (zIn (w := 3074) (by decide +kernel) rfl) (by decide +kernel) (by decide +kernel) rfl (Nat.le_of_ble_eq_true rfl) rfl ?_
    refine zT.run [(.iload_n 1, 0, 0, 0)] (pe := 22) (ls' := [some (.ref 0), some (.int (nI r)), none]) (st' := [.int (nI r), .int (g_X6_tell (zPl M 10) sz 0 1)]) (M' := M) (by decide +kernel) rfl ?_
    refine zT.cne (tgt := 27) (off := 5) (by decide +kernel) (by decide) (fun (c2 : ¬ (g_X6_tell (zPl M 10) sz 0 1) = (nI r)) => ?_) (fun (c2 : (g_X6_tell (zPl M 10) sz 0 1) = (nI r)) => ?_)
    · skip
      refine zT.run [(.aload_n 0, 0, 0, 0), (.getfield 33, 2, 8, 1184), (.getfield 80, 0, 0, 1089)] (pe := 34) (ls' := [some (.ref 0), some (.int (nI r)), none]) (st' := [.int (M 7 0)]) (M' := M) (by decide +kernel) rfl ?_
      refine zT.zeq (tgt := 56) (off := 22) (by decide +kernel) (by decide) (fun (c3 : (M 7 0) = 0) => ?_) (fun (c3 : ¬ (M 7 0) = 0) => ?_)
      · skip
        refine zT.run [(.iconst 2, 0, 0, 0)] (pe := 57) (ls' := [some (.ref 0), some (.int (nI r)), none]) (st' := [.int 2]) (M' := M) (by decide +kernel) rfl ?_
        exact zT.iret (ty := Jvm.ClassFile.FieldType.int) (by simp only [g_X4_whyNotChosen, if_neg c1, if_neg c2, if_pos c3]; try rfl) (by simp only [g_X4_whyNotChosen, if_neg c1, if_neg c2, if_pos c3]; try rfl) rfl rfl (by decide +kernel)
      · skip
        refine zT.run [(.aload_n 0, 0, 0, 0), (.getfield 33, 2, 8, 1184), (.getfield 99, 0, 1, 1091), (.aload_n 0, 0, 0, 0), (.getfield 40, 2, 9, 1186), (.iconst 0, 0, 0, 0), (.iconst 0, 0, 0, 0)] (pe := 50) (ls' := [some (.ref 0), some (.int (nI r)), none]) (st' := [.int 0, .int 0, .ref 10, .int (M 7 1)]) (M' := M) (by decide +kernel) rfl ?_
        refine zT.cV_pure 10 (o := 0) (idx := 174) (av := [.int 0, .int (nI 0)]) (rv := (some (.int (g_X6_tell (zPl M 10) sz 0 0)))) (st := [.int (M 7 1)]) (S1 := [.int (g_X6_tell (zPl M 10) sz 0 0), .int (M 7 1)]) (c_X6_tell (zPl M 10) sz 0 0 hsz h12 (by omega)) sub_Office_10_Outcomes k_X6_tell _ _ rfl rfl rfl (zIn (w := 3074) (by decide +kernel) rfl) (by decide +kernel) (by decide +kernel) rfl (Nat.le_of_ble_eq_true rfl) rfl ?_
        refine zT.ceq (tgt := 58) (off := 5) (by decide +kernel) (by decide) (fun (c4 : (M 7 1) = (g_X6_tell (zPl M 10) sz 0 0)) => ?_) (fun (c4 : ¬ (M 7 1) = (g_X6_tell (zPl M 10) sz 0 0)) => ?_)
        · skip
          refine zT.run [(.aload_n 0, 0, 0, 0), (.getfield 33, 2, 8, 1184), (.iload_n 1, 0, 0, 0)] (pe := 63) (ls' := [some (.ref 0), some (.int (nI r)), none]) (st' := [.int (nI r), .ref 7]) (M' := M) (by decide +kernel) rfl ?_
          refine zT.cV_pure 7 (o := 0) (idx := 110) (av := [.int (nI r)]) (rv := (some (.int (g_X1_isOnRoll (zPl M 7) (nI r))))) (st := []) (S1 := [.int (g_X1_isOnRoll (zPl M 7) (nI r))]) (c_X1_isOnRoll (zPl M 7) (nI r)) sub_Office_7_Ballot k_X1_isOnRoll _ _ rfl rfl rfl (zIn (w := 2059) (by decide +kernel) rfl) (by decide +kernel) (by decide +kernel) rfl (Nat.le_of_ble_eq_true rfl) rfl ?_
          refine zT.zne (tgt := 71) (off := 5) (by decide +kernel) (by decide) (fun (c5 : ¬ (g_X1_isOnRoll (zPl M 7) (nI r)) = 0) => ?_) (fun (c5 : (g_X1_isOnRoll (zPl M 7) (nI r)) = 0) => ?_)
          · skip
            refine zT.run [(.aload_n 0, 0, 0, 0), (.getfield 47, 2, 10, 1188), (.aload_n 0, 0, 0, 0), (.getfield 33, 2, 8, 1184), (.aload_n 0, 0, 0, 0), (.getfield 15, 2, 3, 1178), (.iconst (-1), 0, 0, 0), (.iconst 0, 0, 0, 0)] (pe := 85) (ls' := [some (.ref 0), some (.int (nI r)), none]) (st' := [.int 0, .int (-1), .ref 2, .ref 7, .ref 12]) (M' := M) (by decide +kernel) rfl ?_
            refine zT.cV_all (o := 12) (idx := 142) (av := [.ref 7, .ref 2, .int (-1), .int 0]) (rv := none) (st := []) (S1 := []) (c_X7_take M (-1) 0) k_X7_take _ _ rfl rfl rfl (zIn (w := 3036) (by decide +kernel) rfl) (by decide +kernel) (by decide +kernel) rfl (Nat.le_of_ble_eq_true rfl) rfl ?_
            refine zT.run [(.aload_n 0, 0, 0, 0), (.getfield 47, 2, 10, 1188), (.getfield 215, 5, 0, 1151), (.iload_n 1, 0, 0, 0)] (pe := 96) (ls' := [some (.ref 0), some (.int (nI r)), none]) (st' := [.int (nI r), .ref 13]) (M' := (g_X7_take M (-1) 0)) (by decide +kernel) rfl ?_
            refine zT.iald (n := 9) (k := r) rfl rfl (by omega) (by decide) (by decide +kernel) ?_
            refine zT.run [(.aload_n 0, 0, 0, 0), (.getfield 47, 2, 10, 1188), (.getfield 162, 5, 1, 1153)] (pe := 104) (ls' := [some (.ref 0), some (.int (nI r)), none]) (st' := [.int ((g_X7_take M (-1) 0) 12 1), .int ((g_X7_take M (-1) 0) 13 r)]) (M' := (g_X7_take M (-1) 0)) (by decide +kernel) rfl ?_
            refine zT.cge (tgt := 109) (off := 5) (by decide +kernel) (by decide) (fun (c6 : ((g_X7_take M (-1) 0) 12 1) ≤ ((g_X7_take M (-1) 0) 13 r)) => ?_) (fun (c6 : ¬ ((g_X7_take M (-1) 0) 12 1) ≤ ((g_X7_take M (-1) 0) 13 r)) => ?_)
            · skip
              refine zT.run [(.aload_n 0, 0, 0, 0), (.getfield 47, 2, 10, 1188), (.aload_n 0, 0, 0, 0), (.getfield 40, 2, 9, 1186), (.iconst 0, 0, 0, 0), (.bipush 7, 0, 0, 0)] (pe := 120) (ls' := [some (.ref 0), some (.int (nI r)), none]) (st' := [.int 7, .int 0, .ref 10, .ref 12]) (M' := (g_X7_take M (-1) 0)) (by decide +kernel) rfl ?_
              refine zT.cV_pure 10 (o := 0) (idx := 174) (av := [.int 0, .int (nI 7)]) (rv := (some (.int (g_X6_tell (zPl (g_X7_take M (-1) 0) 10) sz 0 7)))) (st := [.ref 12]) (S1 := [.int (g_X6_tell (zPl (g_X7_take M (-1) 0) 10) sz 0 7), .ref 12]) (c_X6_tell (zPl (g_X7_take M (-1) 0) 10) sz 0 7 ((congrFun (fr_X7_take M (-1) 0 10 (by decide)) 0).trans hsz) h12 (by omega)) sub_Office_10_Outcomes k_X6_tell _ _ rfl rfl rfl (zIn (w := 3074) (by decide +kernel) rfl) (by decide +kernel) (by decide +kernel) rfl (Nat.le_of_ble_eq_true rfl) rfl ?_
              refine zT.cV_own (o := 12) (idx := 218) (av := [.int (g_X6_tell (zPl (g_X7_take M (-1) 0) 10) sz 0 7)]) (rv := (some (.int (g_X7_aheadBy (g_X7_take M (-1) 0) (g_X6_tell (zPl (g_X7_take M (-1) 0) 10) sz 0 7))))) (st := []) (S1 := [.int (g_X7_aheadBy (g_X7_take M (-1) 0) (g_X6_tell (zPl (g_X7_take M (-1) 0) 10) sz 0 7))]) (c_X7_aheadBy (g_X7_take M (-1) 0) (g_X6_tell (zPl (g_X7_take M (-1) 0) 10) sz 0 7)) k_X7_aheadBy _ _ rfl rfl rfl (zIn (w := 5078) (by decide +kernel) rfl) (by decide +kernel) (by decide +kernel) rfl (Nat.le_of_ble_eq_true rfl) rfl ?_
              refine zT.run [(.istore_n 2, 0, 0, 0), (.iload_n 2, 0, 0, 0), (.iconst (-1), 0, 0, 0)] (pe := 129) (ls' := [some (.ref 0), some (.int (nI r)), some (.int (g_X7_aheadBy (g_X7_take M (-1) 0) (g_X6_tell (zPl (g_X7_take M (-1) 0) 10) sz 0 7)))]) (st' := [.int (-1), .int (g_X7_aheadBy (g_X7_take M (-1) 0) (g_X6_tell (zPl (g_X7_take M (-1) 0) 10) sz 0 7))]) (M' := (g_X7_take M (-1) 0)) (by decide +kernel) rfl ?_
              refine zT.cne (tgt := 135) (off := 6) (by decide +kernel) (by decide) (fun (c7 : ¬ (g_X7_aheadBy (g_X7_take M (-1) 0) (g_X6_tell (zPl (g_X7_take M (-1) 0) 10) sz 0 7)) = (-1)) => ?_) (fun (c7 : (g_X7_aheadBy (g_X7_take M (-1) 0) (g_X6_tell (zPl (g_X7_take M (-1) 0) 10) sz 0 7)) = (-1)) => ?_)
              · skip
                refine zT.run [(.iload_n 2, 0, 0, 0), (.iload_n 1, 0, 0, 0)] (pe := 137) (ls' := [some (.ref 0), some (.int (nI r)), some (.int (g_X7_aheadBy (g_X7_take M (-1) 0) (g_X6_tell (zPl (g_X7_take M (-1) 0) 10) sz 0 7)))]) (st' := [.int (nI r), .int (g_X7_aheadBy (g_X7_take M (-1) 0) (g_X6_tell (zPl (g_X7_take M (-1) 0) 10) sz 0 7))]) (M' := (g_X7_take M (-1) 0)) (by decide +kernel) rfl ?_
                refine zT.cne (tgt := 145) (off := 8) (by decide +kernel) (by decide) (fun (c8 : ¬ (g_X7_aheadBy (g_X7_take M (-1) 0) (g_X6_tell (zPl (g_X7_take M (-1) 0) 10) sz 0 7)) = (nI r)) => ?_) (fun (c8 : (g_X7_aheadBy (g_X7_take M (-1) 0) (g_X6_tell (zPl (g_X7_take M (-1) 0) 10) sz 0 7)) = (nI r)) => ?_)
                · skip
                  refine zT.run [(.iconst 5, 0, 0, 0)] (pe := 146) (ls' := [some (.ref 0), some (.int (nI r)), some (.int (g_X7_aheadBy (g_X7_take M (-1) 0) (g_X6_tell (zPl (g_X7_take M (-1) 0) 10) sz 0 7)))]) (st' := [.int 5]) (M' := (g_X7_take M (-1) 0)) (by decide +kernel) rfl ?_
                  exact zT.iret (ty := Jvm.ClassFile.FieldType.int) (by simp only [g_X4_whyNotChosen, if_neg c1, if_neg c2, if_neg c3, if_pos c4, if_neg c5, if_pos c6, if_neg c7, if_neg c8]; try rfl) (by simp only [g_X4_whyNotChosen, if_neg c1, if_neg c2, if_neg c3, if_pos c4, if_neg c5, if_pos c6, if_neg c7, if_neg c8]; try rfl) rfl rfl (by decide +kernel)
                · skip
                  refine zT.run [(.bipush 7, 0, 0, 0), (.goto 4, 0, 0, 0)] (pe := 146) (ls' := [some (.ref 0), some (.int (nI r)), some (.int (g_X7_aheadBy (g_X7_take M (-1) 0) (g_X6_tell (zPl (g_X7_take M (-1) 0) 10) sz 0 7)))]) (st' := [.int 7]) (M' := (g_X7_take M (-1) 0)) (by decide +kernel) rfl ?_
                  exact zT.iret (ty := Jvm.ClassFile.FieldType.int) (by simp only [g_X4_whyNotChosen, if_neg c1, if_neg c2, if_neg c3, if_pos c4, if_neg c5, if_pos c6, if_neg c7, if_pos c8]; try rfl) (by simp only [g_X4_whyNotChosen, if_neg c1, if_neg c2, if_neg c3, if_pos c4, if_neg c5, if_pos c6, if_neg c7, if_pos c8]; try rfl) rfl rfl (by decide +kernel)
              · skip
                refine zT.run [(.bipush 6, 0, 0, 0)] (pe := 134) (ls' := [some (.ref 0), some (.int (nI r)), some (.int (g_X7_aheadBy (g_X7_take M (-1) 0) (g_X6_tell (zPl (g_X7_take M (-1) 0) 10) sz 0 7)))]) (st' := [.int 6]) (M' := (g_X7_take M (-1) 0)) (by decide +kernel) rfl ?_
                exact zT.iret (ty := Jvm.ClassFile.FieldType.int) (by simp only [g_X4_whyNotChosen, if_neg c1, if_neg c2, if_neg c3, if_pos c4, if_neg c5, if_pos c6, if_pos c7]; try rfl) (by simp only [g_X4_whyNotChosen, if_neg c1, if_neg c2, if_neg c3, if_pos c4, if_neg c5, if_pos c6, if_pos c7]; try rfl) rfl rfl (by decide +kernel)
            · skip
              refine zT.run [(.iconst 4, 0, 0, 0)] (pe := 108) (ls' := [some (.ref 0), some (.int (nI r)), none]) (st' := [.int 4]) (M' := (g_X7_take M (-1) 0)) (by decide +kernel) rfl ?_
              exact zT.iret (ty := Jvm.ClassFile.FieldType.int) (by simp only [g_X4_whyNotChosen, if_neg c1, if_neg c2, if_neg c3, if_pos c4, if_neg c5, if_neg c6]; try rfl) (by simp only [g_X4_whyNotChosen, if_neg c1, if_neg c2, if_neg c3, if_pos c4, if_neg c5, if_neg c6]; try rfl) rfl rfl (by decide +kernel)
          · skip
            refine zT.run [(.iconst 3, 0, 0, 0)] (pe := 70) (ls' := [some (.ref 0), some (.int (nI r)), none]) (st' := [.int 3]) (M' := M) (by decide +kernel) rfl ?_
            exact zT.iret (ty := Jvm.ClassFile.FieldType.int) (by simp only [g_X4_whyNotChosen, if_neg c1, if_neg c2, if_neg c3, if_pos c4, if_pos c5]; try rfl) (by simp only [g_X4_whyNotChosen, if_neg c1, if_neg c2, if_neg c3, if_pos c4, if_pos c5]; try rfl) rfl rfl (by decide +kernel)
        · skip
          refine zT.run [(.iconst 2, 0, 0, 0)] (pe := 57) (ls' := [some (.ref 0), some (.int (nI r)), none]) (st' := [.int 2]) (M' := M) (by decide +kernel) rfl ?_
          exact zT.iret (ty := Jvm.ClassFile.FieldType.int) (by simp only [g_X4_whyNotChosen, if_neg c1, if_neg c2, if_neg c3, if_neg c4]; try rfl) (by simp only [g_X4_whyNotChosen, if_neg c1, if_neg c2, if_neg c3, if_neg c4]; try rfl) rfl rfl (by decide +kernel)
    · skip
      refine zT.run [(.iconst 0, 0, 0, 0)] (pe := 26) (ls' := [some (.ref 0), some (.int (nI r)), none]) (st' := [.int 0]) (M' := M) (by decide +kernel) rfl ?_
      exact zT.iret (ty := Jvm.ClassFile.FieldType.int) (by simp only [g_X4_whyNotChosen, if_neg c1, if_pos c2]; try rfl) (by simp only [g_X4_whyNotChosen, if_neg c1, if_pos c2]; try rfl) rfl rfl (by decide +kernel)
  · skip
    refine zT.run [(.iconst 1, 0, 0, 0)] (pe := 11) (ls' := [some (.ref 0), some (.int (nI r)), none]) (st' := [.int 1]) (M' := M) (by decide +kernel) rfl ?_
    exact zT.iret (ty := Jvm.ClassFile.FieldType.int) (by simp only [g_X4_whyNotChosen, if_pos c1]; try rfl) (by simp only [g_X4_whyNotChosen, if_pos c1]; try rfl) rfl rfl (by decide +kernel)
theorem fr_X4_whyNotChosen (M : zM) (sz : Nat) (r : Nat) (o : Nat) (ho : o ≠ 12 ∧ o ≠ 13) : (g_X4_whyNotChosen M sz r).2 o = M o := by
  simp only [g_X4_whyNotChosen]
  (repeat' split) <;> simp only [zU_ne ho.1, zU_ne ho.2, zUa_ne ho.1, zUa_ne ho.2, (fun (MM : zM) (f : Int32) (m : Int32) => fr_X7_take MM f m o (by omega))]
theorem k_X4_whyNotChosen : zCal yy_X4_whyNotChosen 1 := ⟨⟨⟨⟨zIn (w := 5077) (by decide +kernel) rfl, zIn (w := 1004) (by decide +kernel) rfl⟩, by decide +kernel⟩, by decide +kernel⟩, ⟨zIn (w := 5075) (by decide +kernel) rfl, zIn (w := 5076) (by decide +kernel) rfl⟩⟩
noncomputable abbrev yy_X4_causeFor : zY := (yX4_causeFor, cX4_causeFor, 4, (some Jvm.ClassFile.FieldType.int), 4, 91)
noncomputable def g_X4_causeFor (M : zM) (sz : Nat) (r : Nat) : Int32 × zM := (if (g_X4_whyNotChosen M sz r).1 = 4 then (if (g_X7_aheadBy (g_X4_whyNotChosen M sz r).2 (g_X6_tell (zPl (g_X4_whyNotChosen M sz r).2 10) sz 0 7)) = (-1) then (((g_X4_whyNotChosen M sz r).2 12 3), (g_X4_whyNotChosen M sz r).2) else ((g_X7_aheadBy (g_X4_whyNotChosen M sz r).2 (g_X6_tell (zPl (g_X4_whyNotChosen M sz r).2 10) sz 0 7)), (g_X4_whyNotChosen M sz r).2)) else (if (g_X4_whyNotChosen M sz r).1 = 5 then (((g_X4_whyNotChosen M sz r).2 12 4), (g_X4_whyNotChosen M sz r).2) else (if (g_X4_whyNotChosen M sz r).1 = 6 then (((g_X4_whyNotChosen M sz r).2 12 2), (g_X4_whyNotChosen M sz r).2) else (if (g_X4_whyNotChosen M sz r).1 = 7 then (((g_X6_tell (zPl (g_X4_whyNotChosen M sz r).2 10) sz 0 6) - ((g_X4_whyNotChosen M sz r).2 13 r)), (g_X4_whyNotChosen M sz r).2) else ((-1), (g_X4_whyNotChosen M sz r).2)))))
set_option maxRecDepth 100000 in
theorem c_X4_causeFor (M : zM) (sz : Nat) (r : Nat) (hsz : M 10 0 = nI sz) (h12 : sz ≤ 12) (h_r : r < 9) : zC yy_X4_causeFor 0 0 [.ref 0, .int (nI r)] sh_Office M (some (.int (g_X4_causeFor M sz r).1)) sh_Office (g_X4_causeFor M sz r).2 := by
  refine zC.of (by decide +kernel) rfl (Nat.le_of_ble_eq_true rfl) ?_
  refine zT.run [(.aload_n 0, 0, 0, 0), (.iload_n 1, 0, 0, 0)] (pe := 2) (ls' := [some (.ref 0), some (.int (nI r)), none, none]) (st' := [.int (nI r), .ref 0]) (M' := M) (by decide +kernel) rfl ?_
  refine zT.cV_all (o := 0) (idx := 221) (av := [.int (nI r)]) (rv := (some (.int (g_X4_whyNotChosen M sz r).1))) (st := []) (S1 := [.int (g_X4_whyNotChosen M sz r).1]) (c_X4_whyNotChosen M sz r hsz h12 (by omega)) k_X4_whyNotChosen _ _ rfl rfl rfl (zIn (w := 5083) (by decide +kernel) rfl) (by decide +kernel) (by decide +kernel) rfl (Nat.le_of_ble_eq_true rfl) rfl ?_
  refine zT.run [(.istore_n 2, 0, 0, 0), (.iload_n 2, 0, 0, 0)] (pe := 7) (ls' := [some (.ref 0), some (.int (nI r)), some (.int (g_X4_whyNotChosen M sz r).1), none]) (st' := [.int (g_X4_whyNotChosen M sz r).1]) (M' := (g_X4_whyNotChosen M sz r).2) (by decide +kernel) rfl ?_
  by_cases c1 : (g_X4_whyNotChosen M sz r).1 = 4
  · skip
    refine zT.tabEq (v := 4) c1 (tgt := 36) (off := 29) (dflt := 101) (lo := 4) (hi := 7) (offs := #[29, 64, 72, 80]) (len := 29) (by decide +kernel) (by decide) (by decide) (by decide) (by decide) ?_
    refine zT.run [(.aload_n 0, 0, 0, 0), (.getfield 47, 2, 10, 1188), (.aload_n 0, 0, 0, 0), (.getfield 40, 2, 9, 1186), (.iconst 0, 0, 0, 0), (.bipush 7, 0, 0, 0)] (pe := 47) (ls' := [some (.ref 0), some (.int (nI r)), some (.int (g_X4_whyNotChosen M sz r).1), none]) (st' := [.int 7, .int 0, .ref 10, .ref 12]) (M' := (g_X4_whyNotChosen M sz r).2) (by decide +kernel) rfl ?_
    refine zT.cV_pure 10 (o := 0) (idx := 174) (av := [.int 0, .int (nI 7)]) (rv := (some (.int (g_X6_tell (zPl (g_X4_whyNotChosen M sz r).2 10) sz 0 7)))) (st := [.ref 12]) (S1 := [.int (g_X6_tell (zPl (g_X4_whyNotChosen M sz r).2 10) sz 0 7), .ref 12]) (c_X6_tell (zPl (g_X4_whyNotChosen M sz r).2 10) sz 0 7 ((congrFun (fr_X4_whyNotChosen M sz r 10 (by decide)) 0).trans hsz) h12 (by omega)) sub_Office_10_Outcomes k_X6_tell _ _ rfl rfl rfl (zIn (w := 3074) (by decide +kernel) rfl) (by decide +kernel) (by decide +kernel) rfl (Nat.le_of_ble_eq_true rfl) rfl ?_
    refine zT.cV_own (o := 12) (idx := 218) (av := [.int (g_X6_tell (zPl (g_X4_whyNotChosen M sz r).2 10) sz 0 7)]) (rv := (some (.int (g_X7_aheadBy (g_X4_whyNotChosen M sz r).2 (g_X6_tell (zPl (g_X4_whyNotChosen M sz r).2 10) sz 0 7))))) (st := []) (S1 := [.int (g_X7_aheadBy (g_X4_whyNotChosen M sz r).2 (g_X6_tell (zPl (g_X4_whyNotChosen M sz r).2 10) sz 0 7))]) (c_X7_aheadBy (g_X4_whyNotChosen M sz r).2 (g_X6_tell (zPl (g_X4_whyNotChosen M sz r).2 10) sz 0 7)) k_X7_aheadBy _ _ rfl rfl rfl (zIn (w := 5078) (by decide +kernel) rfl) (by decide +kernel) (by decide +kernel) rfl (Nat.le_of_ble_eq_true rfl) rfl ?_
    refine zT.run [(.istore_n 3, 0, 0, 0), (.iload_n 3, 0, 0, 0), (.iconst (-1), 0, 0, 0)] (pe := 56) (ls' := [some (.ref 0), some (.int (nI r)), some (.int (g_X4_whyNotChosen M sz r).1), some (.int (g_X7_aheadBy (g_X4_whyNotChosen M sz r).2 (g_X6_tell (zPl (g_X4_whyNotChosen M sz r).2 10) sz 0 7)))]) (st' := [.int (-1), .int (g_X7_aheadBy (g_X4_whyNotChosen M sz r).2 (g_X6_tell (zPl (g_X4_whyNotChosen M sz r).2 10) sz 0 7))]) (M' := (g_X4_whyNotChosen M sz r).2) (by decide +kernel) rfl ?_
    refine zT.cne (tgt := 69) (off := 13) (by decide +kernel) (by decide) (fun (c2 : ¬ (g_X7_aheadBy (g_X4_whyNotChosen M sz r).2 (g_X6_tell (zPl (g_X4_whyNotChosen M sz r).2 10) sz 0 7)) = (-1)) => ?_) (fun (c2 : (g_X7_aheadBy (g_X4_whyNotChosen M sz r).2 (g_X6_tell (zPl (g_X4_whyNotChosen M sz r).2 10) sz 0 7)) = (-1)) => ?_)
    · skip
      refine zT.run [(.iload_n 3, 0, 0, 0)] (pe := 70) (ls' := [some (.ref 0), some (.int (nI r)), some (.int (g_X4_whyNotChosen M sz r).1), some (.int (g_X7_aheadBy (g_X4_whyNotChosen M sz r).2 (g_X6_tell (zPl (g_X4_whyNotChosen M sz r).2 10) sz 0 7)))]) (st' := [.int (g_X7_aheadBy (g_X4_whyNotChosen M sz r).2 (g_X6_tell (zPl (g_X4_whyNotChosen M sz r).2 10) sz 0 7))]) (M' := (g_X4_whyNotChosen M sz r).2) (by decide +kernel) rfl ?_
      exact zT.iret (ty := Jvm.ClassFile.FieldType.int) (by simp only [g_X4_causeFor, if_pos c1, if_neg c2]; try rfl) (by simp only [g_X4_causeFor, if_pos c1, if_neg c2]; try rfl) rfl rfl (by decide +kernel)
    · skip
      refine zT.run [(.aload_n 0, 0, 0, 0), (.getfield 47, 2, 10, 1188), (.getfield 224, 5, 3, 1157), (.goto 4, 0, 0, 0)] (pe := 70) (ls' := [some (.ref 0), some (.int (nI r)), some (.int (g_X4_whyNotChosen M sz r).1), some (.int (g_X7_aheadBy (g_X4_whyNotChosen M sz r).2 (g_X6_tell (zPl (g_X4_whyNotChosen M sz r).2 10) sz 0 7)))]) (st' := [.int ((g_X4_whyNotChosen M sz r).2 12 3)]) (M' := (g_X4_whyNotChosen M sz r).2) (by decide +kernel) rfl ?_
      exact zT.iret (ty := Jvm.ClassFile.FieldType.int) (by simp only [g_X4_causeFor, if_pos c1, if_pos c2]; try rfl) (by simp only [g_X4_causeFor, if_pos c1, if_pos c2]; try rfl) rfl rfl (by decide +kernel)
  · skip
    by_cases c3 : (g_X4_whyNotChosen M sz r).1 = 5
    · skip
      refine zT.tabEq (v := 5) c3 (tgt := 71) (off := 64) (dflt := 101) (lo := 4) (hi := 7) (offs := #[29, 64, 72, 80]) (len := 29) (by decide +kernel) (by decide) (by decide) (by decide) (by decide) ?_
      refine zT.run [(.aload_n 0, 0, 0, 0), (.getfield 47, 2, 10, 1188), (.getfield 227, 5, 4, 1159)] (pe := 78) (ls' := [some (.ref 0), some (.int (nI r)), some (.int (g_X4_whyNotChosen M sz r).1), none]) (st' := [.int ((g_X4_whyNotChosen M sz r).2 12 4)]) (M' := (g_X4_whyNotChosen M sz r).2) (by decide +kernel) rfl ?_
      exact zT.iret (ty := Jvm.ClassFile.FieldType.int) (by simp only [g_X4_causeFor, if_neg c1, if_pos c3]; try rfl) (by simp only [g_X4_causeFor, if_neg c1, if_pos c3]; try rfl) rfl rfl (by decide +kernel)
    · skip
      by_cases c4 : (g_X4_whyNotChosen M sz r).1 = 6
      · skip
        refine zT.tabEq (v := 6) c4 (tgt := 79) (off := 72) (dflt := 101) (lo := 4) (hi := 7) (offs := #[29, 64, 72, 80]) (len := 29) (by decide +kernel) (by decide) (by decide) (by decide) (by decide) ?_
        refine zT.run [(.aload_n 0, 0, 0, 0), (.getfield 47, 2, 10, 1188), (.getfield 171, 5, 2, 1155)] (pe := 86) (ls' := [some (.ref 0), some (.int (nI r)), some (.int (g_X4_whyNotChosen M sz r).1), none]) (st' := [.int ((g_X4_whyNotChosen M sz r).2 12 2)]) (M' := (g_X4_whyNotChosen M sz r).2) (by decide +kernel) rfl ?_
        exact zT.iret (ty := Jvm.ClassFile.FieldType.int) (by simp only [g_X4_causeFor, if_neg c1, if_neg c3, if_pos c4]; try rfl) (by simp only [g_X4_causeFor, if_neg c1, if_neg c3, if_pos c4]; try rfl) rfl rfl (by decide +kernel)
      · skip
        by_cases c5 : (g_X4_whyNotChosen M sz r).1 = 7
        · skip
          refine zT.tabEq (v := 7) c5 (tgt := 87) (off := 80) (dflt := 101) (lo := 4) (hi := 7) (offs := #[29, 64, 72, 80]) (len := 29) (by decide +kernel) (by decide) (by decide) (by decide) (by decide) ?_
          refine zT.run [(.aload_n 0, 0, 0, 0), (.getfield 40, 2, 9, 1186), (.iconst 0, 0, 0, 0), (.bipush 6, 0, 0, 0)] (pe := 94) (ls' := [some (.ref 0), some (.int (nI r)), some (.int (g_X4_whyNotChosen M sz r).1), none]) (st' := [.int 6, .int 0, .ref 10]) (M' := (g_X4_whyNotChosen M sz r).2) (by decide +kernel) rfl ?_
          refine zT.cV_pure 10 (o := 0) (idx := 174) (av := [.int 0, .int (nI 6)]) (rv := (some (.int (g_X6_tell (zPl (g_X4_whyNotChosen M sz r).2 10) sz 0 6)))) (st := []) (S1 := [.int (g_X6_tell (zPl (g_X4_whyNotChosen M sz r).2 10) sz 0 6)]) (c_X6_tell (zPl (g_X4_whyNotChosen M sz r).2 10) sz 0 6 ((congrFun (fr_X4_whyNotChosen M sz r 10 (by decide)) 0).trans hsz) h12 (by omega)) sub_Office_10_Outcomes k_X6_tell _ _ rfl rfl rfl (zIn (w := 3074) (by decide +kernel) rfl) (by decide +kernel) (by decide +kernel) rfl (Nat.le_of_ble_eq_true rfl) rfl ?_
          refine zT.run [(.aload_n 0, 0, 0, 0), (.getfield 47, 2, 10, 1188), (.getfield 215, 5, 0, 1151), (.iload_n 1, 0, 0, 0)] (pe := 105) (ls' := [some (.ref 0), some (.int (nI r)), some (.int (g_X4_whyNotChosen M sz r).1), none]) (st' := [.int (nI r), .ref 13, .int (g_X6_tell (zPl (g_X4_whyNotChosen M sz r).2 10) sz 0 6)]) (M' := (g_X4_whyNotChosen M sz r).2) (by decide +kernel) rfl ?_
          refine zT.iald (n := 9) (k := r) rfl rfl (by omega) (by decide) (by decide +kernel) ?_
          refine zT.run [(.isub, 0, 0, 0)] (pe := 107) (ls' := [some (.ref 0), some (.int (nI r)), some (.int (g_X4_whyNotChosen M sz r).1), none]) (st' := [.int ((g_X6_tell (zPl (g_X4_whyNotChosen M sz r).2 10) sz 0 6) - ((g_X4_whyNotChosen M sz r).2 13 r))]) (M' := (g_X4_whyNotChosen M sz r).2) (by decide +kernel) rfl ?_
          exact zT.iret (ty := Jvm.ClassFile.FieldType.int) (by simp only [g_X4_causeFor, if_neg c1, if_neg c3, if_neg c4, if_pos c5]; try rfl) (by simp only [g_X4_causeFor, if_neg c1, if_neg c3, if_neg c4, if_pos c5]; try rfl) rfl rfl (by decide +kernel)
        · skip
          refine zT.tabDef (tgt := 108) (dflt := 101) (lo := 4) (hi := 7) (offs := #[29, 64, 72, 80]) (len := 29) (by decide +kernel) (by intro k h1 h2; rcases (show k = 4 ∨ k = 5 ∨ k = 6 ∨ k = 7 by omega) with rfl | rfl | rfl | rfl; exact Or.inr (zNe rfl c1); exact Or.inr (zNe rfl c3); exact Or.inr (zNe rfl c4); exact Or.inr (zNe rfl c5)) (by decide) ?_
          refine zT.run [(.iconst (-1), 0, 0, 0)] (pe := 109) (ls' := [some (.ref 0), some (.int (nI r)), some (.int (g_X4_whyNotChosen M sz r).1), none]) (st' := [.int (-1)]) (M' := (g_X4_whyNotChosen M sz r).2) (by decide +kernel) rfl ?_
          exact zT.iret (ty := Jvm.ClassFile.FieldType.int) (by simp only [g_X4_causeFor, if_neg c1, if_neg c3, if_neg c4, if_neg c5]; try rfl) (by simp only [g_X4_causeFor, if_neg c1, if_neg c3, if_neg c4, if_neg c5]; try rfl) rfl rfl (by decide +kernel)
theorem fr_X4_causeFor (M : zM) (sz : Nat) (r : Nat) (o : Nat) (ho : o ≠ 12 ∧ o ≠ 13) : (g_X4_causeFor M sz r).2 o = M o := by
  simp only [g_X4_causeFor]
  (repeat' split) <;> simp only [zU_ne ho.1, zU_ne ho.2, zUa_ne ho.1, zUa_ne ho.2, (fun (MM : zM) (sz : Nat) (r : Nat) => fr_X4_whyNotChosen MM sz r o (by omega))]
theorem k_X4_causeFor : zCal yy_X4_causeFor 1 := ⟨⟨⟨⟨zIn (w := 5082) (by decide +kernel) rfl, zIn (w := 1004) (by decide +kernel) rfl⟩, by decide +kernel⟩, by decide +kernel⟩, ⟨zIn (w := 5080) (by decide +kernel) rfl, zIn (w := 5081) (by decide +kernel) rfl⟩⟩
