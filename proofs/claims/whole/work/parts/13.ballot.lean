def sh_Ballot : List va_E := [.inr (0, [.int 0, .int 0, .int 0, .int 0, .int 0, .int 0, .int 0, .int 0, .ref 1, .ref 2]), .inl (0, 9, .inl (fun _ => 0)), .inl (0, 9, .inl (fun _ => 0))]
def sh_Outcomes : List va_E := [.inr (4, [.int 0, .ref 1]), .inl (0, 96, .inl (fun _ => 0))]
def sh_Office : List va_E := [.inr (2, [.int 0, .int 0, .ref 1, .ref 2, .ref 3, .ref 4, .ref 5, .ref 6, .ref 7, .ref 10, .ref 12]), .inl (0, 3, .inl (fun _ => 0)), .inl (0, 9, .inl (fun _ => 0)), .inl (0, 9, .inl (fun _ => 0)), .inl (0, 9, .inl (fun _ => 0)), .inl (0, 9, .inl (fun _ => 0)), .inl (0, 9, .inl (fun _ => 0)), .inr (0, [.int 0, .int 0, .int 0, .int 0, .int 0, .int 0, .int 0, .int 0, .ref 8, .ref 9]), .inl (0, 9, .inl (fun _ => 0)), .inl (0, 9, .inl (fun _ => 0)), .inr (4, [.int 0, .ref 11]), .inl (0, 96, .inl (fun _ => 0)), .inr (5, [.ref 13, .int 0, .int 0, .int 0, .int 0]), .inl (0, 9, .inl (fun _ => 0))]
def sh_Text : List va_E := [.inr (6, [.int 0, .ref 1, .int 0, .int 0, .int 0, .int 0]), .inl (1, 600, .inl (fun _ => 0))]
noncomputable abbrev yy_X9_has : zY := (yX9_has, cX9_has, 2, (some Jvm.ClassFile.FieldType.boolean), 0, 0)
noncomputable def g_X9_has (a : Int32) (b : Int32) : Int32 := (if ((a >>> (b &&& 31)) &&& 1) = 1 then 1 else 0)
set_option maxRecDepth 100000 in
theorem c_X9_has (a : Int32) (b : Int32)  : zC yy_X9_has 0 0 [.int a, .int b] [] zM0 (some (.int (g_X9_has a b))) [] zM0 := by
  refine zC.of (by decide +kernel) rfl (Nat.le_of_ble_eq_true rfl) ?_
  refine zT.run [(.iload_n 0, 0, 0, 0), (.iload_n 1, 0, 0, 0), (.ishr, 0, 0, 0), (.iconst 1, 0, 0, 0), (.iand, 0, 0, 0), (.iconst 1, 0, 0, 0)] (pe := 6) (ls' := [some (.int a), some (.int b)]) (st' := [.int 1, .int ((a >>> (b &&& 31)) &&& 1)]) (M' := zM0) (by decide +kernel) rfl ?_
  refine zT.cne (tgt := 13) (off := 7) (by decide +kernel) (by decide) (fun (c1 : ¬ ((a >>> (b &&& 31)) &&& 1) = 1) => ?_) (fun (c1 : ((a >>> (b &&& 31)) &&& 1) = 1) => ?_)
  · skip
    refine zT.run [(.iconst 0, 0, 0, 0)] (pe := 14) (ls' := [some (.int a), some (.int b)]) (st' := [.int 0]) (M' := zM0) (by decide +kernel) rfl ?_
    exact zT.iret (ty := Jvm.ClassFile.FieldType.boolean) (by simp only [g_X9_has, if_neg c1]) rfl rfl rfl (by decide +kernel)
  · skip
    refine zT.run [(.iconst 1, 0, 0, 0), (.goto 4, 0, 0, 0)] (pe := 14) (ls' := [some (.int a), some (.int b)]) (st' := [.int 1]) (M' := zM0) (by decide +kernel) rfl ?_
    exact zT.iret (ty := Jvm.ClassFile.FieldType.boolean) (by simp only [g_X9_has, if_pos c1]) rfl rfl rfl (by decide +kernel)
theorem k_X9_has : zCas yy_X9_has 2 := ⟨⟨⟨⟨zIn (w := 2019) (by decide +kernel) rfl, zIn (w := 1001) (by decide +kernel) rfl⟩, by decide +kernel⟩, by decide +kernel⟩, zIn (w := 2018) (by decide +kernel) rfl⟩
theorem nb_X9_has {a : Int32} {b : Int32} : narrow .boolean (.int (g_X9_has a b)) = .int (g_X9_has a b) := by
  simp only [g_X9_has]
  (repeat' split) <;> rfl
noncomputable abbrev yy_X9_sealNumber : zY := (yX9_sealNumber, cX9_sealNumber, 3, (some Jvm.ClassFile.FieldType.int), 0, 0)
noncomputable def g_X9_sealNumber (a : Int32) (b : Int32) (c : Int32) : Int32 := ((((((31 * a) + (17 * b)) + (7 * c)) + 5) * 40503) &&& 65535)
set_option maxRecDepth 100000 in
theorem c_X9_sealNumber (a : Int32) (b : Int32) (c : Int32)  : zC yy_X9_sealNumber 0 0 [.int a, .int b, .int c] [] zM0 (some (.int (g_X9_sealNumber a b c))) [] zM0 := by
  refine zC.of (by decide +kernel) rfl (Nat.le_of_ble_eq_true rfl) ?_
  refine zT.run [(.bipush 31, 0, 0, 0), (.iload_n 0, 0, 0, 0), (.imul, 0, 0, 0), (.bipush 17, 0, 0, 0), (.iload_n 1, 0, 0, 0), (.imul, 0, 0, 0), (.iadd, 0, 0, 0), (.bipush 7, 0, 0, 0), (.iload_n 2, 0, 0, 0), (.imul, 0, 0, 0), (.iadd, 0, 0, 0), (.iconst 5, 0, 0, 0), (.iadd, 0, 0, 0), (.ldc_w 267, 40503, 0, 2053), (.imul, 0, 0, 0), (.ldc_w 268, 65535, 0, 2054), (.iand, 0, 0, 0)] (pe := 24) (ls' := [some (.int a), some (.int b), some (.int c)]) (st' := [.int ((((((31 * a) + (17 * b)) + (7 * c)) + 5) * 40503) &&& 65535)]) (M' := zM0) (by decide +kernel) rfl ?_
  exact zT.iret (ty := Jvm.ClassFile.FieldType.int) (by simp only [g_X9_sealNumber]) rfl rfl rfl (by decide +kernel)
theorem k_X9_sealNumber : zCas yy_X9_sealNumber 3 := ⟨⟨⟨⟨zIn (w := 2052) (by decide +kernel) rfl, zIn (w := 1001) (by decide +kernel) rfl⟩, by decide +kernel⟩, by decide +kernel⟩, zIn (w := 2051) (by decide +kernel) rfl⟩
noncomputable abbrev yy_X1_begin : zY := (yX1_begin, cX1_begin, 5, none, 0, 0)
noncomputable def l_X1_begin_43 (M : zM) (t : Int32) (c : Int32) (r : Int32) (i1 : Nat) (s1 : zM) : zM := (zU (zU s1 1 i1 0) 2 i1 (-1))
noncomputable def g_X1_begin (M : zM) (t : Int32) (c : Int32) (r : Int32) : zM := (zIt (l_X1_begin_43 M t c r) 9 (zU (zU (zU (zU (zU (zU (zU (zU M 0 0 1) 0 1 t) 0 2 c) 0 3 r) 0 4 0) 0 5 0) 0 6 0) 0 7 0))
set_option maxRecDepth 100000 in
theorem c_X1_begin (M : zM) (t : Int32) (c : Int32) (r : Int32)  : zC yy_X1_begin 0 0 [.ref 0, .int t, .int c, .int r] sh_Ballot M none sh_Ballot (g_X1_begin M t c r) := by
  refine zC.of (by decide +kernel) rfl (Nat.le_of_ble_eq_true rfl) ?_
  refine zT.run [(.aload_n 0, 0, 0, 0), (.iconst 1, 0, 0, 0), (.putfield 22, 0, 0, 1088), (.aload_n 0, 0, 0, 0), (.iload_n 1, 0, 0, 0), (.putfield 26, 0, 1, 1090), (.aload_n 0, 0, 0, 0), (.iload_n 2, 0, 0, 0), (.putfield 29, 0, 2, 1092), (.aload_n 0, 0, 0, 0), (.iload_n 3, 0, 0, 0), (.putfield 32, 0, 3, 1095), (.aload_n 0, 0, 0, 0), (.iconst 0, 0, 0, 0), (.putfield 35, 0, 4, 1097), (.aload_n 0, 0, 0, 0), (.iconst 0, 0, 0, 0), (.putfield 38, 0, 5, 1099), (.aload_n 0, 0, 0, 0), (.iconst 0, 0, 0, 0), (.putfield 41, 0, 6, 1101), (.aload_n 0, 0, 0, 0), (.iconst 0, 0, 0, 0), (.putfield 44, 0, 7, 1104), (.iconst 0, 0, 0, 0), (.istore 4, 0, 0, 0)] (pe := 43) (ls' := [some (.ref 0), some (.int t), some (.int c), some (.int r), some (.int 0)]) (st' := []) (M' := (zU (zU (zU (zU (zU (zU (zU (zU M 0 0 1) 0 1 t) 0 2 c) 0 3 r) 0 4 0) 0 5 0) 0 6 0) 0 7 0)) (by decide +kernel) rfl ?_
  refine zT.loop (l_X1_begin_43 M t c r) (fun (i : Nat) (s : zM) => (43, [some (.ref 0), some (.int t), some (.int c), some (.int r), some (.int (nI i))], [], sh_Ballot, s)) 9 (zU (zU (zU (zU (zU (zU (zU (zU M 0 0 1) 0 1 t) 0 2 c) 0 3 r) 0 4 0) 0 5 0) 0 6 0) 0 7 0) (fun i1 hi1 k1 => ?_) ?_
  · skip
    generalize hs1 : zIt (l_X1_begin_43 M t c r) i1 (zU (zU (zU (zU (zU (zU (zU (zU M 0 0 1) 0 1 t) 0 2 c) 0 3 r) 0 4 0) 0 5 0) 0 6 0) 0 7 0) = s1 at k1 ⊢
    show zT _ _ _ _ (43, [some (.ref 0), some (.int t), some (.int c), some (.int r), some (.int (nI i1))], [], sh_Ballot, s1)
    refine zT.run [(.iload 4, 0, 0, 0), (.bipush 9, 0, 0, 0)] (pe := 47) (ls' := [some (.ref 0), some (.int t), some (.int c), some (.int r), some (.int (nI i1))]) (st' := [.int 9, .int (nI i1)]) (M' := s1) (by decide +kernel) rfl ?_
    refine zT.cge (tgt := 72) (off := 25) (by decide +kernel) (by decide) (fun c => absurd c (zGeN (n := 9) rfl (by omega) (by omega))) (fun _ => ?_)
    refine zT.run [(.aload_n 0, 0, 0, 0), (.getfield 9, 0, 8, 1106), (.iload 4, 0, 0, 0), (.iconst 0, 0, 0, 0)] (pe := 57) (ls' := [some (.ref 0), some (.int t), some (.int c), some (.int r), some (.int (nI i1))]) (st' := [.int 0, .int (nI i1), .ref 1]) (M' := s1) (by decide +kernel) rfl ?_
    refine zT.iast (n := 9) (k := i1) rfl rfl (by omega) (by decide) (by decide +kernel) ?_
    refine zT.run [(.aload_n 0, 0, 0, 0), (.getfield 15, 0, 9, 1107), (.iload 4, 0, 0, 0), (.iconst (-1), 0, 0, 0)] (pe := 65) (ls' := [some (.ref 0), some (.int t), some (.int c), some (.int r), some (.int (nI i1))]) (st' := [.int (-1), .int (nI i1), .ref 2]) (M' := (zU s1 1 i1 0)) (by decide +kernel) rfl ?_
    refine zT.iast (n := 9) (k := i1) rfl rfl (by omega) (by decide) (by decide +kernel) ?_
    refine zT.run [(.iinc 4 1, 0, 0, 0), (.goto (-26), 0, 0, 0)] (pe := 43) (ls' := [some (.ref 0), some (.int t), some (.int c), some (.int r), some (.int ((nI i1) + 1))]) (st' := []) (M' := (zU (zU s1 1 i1 0) 2 i1 (-1))) (by decide +kernel) rfl ?_
    exact zT.eq (by simp only [l_X1_begin_43, nI_succ, zDl]; try rfl) k1
  · skip
    show zT _ _ _ _ (43, [some (.ref 0), some (.int t), some (.int c), some (.int r), some (.int (nI 9))], [], sh_Ballot, (zIt (l_X1_begin_43 M t c r) 9 (zU (zU (zU (zU (zU (zU (zU (zU M 0 0 1) 0 1 t) 0 2 c) 0 3 r) 0 4 0) 0 5 0) 0 6 0) 0 7 0)))
    refine zT.run [(.iload 4, 0, 0, 0), (.bipush 9, 0, 0, 0)] (pe := 47) (ls' := [some (.ref 0), some (.int t), some (.int c), some (.int r), some (.int (nI 9))]) (st' := [.int 9, .int (nI 9)]) (M' := (zIt (l_X1_begin_43 M t c r) 9 (zU (zU (zU (zU (zU (zU (zU (zU M 0 0 1) 0 1 t) 0 2 c) 0 3 r) 0 4 0) 0 5 0) 0 6 0) 0 7 0))) (by decide +kernel) rfl ?_
    refine zT.cge (tgt := 72) (off := 25) (by decide +kernel) (by decide) (fun _ => ?_) (fun c => absurd (zGeY (n := 9) rfl) c)
    exact zT.vret (by simp only [g_X1_begin]) rfl (by decide +kernel)
theorem k_X1_begin : zCal yy_X1_begin 3 := ⟨⟨⟨⟨zIn (w := 2008) (by decide +kernel) rfl, zIn (w := 1005) (by decide +kernel) rfl⟩, by decide +kernel⟩, by decide +kernel⟩, ⟨zIn (w := 2006) (by decide +kernel) rfl, zIn (w := 2007) (by decide +kernel) rfl⟩⟩
noncomputable abbrev yy_X1_clear : zY := (yX1_clear, cX1_clear, 1, none, 1, 24)
noncomputable def g_X1_clear (M : zM)  : zM := (zU (g_X1_begin M (-1) (-1) 0) 0 0 0)
set_option maxRecDepth 100000 in
theorem c_X1_clear (M : zM)   : zC yy_X1_clear 0 0 [.ref 0] sh_Ballot M none sh_Ballot (g_X1_clear M) := by
  refine zC.of (by decide +kernel) rfl (Nat.le_of_ble_eq_true rfl) ?_
  refine zT.run [(.aload_n 0, 0, 0, 0), (.iconst (-1), 0, 0, 0), (.iconst (-1), 0, 0, 0), (.iconst 0, 0, 0, 0)] (pe := 4) (ls' := [some (.ref 0)]) (st' := [.int 0, .int (-1), .int (-1), .ref 0]) (M' := M) (by decide +kernel) rfl ?_
  refine zT.cV_all (o := 0) (idx := 18) (av := [.int (-1), .int (-1), .int 0]) (rv := none) (st := []) (S1 := []) (c_X1_begin M (-1) (-1) 0) k_X1_begin _ _ rfl rfl rfl (zIn (w := 2005) (by decide +kernel) rfl) (by decide +kernel) (by decide +kernel) rfl (Nat.le_of_ble_eq_true rfl) rfl ?_
  refine zT.run [(.aload_n 0, 0, 0, 0), (.iconst 0, 0, 0, 0), (.putfield 22, 0, 0, 1088)] (pe := 12) (ls' := [some (.ref 0)]) (st' := []) (M' := (zU (g_X1_begin M (-1) (-1) 0) 0 0 0)) (by decide +kernel) rfl ?_
  exact zT.vret (by simp only [g_X1_clear]) rfl (by decide +kernel)
theorem k_X1_clear : zCal yy_X1_clear 0 := ⟨⟨⟨⟨zIn (w := 2004) (by decide +kernel) rfl, zIn (w := 1005) (by decide +kernel) rfl⟩, by decide +kernel⟩, by decide +kernel⟩, ⟨zIn (w := 2002) (by decide +kernel) rfl, zIn (w := 2003) (by decide +kernel) rfl⟩⟩
noncomputable abbrev yy_X1_isOnRoll : zY := (yX1_isOnRoll, cX1_isOnRoll, 2, (some Jvm.ClassFile.FieldType.boolean), 1, 21)
noncomputable def g_X1_isOnRoll (M : zM) (r : Int32) : Int32 := (g_X9_has (M 0 3) r)
set_option maxRecDepth 100000 in
theorem c_X1_isOnRoll (M : zM) (r : Int32)  : zC yy_X1_isOnRoll 0 0 [.ref 0, .int r] sh_Ballot M (some (.int (g_X1_isOnRoll M r))) sh_Ballot M := by
  refine zC.of (by decide +kernel) rfl (Nat.le_of_ble_eq_true rfl) ?_
  refine zT.run [(.aload_n 0, 0, 0, 0), (.getfield 32, 0, 3, 1095), (.iload_n 1, 0, 0, 0)] (pe := 5) (ls' := [some (.ref 0), some (.int r)]) (st' := [.int r, .int (M 0 3)]) (M' := M) (by decide +kernel) rfl ?_
  refine zT.cN_nil "SealedBallots" (idx := 63) (av := [.int (M 0 3), .int r]) (rv := (some (.int (g_X9_has (M 0 3) r)))) (st := []) (S1 := [.int (g_X9_has (M 0 3) r)]) (c_X9_has (M 0 3) r) k_X9_has rfl (zInN (w := 2063) (by decide +kernel) rfl) (by decide +kernel) (by decide +kernel) rfl (Nat.le_of_ble_eq_true rfl) rfl ?_
  exact zT.iret (ty := Jvm.ClassFile.FieldType.boolean) (by simp only [g_X1_isOnRoll]) rfl rfl (nb_X9_has ) (by decide +kernel)
theorem k_X1_isOnRoll : zCal yy_X1_isOnRoll 1 := ⟨⟨⟨⟨zIn (w := 2062) (by decide +kernel) rfl, zIn (w := 1005) (by decide +kernel) rfl⟩, by decide +kernel⟩, by decide +kernel⟩, ⟨zIn (w := 2060) (by decide +kernel) rfl, zIn (w := 2061) (by decide +kernel) rfl⟩⟩
theorem nb_X1_isOnRoll {M : zM} {r : Int32} : narrow .boolean (.int (g_X1_isOnRoll M r)) = .int (g_X1_isOnRoll M r) := nb_X9_has
noncomputable abbrev yy_X1_stateOf : zY := (yX1_stateOf, cX1_stateOf, 2, (some Jvm.ClassFile.FieldType.int), 1, 21)
noncomputable def g_X1_stateOf (M : zM) (r : Int32) : Int32 := (if (g_X9_has (M 0 5) r) = 0 then (if (g_X9_has (M 0 6) r) = 0 then (if (g_X9_has (M 0 7) r) = 0 then 0 else 3) else 2) else 1)
set_option maxRecDepth 100000 in
theorem c_X1_stateOf (M : zM) (r : Int32)  : zC yy_X1_stateOf 0 0 [.ref 0, .int r] sh_Ballot M (some (.int (g_X1_stateOf M r))) sh_Ballot M := by
  refine zC.of (by decide +kernel) rfl (Nat.le_of_ble_eq_true rfl) ?_
  refine zT.run [(.aload_n 0, 0, 0, 0), (.getfield 38, 0, 5, 1099), (.iload_n 1, 0, 0, 0)] (pe := 5) (ls' := [some (.ref 0), some (.int r)]) (st' := [.int r, .int (M 0 5)]) (M' := M) (by decide +kernel) rfl ?_
  refine zT.cN_nil "SealedBallots" (idx := 63) (av := [.int (M 0 5), .int r]) (rv := (some (.int (g_X9_has (M 0 5) r)))) (st := []) (S1 := [.int (g_X9_has (M 0 5) r)]) (c_X9_has (M 0 5) r) k_X9_has rfl (zInN (w := 2063) (by decide +kernel) rfl) (by decide +kernel) (by decide +kernel) rfl (Nat.le_of_ble_eq_true rfl) rfl ?_
  refine zT.zeq (tgt := 13) (off := 5) (by decide +kernel) (by decide) (fun (c1 : (g_X9_has (M 0 5) r) = 0) => ?_) (fun (c1 : ¬ (g_X9_has (M 0 5) r) = 0) => ?_)
  · skip
    refine zT.run [(.aload_n 0, 0, 0, 0), (.getfield 41, 0, 6, 1101), (.iload_n 1, 0, 0, 0)] (pe := 18) (ls' := [some (.ref 0), some (.int r)]) (st' := [.int r, .int (M 0 6)]) (M' := M) (by decide +kernel) rfl ?_
    refine zT.cN_nil "SealedBallots" (idx := 63) (av := [.int (M 0 6), .int r]) (rv := (some (.int (g_X9_has (M 0 6) r)))) (st := []) (S1 := [.int (g_X9_has (M 0 6) r)]) (c_X9_has (M 0 6) r) k_X9_has rfl (zInN (w := 2063) (by decide +kernel) rfl) (by decide +kernel) (by decide +kernel) rfl (Nat.le_of_ble_eq_true rfl) rfl ?_
    refine zT.zeq (tgt := 26) (off := 5) (by decide +kernel) (by decide) (fun (c2 : (g_X9_has (M 0 6) r) = 0) => ?_) (fun (c2 : ¬ (g_X9_has (M 0 6) r) = 0) => ?_)
    · skip
      refine zT.run [(.aload_n 0, 0, 0, 0), (.getfield 44, 0, 7, 1104), (.iload_n 1, 0, 0, 0)] (pe := 31) (ls' := [some (.ref 0), some (.int r)]) (st' := [.int r, .int (M 0 7)]) (M' := M) (by decide +kernel) rfl ?_
      refine zT.cN_nil "SealedBallots" (idx := 63) (av := [.int (M 0 7), .int r]) (rv := (some (.int (g_X9_has (M 0 7) r)))) (st := []) (S1 := [.int (g_X9_has (M 0 7) r)]) (c_X9_has (M 0 7) r) k_X9_has rfl (zInN (w := 2063) (by decide +kernel) rfl) (by decide +kernel) (by decide +kernel) rfl (Nat.le_of_ble_eq_true rfl) rfl ?_
      refine zT.zeq (tgt := 41) (off := 7) (by decide +kernel) (by decide) (fun (c3 : (g_X9_has (M 0 7) r) = 0) => ?_) (fun (c3 : ¬ (g_X9_has (M 0 7) r) = 0) => ?_)
      · skip
        refine zT.run [(.iconst 0, 0, 0, 0)] (pe := 42) (ls' := [some (.ref 0), some (.int r)]) (st' := [.int 0]) (M' := M) (by decide +kernel) rfl ?_
        exact zT.iret (ty := Jvm.ClassFile.FieldType.int) (by simp only [g_X1_stateOf, if_pos c1, if_pos c2, if_pos c3]) rfl rfl rfl (by decide +kernel)
      · skip
        refine zT.run [(.iconst 3, 0, 0, 0), (.goto 4, 0, 0, 0)] (pe := 42) (ls' := [some (.ref 0), some (.int r)]) (st' := [.int 3]) (M' := M) (by decide +kernel) rfl ?_
        exact zT.iret (ty := Jvm.ClassFile.FieldType.int) (by simp only [g_X1_stateOf, if_pos c1, if_pos c2, if_neg c3]) rfl rfl rfl (by decide +kernel)
    · skip
      refine zT.run [(.iconst 2, 0, 0, 0)] (pe := 25) (ls' := [some (.ref 0), some (.int r)]) (st' := [.int 2]) (M' := M) (by decide +kernel) rfl ?_
      exact zT.iret (ty := Jvm.ClassFile.FieldType.int) (by simp only [g_X1_stateOf, if_pos c1, if_neg c2]) rfl rfl rfl (by decide +kernel)
  · skip
    refine zT.run [(.iconst 1, 0, 0, 0)] (pe := 12) (ls' := [some (.ref 0), some (.int r)]) (st' := [.int 1]) (M' := M) (by decide +kernel) rfl ?_
    exact zT.iret (ty := Jvm.ClassFile.FieldType.int) (by simp only [g_X1_stateOf, if_neg c1]) rfl rfl rfl (by decide +kernel)
theorem k_X1_stateOf : zCal yy_X1_stateOf 1 := ⟨⟨⟨⟨zIn (w := 3234) (by decide +kernel) rfl, zIn (w := 1005) (by decide +kernel) rfl⟩, by decide +kernel⟩, by decide +kernel⟩, ⟨zIn (w := 3232) (by decide +kernel) rfl, zIn (w := 3233) (by decide +kernel) rfl⟩⟩
noncomputable abbrev yy_X1_validVotesFor : zY := (yX1_validVotesFor, cX1_validVotesFor, 4, (some Jvm.ClassFile.FieldType.int), 1, 21)
noncomputable def l_X1_validVotesFor_4 (M : zM) (c : Int32) (i1 : Nat) (s1 : Int32) : Int32 := (s1 + (if (g_X9_has (M 0 6) (nI i1)) = 0 then 0 else (if (M 2 i1) = c then 1 else 0)))
noncomputable def g_X1_validVotesFor (M : zM) (c : Int32) : Int32 := (zIt (l_X1_validVotesFor_4 M c) 9 0)
set_option maxRecDepth 100000 in
theorem c_X1_validVotesFor (M : zM) (c : Int32)  : zC yy_X1_validVotesFor 0 0 [.ref 0, .int c] sh_Ballot M (some (.int (g_X1_validVotesFor M c))) sh_Ballot M := by
  refine zC.of (by decide +kernel) rfl (Nat.le_of_ble_eq_true rfl) ?_
  refine zT.run [(.iconst 0, 0, 0, 0), (.istore_n 2, 0, 0, 0), (.iconst 0, 0, 0, 0), (.istore_n 3, 0, 0, 0)] (pe := 4) (ls' := [some (.ref 0), some (.int c), some (.int 0), some (.int 0)]) (st' := []) (M' := M) (by decide +kernel) rfl ?_
  refine zT.loop (l_X1_validVotesFor_4 M c) (fun (i : Nat) (s : Int32) => (4, [some (.ref 0), some (.int c), some (.int s), some (.int (nI i))], [], sh_Ballot, M)) 9 0 (fun i1 hi1 k1 => ?_) ?_
  · skip
    generalize hs1 : zIt (l_X1_validVotesFor_4 M c) i1 0 = s1 at k1 ⊢
    show zT _ _ _ _ (4, [some (.ref 0), some (.int c), some (.int s1), some (.int (nI i1))], [], sh_Ballot, M)
    refine zT.run [(.iload_n 3, 0, 0, 0), (.bipush 9, 0, 0, 0)] (pe := 7) (ls' := [some (.ref 0), some (.int c), some (.int s1), some (.int (nI i1))]) (st' := [.int 9, .int (nI i1)]) (M' := M) (by decide +kernel) rfl ?_
    refine zT.cge (tgt := 45) (off := 38) (by decide +kernel) (by decide) (fun c => absurd c (zGeN (n := 9) rfl (by omega) (by omega))) (fun _ => ?_)
    refine zT.run [(.iload_n 2, 0, 0, 0), (.aload_n 0, 0, 0, 0), (.getfield 41, 0, 6, 1101), (.iload_n 3, 0, 0, 0)] (pe := 16) (ls' := [some (.ref 0), some (.int c), some (.int s1), some (.int (nI i1))]) (st' := [.int (nI i1), .int (M 0 6), .int s1]) (M' := M) (by decide +kernel) rfl ?_
    refine zT.cN_nil "SealedBallots" (idx := 63) (av := [.int (M 0 6), .int (nI i1)]) (rv := (some (.int (g_X9_has (M 0 6) (nI i1))))) (st := [.int s1]) (S1 := [.int (g_X9_has (M 0 6) (nI i1)), .int s1]) (c_X9_has (M 0 6) (nI i1)) k_X9_has rfl (zInN (w := 2063) (by decide +kernel) rfl) (by decide +kernel) (by decide +kernel) rfl (Nat.le_of_ble_eq_true rfl) rfl ?_
    refine zT.join (37, [some (.ref 0), some (.int c), some (.int s1), some (.int (nI i1))], [.int (if (g_X9_has (M 0 6) (nI i1)) = 0 then 0 else (if (M 2 i1) = c then 1 else 0)), .int s1], sh_Ballot, M) ?_ ?_
    · refine zT.zeq (tgt := 36) (off := 17) (by decide +kernel) (by decide) (fun (c1 : (g_X9_has (M 0 6) (nI i1)) = 0) => ?_) (fun (c1 : ¬ (g_X9_has (M 0 6) (nI i1)) = 0) => ?_)
      · skip
        refine zT.run [(.iconst 0, 0, 0, 0)] (pe := 37) (ls' := [some (.ref 0), some (.int c), some (.int s1), some (.int (nI i1))]) (st' := [.int 0, .int s1]) (M' := M) (by decide +kernel) rfl ?_
        exact zT.here (by simp only [if_pos c1])
      · skip
        refine zT.run [(.aload_n 0, 0, 0, 0), (.getfield 15, 0, 9, 1107), (.iload_n 3, 0, 0, 0)] (pe := 27) (ls' := [some (.ref 0), some (.int c), some (.int s1), some (.int (nI i1))]) (st' := [.int (nI i1), .ref 2, .int s1]) (M' := M) (by decide +kernel) rfl ?_
        refine zT.iald (n := 9) (k := i1) rfl rfl (by omega) (by decide) (by decide +kernel) ?_
        refine zT.run [(.iload_n 1, 0, 0, 0)] (pe := 29) (ls' := [some (.ref 0), some (.int c), some (.int s1), some (.int (nI i1))]) (st' := [.int c, .int (M 2 i1), .int s1]) (M' := M) (by decide +kernel) rfl ?_
        refine zT.cne (tgt := 36) (off := 7) (by decide +kernel) (by decide) (fun (c2 : ¬ (M 2 i1) = c) => ?_) (fun (c2 : (M 2 i1) = c) => ?_)
        · skip
          refine zT.run [(.iconst 0, 0, 0, 0)] (pe := 37) (ls' := [some (.ref 0), some (.int c), some (.int s1), some (.int (nI i1))]) (st' := [.int 0, .int s1]) (M' := M) (by decide +kernel) rfl ?_
          exact zT.here (by simp only [if_neg c1, if_neg c2])
        · skip
          refine zT.run [(.iconst 1, 0, 0, 0), (.goto 4, 0, 0, 0)] (pe := 37) (ls' := [some (.ref 0), some (.int c), some (.int s1), some (.int (nI i1))]) (st' := [.int 1, .int s1]) (M' := M) (by decide +kernel) rfl ?_
          exact zT.here (by simp only [if_neg c1, if_pos c2])
    · skip
      refine zT.run [(.iadd, 0, 0, 0), (.istore_n 2, 0, 0, 0), (.iinc 3 1, 0, 0, 0), (.goto (-38), 0, 0, 0)] (pe := 4) (ls' := [some (.ref 0), some (.int c), some (.int (s1 + (if (g_X9_has (M 0 6) (nI i1)) = 0 then 0 else (if (M 2 i1) = c then 1 else 0)))), some (.int ((nI i1) + 1))]) (st' := []) (M' := M) (by decide +kernel) rfl ?_
      exact zT.eq (by simp only [l_X1_validVotesFor_4, nI_succ, zDl]; try rfl) k1
  · skip
    show zT _ _ _ _ (4, [some (.ref 0), some (.int c), some (.int (zIt (l_X1_validVotesFor_4 M c) 9 0)), some (.int (nI 9))], [], sh_Ballot, M)
    refine zT.run [(.iload_n 3, 0, 0, 0), (.bipush 9, 0, 0, 0)] (pe := 7) (ls' := [some (.ref 0), some (.int c), some (.int (zIt (l_X1_validVotesFor_4 M c) 9 0)), some (.int (nI 9))]) (st' := [.int 9, .int (nI 9)]) (M' := M) (by decide +kernel) rfl ?_
    refine zT.cge (tgt := 45) (off := 38) (by decide +kernel) (by decide) (fun _ => ?_) (fun c => absurd (zGeY (n := 9) rfl) c)
    refine zT.run [(.iload_n 2, 0, 0, 0)] (pe := 46) (ls' := [some (.ref 0), some (.int c), some (.int (zIt (l_X1_validVotesFor_4 M c) 9 0)), some (.int (nI 9))]) (st' := [.int (zIt (l_X1_validVotesFor_4 M c) 9 0)]) (M' := M) (by decide +kernel) rfl ?_
    exact zT.iret (ty := Jvm.ClassFile.FieldType.int) (by simp only [g_X1_validVotesFor]) rfl rfl rfl (by decide +kernel)
theorem k_X1_validVotesFor : zCal yy_X1_validVotesFor 1 := ⟨⟨⟨⟨zIn (w := 3043) (by decide +kernel) rfl, zIn (w := 1005) (by decide +kernel) rfl⟩, by decide +kernel⟩, by decide +kernel⟩, ⟨zIn (w := 3041) (by decide +kernel) rfl, zIn (w := 3042) (by decide +kernel) rfl⟩⟩
noncomputable abbrev yy_X1_putSeal : zY := (yX1_putSeal, cX1_putSeal, 3, none, 0, 0)
noncomputable def g_X1_putSeal (M : zM) (r : Nat) (x : Int32) : zM := (zU (zU M 0 5 ((M 0 5) ||| (1 <<< ((nI r) &&& 31)))) 1 r x)
set_option maxRecDepth 100000 in
theorem c_X1_putSeal (M : zM) (r : Nat) (x : Int32) (h_r : r < 9) : zC yy_X1_putSeal 0 0 [.ref 0, .int (nI r), .int x] sh_Ballot M none sh_Ballot (g_X1_putSeal M r x) := by
  refine zC.of (by decide +kernel) rfl (Nat.le_of_ble_eq_true rfl) ?_
  refine zT.run [(.aload_n 0, 0, 0, 0), (.dup, 0, 0, 0), (.getfield 38, 0, 5, 1099), (.iconst 1, 0, 0, 0), (.iload_n 1, 0, 0, 0), (.ishl, 0, 0, 0), (.ior, 0, 0, 0), (.putfield 38, 0, 5, 1099), (.aload_n 0, 0, 0, 0), (.getfield 9, 0, 8, 1106), (.iload_n 1, 0, 0, 0), (.iload_n 2, 0, 0, 0)] (pe := 18) (ls' := [some (.ref 0), some (.int (nI r)), some (.int x)]) (st' := [.int x, .int (nI r), .ref 1]) (M' := (zU M 0 5 ((M 0 5) ||| (1 <<< ((nI r) &&& 31))))) (by decide +kernel) rfl ?_
  refine zT.iast (n := 9) (k := r) rfl rfl (by omega) (by decide) (by decide +kernel) ?_
  exact zT.vret (by simp only [g_X1_putSeal]) rfl (by decide +kernel)
theorem k_X1_putSeal : zCal yy_X1_putSeal 2 := ⟨⟨⟨⟨zIn (w := 2071) (by decide +kernel) rfl, zIn (w := 1005) (by decide +kernel) rfl⟩, by decide +kernel⟩, by decide +kernel⟩, ⟨zIn (w := 2069) (by decide +kernel) rfl, zIn (w := 2070) (by decide +kernel) rfl⟩⟩
