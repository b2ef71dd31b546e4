def sh_Ballot : List va_E := [.inr (0, [.int 0, .int 0, .int 0, .int 0, .int 0, .int 0, .int 0, .int 0, .ref 1, .ref 2]), .inl (0, 9, .inl (fun _ => 0)), .inl (0, 9, .inl (fun _ => 0))]
def sh_Outcomes : List va_E := [.inr (4, [.int 0, .ref 1]), .inl (0, 96, .inl (fun _ => 0))]
def sh_Office : List va_E := [.inr (2, [.int 0, .int 0, .ref 1, .ref 2, .ref 3, .ref 4, .ref 5, .ref 6, .ref 7, .ref 10, .ref 12]), .inl (0, 3, .inl (fun _ => 0)), .inl (0, 9, .inl (fun _ => 0)), .inl (0, 9, .inl (fun _ => 0)), .inl (0, 9, .inl (fun _ => 0)), .inl (0, 9, .inl (fun _ => 0)), .inl (0, 9, .inl (fun _ => 0)), .inr (0, [.int 0, .int 0, .int 0, .int 0, .int 0, .int 0, .int 0, .int 0, .ref 8, .ref 9]), .inl (0, 9, .inl (fun _ => 0)), .inl (0, 9, .inl (fun _ => 0)), .inr (4, [.int 0, .ref 11]), .inl (0, 96, .inl (fun _ => 0)), .inr (5, [.ref 13, .int 0, .int 0, .int 0, .int 0]), .inl (0, 9, .inl (fun _ => 0))]
def sh_Text : List va_E := [.inr (6, [.int 0, .ref 1, .int 0, .int 0, .int 0, .int 0]), .inl (1, 600, .inl (fun _ => 0))]
noncomputable abbrev yy_X9_has : zY := (yX9_has, cX9_has, 2, (some Jvm.ClassFile.FieldType.boolean), 0, 0)
noncomputable def g_X9_has (a : Int32) (b : Int32) : Int32 := (if ((a >>> (b &&& 31)) &&& 1) = 1 then 1 else 0)
set_option maxRecDepth 100000 in
theorem c_X9_has (a : Int32) (b : Int32)  : zC yy_X9_has 0 0 [.int a, .int b] [] zM0 (some (.int (g_X9_has a b))) [] zM0 := by
  refine zC.of (by decide +kernel) rfl (Nat.le_of_ble_eq_true rfl) ?_
  refine zT.run [(.iload_n 0, 0, 0, 0), (.iload_n 1, 0, 0, 0), (.ishr, 0, 0, 0), (.iconst 1, 0, 0, 0), (.iand, 0, 0, 0), (.iconst 1, 0, 0, 0)] (pe := 6) (ls' := [some (.int a), some (.int b)]) (st' := [.int 1, .int ((a >>> (b &&& 31)) &&& 1)]) (M' := zM0) (by decide +kernel) rfl ?_
  refine zT.cne (tgt := 13) (off := 7) (by decide +kernel) (by decide) (fun (c1 : ¬ ((a >>> (b &&& 31)) &&& 1) = 1) => ?_) (fun (c1 : ((a >>> (b &&& 31)) &&& 1) = 1) => ?_)
  · skip
    refine zT.run [(.iconst 0, 0, 0, 0)] (pe := 14) (ls' := [some (.int a), some (.int b)]) (st' := [.int 0]) (M' := zM0) (by decide +kernel) rfl ?_
    exact zT.iret (ty := Jvm.ClassFile.FieldType.boolean) (by simp only [g_X9_has, if_neg c1]; try rfl) rfl rfl rfl (by decide +kernel)
  · skip
    refine zT.run [(.iconst 1, 0, 0, 0), (.goto 4, 0, 0, 0)] (pe := 14) (ls' := [some (.int a), some (.int b)]) (st' := [.int 1]) (M' := zM0) (by decide +kernel) rfl ?_
    exact zT.iret (ty := Jvm.ClassFile.FieldType.boolean) (by simp only [g_X9_has, if_pos c1]; try rfl) rfl rfl rfl (by decide +kernel)
theorem k_X9_has : zCas yy_X9_has 2 := ⟨⟨⟨⟨zIn (w := 2016) (by decide +kernel) rfl, zIn (w := 1001) (by decide +kernel) rfl⟩, by decide +kernel⟩, by decide +kernel⟩, zIn (w := 2015) (by decide +kernel) rfl⟩
theorem nb_X9_has {a : Int32} {b : Int32} : narrow .boolean (.int (g_X9_has a b)) = .int (g_X9_has a b) := by
  simp only [g_X9_has]
  (repeat' split) <;> rfl
noncomputable abbrev yy_X9_sealNumber : zY := (yX9_sealNumber, cX9_sealNumber, 3, (some Jvm.ClassFile.FieldType.int), 0, 0)
noncomputable def g_X9_sealNumber (a : Int32) (b : Int32) (c : Int32) : Int32 := ((((((31 * a) + (17 * b)) + (7 * c)) + 5) * 40503) &&& 65535)
set_option maxRecDepth 100000 in
theorem c_X9_sealNumber (a : Int32) (b : Int32) (c : Int32)  : zC yy_X9_sealNumber 0 0 [.int a, .int b, .int c] [] zM0 (some (.int (g_X9_sealNumber a b c))) [] zM0 := by
  refine zC.of (by decide +kernel) rfl (Nat.le_of_ble_eq_true rfl) ?_
  refine zT.run [(.bipush 31, 0, 0, 0), (.iload_n 0, 0, 0, 0), (.imul, 0, 0, 0), (.bipush 17, 0, 0, 0), (.iload_n 1, 0, 0, 0), (.imul, 0, 0, 0), (.iadd, 0, 0, 0), (.bipush 7, 0, 0, 0), (.iload_n 2, 0, 0, 0), (.imul, 0, 0, 0), (.iadd, 0, 0, 0), (.iconst 5, 0, 0, 0), (.iadd, 0, 0, 0), (.ldc_w 267, 40503, 0, 2050), (.imul, 0, 0, 0), (.ldc_w 268, 65535, 0, 2051), (.iand, 0, 0, 0)] (pe := 24) (ls' := [some (.int a), some (.int b), some (.int c)]) (st' := [.int ((((((31 * a) + (17 * b)) + (7 * c)) + 5) * 40503) &&& 65535)]) (M' := zM0) (by decide +kernel) rfl ?_
  exact zT.iret (ty := Jvm.ClassFile.FieldType.int) (by simp only [g_X9_sealNumber]; try rfl) rfl rfl rfl (by decide +kernel)
theorem k_X9_sealNumber : zCas yy_X9_sealNumber 3 := ⟨⟨⟨⟨zIn (w := 2049) (by decide +kernel) rfl, zIn (w := 1001) (by decide +kernel) rfl⟩, by decide +kernel⟩, by decide +kernel⟩, zIn (w := 2048) (by decide +kernel) rfl⟩
noncomputable abbrev yy_J6_bitCount_0f7a4 : zY := (yJ6_bitCount_0f7a4, cJ6_bitCount_0f7a4, 1, (some Jvm.ClassFile.FieldType.int), 0, 0)
noncomputable def bc1 (a : Int32) : Int32 := (a - ((((a).toUInt32 >>> ((1 : Int32).toUInt32 &&& Int32.toUInt32 31)).toInt32) &&& 1431655765))
noncomputable def bc2 (a : Int32) : Int32 := (((bc1 a) &&& 858993459) + (((((bc1 a)).toUInt32 >>> ((2 : Int32).toUInt32 &&& Int32.toUInt32 31)).toInt32) &&& 858993459))
noncomputable def bc3 (a : Int32) : Int32 := (((bc2 a) + ((((bc2 a)).toUInt32 >>> ((4 : Int32).toUInt32 &&& Int32.toUInt32 31)).toInt32)) &&& 252645135)
noncomputable def bc4 (a : Int32) : Int32 := ((bc3 a) + ((((bc3 a)).toUInt32 >>> ((8 : Int32).toUInt32 &&& Int32.toUInt32 31)).toInt32))
noncomputable def bc5 (a : Int32) : Int32 := ((bc4 a) + ((((bc4 a)).toUInt32 >>> ((16 : Int32).toUInt32 &&& Int32.toUInt32 31)).toInt32))
noncomputable def g_J6_bitCount_0f7a4 (a : Int32) : Int32 := ((bc5 a) &&& 63)
set_option maxRecDepth 100000 in
theorem c_J6_bitCount_0f7a4 (a : Int32)  : zC yy_J6_bitCount_0f7a4 0 0 [.int a] [] zM0 (some (.int (g_J6_bitCount_0f7a4 a))) [] zM0 := by
  refine zC.of (by decide +kernel) rfl (Nat.le_of_ble_eq_true rfl) ?_
  refine zT.run [(.iload_n 0, 0, 0, 0), (.iload_n 0, 0, 0, 0), (.iconst 1, 0, 0, 0), (.iushr, 0, 0, 0), (.ldc_w 265, 1431655765, 0, 2024), (.iand, 0, 0, 0), (.isub, 0, 0, 0), (.istore_n 0, 0, 0, 0)] (pe := 10) (ls' := [some (.int (bc1 a))]) (st' := []) (M' := zM0) (by decide +kernel) rfl ?_
  refine zT.run [(.iload_n 0, 0, 0, 0), (.ldc_w 266, 858993459, 0, 2025), (.iand, 0, 0, 0), (.iload_n 0, 0, 0, 0), (.iconst 2, 0, 0, 0), (.iushr, 0, 0, 0), (.ldc_w 266, 858993459, 0, 2025), (.iand, 0, 0, 0), (.iadd, 0, 0, 0), (.istore_n 0, 0, 0, 0)] (pe := 24) (ls' := [some (.int (bc2 a))]) (st' := []) (M' := zM0) (by decide +kernel) rfl ?_
  refine zT.run [(.iload_n 0, 0, 0, 0), (.iload_n 0, 0, 0, 0), (.iconst 4, 0, 0, 0), (.iushr, 0, 0, 0), (.iadd, 0, 0, 0), (.ldc_w 267, 252645135, 0, 2026), (.iand, 0, 0, 0), (.istore_n 0, 0, 0, 0)] (pe := 34) (ls' := [some (.int (bc3 a))]) (st' := []) (M' := zM0) (by decide +kernel) rfl ?_
  refine zT.run [(.iload_n 0, 0, 0, 0), (.iload_n 0, 0, 0, 0), (.bipush 8, 0, 0, 0), (.iushr, 0, 0, 0), (.iadd, 0, 0, 0), (.istore_n 0, 0, 0, 0)] (pe := 41) (ls' := [some (.int (bc4 a))]) (st' := []) (M' := zM0) (by decide +kernel) rfl ?_
  refine zT.run [(.iload_n 0, 0, 0, 0), (.iload_n 0, 0, 0, 0), (.bipush 16, 0, 0, 0), (.iushr, 0, 0, 0), (.iadd, 0, 0, 0), (.istore_n 0, 0, 0, 0)] (pe := 48) (ls' := [some (.int (bc5 a))]) (st' := []) (M' := zM0) (by decide +kernel) rfl ?_
  refine zT.run [(.iload_n 0, 0, 0, 0), (.bipush 63, 0, 0, 0), (.iand, 0, 0, 0)] (pe := 52) (ls' := [some (.int (bc5 a))]) (st' := [.int ((bc5 a) &&& 63)]) (M' := zM0) (by decide +kernel) rfl ?_
  exact zT.iret (ty := Jvm.ClassFile.FieldType.int) (by simp only [g_J6_bitCount_0f7a4]; try rfl) rfl rfl rfl (by decide +kernel)
theorem k_J6_bitCount_0f7a4 : zCas yy_J6_bitCount_0f7a4 1 := ⟨⟨⟨⟨zIn (w := 2023) (by decide +kernel) rfl, zIn (w := 1011) (by decide +kernel) rfl⟩, by decide +kernel⟩, by decide +kernel⟩, zIn (w := 2022) (by decide +kernel) rfl⟩
noncomputable abbrev yy_X1_begin : zY := (yX1_begin, cX1_begin, 5, none, 0, 0)
noncomputable def l_X1_begin_43 (M : zM) (t : Int32) (c : Int32) (r : Int32) (i1 : Nat) (s1 : zM) : zM := (zU (zU s1 1 i1 0) 2 i1 (-1))
theorem fr_l_X1_begin_43 (M : zM) (t : Int32) (c : Int32) (r : Int32) (o : Nat) (ho : o ≠ 1 ∧ o ≠ 2) : ∀ (k : Nat) (s : zM), (zIt (l_X1_begin_43 M t c r) k s) o = s o := by
  intro k
  induction k with
  | zero => intro s; rfl
  | succ k ih =>
    intro s
    rw [← ih s]
    show (l_X1_begin_43 M t c r k (zIt (l_X1_begin_43 M t c r) k s)) o = _
    generalize zIt (l_X1_begin_43 M t c r) k s = t
    simp only [l_X1_begin_43]
    (repeat' split) <;> simp only [zU_ne ho.1, zU_ne ho.2]
noncomputable def g_X1_begin (M : zM) (t : Int32) (c : Int32) (r : Int32) : zM := (zIt (l_X1_begin_43 M t c r) 9 (zU (zU (zU (zU (zU (zU (zU (zU M 0 0 1) 0 1 t) 0 2 c) 0 3 r) 0 4 0) 0 5 0) 0 6 0) 0 7 0))
set_option maxRecDepth 100000 in
theorem c_X1_begin (M : zM) (t : Int32) (c : Int32) (r : Int32)  : zC yy_X1_begin 0 0 [.ref 0, .int t, .int c, .int r] sh_Ballot M none sh_Ballot (g_X1_begin M t c r) := by
  refine zC.of (by decide +kernel) rfl (Nat.le_of_ble_eq_true rfl) ?_
  refine zT.run [(.aload_n 0, 0, 0, 0), (.iconst 1, 0, 0, 0), (.putfield 22, 0, 0, 1091), (.aload_n 0, 0, 0, 0), (.iload_n 1, 0, 0, 0), (.putfield 26, 0, 1, 1093), (.aload_n 0, 0, 0, 0), (.iload_n 2, 0, 0, 0), (.putfield 29, 0, 2, 1095), (.aload_n 0, 0, 0, 0), (.iload_n 3, 0, 0, 0), (.putfield 32, 0, 3, 1098), (.aload_n 0, 0, 0, 0), (.iconst 0, 0, 0, 0), (.putfield 35, 0, 4, 1100), (.aload_n 0, 0, 0, 0), (.iconst 0, 0, 0, 0), (.putfield 38, 0, 5, 1102), (.aload_n 0, 0, 0, 0), (.iconst 0, 0, 0, 0), (.putfield 41, 0, 6, 1104), (.aload_n 0, 0, 0, 0), (.iconst 0, 0, 0, 0), (.putfield 44, 0, 7, 1106), (.iconst 0, 0, 0, 0), (.istore 4, 0, 0, 0)] (pe := 43) (ls' := [some (.ref 0), some (.int t), some (.int c), some (.int r), some (.int 0)]) (st' := []) (M' := (zU (zU (zU (zU (zU (zU (zU (zU M 0 0 1) 0 1 t) 0 2 c) 0 3 r) 0 4 0) 0 5 0) 0 6 0) 0 7 0)) (by decide +kernel) rfl ?_
  refine zT.loop (l_X1_begin_43 M t c r) (fun (i : Nat) (s : zM) => (43, [some (.ref 0), some (.int t), some (.int c), some (.int r), some (.int (nI i))], [], sh_Ballot, s)) 9 (zU (zU (zU (zU (zU (zU (zU (zU M 0 0 1) 0 1 t) 0 2 c) 0 3 r) 0 4 0) 0 5 0) 0 6 0) 0 7 0) (fun i1 hi1 k1 => ?_) ?_
  · skip
    generalize hs1 : zIt (l_X1_begin_43 M t c r) i1 (zU (zU (zU (zU (zU (zU (zU (zU M 0 0 1) 0 1 t) 0 2 c) 0 3 r) 0 4 0) 0 5 0) 0 6 0) 0 7 0) = s1 at k1 ⊢
    have hm1 : ∀ o : Nat, (o ≠ 1 ∧ o ≠ 2) → s1 o = (zU (zU (zU (zU (zU (zU (zU (zU M 0 0 1) 0 1 t) 0 2 c) 0 3 r) 0 4 0) 0 5 0) 0 6 0) 0 7 0) o := fun o ho => by rw [← hs1]; exact fr_l_X1_begin_43 M t c r o ho i1 (zU (zU (zU (zU (zU (zU (zU (zU M 0 0 1) 0 1 t) 0 2 c) 0 3 r) 0 4 0) 0 5 0) 0 6 0) 0 7 0)
    show zT _ _ _ _ (43, [some (.ref 0), some (.int t), some (.int c), some (.int r), some (.int (nI i1))], [], sh_Ballot, s1)
    refine zT.run [(.iload 4, 0, 0, 0), (.bipush 9, 0, 0, 0)] (pe := 47) (ls' := [some (.ref 0), some (.int t), some (.int c), some (.int r), some (.int (nI i1))]) (st' := [.int 9, .int (nI i1)]) (M' := s1) (by decide +kernel) rfl ?_
    refine zT.cge (tgt := 72) (off := 25) (by decide +kernel) (by decide) (fun c => absurd c (zGeN (n := 9) rfl (by omega) (by omega))) (fun _ => ?_)
    refine zT.run [(.aload_n 0, 0, 0, 0), (.getfield 9, 0, 8, 1108), (.iload 4, 0, 0, 0), (.iconst 0, 0, 0, 0)] (pe := 57) (ls' := [some (.ref 0), some (.int t), some (.int c), some (.int r), some (.int (nI i1))]) (st' := [.int 0, .int (nI i1), .ref 1]) (M' := s1) (by decide +kernel) rfl ?_
    refine zT.iast (n := 9) (k := i1) rfl rfl (by omega) (by decide) (by decide +kernel) ?_
    refine zT.run [(.aload_n 0, 0, 0, 0), (.getfield 15, 0, 9, 1109), (.iload 4, 0, 0, 0), (.iconst (-1), 0, 0, 0)] (pe := 65) (ls' := [some (.ref 0), some (.int t), some (.int c), some (.int r), some (.int (nI i1))]) (st' := [.int (-1), .int (nI i1), .ref 2]) (M' := (zU s1 1 i1 0)) (by decide +kernel) rfl ?_
    refine zT.iast (n := 9) (k := i1) rfl rfl (by omega) (by decide) (by decide +kernel) ?_
    refine zT.run [(.iinc 4 1, 0, 0, 0), (.goto (-26), 0, 0, 0)] (pe := 43) (ls' := [some (.ref 0), some (.int t), some (.int c), some (.int r), some (.int ((nI i1) + 1))]) (st' := []) (M' := (zU (zU s1 1 i1 0) 2 i1 (-1))) (by decide +kernel) rfl ?_
    exact zT.eq (by simp only [l_X1_begin_43, nI_succ, zDl]; try rfl) k1
  · skip
    show zT _ _ _ _ (43, [some (.ref 0), some (.int t), some (.int c), some (.int r), some (.int (nI 9))], [], sh_Ballot, (zIt (l_X1_begin_43 M t c r) 9 (zU (zU (zU (zU (zU (zU (zU (zU M 0 0 1) 0 1 t) 0 2 c) 0 3 r) 0 4 0) 0 5 0) 0 6 0) 0 7 0)))
    refine zT.run [(.iload 4, 0, 0, 0), (.bipush 9, 0, 0, 0)] (pe := 47) (ls' := [some (.ref 0), some (.int t), some (.int c), some (.int r), some (.int (nI 9))]) (st' := [.int 9, .int (nI 9)]) (M' := (zIt (l_X1_begin_43 M t c r) 9 (zU (zU (zU (zU (zU (zU (zU (zU M 0 0 1) 0 1 t) 0 2 c) 0 3 r) 0 4 0) 0 5 0) 0 6 0) 0 7 0))) (by decide +kernel) rfl ?_
    refine zT.cge (tgt := 72) (off := 25) (by decide +kernel) (by decide) (fun _ => ?_) (fun c => absurd (zGeY (n := 9) rfl) c)
    exact zT.vret (by simp only [g_X1_begin]; try rfl) rfl (by decide +kernel)
theorem fr_X1_begin (M : zM) (t : Int32) (c : Int32) (r : Int32) (o : Nat) (ho : o ≠ 0 ∧ o ≠ 1 ∧ o ≠ 2) : (g_X1_begin M t c r) o = M o := by
  simp only [g_X1_begin]
  (repeat' split) <;> simp only [zU_ne ho.1, zU_ne ho.2.1, zU_ne ho.2.2, zUa_ne ho.1, zUa_ne ho.2.1, zUa_ne ho.2.2, (fr_l_X1_begin_43 M t c r o (by omega))]
theorem k_X1_begin : zCal yy_X1_begin 3 := ⟨⟨⟨⟨zIn (w := 2005) (by decide +kernel) rfl, zIn (w := 1005) (by decide +kernel) rfl⟩, by decide +kernel⟩, by decide +kernel⟩, ⟨zIn (w := 2003) (by decide +kernel) rfl, zIn (w := 2004) (by decide +kernel) rfl⟩⟩
noncomputable abbrev yy_X1_clear : zY := (yX1_clear, cX1_clear, 1, none, 1, 24)
noncomputable def g_X1_clear (M : zM)  : zM := (zU (g_X1_begin M (-1) (-1) 0) 0 0 0)
set_option maxRecDepth 100000 in
theorem c_X1_clear (M : zM)   : zC yy_X1_clear 0 0 [.ref 0] sh_Ballot M none sh_Ballot (g_X1_clear M) := by
  refine zC.of (by decide +kernel) rfl (Nat.le_of_ble_eq_true rfl) ?_
  refine zT.run [(.aload_n 0, 0, 0, 0), (.iconst (-1), 0, 0, 0), (.iconst (-1), 0, 0, 0), (.iconst 0, 0, 0, 0)] (pe := 4) (ls' := [some (.ref 0)]) (st' := [.int 0, .int (-1), .int (-1), .ref 0]) (M' := M) (by decide +kernel) rfl ?_
  refine zT.cV_all (o := 0) (idx := 18) (av := [.int (-1), .int (-1), .int 0]) (rv := none) (st := []) (S1 := []) (c_X1_begin M (-1) (-1) 0) k_X1_begin _ _ rfl rfl rfl (zIn (w := 2002) (by decide +kernel) rfl) (by decide +kernel) (by decide +kernel) rfl (Nat.le_of_ble_eq_true rfl) rfl ?_
  refine zT.run [(.aload_n 0, 0, 0, 0), (.iconst 0, 0, 0, 0), (.putfield 22, 0, 0, 1091)] (pe := 12) (ls' := [some (.ref 0)]) (st' := []) (M' := (zU (g_X1_begin M (-1) (-1) 0) 0 0 0)) (by decide +kernel) rfl ?_
  exact zT.vret (by simp only [g_X1_clear]; try rfl) rfl (by decide +kernel)
theorem fr_X1_clear (M : zM)  (o : Nat) (ho : o ≠ 0 ∧ o ≠ 1 ∧ o ≠ 2) : (g_X1_clear M) o = M o := by
  simp only [g_X1_clear]
  (repeat' split) <;> simp only [zU_ne ho.1, zU_ne ho.2.1, zU_ne ho.2.2, zUa_ne ho.1, zUa_ne ho.2.1, zUa_ne ho.2.2, (fun (MM : zM) (t : Int32) (c : Int32) (r : Int32) => fr_X1_begin MM t c r o (by omega))]
theorem k_X1_clear : zCal yy_X1_clear 0 := ⟨⟨⟨⟨zIn (w := 2001) (by decide +kernel) rfl, zIn (w := 1005) (by decide +kernel) rfl⟩, by decide +kernel⟩, by decide +kernel⟩, ⟨zIn (w := 1239) (by decide +kernel) rfl, zIn (w := 2000) (by decide +kernel) rfl⟩⟩
noncomputable abbrev yy_X1_rollSize : zY := (yX1_rollSize, cX1_rollSize, 1, (some Jvm.ClassFile.FieldType.int), 1, 20)
noncomputable def g_X1_rollSize (M : zM)  : Int32 := (g_J6_bitCount_0f7a4 (M 0 3))
set_option maxRecDepth 100000 in
theorem c_X1_rollSize (M : zM)   : zC yy_X1_rollSize 0 0 [.ref 0] sh_Ballot M (some (.int (g_X1_rollSize M))) sh_Ballot M := by
  refine zC.of (by decide +kernel) rfl (Nat.le_of_ble_eq_true rfl) ?_
  refine zT.run [(.aload_n 0, 0, 0, 0), (.getfield 32, 0, 3, 1098)] (pe := 4) (ls' := [some (.ref 0)]) (st' := [.int (M 0 3)]) (M' := M) (by decide +kernel) rfl ?_
  refine zT.cS_nil (idx := 53) (av := [.int (M 0 3)]) (rv := (some (.int (g_J6_bitCount_0f7a4 (M 0 3))))) (st := []) (S1 := [.int (g_J6_bitCount_0f7a4 (M 0 3))]) (c_J6_bitCount_0f7a4 (M 0 3)) k_J6_bitCount_0f7a4 rfl (zIn (w := 2185) (by decide +kernel) rfl) (by decide +kernel) (by decide +kernel) rfl (Nat.le_of_ble_eq_true rfl) rfl ?_
  exact zT.iret (ty := Jvm.ClassFile.FieldType.int) (by simp only [g_X1_rollSize]; try rfl) rfl rfl rfl (by decide +kernel)
theorem k_X1_rollSize : zCal yy_X1_rollSize 0 := ⟨⟨⟨⟨zIn (w := 2184) (by decide +kernel) rfl, zIn (w := 1005) (by decide +kernel) rfl⟩, by decide +kernel⟩, by decide +kernel⟩, ⟨zIn (w := 2182) (by decide +kernel) rfl, zIn (w := 2183) (by decide +kernel) rfl⟩⟩
noncomputable abbrev yy_X1_need : zY := (yX1_need, cX1_need, 1, (some Jvm.ClassFile.FieldType.int), 2, 40)
noncomputable def g_X1_need (M : zM)  : Int32 := (((g_X1_rollSize M) / 2) + 1)
set_option maxRecDepth 100000 in
theorem c_X1_need (M : zM)   : zC yy_X1_need 0 0 [.ref 0] sh_Ballot M (some (.int (g_X1_need M))) sh_Ballot M := by
  refine zC.of (by decide +kernel) rfl (Nat.le_of_ble_eq_true rfl) ?_
  refine zT.run [(.aload_n 0, 0, 0, 0)] (pe := 1) (ls' := [some (.ref 0)]) (st' := [.ref 0]) (M' := M) (by decide +kernel) rfl ?_
  refine zT.cV_own (o := 0) (idx := 59) (av := []) (rv := (some (.int (g_X1_rollSize M)))) (st := []) (S1 := [.int (g_X1_rollSize M)]) (c_X1_rollSize M) k_X1_rollSize _ _ rfl rfl rfl (zIn (w := 2181) (by decide +kernel) rfl) (by decide +kernel) (by decide +kernel) rfl (Nat.le_of_ble_eq_true rfl) rfl ?_
  refine zT.run [(.iconst 2, 0, 0, 0), (.idiv, 0, 0, 0), (.iconst 1, 0, 0, 0), (.iadd, 0, 0, 0)] (pe := 8) (ls' := [some (.ref 0)]) (st' := [.int (((g_X1_rollSize M) / 2) + 1)]) (M' := M) (by decide +kernel) rfl ?_
  exact zT.iret (ty := Jvm.ClassFile.FieldType.int) (by simp only [g_X1_need]; try rfl) rfl rfl rfl (by decide +kernel)
theorem k_X1_need : zCal yy_X1_need 0 := ⟨⟨⟨⟨zIn (w := 2180) (by decide +kernel) rfl, zIn (w := 1005) (by decide +kernel) rfl⟩, by decide +kernel⟩, by decide +kernel⟩, ⟨zIn (w := 2178) (by decide +kernel) rfl, zIn (w := 2179) (by decide +kernel) rfl⟩⟩
noncomputable abbrev yy_X1_isOnRoll : zY := (yX1_isOnRoll, cX1_isOnRoll, 2, (some Jvm.ClassFile.FieldType.boolean), 1, 21)
noncomputable def g_X1_isOnRoll (M : zM) (r : Int32) : Int32 := (g_X9_has (M 0 3) r)
set_option maxRecDepth 100000 in
theorem c_X1_isOnRoll (M : zM) (r : Int32)  : zC yy_X1_isOnRoll 0 0 [.ref 0, .int r] sh_Ballot M (some (.int (g_X1_isOnRoll M r))) sh_Ballot M := by
  refine zC.of (by decide +kernel) rfl (Nat.le_of_ble_eq_true rfl) ?_
  refine zT.run [(.aload_n 0, 0, 0, 0), (.getfield 32, 0, 3, 1098), (.iload_n 1, 0, 0, 0)] (pe := 5) (ls' := [some (.ref 0), some (.int r)]) (st' := [.int r, .int (M 0 3)]) (M' := M) (by decide +kernel) rfl ?_
  refine zT.cN_nil "SealedBallots" (idx := 63) (av := [.int (M 0 3), .int r]) (rv := (some (.int (g_X9_has (M 0 3) r)))) (st := []) (S1 := [.int (g_X9_has (M 0 3) r)]) (c_X9_has (M 0 3) r) k_X9_has rfl (zInN (w := 2060) (by decide +kernel) rfl) (by decide +kernel) (by decide +kernel) rfl (Nat.le_of_ble_eq_true rfl) rfl ?_
  exact zT.iret (ty := Jvm.ClassFile.FieldType.boolean) (by simp only [g_X1_isOnRoll]; try rfl) rfl rfl (nb_X9_has ) (by decide +kernel)
theorem k_X1_isOnRoll : zCal yy_X1_isOnRoll 1 := ⟨⟨⟨⟨zIn (w := 2059) (by decide +kernel) rfl, zIn (w := 1005) (by decide +kernel) rfl⟩, by decide +kernel⟩, by decide +kernel⟩, ⟨zIn (w := 2057) (by decide +kernel) rfl, zIn (w := 2058) (by decide +kernel) rfl⟩⟩
noncomputable abbrev yy_X1_stateOf : zY := (yX1_stateOf, cX1_stateOf, 2, (some Jvm.ClassFile.FieldType.int), 1, 21)
noncomputable def g_X1_stateOf (M : zM) (r : Int32) : Int32 := (if (g_X9_has (M 0 5) r) = 0 then (if (g_X9_has (M 0 6) r) = 0 then (if (g_X9_has (M 0 7) r) = 0 then 0 else 3) else 2) else 1)
set_option maxRecDepth 100000 in
theorem c_X1_stateOf (M : zM) (r : Int32)  : zC yy_X1_stateOf 0 0 [.ref 0, .int r] sh_Ballot M (some (.int (g_X1_stateOf M r))) sh_Ballot M := by
  refine zC.of (by decide +kernel) rfl (Nat.le_of_ble_eq_true rfl) ?_
  refine zT.run [(.aload_n 0, 0, 0, 0), (.getfield 38, 0, 5, 1102), (.iload_n 1, 0, 0, 0)] (pe := 5) (ls' := [some (.ref 0), some (.int r)]) (st' := [.int r, .int (M 0 5)]) (M' := M) (by decide +kernel) rfl ?_
  refine zT.cN_nil "SealedBallots" (idx := 63) (av := [.int (M 0 5), .int r]) (rv := (some (.int (g_X9_has (M 0 5) r)))) (st := []) (S1 := [.int (g_X9_has (M 0 5) r)]) (c_X9_has (M 0 5) r) k_X9_has rfl (zInN (w := 2060) (by decide +kernel) rfl) (by decide +kernel) (by decide +kernel) rfl (Nat.le_of_ble_eq_true rfl) rfl ?_
  refine zT.zeq (tgt := 13) (off := 5) (by decide +kernel) (by decide) (fun (c1 : (g_X9_has (M 0 5) r) = 0) => ?_) (fun (c1 : ¬ (g_X9_has (M 0 5) r) = 0) => ?_)
  · skip
    refine zT.run [(.aload_n 0, 0, 0, 0), (.getfield 41, 0, 6, 1104), (.iload_n 1, 0, 0, 0)] (pe := 18) (ls' := [some (.ref 0), some (.int r)]) (st' := [.int r, .int (M 0 6)]) (M' := M) (by decide +kernel) rfl ?_
    refine zT.cN_nil "SealedBallots" (idx := 63) (av := [.int (M 0 6), .int r]) (rv := (some (.int (g_X9_has (M 0 6) r)))) (st := []) (S1 := [.int (g_X9_has (M 0 6) r)]) (c_X9_has (M 0 6) r) k_X9_has rfl (zInN (w := 2060) (by decide +kernel) rfl) (by decide +kernel) (by decide +kernel) rfl (Nat.le_of_ble_eq_true rfl) rfl ?_
    refine zT.zeq (tgt := 26) (off := 5) (by decide +kernel) (by decide) (fun (c2 : (g_X9_has (M 0 6) r) = 0) => ?_) (fun (c2 : ¬ (g_X9_has (M 0 6) r) = 0) => ?_)
    · skip
      refine zT.run [(.aload_n 0, 0, 0, 0), (.getfield 44, 0, 7, 1106), (.iload_n 1, 0, 0, 0)] (pe := 31) (ls' := [some (.ref 0), some (.int r)]) (st' := [.int r, .int (M 0 7)]) (M' := M) (by decide +kernel) rfl ?_
      refine zT.cN_nil "SealedBallots" (idx := 63) (av := [.int (M 0 7), .int r]) (rv := (some (.int (g_X9_has (M 0 7) r)))) (st := []) (S1 := [.int (g_X9_has (M 0 7) r)]) (c_X9_has (M 0 7) r) k_X9_has rfl (zInN (w := 2060) (by decide +kernel) rfl) (by decide +kernel) (by decide +kernel) rfl (Nat.le_of_ble_eq_true rfl) rfl ?_
      refine zT.zeq (tgt := 41) (off := 7) (by decide +kernel) (by decide) (fun (c3 : (g_X9_has (M 0 7) r) = 0) => ?_) (fun (c3 : ¬ (g_X9_has (M 0 7) r) = 0) => ?_)
      · skip
        refine zT.run [(.iconst 0, 0, 0, 0)] (pe := 42) (ls' := [some (.ref 0), some (.int r)]) (st' := [.int 0]) (M' := M) (by decide +kernel) rfl ?_
        exact zT.iret (ty := Jvm.ClassFile.FieldType.int) (by simp only [g_X1_stateOf, if_pos c1, if_pos c2, if_pos c3]; try rfl) rfl rfl rfl (by decide +kernel)
      · skip
        refine zT.run [(.iconst 3, 0, 0, 0), (.goto 4, 0, 0, 0)] (pe := 42) (ls' := [some (.ref 0), some (.int r)]) (st' := [.int 3]) (M' := M) (by decide +kernel) rfl ?_
        exact zT.iret (ty := Jvm.ClassFile.FieldType.int) (by simp only [g_X1_stateOf, if_pos c1, if_pos c2, if_neg c3]; try rfl) rfl rfl rfl (by decide +kernel)
    · skip
      refine zT.run [(.iconst 2, 0, 0, 0)] (pe := 25) (ls' := [some (.ref 0), some (.int r)]) (st' := [.int 2]) (M' := M) (by decide +kernel) rfl ?_
      exact zT.iret (ty := Jvm.ClassFile.FieldType.int) (by simp only [g_X1_stateOf, if_pos c1, if_neg c2]; try rfl) rfl rfl rfl (by decide +kernel)
  · skip
    refine zT.run [(.iconst 1, 0, 0, 0)] (pe := 12) (ls' := [some (.ref 0), some (.int r)]) (st' := [.int 1]) (M' := M) (by decide +kernel) rfl ?_
    exact zT.iret (ty := Jvm.ClassFile.FieldType.int) (by simp only [g_X1_stateOf, if_neg c1]; try rfl) rfl rfl rfl (by decide +kernel)
theorem k_X1_stateOf : zCal yy_X1_stateOf 1 := ⟨⟨⟨⟨zIn (w := 4224) (by decide +kernel) rfl, zIn (w := 1005) (by decide +kernel) rfl⟩, by decide +kernel⟩, by decide +kernel⟩, ⟨zIn (w := 4222) (by decide +kernel) rfl, zIn (w := 4223) (by decide +kernel) rfl⟩⟩
noncomputable abbrev yy_X1_validVotesFor : zY := (yX1_validVotesFor, cX1_validVotesFor, 4, (some Jvm.ClassFile.FieldType.int), 1, 21)
noncomputable def l_X1_validVotesFor_4 (M : zM) (c : Int32) (i1 : Nat) (s1 : Int32) : Int32 := (s1 + (if (g_X9_has (M 0 6) (nI i1)) = 0 then 0 else (if (M 2 i1) = c then 1 else 0)))
noncomputable def g_X1_validVotesFor (M : zM) (c : Int32) : Int32 := (zIt (l_X1_validVotesFor_4 M c) 9 0)
set_option maxRecDepth 100000 in
theorem c_X1_validVotesFor (M : zM) (c : Int32)  : zC yy_X1_validVotesFor 0 0 [.ref 0, .int c] sh_Ballot M (some (.int (g_X1_validVotesFor M c))) sh_Ballot M := by
  refine zC.of (by decide +kernel) rfl (Nat.le_of_ble_eq_true rfl) ?_
  refine zT.run [(.iconst 0, 0, 0, 0), (.istore_n 2, 0, 0, 0), (.iconst 0, 0, 0, 0), (.istore_n 3, 0, 0, 0)] (pe := 4) (ls' := [some (.ref 0), some (.int c), some (.int 0), some (.int 0)]) (st' := []) (M' := M) (by decide +kernel) rfl ?_
  refine zT.loop (l_X1_validVotesFor_4 M c) (fun (i : Nat) (s : Int32) => (4, [some (.ref 0), some (.int c), some (.int s), some (.int (nI i))], [], sh_Ballot, M)) 9 0 (fun i1 hi1 k1 => ?_) ?_
  · skip
    generalize hs1 : zIt (l_X1_validVotesFor_4 M c) i1 0 = s1 at k1 ⊢
    show zT _ _ _ _ (4, [some (.ref 0), some (.int c), some (.int s1), some (.int (nI i1))], [], sh_Ballot, M)
    refine zT.run [(.iload_n 3, 0, 0, 0), (.bipush 9, 0, 0, 0)] (pe := 7) (ls' := [some (.ref 0), some (.int c), some (.int s1), some (.int (nI i1))]) (st' := [.int 9, .int (nI i1)]) (M' := M) (by decide +kernel) rfl ?_
    refine zT.cge (tgt := 45) (off := 38) (by decide +kernel) (by decide) (fun c => absurd c (zGeN (n := 9) rfl (by omega) (by omega))) (fun _ => ?_)
    refine zT.run [(.iload_n 2, 0, 0, 0), (.aload_n 0, 0, 0, 0), (.getfield 41, 0, 6, 1104), (.iload_n 3, 0, 0, 0)] (pe := 16) (ls' := [some (.ref 0), some (.int c), some (.int s1), some (.int (nI i1))]) (st' := [.int (nI i1), .int (M 0 6), .int s1]) (M' := M) (by decide +kernel) rfl ?_
    refine zT.cN_nil "SealedBallots" (idx := 63) (av := [.int (M 0 6), .int (nI i1)]) (rv := (some (.int (g_X9_has (M 0 6) (nI i1))))) (st := [.int s1]) (S1 := [.int (g_X9_has (M 0 6) (nI i1)), .int s1]) (c_X9_has (M 0 6) (nI i1)) k_X9_has rfl (zInN (w := 2060) (by decide +kernel) rfl) (by decide +kernel) (by decide +kernel) rfl (Nat.le_of_ble_eq_true rfl) rfl ?_
    refine zT.join (37, [some (.ref 0), some (.int c), some (.int s1), some (.int (nI i1))], [.int (if (g_X9_has (M 0 6) (nI i1)) = 0 then 0 else (if (M 2 i1) = c then 1 else 0)), .int s1], sh_Ballot, M) ?_ ?_
    · refine zT.zeq (tgt := 36) (off := 17) (by decide +kernel) (by decide) (fun (c1 : (g_X9_has (M 0 6) (nI i1)) = 0) => ?_) (fun (c1 : ¬ (g_X9_has (M 0 6) (nI i1)) = 0) => ?_)
      · skip
        refine zT.run [(.iconst 0, 0, 0, 0)] (pe := 37) (ls' := [some (.ref 0), some (.int c), some (.int s1), some (.int (nI i1))]) (st' := [.int 0, .int s1]) (M' := M) (by decide +kernel) rfl ?_
        exact zT.here (by simp only [if_pos c1])
      · skip
        refine zT.run [(.aload_n 0, 0, 0, 0), (.getfield 15, 0, 9, 1109), (.iload_n 3, 0, 0, 0)] (pe := 27) (ls' := [some (.ref 0), some (.int c), some (.int s1), some (.int (nI i1))]) (st' := [.int (nI i1), .ref 2, .int s1]) (M' := M) (by decide +kernel) rfl ?_
        refine zT.iald (n := 9) (k := i1) rfl rfl (by omega) (by decide) (by decide +kernel) ?_
        refine zT.run [(.iload_n 1, 0, 0, 0)] (pe := 29) (ls' := [some (.ref 0), some (.int c), some (.int s1), some (.int (nI i1))]) (st' := [.int c, .int (M 2 i1), .int s1]) (M' := M) (by decide +kernel) rfl ?_
        refine zT.cne (tgt := 36) (off := 7) (by decide +kernel) (by decide) (fun (c2 : ¬ (M 2 i1) = c) => ?_) (fun (c2 : (M 2 i1) = c) => ?_)
        · skip
          refine zT.run [(.iconst 0, 0, 0, 0)] (pe := 37) (ls' := [some (.ref 0), some (.int c), some (.int s1), some (.int (nI i1))]) (st' := [.int 0, .int s1]) (M' := M) (by decide +kernel) rfl ?_
          exact zT.here (by simp only [if_neg c1, if_neg c2])
        · skip
          refine zT.run [(.iconst 1, 0, 0, 0), (.goto 4, 0, 0, 0)] (pe := 37) (ls' := [some (.ref 0), some (.int c), some (.int s1), some (.int (nI i1))]) (st' := [.int 1, .int s1]) (M' := M) (by decide +kernel) rfl ?_
          exact zT.here (by simp only [if_neg c1, if_pos c2])
    · skip
      refine zT.run [(.iadd, 0, 0, 0), (.istore_n 2, 0, 0, 0), (.iinc 3 1, 0, 0, 0), (.goto (-38), 0, 0, 0)] (pe := 4) (ls' := [some (.ref 0), some (.int c), some (.int (s1 + (if (g_X9_has (M 0 6) (nI i1)) = 0 then 0 else (if (M 2 i1) = c then 1 else 0)))), some (.int ((nI i1) + 1))]) (st' := []) (M' := M) (by decide +kernel) rfl ?_
      exact zT.eq (by simp only [l_X1_validVotesFor_4, nI_succ, zDl]; try rfl) k1
  · skip
    show zT _ _ _ _ (4, [some (.ref 0), some (.int c), some (.int (zIt (l_X1_validVotesFor_4 M c) 9 0)), some (.int (nI 9))], [], sh_Ballot, M)
    refine zT.run [(.iload_n 3, 0, 0, 0), (.bipush 9, 0, 0, 0)] (pe := 7) (ls' := [some (.ref 0), some (.int c), some (.int (zIt (l_X1_validVotesFor_4 M c) 9 0)), some (.int (nI 9))]) (st' := [.int 9, .int (nI 9)]) (M' := M) (by decide +kernel) rfl ?_
    refine zT.cge (tgt := 45) (off := 38) (by decide +kernel) (by decide) (fun _ => ?_) (fun c => absurd (zGeY (n := 9) rfl) c)
    refine zT.run [(.iload_n 2, 0, 0, 0)] (pe := 46) (ls' := [some (.ref 0), some (.int c), some (.int (zIt (l_X1_validVotesFor_4 M c) 9 0)), some (.int (nI 9))]) (st' := [.int (zIt (l_X1_validVotesFor_4 M c) 9 0)]) (M' := M) (by decide +kernel) rfl ?_
    exact zT.iret (ty := Jvm.ClassFile.FieldType.int) (by simp only [g_X1_validVotesFor]; try rfl) rfl rfl rfl (by decide +kernel)
theorem k_X1_validVotesFor : zCal yy_X1_validVotesFor 1 := ⟨⟨⟨⟨zIn (w := 4100) (by decide +kernel) rfl, zIn (w := 1005) (by decide +kernel) rfl⟩, by decide +kernel⟩, by decide +kernel⟩, ⟨zIn (w := 4098) (by decide +kernel) rfl, zIn (w := 4099) (by decide +kernel) rfl⟩⟩
noncomputable abbrev yy_X1_putSeal : zY := (yX1_putSeal, cX1_putSeal, 3, none, 0, 0)
noncomputable def g_X1_putSeal (M : zM) (r : Nat) (x : Int32) : zM := (zU (zU M 0 5 ((M 0 5) ||| (1 <<< ((nI r) &&& 31)))) 1 r x)
set_option maxRecDepth 100000 in
theorem c_X1_putSeal (M : zM) (r : Nat) (x : Int32) (h_r : r < 9) : zC yy_X1_putSeal 0 0 [.ref 0, .int (nI r), .int x] sh_Ballot M none sh_Ballot (g_X1_putSeal M r x) := by
  refine zC.of (by decide +kernel) rfl (Nat.le_of_ble_eq_true rfl) ?_
  refine zT.run [(.aload_n 0, 0, 0, 0), (.dup, 0, 0, 0), (.getfield 38, 0, 5, 1102), (.iconst 1, 0, 0, 0), (.iload_n 1, 0, 0, 0), (.ishl, 0, 0, 0), (.ior, 0, 0, 0), (.putfield 38, 0, 5, 1102), (.aload_n 0, 0, 0, 0), (.getfield 9, 0, 8, 1108), (.iload_n 1, 0, 0, 0), (.iload_n 2, 0, 0, 0)] (pe := 18) (ls' := [some (.ref 0), some (.int (nI r)), some (.int x)]) (st' := [.int x, .int (nI r), .ref 1]) (M' := (zU M 0 5 ((M 0 5) ||| (1 <<< ((nI r) &&& 31))))) (by decide +kernel) rfl ?_
  refine zT.iast (n := 9) (k := r) rfl rfl (by omega) (by decide) (by decide +kernel) ?_
  exact zT.vret (by simp only [g_X1_putSeal]; try rfl) rfl (by decide +kernel)
theorem fr_X1_putSeal (M : zM) (r : Nat) (x : Int32) (o : Nat) (ho : o ≠ 0 ∧ o ≠ 1) : (g_X1_putSeal M r x) o = M o := by
  simp only [g_X1_putSeal]
  (repeat' split) <;> simp only [zU_ne ho.1, zU_ne ho.2, zUa_ne ho.1, zUa_ne ho.2]
theorem k_X1_putSeal : zCal yy_X1_putSeal 2 := ⟨⟨⟨⟨zIn (w := 2068) (by decide +kernel) rfl, zIn (w := 1005) (by decide +kernel) rfl⟩, by decide +kernel⟩, by decide +kernel⟩, ⟨zIn (w := 2066) (by decide +kernel) rfl, zIn (w := 2067) (by decide +kernel) rfl⟩⟩
noncomputable abbrev yy_X1_sealFits : zY := (yX1_sealFits, cX1_sealFits, 4, (some Jvm.ClassFile.FieldType.boolean), 1, 22)
noncomputable def g_X1_sealFits (M : zM) (r : Nat) (c : Int32) (x : Int32) : Int32 := (if (g_X9_sealNumber c x (M 0 1)) = (M 1 r) then 1 else 0)
set_option maxRecDepth 100000 in
theorem c_X1_sealFits (M : zM) (r : Nat) (c : Int32) (x : Int32) (h_r : r < 9) : zC yy_X1_sealFits 0 0 [.ref 0, .int (nI r), .int c, .int x] sh_Ballot M (some (.int (g_X1_sealFits M r c x))) sh_Ballot M := by
  refine zC.of (by decide +kernel) rfl (Nat.le_of_ble_eq_true rfl) ?_
  refine zT.run [(.iload_n 2, 0, 0, 0), (.iload_n 3, 0, 0, 0), (.aload_n 0, 0, 0, 0), (.getfield 26, 0, 1, 1093)] (pe := 6) (ls' := [some (.ref 0), some (.int (nI r)), some (.int c), some (.int x)]) (st' := [.int (M 0 1), .int x, .int c]) (M' := M) (by decide +kernel) rfl ?_
  refine zT.cN_nil "SealedBallots" (idx := 67) (av := [.int c, .int x, .int (M 0 1)]) (rv := (some (.int (g_X9_sealNumber c x (M 0 1))))) (st := []) (S1 := [.int (g_X9_sealNumber c x (M 0 1))]) (c_X9_sealNumber c x (M 0 1)) k_X9_sealNumber rfl (zInN (w := 4080) (by decide +kernel) rfl) (by decide +kernel) (by decide +kernel) rfl (Nat.le_of_ble_eq_true rfl) rfl ?_
  refine zT.run [(.aload_n 0, 0, 0, 0), (.getfield 9, 0, 8, 1108), (.iload_n 1, 0, 0, 0)] (pe := 14) (ls' := [some (.ref 0), some (.int (nI r)), some (.int c), some (.int x)]) (st' := [.int (nI r), .ref 1, .int (g_X9_sealNumber c x (M 0 1))]) (M' := M) (by decide +kernel) rfl ?_
  refine zT.iald (n := 9) (k := r) rfl rfl (by omega) (by decide) (by decide +kernel) ?_
  refine zT.cne (tgt := 22) (off := 7) (by decide +kernel) (by decide) (fun (c1 : ¬ (g_X9_sealNumber c x (M 0 1)) = (M 1 r)) => ?_) (fun (c1 : (g_X9_sealNumber c x (M 0 1)) = (M 1 r)) => ?_)
  · skip
    refine zT.run [(.iconst 0, 0, 0, 0)] (pe := 23) (ls' := [some (.ref 0), some (.int (nI r)), some (.int c), some (.int x)]) (st' := [.int 0]) (M' := M) (by decide +kernel) rfl ?_
    exact zT.iret (ty := Jvm.ClassFile.FieldType.boolean) (by simp only [g_X1_sealFits, if_neg c1]; try rfl) rfl rfl rfl (by decide +kernel)
  · skip
    refine zT.run [(.iconst 1, 0, 0, 0), (.goto 4, 0, 0, 0)] (pe := 23) (ls' := [some (.ref 0), some (.int (nI r)), some (.int c), some (.int x)]) (st' := [.int 1]) (M' := M) (by decide +kernel) rfl ?_
    exact zT.iret (ty := Jvm.ClassFile.FieldType.boolean) (by simp only [g_X1_sealFits, if_pos c1]; try rfl) rfl rfl rfl (by decide +kernel)
theorem k_X1_sealFits : zCal yy_X1_sealFits 3 := ⟨⟨⟨⟨zIn (w := 4079) (by decide +kernel) rfl, zIn (w := 1005) (by decide +kernel) rfl⟩, by decide +kernel⟩, by decide +kernel⟩, ⟨zIn (w := 4077) (by decide +kernel) rfl, zIn (w := 4078) (by decide +kernel) rfl⟩⟩
noncomputable abbrev yy_X1_putBroken : zY := (yX1_putBroken, cX1_putBroken, 4, none, 0, 0)
noncomputable def g_X1_putBroken (M : zM) (r : Nat) (c : Int32) (x : Int32) : zM := (if x = 0 then (zU (zU (zU M 0 5 ((M 0 5) &&& ((1 <<< ((nI r) &&& 31)) ^^^ (-1)))) 0 6 ((M 0 6) ||| (1 <<< ((nI r) &&& 31)))) 2 r c) else (zU (zU (zU M 0 5 ((M 0 5) &&& ((1 <<< ((nI r) &&& 31)) ^^^ (-1)))) 0 7 ((M 0 7) ||| (1 <<< ((nI r) &&& 31)))) 2 r x))
set_option maxRecDepth 100000 in
theorem c_X1_putBroken (M : zM) (r : Nat) (c : Int32) (x : Int32) (h_r : r < 9) : zC yy_X1_putBroken 0 0 [.ref 0, .int (nI r), .int c, .int x] sh_Ballot M none sh_Ballot (g_X1_putBroken M r c x) := by
  refine zC.of (by decide +kernel) rfl (Nat.le_of_ble_eq_true rfl) ?_
  refine zT.run [(.aload_n 0, 0, 0, 0), (.dup, 0, 0, 0), (.getfield 38, 0, 5, 1102), (.iconst 1, 0, 0, 0), (.iload_n 1, 0, 0, 0), (.ishl, 0, 0, 0), (.iconst (-1), 0, 0, 0), (.ixor, 0, 0, 0), (.iand, 0, 0, 0), (.putfield 38, 0, 5, 1102), (.iload_n 3, 0, 0, 0)] (pe := 15) (ls' := [some (.ref 0), some (.int (nI r)), some (.int c), some (.int x)]) (st' := [.int x]) (M' := (zU M 0 5 ((M 0 5) &&& ((1 <<< ((nI r) &&& 31)) ^^^ (-1))))) (by decide +kernel) rfl ?_
  refine zT.zne (tgt := 40) (off := 25) (by decide +kernel) (by decide) (fun (c1 : ¬ x = 0) => ?_) (fun (c1 : x = 0) => ?_)
  · skip
    refine zT.run [(.aload_n 0, 0, 0, 0), (.dup, 0, 0, 0), (.getfield 44, 0, 7, 1106), (.iconst 1, 0, 0, 0), (.iload_n 1, 0, 0, 0), (.ishl, 0, 0, 0), (.ior, 0, 0, 0), (.putfield 44, 0, 7, 1106), (.aload_n 0, 0, 0, 0), (.getfield 15, 0, 9, 1109), (.iload_n 1, 0, 0, 0), (.iload_n 3, 0, 0, 0)] (pe := 58) (ls' := [some (.ref 0), some (.int (nI r)), some (.int c), some (.int x)]) (st' := [.int x, .int (nI r), .ref 2]) (M' := (zU (zU M 0 5 ((M 0 5) &&& ((1 <<< ((nI r) &&& 31)) ^^^ (-1)))) 0 7 ((M 0 7) ||| (1 <<< ((nI r) &&& 31))))) (by decide +kernel) rfl ?_
    refine zT.iast (n := 9) (k := r) rfl rfl (by omega) (by decide) (by decide +kernel) ?_
    exact zT.vret (by simp only [g_X1_putBroken, if_neg c1]; try rfl) rfl (by decide +kernel)
  · skip
    refine zT.run [(.aload_n 0, 0, 0, 0), (.dup, 0, 0, 0), (.getfield 41, 0, 6, 1104), (.iconst 1, 0, 0, 0), (.iload_n 1, 0, 0, 0), (.ishl, 0, 0, 0), (.ior, 0, 0, 0), (.putfield 41, 0, 6, 1104), (.aload_n 0, 0, 0, 0), (.getfield 15, 0, 9, 1109), (.iload_n 1, 0, 0, 0), (.iload_n 2, 0, 0, 0)] (pe := 36) (ls' := [some (.ref 0), some (.int (nI r)), some (.int c), some (.int x)]) (st' := [.int c, .int (nI r), .ref 2]) (M' := (zU (zU M 0 5 ((M 0 5) &&& ((1 <<< ((nI r) &&& 31)) ^^^ (-1)))) 0 6 ((M 0 6) ||| (1 <<< ((nI r) &&& 31))))) (by decide +kernel) rfl ?_
    refine zT.iast (n := 9) (k := r) rfl rfl (by omega) (by decide) (by decide +kernel) ?_
    refine zT.run [(.goto 22, 0, 0, 0)] (pe := 59) (ls' := [some (.ref 0), some (.int (nI r)), some (.int c), some (.int x)]) (st' := []) (M' := (zU (zU (zU M 0 5 ((M 0 5) &&& ((1 <<< ((nI r) &&& 31)) ^^^ (-1)))) 0 6 ((M 0 6) ||| (1 <<< ((nI r) &&& 31)))) 2 r c)) (by decide +kernel) rfl ?_
    exact zT.vret (by simp only [g_X1_putBroken, if_pos c1]; try rfl) rfl (by decide +kernel)
theorem fr_X1_putBroken (M : zM) (r : Nat) (c : Int32) (x : Int32) (o : Nat) (ho : o ≠ 0 ∧ o ≠ 2) : (g_X1_putBroken M r c x) o = M o := by
  simp only [g_X1_putBroken]
  (repeat' split) <;> simp only [zU_ne ho.1, zU_ne ho.2, zUa_ne ho.1, zUa_ne ho.2]
theorem k_X1_putBroken : zCal yy_X1_putBroken 3 := ⟨⟨⟨⟨zIn (w := 4088) (by decide +kernel) rfl, zIn (w := 1005) (by decide +kernel) rfl⟩, by decide +kernel⟩, by decide +kernel⟩, ⟨zIn (w := 4086) (by decide +kernel) rfl, zIn (w := 4087) (by decide +kernel) rfl⟩⟩
noncomputable abbrev yy_X1_sealMisfitsAgain : zY := (yX1_sealMisfitsAgain, cX1_sealMisfitsAgain, 3, (some Jvm.ClassFile.FieldType.int), 1, 21)
noncomputable def l_X1_sealMisfitsAgain_4 (M : zM) (i1 : Nat) (s1 : Int32 × zM) : Int32 × zM := (if (g_X9_has (s1.2 0 7) (nI i1)) = 0 then (s1.1, s1.2) else (if (s1.2 2 i1) = 1 then ((s1.1 + 1), (zU (zU (zU s1.2 0 7 ((s1.2 0 7) &&& ((1 <<< ((nI i1) &&& 31)) ^^^ (-1)))) 0 5 ((s1.2 0 5) ||| (1 <<< ((nI i1) &&& 31)))) 2 i1 (-1))) else (s1.1, s1.2)))
theorem fr_l_X1_sealMisfitsAgain_4 (M : zM) (o : Nat) (ho : o ≠ 0 ∧ o ≠ 2) : ∀ (k : Nat) (s : Int32 × zM), (zIt (l_X1_sealMisfitsAgain_4 M) k s).2 o = s.2 o := by
  intro k
  induction k with
  | zero => intro s; rfl
  | succ k ih =>
    intro s
    rw [← ih s]
    show (l_X1_sealMisfitsAgain_4 M k (zIt (l_X1_sealMisfitsAgain_4 M) k s)).2 o = _
    generalize zIt (l_X1_sealMisfitsAgain_4 M) k s = t
    simp only [l_X1_sealMisfitsAgain_4]
    (repeat' split) <;> simp only [zU_ne ho.1, zU_ne ho.2]
noncomputable def g_X1_sealMisfitsAgain (M : zM)  : Int32 × zM := ((zIt (l_X1_sealMisfitsAgain_4 M) 9 (0, M)).1, (zIt (l_X1_sealMisfitsAgain_4 M) 9 (0, M)).2)
set_option maxRecDepth 100000 in
theorem c_X1_sealMisfitsAgain (M : zM)   : zC yy_X1_sealMisfitsAgain 0 0 [.ref 0] sh_Ballot M (some (.int (g_X1_sealMisfitsAgain M).1)) sh_Ballot (g_X1_sealMisfitsAgain M).2 := by
  refine zC.of (by decide +kernel) rfl (Nat.le_of_ble_eq_true rfl) ?_
  refine zT.run [(.iconst 0, 0, 0, 0), (.istore_n 1, 0, 0, 0), (.iconst 0, 0, 0, 0), (.istore_n 2, 0, 0, 0)] (pe := 4) (ls' := [some (.ref 0), some (.int 0), some (.int 0)]) (st' := []) (M' := M) (by decide +kernel) rfl ?_
  refine zT.loop (l_X1_sealMisfitsAgain_4 M) (fun (i : Nat) (s : Int32 × zM) => (4, [some (.ref 0), some (.int s.1), some (.int (nI i))], [], sh_Ballot, s.2)) 9 (0, M) (fun i1 hi1 k1 => ?_) ?_
  · skip
    generalize hs1 : zIt (l_X1_sealMisfitsAgain_4 M) i1 (0, M) = s1 at k1 ⊢
    have hm1 : ∀ o : Nat, (o ≠ 0 ∧ o ≠ 2) → s1.2 o = M o := fun o ho => by rw [← hs1]; exact fr_l_X1_sealMisfitsAgain_4 M o ho i1 (0, M)
    show zT _ _ _ _ (4, [some (.ref 0), some (.int s1.1), some (.int (nI i1))], [], sh_Ballot, s1.2)
    refine zT.run [(.iload_n 2, 0, 0, 0), (.bipush 9, 0, 0, 0)] (pe := 7) (ls' := [some (.ref 0), some (.int s1.1), some (.int (nI i1))]) (st' := [.int 9, .int (nI i1)]) (M' := s1.2) (by decide +kernel) rfl ?_
    refine zT.cge (tgt := 73) (off := 66) (by decide +kernel) (by decide) (fun c => absurd c (zGeN (n := 9) rfl (by omega) (by omega))) (fun _ => ?_)
    refine zT.run [(.aload_n 0, 0, 0, 0), (.getfield 44, 0, 7, 1106), (.iload_n 2, 0, 0, 0)] (pe := 15) (ls' := [some (.ref 0), some (.int s1.1), some (.int (nI i1))]) (st' := [.int (nI i1), .int (s1.2 0 7)]) (M' := s1.2) (by decide +kernel) rfl ?_
    refine zT.cN_nil "SealedBallots" (idx := 63) (av := [.int (s1.2 0 7), .int (nI i1)]) (rv := (some (.int (g_X9_has (s1.2 0 7) (nI i1))))) (st := []) (S1 := [.int (g_X9_has (s1.2 0 7) (nI i1))]) (c_X9_has (s1.2 0 7) (nI i1)) k_X9_has rfl (zInN (w := 2060) (by decide +kernel) rfl) (by decide +kernel) (by decide +kernel) rfl (Nat.le_of_ble_eq_true rfl) rfl ?_
    refine zT.zeq (tgt := 67) (off := 49) (by decide +kernel) (by decide) (fun (c1 : (g_X9_has (s1.2 0 7) (nI i1)) = 0) => ?_) (fun (c1 : ¬ (g_X9_has (s1.2 0 7) (nI i1)) = 0) => ?_)
    · skip
      refine zT.run [(.iinc 2 1, 0, 0, 0), (.goto (-66), 0, 0, 0)] (pe := 4) (ls' := [some (.ref 0), some (.int s1.1), some (.int ((nI i1) + 1))]) (st' := []) (M' := s1.2) (by decide +kernel) rfl ?_
      exact zT.eq (by simp only [l_X1_sealMisfitsAgain_4, if_pos c1, nI_succ, zDl]; try rfl) k1
    · skip
      refine zT.run [(.aload_n 0, 0, 0, 0), (.getfield 15, 0, 9, 1109), (.iload_n 2, 0, 0, 0)] (pe := 26) (ls' := [some (.ref 0), some (.int s1.1), some (.int (nI i1))]) (st' := [.int (nI i1), .ref 2]) (M' := s1.2) (by decide +kernel) rfl ?_
      refine zT.iald (n := 9) (k := i1) rfl rfl (by omega) (by decide) (by decide +kernel) ?_
      refine zT.run [(.iconst 1, 0, 0, 0)] (pe := 28) (ls' := [some (.ref 0), some (.int s1.1), some (.int (nI i1))]) (st' := [.int 1, .int (s1.2 2 i1)]) (M' := s1.2) (by decide +kernel) rfl ?_
      refine zT.cne (tgt := 67) (off := 39) (by decide +kernel) (by decide) (fun (c2 : ¬ (s1.2 2 i1) = 1) => ?_) (fun (c2 : (s1.2 2 i1) = 1) => ?_)
      · skip
        refine zT.run [(.iinc 2 1, 0, 0, 0), (.goto (-66), 0, 0, 0)] (pe := 4) (ls' := [some (.ref 0), some (.int s1.1), some (.int ((nI i1) + 1))]) (st' := []) (M' := s1.2) (by decide +kernel) rfl ?_
        exact zT.eq (by simp only [l_X1_sealMisfitsAgain_4, if_neg c1, if_neg c2, nI_succ, zDl]; try rfl) k1
      · skip
        refine zT.run [(.aload_n 0, 0, 0, 0), (.dup, 0, 0, 0), (.getfield 44, 0, 7, 1106), (.iconst 1, 0, 0, 0), (.iload_n 2, 0, 0, 0), (.ishl, 0, 0, 0), (.iconst (-1), 0, 0, 0), (.ixor, 0, 0, 0), (.iand, 0, 0, 0), (.putfield 44, 0, 7, 1106), (.aload_n 0, 0, 0, 0), (.dup, 0, 0, 0), (.getfield 38, 0, 5, 1102), (.iconst 1, 0, 0, 0), (.iload_n 2, 0, 0, 0), (.ishl, 0, 0, 0), (.ior, 0, 0, 0), (.putfield 38, 0, 5, 1102), (.aload_n 0, 0, 0, 0), (.getfield 15, 0, 9, 1109), (.iload_n 2, 0, 0, 0), (.iconst (-1), 0, 0, 0)] (pe := 63) (ls' := [some (.ref 0), some (.int s1.1), some (.int (nI i1))]) (st' := [.int (-1), .int (nI i1), .ref 2]) (M' := (zU (zU s1.2 0 7 ((s1.2 0 7) &&& ((1 <<< ((nI i1) &&& 31)) ^^^ (-1)))) 0 5 ((s1.2 0 5) ||| (1 <<< ((nI i1) &&& 31))))) (by decide +kernel) rfl ?_
        refine zT.iast (n := 9) (k := i1) rfl rfl (by omega) (by decide) (by decide +kernel) ?_
        refine zT.run [(.iinc 1 1, 0, 0, 0), (.iinc 2 1, 0, 0, 0), (.goto (-66), 0, 0, 0)] (pe := 4) (ls' := [some (.ref 0), some (.int (s1.1 + 1)), some (.int ((nI i1) + 1))]) (st' := []) (M' := (zU (zU (zU s1.2 0 7 ((s1.2 0 7) &&& ((1 <<< ((nI i1) &&& 31)) ^^^ (-1)))) 0 5 ((s1.2 0 5) ||| (1 <<< ((nI i1) &&& 31)))) 2 i1 (-1))) (by decide +kernel) rfl ?_
        exact zT.eq (by simp only [l_X1_sealMisfitsAgain_4, if_neg c1, if_pos c2, nI_succ, zDl]; try rfl) k1
  · skip
    show zT _ _ _ _ (4, [some (.ref 0), some (.int (zIt (l_X1_sealMisfitsAgain_4 M) 9 (0, M)).1), some (.int (nI 9))], [], sh_Ballot, (zIt (l_X1_sealMisfitsAgain_4 M) 9 (0, M)).2)
    refine zT.run [(.iload_n 2, 0, 0, 0), (.bipush 9, 0, 0, 0)] (pe := 7) (ls' := [some (.ref 0), some (.int (zIt (l_X1_sealMisfitsAgain_4 M) 9 (0, M)).1), some (.int (nI 9))]) (st' := [.int 9, .int (nI 9)]) (M' := (zIt (l_X1_sealMisfitsAgain_4 M) 9 (0, M)).2) (by decide +kernel) rfl ?_
    refine zT.cge (tgt := 73) (off := 66) (by decide +kernel) (by decide) (fun _ => ?_) (fun c => absurd (zGeY (n := 9) rfl) c)
    refine zT.run [(.iload_n 1, 0, 0, 0)] (pe := 74) (ls' := [some (.ref 0), some (.int (zIt (l_X1_sealMisfitsAgain_4 M) 9 (0, M)).1), some (.int (nI 9))]) (st' := [.int (zIt (l_X1_sealMisfitsAgain_4 M) 9 (0, M)).1]) (M' := (zIt (l_X1_sealMisfitsAgain_4 M) 9 (0, M)).2) (by decide +kernel) rfl ?_
    exact zT.iret (ty := Jvm.ClassFile.FieldType.int) (by simp only [g_X1_sealMisfitsAgain]; try rfl) (by simp only [g_X1_sealMisfitsAgain]; try rfl) rfl rfl (by decide +kernel)
theorem fr_X1_sealMisfitsAgain (M : zM)  (o : Nat) (ho : o ≠ 0 ∧ o ≠ 2) : (g_X1_sealMisfitsAgain M).2 o = M o := by
  simp only [g_X1_sealMisfitsAgain]
  (repeat' split) <;> simp only [zU_ne ho.1, zU_ne ho.2, zUa_ne ho.1, zUa_ne ho.2, (fr_l_X1_sealMisfitsAgain_4 M o (by omega))]
theorem k_X1_sealMisfitsAgain : zCal yy_X1_sealMisfitsAgain 0 := ⟨⟨⟨⟨zIn (w := 4146) (by decide +kernel) rfl, zIn (w := 1005) (by decide +kernel) rfl⟩, by decide +kernel⟩, by decide +kernel⟩, ⟨zIn (w := 4144) (by decide +kernel) rfl, zIn (w := 4145) (by decide +kernel) rfl⟩⟩
noncomputable abbrev yy_X1_tell : zY := (yX1_tell, cX1_tell, 2, (some Jvm.ClassFile.FieldType.int), 3, 60)
noncomputable def g_X1_tell (M : zM) (w : Int32) : Int32 := (if (M 0 0) = 0 then (if 9 < w then 0 else (-1)) else (if w = 6 then (M 0 1) else (if w = 7 then (M 0 2) else (if w = 8 then (M 0 3) else (if w = 9 then (g_X1_need M) else (if w = 10 then (g_J6_bitCount_0f7a4 (M 0 5)) else (if w = 11 then (g_J6_bitCount_0f7a4 (M 0 6)) else (if w = 12 then (g_J6_bitCount_0f7a4 (M 0 7)) else (M 0 4)))))))))
set_option maxRecDepth 100000 in
theorem c_X1_tell (M : zM) (w : Int32)  : zC yy_X1_tell 0 0 [.ref 0, .int w] sh_Ballot M (some (.int (g_X1_tell M w))) sh_Ballot M := by
  refine zC.of (by decide +kernel) rfl (Nat.le_of_ble_eq_true rfl) ?_
  refine zT.run [(.aload_n 0, 0, 0, 0), (.getfield 22, 0, 0, 1091)] (pe := 4) (ls' := [some (.ref 0), some (.int w)]) (st' := [.int (M 0 0)]) (M' := M) (by decide +kernel) rfl ?_
  refine zT.zne (tgt := 19) (off := 15) (by decide +kernel) (by decide) (fun (c1 : ¬ (M 0 0) = 0) => ?_) (fun (c1 : (M 0 0) = 0) => ?_)
  · skip
    refine zT.run [(.iload_n 1, 0, 0, 0)] (pe := 20) (ls' := [some (.ref 0), some (.int w)]) (st' := [.int w]) (M' := M) (by decide +kernel) rfl ?_
    by_cases c2 : w = 6
    · skip
      refine zT.tabEq (v := 6) c2 (tgt := 64) (off := 44) (dflt := 88) (lo := 6) (hi := 12) (offs := #[44, 49, 54, 59, 64, 72, 80]) (len := 44) (by decide +kernel) (by decide) (by decide) (by decide) (by decide) ?_
      refine zT.run [(.aload_n 0, 0, 0, 0), (.getfield 26, 0, 1, 1093)] (pe := 68) (ls' := [some (.ref 0), some (.int w)]) (st' := [.int (M 0 1)]) (M' := M) (by decide +kernel) rfl ?_
      exact zT.iret (ty := Jvm.ClassFile.FieldType.int) (by simp only [g_X1_tell, if_neg c1, if_pos c2]; try rfl) rfl rfl rfl (by decide +kernel)
    · skip
      by_cases c3 : w = 7
      · skip
        refine zT.tabEq (v := 7) c3 (tgt := 69) (off := 49) (dflt := 88) (lo := 6) (hi := 12) (offs := #[44, 49, 54, 59, 64, 72, 80]) (len := 44) (by decide +kernel) (by decide) (by decide) (by decide) (by decide) ?_
        refine zT.run [(.aload_n 0, 0, 0, 0), (.getfield 29, 0, 2, 1095)] (pe := 73) (ls' := [some (.ref 0), some (.int w)]) (st' := [.int (M 0 2)]) (M' := M) (by decide +kernel) rfl ?_
        exact zT.iret (ty := Jvm.ClassFile.FieldType.int) (by simp only [g_X1_tell, if_neg c1, if_neg c2, if_pos c3]; try rfl) rfl rfl rfl (by decide +kernel)
      · skip
        by_cases c4 : w = 8
        · skip
          refine zT.tabEq (v := 8) c4 (tgt := 74) (off := 54) (dflt := 88) (lo := 6) (hi := 12) (offs := #[44, 49, 54, 59, 64, 72, 80]) (len := 44) (by decide +kernel) (by decide) (by decide) (by decide) (by decide) ?_
          refine zT.run [(.aload_n 0, 0, 0, 0), (.getfield 32, 0, 3, 1098)] (pe := 78) (ls' := [some (.ref 0), some (.int w)]) (st' := [.int (M 0 3)]) (M' := M) (by decide +kernel) rfl ?_
          exact zT.iret (ty := Jvm.ClassFile.FieldType.int) (by simp only [g_X1_tell, if_neg c1, if_neg c2, if_neg c3, if_pos c4]; try rfl) rfl rfl rfl (by decide +kernel)
        · skip
          by_cases c5 : w = 9
          · skip
            refine zT.tabEq (v := 9) c5 (tgt := 79) (off := 59) (dflt := 88) (lo := 6) (hi := 12) (offs := #[44, 49, 54, 59, 64, 72, 80]) (len := 44) (by decide +kernel) (by decide) (by decide) (by decide) (by decide) ?_
            refine zT.run [(.aload_n 0, 0, 0, 0)] (pe := 80) (ls' := [some (.ref 0), some (.int w)]) (st' := [.ref 0]) (M' := M) (by decide +kernel) rfl ?_
            refine zT.cV_own (o := 0) (idx := 81) (av := []) (rv := (some (.int (g_X1_need M)))) (st := []) (S1 := [.int (g_X1_need M)]) (c_X1_need M) k_X1_need _ _ rfl rfl rfl (zIn (w := 2177) (by decide +kernel) rfl) (by decide +kernel) (by decide +kernel) rfl (Nat.le_of_ble_eq_true rfl) rfl ?_
            exact zT.iret (ty := Jvm.ClassFile.FieldType.int) (by simp only [g_X1_tell, if_neg c1, if_neg c2, if_neg c3, if_neg c4, if_pos c5]; try rfl) rfl rfl rfl (by decide +kernel)
          · skip
            by_cases c6 : w = 10
            · skip
              refine zT.tabEq (v := 10) c6 (tgt := 84) (off := 64) (dflt := 88) (lo := 6) (hi := 12) (offs := #[44, 49, 54, 59, 64, 72, 80]) (len := 44) (by decide +kernel) (by decide) (by decide) (by decide) (by decide) ?_
              refine zT.run [(.aload_n 0, 0, 0, 0), (.getfield 38, 0, 5, 1102)] (pe := 88) (ls' := [some (.ref 0), some (.int w)]) (st' := [.int (M 0 5)]) (M' := M) (by decide +kernel) rfl ?_
              refine zT.cS_nil (idx := 53) (av := [.int (M 0 5)]) (rv := (some (.int (g_J6_bitCount_0f7a4 (M 0 5))))) (st := []) (S1 := [.int (g_J6_bitCount_0f7a4 (M 0 5))]) (c_J6_bitCount_0f7a4 (M 0 5)) k_J6_bitCount_0f7a4 rfl (zIn (w := 2185) (by decide +kernel) rfl) (by decide +kernel) (by decide +kernel) rfl (Nat.le_of_ble_eq_true rfl) rfl ?_
              exact zT.iret (ty := Jvm.ClassFile.FieldType.int) (by simp only [g_X1_tell, if_neg c1, if_neg c2, if_neg c3, if_neg c4, if_neg c5, if_pos c6]; try rfl) rfl rfl rfl (by decide +kernel)
            · skip
              by_cases c7 : w = 11
              · skip
                refine zT.tabEq (v := 11) c7 (tgt := 92) (off := 72) (dflt := 88) (lo := 6) (hi := 12) (offs := #[44, 49, 54, 59, 64, 72, 80]) (len := 44) (by decide +kernel) (by decide) (by decide) (by decide) (by decide) ?_
                refine zT.run [(.aload_n 0, 0, 0, 0), (.getfield 41, 0, 6, 1104)] (pe := 96) (ls' := [some (.ref 0), some (.int w)]) (st' := [.int (M 0 6)]) (M' := M) (by decide +kernel) rfl ?_
                refine zT.cS_nil (idx := 53) (av := [.int (M 0 6)]) (rv := (some (.int (g_J6_bitCount_0f7a4 (M 0 6))))) (st := []) (S1 := [.int (g_J6_bitCount_0f7a4 (M 0 6))]) (c_J6_bitCount_0f7a4 (M 0 6)) k_J6_bitCount_0f7a4 rfl (zIn (w := 2185) (by decide +kernel) rfl) (by decide +kernel) (by decide +kernel) rfl (Nat.le_of_ble_eq_true rfl) rfl ?_
                exact zT.iret (ty := Jvm.ClassFile.FieldType.int) (by simp only [g_X1_tell, if_neg c1, if_neg c2, if_neg c3, if_neg c4, if_neg c5, if_neg c6, if_pos c7]; try rfl) rfl rfl rfl (by decide +kernel)
              · skip
                by_cases c8 : w = 12
                · skip
                  refine zT.tabEq (v := 12) c8 (tgt := 100) (off := 80) (dflt := 88) (lo := 6) (hi := 12) (offs := #[44, 49, 54, 59, 64, 72, 80]) (len := 44) (by decide +kernel) (by decide) (by decide) (by decide) (by decide) ?_
                  refine zT.run [(.aload_n 0, 0, 0, 0), (.getfield 44, 0, 7, 1106)] (pe := 104) (ls' := [some (.ref 0), some (.int w)]) (st' := [.int (M 0 7)]) (M' := M) (by decide +kernel) rfl ?_
                  refine zT.cS_nil (idx := 53) (av := [.int (M 0 7)]) (rv := (some (.int (g_J6_bitCount_0f7a4 (M 0 7))))) (st := []) (S1 := [.int (g_J6_bitCount_0f7a4 (M 0 7))]) (c_J6_bitCount_0f7a4 (M 0 7)) k_J6_bitCount_0f7a4 rfl (zIn (w := 2185) (by decide +kernel) rfl) (by decide +kernel) (by decide +kernel) rfl (Nat.le_of_ble_eq_true rfl) rfl ?_
                  exact zT.iret (ty := Jvm.ClassFile.FieldType.int) (by simp only [g_X1_tell, if_neg c1, if_neg c2, if_neg c3, if_neg c4, if_neg c5, if_neg c6, if_neg c7, if_pos c8]; try rfl) rfl rfl rfl (by decide +kernel)
                · skip
                  refine zT.tabDef (tgt := 108) (dflt := 88) (lo := 6) (hi := 12) (offs := #[44, 49, 54, 59, 64, 72, 80]) (len := 44) (by decide +kernel) (by intro k h1 h2; rcases (show k = 6 ∨ k = 7 ∨ k = 8 ∨ k = 9 ∨ k = 10 ∨ k = 11 ∨ k = 12 by omega) with rfl | rfl | rfl | rfl | rfl | rfl | rfl; exact Or.inr (zNe rfl c2); exact Or.inr (zNe rfl c3); exact Or.inr (zNe rfl c4); exact Or.inr (zNe rfl c5); exact Or.inr (zNe rfl c6); exact Or.inr (zNe rfl c7); exact Or.inr (zNe rfl c8)) (by decide) ?_
                  refine zT.run [(.aload_n 0, 0, 0, 0), (.getfield 35, 0, 4, 1100)] (pe := 112) (ls' := [some (.ref 0), some (.int w)]) (st' := [.int (M 0 4)]) (M' := M) (by decide +kernel) rfl ?_
                  exact zT.iret (ty := Jvm.ClassFile.FieldType.int) (by simp only [g_X1_tell, if_neg c1, if_neg c2, if_neg c3, if_neg c4, if_neg c5, if_neg c6, if_neg c7, if_neg c8]; try rfl) rfl rfl rfl (by decide +kernel)
  · skip
    refine zT.run [(.iload_n 1, 0, 0, 0), (.bipush 9, 0, 0, 0)] (pe := 10) (ls' := [some (.ref 0), some (.int w)]) (st' := [.int 9, .int w]) (M' := M) (by decide +kernel) rfl ?_
    refine zT.cgt (tgt := 17) (off := 7) (by decide +kernel) (by decide) (fun (c9 : 9 < w) => ?_) (fun (c9 : ¬ 9 < w) => ?_)
    · skip
      refine zT.run [(.iconst 0, 0, 0, 0)] (pe := 18) (ls' := [some (.ref 0), some (.int w)]) (st' := [.int 0]) (M' := M) (by decide +kernel) rfl ?_
      exact zT.iret (ty := Jvm.ClassFile.FieldType.int) (by simp only [g_X1_tell, if_pos c1, if_pos c9]; try rfl) rfl rfl rfl (by decide +kernel)
    · skip
      refine zT.run [(.iconst (-1), 0, 0, 0), (.goto 4, 0, 0, 0)] (pe := 18) (ls' := [some (.ref 0), some (.int w)]) (st' := [.int (-1)]) (M' := M) (by decide +kernel) rfl ?_
      exact zT.iret (ty := Jvm.ClassFile.FieldType.int) (by simp only [g_X1_tell, if_pos c1, if_neg c9]; try rfl) rfl rfl rfl (by decide +kernel)
theorem k_X1_tell : zCal yy_X1_tell 1 := ⟨⟨⟨⟨zIn (w := 2176) (by decide +kernel) rfl, zIn (w := 1005) (by decide +kernel) rfl⟩, by decide +kernel⟩, by decide +kernel⟩, ⟨zIn (w := 2174) (by decide +kernel) rfl, zIn (w := 2175) (by decide +kernel) rfl⟩⟩
noncomputable abbrev yy_X1_strayVotes : zY := (yX1_strayVotes, cX1_strayVotes, 5, (some Jvm.ClassFile.FieldType.int), 2, 60)
noncomputable def l_X1_strayVotes_64 (M : zM) (i1 : Nat) (s1 : Int32) : Int32 := (s1 + (if (g_X9_has (M 0 6) (nI i1)) = 0 then 0 else (if (g_X1_isOnRoll M (M 2 i1)) = 0 then 1 else 0)))
noncomputable def g_X1_strayVotes (M : zM)  : Int32 := (zIt (l_X1_strayVotes_64 M) 9 (if 0 ≤ ((g_X1_rollSize M) - ((((g_J6_bitCount_0f7a4 ((M 0 3) &&& ((((M 0 5) ||| (M 0 6)) ||| (M 0 7)) ^^^ (-1)))) + (g_J6_bitCount_0f7a4 (M 0 5))) + (g_J6_bitCount_0f7a4 (M 0 6))) + (g_J6_bitCount_0f7a4 (M 0 7)))) then ((g_X1_rollSize M) - ((((g_J6_bitCount_0f7a4 ((M 0 3) &&& ((((M 0 5) ||| (M 0 6)) ||| (M 0 7)) ^^^ (-1)))) + (g_J6_bitCount_0f7a4 (M 0 5))) + (g_J6_bitCount_0f7a4 (M 0 6))) + (g_J6_bitCount_0f7a4 (M 0 7)))) else 0 - ((g_X1_rollSize M) - ((((g_J6_bitCount_0f7a4 ((M 0 3) &&& ((((M 0 5) ||| (M 0 6)) ||| (M 0 7)) ^^^ (-1)))) + (g_J6_bitCount_0f7a4 (M 0 5))) + (g_J6_bitCount_0f7a4 (M 0 6))) + (g_J6_bitCount_0f7a4 (M 0 7))))))
set_option maxRecDepth 100000 in
theorem c_X1_strayVotes (M : zM)   : zC yy_X1_strayVotes 0 0 [.ref 0] sh_Ballot M (some (.int (g_X1_strayVotes M))) sh_Ballot M := by
  refine zC.of (by decide +kernel) rfl (Nat.le_of_ble_eq_true rfl) ?_
  refine zT.run [(.aload_n 0, 0, 0, 0), (.getfield 32, 0, 3, 1098), (.aload_n 0, 0, 0, 0), (.getfield 38, 0, 5, 1102), (.aload_n 0, 0, 0, 0), (.getfield 41, 0, 6, 1104), (.ior, 0, 0, 0), (.aload_n 0, 0, 0, 0), (.getfield 44, 0, 7, 1106), (.ior, 0, 0, 0), (.iconst (-1), 0, 0, 0), (.ixor, 0, 0, 0), (.iand, 0, 0, 0), (.istore_n 1, 0, 0, 0), (.iload_n 1, 0, 0, 0)] (pe := 23) (ls' := [some (.ref 0), some (.int ((M 0 3) &&& ((((M 0 5) ||| (M 0 6)) ||| (M 0 7)) ^^^ (-1)))), none, none, none]) (st' := [.int ((M 0 3) &&& ((((M 0 5) ||| (M 0 6)) ||| (M 0 7)) ^^^ (-1)))]) (M' := M) (by decide +kernel) rfl ?_
  refine zT.cS_nil (idx := 53) (av := [.int ((M 0 3) &&& ((((M 0 5) ||| (M 0 6)) ||| (M 0 7)) ^^^ (-1)))]) (rv := (some (.int (g_J6_bitCount_0f7a4 ((M 0 3) &&& ((((M 0 5) ||| (M 0 6)) ||| (M 0 7)) ^^^ (-1))))))) (st := []) (S1 := [.int (g_J6_bitCount_0f7a4 ((M 0 3) &&& ((((M 0 5) ||| (M 0 6)) ||| (M 0 7)) ^^^ (-1))))]) (c_J6_bitCount_0f7a4 ((M 0 3) &&& ((((M 0 5) ||| (M 0 6)) ||| (M 0 7)) ^^^ (-1)))) k_J6_bitCount_0f7a4 rfl (zIn (w := 2185) (by decide +kernel) rfl) (by decide +kernel) (by decide +kernel) rfl (Nat.le_of_ble_eq_true rfl) rfl ?_
  refine zT.run [(.aload_n 0, 0, 0, 0), (.getfield 38, 0, 5, 1102)] (pe := 30) (ls' := [some (.ref 0), some (.int ((M 0 3) &&& ((((M 0 5) ||| (M 0 6)) ||| (M 0 7)) ^^^ (-1)))), none, none, none]) (st' := [.int (M 0 5), .int (g_J6_bitCount_0f7a4 ((M 0 3) &&& ((((M 0 5) ||| (M 0 6)) ||| (M 0 7)) ^^^ (-1))))]) (M' := M) (by decide +kernel) rfl ?_
  refine zT.cS_nil (idx := 53) (av := [.int (M 0 5)]) (rv := (some (.int (g_J6_bitCount_0f7a4 (M 0 5))))) (st := [.int (g_J6_bitCount_0f7a4 ((M 0 3) &&& ((((M 0 5) ||| (M 0 6)) ||| (M 0 7)) ^^^ (-1))))]) (S1 := [.int (g_J6_bitCount_0f7a4 (M 0 5)), .int (g_J6_bitCount_0f7a4 ((M 0 3) &&& ((((M 0 5) ||| (M 0 6)) ||| (M 0 7)) ^^^ (-1))))]) (c_J6_bitCount_0f7a4 (M 0 5)) k_J6_bitCount_0f7a4 rfl (zIn (w := 2185) (by decide +kernel) rfl) (by decide +kernel) (by decide +kernel) rfl (Nat.le_of_ble_eq_true rfl) rfl ?_
  refine zT.run [(.iadd, 0, 0, 0), (.aload_n 0, 0, 0, 0), (.getfield 41, 0, 6, 1104)] (pe := 38) (ls' := [some (.ref 0), some (.int ((M 0 3) &&& ((((M 0 5) ||| (M 0 6)) ||| (M 0 7)) ^^^ (-1)))), none, none, none]) (st' := [.int (M 0 6), .int ((g_J6_bitCount_0f7a4 ((M 0 3) &&& ((((M 0 5) ||| (M 0 6)) ||| (M 0 7)) ^^^ (-1)))) + (g_J6_bitCount_0f7a4 (M 0 5)))]) (M' := M) (by decide +kernel) rfl ?_
  refine zT.cS_nil (idx := 53) (av := [.int (M 0 6)]) (rv := (some (.int (g_J6_bitCount_0f7a4 (M 0 6))))) (st := [.int ((g_J6_bitCount_0f7a4 ((M 0 3) &&& ((((M 0 5) ||| (M 0 6)) ||| (M 0 7)) ^^^ (-1)))) + (g_J6_bitCount_0f7a4 (M 0 5)))]) (S1 := [.int (g_J6_bitCount_0f7a4 (M 0 6)), .int ((g_J6_bitCount_0f7a4 ((M 0 3) &&& ((((M 0 5) ||| (M 0 6)) ||| (M 0 7)) ^^^ (-1)))) + (g_J6_bitCount_0f7a4 (M 0 5)))]) (c_J6_bitCount_0f7a4 (M 0 6)) k_J6_bitCount_0f7a4 rfl (zIn (w := 2185) (by decide +kernel) rfl) (by decide +kernel) (by decide +kernel) rfl (Nat.le_of_ble_eq_true rfl) rfl ?_
  refine zT.run [(.iadd, 0, 0, 0), (.aload_n 0, 0, 0, 0), (.getfield 44, 0, 7, 1106)] (pe := 46) (ls' := [some (.ref 0), some (.int ((M 0 3) &&& ((((M 0 5) ||| (M 0 6)) ||| (M 0 7)) ^^^ (-1)))), none, none, none]) (st' := [.int (M 0 7), .int (((g_J6_bitCount_0f7a4 ((M 0 3) &&& ((((M 0 5) ||| (M 0 6)) ||| (M 0 7)) ^^^ (-1)))) + (g_J6_bitCount_0f7a4 (M 0 5))) + (g_J6_bitCount_0f7a4 (M 0 6)))]) (M' := M) (by decide +kernel) rfl ?_
  refine zT.cS_nil (idx := 53) (av := [.int (M 0 7)]) (rv := (some (.int (g_J6_bitCount_0f7a4 (M 0 7))))) (st := [.int (((g_J6_bitCount_0f7a4 ((M 0 3) &&& ((((M 0 5) ||| (M 0 6)) ||| (M 0 7)) ^^^ (-1)))) + (g_J6_bitCount_0f7a4 (M 0 5))) + (g_J6_bitCount_0f7a4 (M 0 6)))]) (S1 := [.int (g_J6_bitCount_0f7a4 (M 0 7)), .int (((g_J6_bitCount_0f7a4 ((M 0 3) &&& ((((M 0 5) ||| (M 0 6)) ||| (M 0 7)) ^^^ (-1)))) + (g_J6_bitCount_0f7a4 (M 0 5))) + (g_J6_bitCount_0f7a4 (M 0 6)))]) (c_J6_bitCount_0f7a4 (M 0 7)) k_J6_bitCount_0f7a4 rfl (zIn (w := 2185) (by decide +kernel) rfl) (by decide +kernel) (by decide +kernel) rfl (Nat.le_of_ble_eq_true rfl) rfl ?_
  refine zT.run [(.iadd, 0, 0, 0), (.istore_n 2, 0, 0, 0), (.aload_n 0, 0, 0, 0)] (pe := 52) (ls' := [some (.ref 0), some (.int ((M 0 3) &&& ((((M 0 5) ||| (M 0 6)) ||| (M 0 7)) ^^^ (-1)))), some (.int ((((g_J6_bitCount_0f7a4 ((M 0 3) &&& ((((M 0 5) ||| (M 0 6)) ||| (M 0 7)) ^^^ (-1)))) + (g_J6_bitCount_0f7a4 (M 0 5))) + (g_J6_bitCount_0f7a4 (M 0 6))) + (g_J6_bitCount_0f7a4 (M 0 7)))), none, none]) (st' := [.ref 0]) (M' := M) (by decide +kernel) rfl ?_
  refine zT.cV_own (o := 0) (idx := 59) (av := []) (rv := (some (.int (g_X1_rollSize M)))) (st := []) (S1 := [.int (g_X1_rollSize M)]) (c_X1_rollSize M) k_X1_rollSize _ _ rfl rfl rfl (zIn (w := 2181) (by decide +kernel) rfl) (by decide +kernel) (by decide +kernel) rfl (Nat.le_of_ble_eq_true rfl) rfl ?_
  refine zT.run [(.iload_n 2, 0, 0, 0), (.isub, 0, 0, 0)] (pe := 57) (ls' := [some (.ref 0), some (.int ((M 0 3) &&& ((((M 0 5) ||| (M 0 6)) ||| (M 0 7)) ^^^ (-1)))), some (.int ((((g_J6_bitCount_0f7a4 ((M 0 3) &&& ((((M 0 5) ||| (M 0 6)) ||| (M 0 7)) ^^^ (-1)))) + (g_J6_bitCount_0f7a4 (M 0 5))) + (g_J6_bitCount_0f7a4 (M 0 6))) + (g_J6_bitCount_0f7a4 (M 0 7)))), none, none]) (st' := [.int ((g_X1_rollSize M) - ((((g_J6_bitCount_0f7a4 ((M 0 3) &&& ((((M 0 5) ||| (M 0 6)) ||| (M 0 7)) ^^^ (-1)))) + (g_J6_bitCount_0f7a4 (M 0 5))) + (g_J6_bitCount_0f7a4 (M 0 6))) + (g_J6_bitCount_0f7a4 (M 0 7))))]) (M' := M) (by decide +kernel) rfl ?_
  refine zT.mabs (idx := 91) ⟨⟨⟨⟨zIn (w := 5114) (by decide +kernel) rfl, zLm_abs.1⟩, zLm_abs.2.1⟩, zLm_abs.2.2⟩, by decide +kernel, by decide +kernel⟩ (Nat.le_of_ble_eq_true rfl) (by decide +kernel) ?_
  refine zT.run [(.istore_n 3, 0, 0, 0), (.iconst 0, 0, 0, 0), (.istore 4, 0, 0, 0)] (pe := 64) (ls' := [some (.ref 0), some (.int ((M 0 3) &&& ((((M 0 5) ||| (M 0 6)) ||| (M 0 7)) ^^^ (-1)))), some (.int ((((g_J6_bitCount_0f7a4 ((M 0 3) &&& ((((M 0 5) ||| (M 0 6)) ||| (M 0 7)) ^^^ (-1)))) + (g_J6_bitCount_0f7a4 (M 0 5))) + (g_J6_bitCount_0f7a4 (M 0 6))) + (g_J6_bitCount_0f7a4 (M 0 7)))), some (.int (if 0 ≤ ((g_X1_rollSize M) - ((((g_J6_bitCount_0f7a4 ((M 0 3) &&& ((((M 0 5) ||| (M 0 6)) ||| (M 0 7)) ^^^ (-1)))) + (g_J6_bitCount_0f7a4 (M 0 5))) + (g_J6_bitCount_0f7a4 (M 0 6))) + (g_J6_bitCount_0f7a4 (M 0 7)))) then ((g_X1_rollSize M) - ((((g_J6_bitCount_0f7a4 ((M 0 3) &&& ((((M 0 5) ||| (M 0 6)) ||| (M 0 7)) ^^^ (-1)))) + (g_J6_bitCount_0f7a4 (M 0 5))) + (g_J6_bitCount_0f7a4 (M 0 6))) + (g_J6_bitCount_0f7a4 (M 0 7)))) else 0 - ((g_X1_rollSize M) - ((((g_J6_bitCount_0f7a4 ((M 0 3) &&& ((((M 0 5) ||| (M 0 6)) ||| (M 0 7)) ^^^ (-1)))) + (g_J6_bitCount_0f7a4 (M 0 5))) + (g_J6_bitCount_0f7a4 (M 0 6))) + (g_J6_bitCount_0f7a4 (M 0 7)))))), some (.int 0)]) (st' := []) (M' := M) (by decide +kernel) rfl ?_
  refine zT.loop (l_X1_strayVotes_64 M) (fun (i : Nat) (s : Int32) => (64, [some (.ref 0), some (.int ((M 0 3) &&& ((((M 0 5) ||| (M 0 6)) ||| (M 0 7)) ^^^ (-1)))), some (.int ((((g_J6_bitCount_0f7a4 ((M 0 3) &&& ((((M 0 5) ||| (M 0 6)) ||| (M 0 7)) ^^^ (-1)))) + (g_J6_bitCount_0f7a4 (M 0 5))) + (g_J6_bitCount_0f7a4 (M 0 6))) + (g_J6_bitCount_0f7a4 (M 0 7)))), some (.int s), some (.int (nI i))], [], sh_Ballot, M)) 9 (if 0 ≤ ((g_X1_rollSize M) - ((((g_J6_bitCount_0f7a4 ((M 0 3) &&& ((((M 0 5) ||| (M 0 6)) ||| (M 0 7)) ^^^ (-1)))) + (g_J6_bitCount_0f7a4 (M 0 5))) + (g_J6_bitCount_0f7a4 (M 0 6))) + (g_J6_bitCount_0f7a4 (M 0 7)))) then ((g_X1_rollSize M) - ((((g_J6_bitCount_0f7a4 ((M 0 3) &&& ((((M 0 5) ||| (M 0 6)) ||| (M 0 7)) ^^^ (-1)))) + (g_J6_bitCount_0f7a4 (M 0 5))) + (g_J6_bitCount_0f7a4 (M 0 6))) + (g_J6_bitCount_0f7a4 (M 0 7)))) else 0 - ((g_X1_rollSize M) - ((((g_J6_bitCount_0f7a4 ((M 0 3) &&& ((((M 0 5) ||| (M 0 6)) ||| (M 0 7)) ^^^ (-1)))) + (g_J6_bitCount_0f7a4 (M 0 5))) + (g_J6_bitCount_0f7a4 (M 0 6))) + (g_J6_bitCount_0f7a4 (M 0 7))))) (fun i1 hi1 k1 => ?_) ?_
  · skip
    generalize hs1 : zIt (l_X1_strayVotes_64 M) i1 (if 0 ≤ ((g_X1_rollSize M) - ((((g_J6_bitCount_0f7a4 ((M 0 3) &&& ((((M 0 5) ||| (M 0 6)) ||| (M 0 7)) ^^^ (-1)))) + (g_J6_bitCount_0f7a4 (M 0 5))) + (g_J6_bitCount_0f7a4 (M 0 6))) + (g_J6_bitCount_0f7a4 (M 0 7)))) then ((g_X1_rollSize M) - ((((g_J6_bitCount_0f7a4 ((M 0 3) &&& ((((M 0 5) ||| (M 0 6)) ||| (M 0 7)) ^^^ (-1)))) + (g_J6_bitCount_0f7a4 (M 0 5))) + (g_J6_bitCount_0f7a4 (M 0 6))) + (g_J6_bitCount_0f7a4 (M 0 7)))) else 0 - ((g_X1_rollSize M) - ((((g_J6_bitCount_0f7a4 ((M 0 3) &&& ((((M 0 5) ||| (M 0 6)) ||| (M 0 7)) ^^^ (-1)))) + (g_J6_bitCount_0f7a4 (M 0 5))) + (g_J6_bitCount_0f7a4 (M 0 6))) + (g_J6_bitCount_0f7a4 (M 0 7))))) = s1 at k1 ⊢
    show zT _ _ _ _ (64, [some (.ref 0), some (.int ((M 0 3) &&& ((((M 0 5) ||| (M 0 6)) ||| (M 0 7)) ^^^ (-1)))), some (.int ((((g_J6_bitCount_0f7a4 ((M 0 3) &&& ((((M 0 5) ||| (M 0 6)) ||| (M 0 7)) ^^^ (-1)))) + (g_J6_bitCount_0f7a4 (M 0 5))) + (g_J6_bitCount_0f7a4 (M 0 6))) + (g_J6_bitCount_0f7a4 (M 0 7)))), some (.int s1), some (.int (nI i1))], [], sh_Ballot, M)
    refine zT.run [(.iload 4, 0, 0, 0), (.bipush 9, 0, 0, 0)] (pe := 68) (ls' := [some (.ref 0), some (.int ((M 0 3) &&& ((((M 0 5) ||| (M 0 6)) ||| (M 0 7)) ^^^ (-1)))), some (.int ((((g_J6_bitCount_0f7a4 ((M 0 3) &&& ((((M 0 5) ||| (M 0 6)) ||| (M 0 7)) ^^^ (-1)))) + (g_J6_bitCount_0f7a4 (M 0 5))) + (g_J6_bitCount_0f7a4 (M 0 6))) + (g_J6_bitCount_0f7a4 (M 0 7)))), some (.int s1), some (.int (nI i1))]) (st' := [.int 9, .int (nI i1)]) (M' := M) (by decide +kernel) rfl ?_
    refine zT.cge (tgt := 111) (off := 43) (by decide +kernel) (by decide) (fun c => absurd c (zGeN (n := 9) rfl (by omega) (by omega))) (fun _ => ?_)
    refine zT.run [(.iload_n 3, 0, 0, 0), (.aload_n 0, 0, 0, 0), (.getfield 41, 0, 6, 1104), (.iload 4, 0, 0, 0)] (pe := 78) (ls' := [some (.ref 0), some (.int ((M 0 3) &&& ((((M 0 5) ||| (M 0 6)) ||| (M 0 7)) ^^^ (-1)))), some (.int ((((g_J6_bitCount_0f7a4 ((M 0 3) &&& ((((M 0 5) ||| (M 0 6)) ||| (M 0 7)) ^^^ (-1)))) + (g_J6_bitCount_0f7a4 (M 0 5))) + (g_J6_bitCount_0f7a4 (M 0 6))) + (g_J6_bitCount_0f7a4 (M 0 7)))), some (.int s1), some (.int (nI i1))]) (st' := [.int (nI i1), .int (M 0 6), .int s1]) (M' := M) (by decide +kernel) rfl ?_
    refine zT.cN_nil "SealedBallots" (idx := 63) (av := [.int (M 0 6), .int (nI i1)]) (rv := (some (.int (g_X9_has (M 0 6) (nI i1))))) (st := [.int s1]) (S1 := [.int (g_X9_has (M 0 6) (nI i1)), .int s1]) (c_X9_has (M 0 6) (nI i1)) k_X9_has rfl (zInN (w := 2060) (by decide +kernel) rfl) (by decide +kernel) (by decide +kernel) rfl (Nat.le_of_ble_eq_true rfl) rfl ?_
    refine zT.join (103, [some (.ref 0), some (.int ((M 0 3) &&& ((((M 0 5) ||| (M 0 6)) ||| (M 0 7)) ^^^ (-1)))), some (.int ((((g_J6_bitCount_0f7a4 ((M 0 3) &&& ((((M 0 5) ||| (M 0 6)) ||| (M 0 7)) ^^^ (-1)))) + (g_J6_bitCount_0f7a4 (M 0 5))) + (g_J6_bitCount_0f7a4 (M 0 6))) + (g_J6_bitCount_0f7a4 (M 0 7)))), some (.int s1), some (.int (nI i1))], [.int (if (g_X9_has (M 0 6) (nI i1)) = 0 then 0 else (if (g_X1_isOnRoll M (M 2 i1)) = 0 then 1 else 0)), .int s1], sh_Ballot, M) ?_ ?_
    · refine zT.zeq (tgt := 102) (off := 21) (by decide +kernel) (by decide) (fun (c1 : (g_X9_has (M 0 6) (nI i1)) = 0) => ?_) (fun (c1 : ¬ (g_X9_has (M 0 6) (nI i1)) = 0) => ?_)
      · skip
        refine zT.run [(.iconst 0, 0, 0, 0)] (pe := 103) (ls' := [some (.ref 0), some (.int ((M 0 3) &&& ((((M 0 5) ||| (M 0 6)) ||| (M 0 7)) ^^^ (-1)))), some (.int ((((g_J6_bitCount_0f7a4 ((M 0 3) &&& ((((M 0 5) ||| (M 0 6)) ||| (M 0 7)) ^^^ (-1)))) + (g_J6_bitCount_0f7a4 (M 0 5))) + (g_J6_bitCount_0f7a4 (M 0 6))) + (g_J6_bitCount_0f7a4 (M 0 7)))), some (.int s1), some (.int (nI i1))]) (st' := [.int 0, .int s1]) (M' := M) (by decide +kernel) rfl ?_
        exact zT.here (by simp only [if_pos c1])
      · skip
        refine zT.run [(.aload_n 0, 0, 0, 0), (.aload_n 0, 0, 0, 0), (.getfield 15, 0, 9, 1109), (.iload 4, 0, 0, 0)] (pe := 91) (ls' := [some (.ref 0), some (.int ((M 0 3) &&& ((((M 0 5) ||| (M 0 6)) ||| (M 0 7)) ^^^ (-1)))), some (.int ((((g_J6_bitCount_0f7a4 ((M 0 3) &&& ((((M 0 5) ||| (M 0 6)) ||| (M 0 7)) ^^^ (-1)))) + (g_J6_bitCount_0f7a4 (M 0 5))) + (g_J6_bitCount_0f7a4 (M 0 6))) + (g_J6_bitCount_0f7a4 (M 0 7)))), some (.int s1), some (.int (nI i1))]) (st' := [.int (nI i1), .ref 2, .ref 0, .int s1]) (M' := M) (by decide +kernel) rfl ?_
        refine zT.iald (n := 9) (k := i1) rfl rfl (by omega) (by decide) (by decide +kernel) ?_
        refine zT.cV_own (o := 0) (idx := 84) (av := [.int (M 2 i1)]) (rv := (some (.int (g_X1_isOnRoll M (M 2 i1))))) (st := [.int s1]) (S1 := [.int (g_X1_isOnRoll M (M 2 i1)), .int s1]) (c_X1_isOnRoll M (M 2 i1)) k_X1_isOnRoll _ _ rfl rfl rfl (zIn (w := 5117) (by decide +kernel) rfl) (by decide +kernel) (by decide +kernel) rfl (Nat.le_of_ble_eq_true rfl) rfl ?_
        refine zT.zne (tgt := 102) (off := 7) (by decide +kernel) (by decide) (fun (c2 : ¬ (g_X1_isOnRoll M (M 2 i1)) = 0) => ?_) (fun (c2 : (g_X1_isOnRoll M (M 2 i1)) = 0) => ?_)
        · skip
          refine zT.run [(.iconst 0, 0, 0, 0)] (pe := 103) (ls' := [some (.ref 0), some (.int ((M 0 3) &&& ((((M 0 5) ||| (M 0 6)) ||| (M 0 7)) ^^^ (-1)))), some (.int ((((g_J6_bitCount_0f7a4 ((M 0 3) &&& ((((M 0 5) ||| (M 0 6)) ||| (M 0 7)) ^^^ (-1)))) + (g_J6_bitCount_0f7a4 (M 0 5))) + (g_J6_bitCount_0f7a4 (M 0 6))) + (g_J6_bitCount_0f7a4 (M 0 7)))), some (.int s1), some (.int (nI i1))]) (st' := [.int 0, .int s1]) (M' := M) (by decide +kernel) rfl ?_
          exact zT.here (by simp only [if_neg c1, if_neg c2])
        · skip
          refine zT.run [(.iconst 1, 0, 0, 0), (.goto 4, 0, 0, 0)] (pe := 103) (ls' := [some (.ref 0), some (.int ((M 0 3) &&& ((((M 0 5) ||| (M 0 6)) ||| (M 0 7)) ^^^ (-1)))), some (.int ((((g_J6_bitCount_0f7a4 ((M 0 3) &&& ((((M 0 5) ||| (M 0 6)) ||| (M 0 7)) ^^^ (-1)))) + (g_J6_bitCount_0f7a4 (M 0 5))) + (g_J6_bitCount_0f7a4 (M 0 6))) + (g_J6_bitCount_0f7a4 (M 0 7)))), some (.int s1), some (.int (nI i1))]) (st' := [.int 1, .int s1]) (M' := M) (by decide +kernel) rfl ?_
          exact zT.here (by simp only [if_neg c1, if_pos c2])
    · skip
      refine zT.run [(.iadd, 0, 0, 0), (.istore_n 3, 0, 0, 0), (.iinc 4 1, 0, 0, 0), (.goto (-44), 0, 0, 0)] (pe := 64) (ls' := [some (.ref 0), some (.int ((M 0 3) &&& ((((M 0 5) ||| (M 0 6)) ||| (M 0 7)) ^^^ (-1)))), some (.int ((((g_J6_bitCount_0f7a4 ((M 0 3) &&& ((((M 0 5) ||| (M 0 6)) ||| (M 0 7)) ^^^ (-1)))) + (g_J6_bitCount_0f7a4 (M 0 5))) + (g_J6_bitCount_0f7a4 (M 0 6))) + (g_J6_bitCount_0f7a4 (M 0 7)))), some (.int (s1 + (if (g_X9_has (M 0 6) (nI i1)) = 0 then 0 else (if (g_X1_isOnRoll M (M 2 i1)) = 0 then 1 else 0)))), some (.int ((nI i1) + 1))]) (st' := []) (M' := M) (by decide +kernel) rfl ?_
      exact zT.eq (by simp only [l_X1_strayVotes_64, nI_succ, zDl]; try rfl) k1
  · skip
    show zT _ _ _ _ (64, [some (.ref 0), some (.int ((M 0 3) &&& ((((M 0 5) ||| (M 0 6)) ||| (M 0 7)) ^^^ (-1)))), some (.int ((((g_J6_bitCount_0f7a4 ((M 0 3) &&& ((((M 0 5) ||| (M 0 6)) ||| (M 0 7)) ^^^ (-1)))) + (g_J6_bitCount_0f7a4 (M 0 5))) + (g_J6_bitCount_0f7a4 (M 0 6))) + (g_J6_bitCount_0f7a4 (M 0 7)))), some (.int (zIt (l_X1_strayVotes_64 M) 9 (if 0 ≤ ((g_X1_rollSize M) - ((((g_J6_bitCount_0f7a4 ((M 0 3) &&& ((((M 0 5) ||| (M 0 6)) ||| (M 0 7)) ^^^ (-1)))) + (g_J6_bitCount_0f7a4 (M 0 5))) + (g_J6_bitCount_0f7a4 (M 0 6))) + (g_J6_bitCount_0f7a4 (M 0 7)))) then ((g_X1_rollSize M) - ((((g_J6_bitCount_0f7a4 ((M 0 3) &&& ((((M 0 5) ||| (M 0 6)) ||| (M 0 7)) ^^^ (-1)))) + (g_J6_bitCount_0f7a4 (M 0 5))) + (g_J6_bitCount_0f7a4 (M 0 6))) + (g_J6_bitCount_0f7a4 (M 0 7)))) else 0 - ((g_X1_rollSize M) - ((((g_J6_bitCount_0f7a4 ((M 0 3) &&& ((((M 0 5) ||| (M 0 6)) ||| (M 0 7)) ^^^ (-1)))) + (g_J6_bitCount_0f7a4 (M 0 5))) + (g_J6_bitCount_0f7a4 (M 0 6))) + (g_J6_bitCount_0f7a4 (M 0 7))))))), some (.int (nI 9))], [], sh_Ballot, M)
    refine zT.run [(.iload 4, 0, 0, 0), (.bipush 9, 0, 0, 0)] (pe := 68) (ls' := [some (.ref 0), some (.int ((M 0 3) &&& ((((M 0 5) ||| (M 0 6)) ||| (M 0 7)) ^^^ (-1)))), some (.int ((((g_J6_bitCount_0f7a4 ((M 0 3) &&& ((((M 0 5) ||| (M 0 6)) ||| (M 0 7)) ^^^ (-1)))) + (g_J6_bitCount_0f7a4 (M 0 5))) + (g_J6_bitCount_0f7a4 (M 0 6))) + (g_J6_bitCount_0f7a4 (M 0 7)))), some (.int (zIt (l_X1_strayVotes_64 M) 9 (if 0 ≤ ((g_X1_rollSize M) - ((((g_J6_bitCount_0f7a4 ((M 0 3) &&& ((((M 0 5) ||| (M 0 6)) ||| (M 0 7)) ^^^ (-1)))) + (g_J6_bitCount_0f7a4 (M 0 5))) + (g_J6_bitCount_0f7a4 (M 0 6))) + (g_J6_bitCount_0f7a4 (M 0 7)))) then ((g_X1_rollSize M) - ((((g_J6_bitCount_0f7a4 ((M 0 3) &&& ((((M 0 5) ||| (M 0 6)) ||| (M 0 7)) ^^^ (-1)))) + (g_J6_bitCount_0f7a4 (M 0 5))) + (g_J6_bitCount_0f7a4 (M 0 6))) + (g_J6_bitCount_0f7a4 (M 0 7)))) else 0 - ((g_X1_rollSize M) - ((((g_J6_bitCount_0f7a4 ((M 0 3) &&& ((((M 0 5) ||| (M 0 6)) ||| (M 0 7)) ^^^ (-1)))) + (g_J6_bitCount_0f7a4 (M 0 5))) + (g_J6_bitCount_0f7a4 (M 0 6))) + (g_J6_bitCount_0f7a4 (M 0 7))))))), some (.int (nI 9))]) (st' := [.int 9, .int (nI 9)]) (M' := M) (by decide +kernel) rfl ?_
    refine zT.cge (tgt := 111) (off := 43) (by decide +kernel) (by decide) (fun _ => ?_) (fun c => absurd (zGeY (n := 9) rfl) c)
    refine zT.run [(.iload_n 3, 0, 0, 0)] (pe := 112) (ls' := [some (.ref 0), some (.int ((M 0 3) &&& ((((M 0 5) ||| (M 0 6)) ||| (M 0 7)) ^^^ (-1)))), some (.int ((((g_J6_bitCount_0f7a4 ((M 0 3) &&& ((((M 0 5) ||| (M 0 6)) ||| (M 0 7)) ^^^ (-1)))) + (g_J6_bitCount_0f7a4 (M 0 5))) + (g_J6_bitCount_0f7a4 (M 0 6))) + (g_J6_bitCount_0f7a4 (M 0 7)))), some (.int (zIt (l_X1_strayVotes_64 M) 9 (if 0 ≤ ((g_X1_rollSize M) - ((((g_J6_bitCount_0f7a4 ((M 0 3) &&& ((((M 0 5) ||| (M 0 6)) ||| (M 0 7)) ^^^ (-1)))) + (g_J6_bitCount_0f7a4 (M 0 5))) + (g_J6_bitCount_0f7a4 (M 0 6))) + (g_J6_bitCount_0f7a4 (M 0 7)))) then ((g_X1_rollSize M) - ((((g_J6_bitCount_0f7a4 ((M 0 3) &&& ((((M 0 5) ||| (M 0 6)) ||| (M 0 7)) ^^^ (-1)))) + (g_J6_bitCount_0f7a4 (M 0 5))) + (g_J6_bitCount_0f7a4 (M 0 6))) + (g_J6_bitCount_0f7a4 (M 0 7)))) else 0 - ((g_X1_rollSize M) - ((((g_J6_bitCount_0f7a4 ((M 0 3) &&& ((((M 0 5) ||| (M 0 6)) ||| (M 0 7)) ^^^ (-1)))) + (g_J6_bitCount_0f7a4 (M 0 5))) + (g_J6_bitCount_0f7a4 (M 0 6))) + (g_J6_bitCount_0f7a4 (M 0 7))))))), some (.int (nI 9))]) (st' := [.int (zIt (l_X1_strayVotes_64 M) 9 (if 0 ≤ ((g_X1_rollSize M) - ((((g_J6_bitCount_0f7a4 ((M 0 3) &&& ((((M 0 5) ||| (M 0 6)) ||| (M 0 7)) ^^^ (-1)))) + (g_J6_bitCount_0f7a4 (M 0 5))) + (g_J6_bitCount_0f7a4 (M 0 6))) + (g_J6_bitCount_0f7a4 (M 0 7)))) then ((g_X1_rollSize M) - ((((g_J6_bitCount_0f7a4 ((M 0 3) &&& ((((M 0 5) ||| (M 0 6)) ||| (M 0 7)) ^^^ (-1)))) + (g_J6_bitCount_0f7a4 (M 0 5))) + (g_J6_bitCount_0f7a4 (M 0 6))) + (g_J6_bitCount_0f7a4 (M 0 7)))) else 0 - ((g_X1_rollSize M) - ((((g_J6_bitCount_0f7a4 ((M 0 3) &&& ((((M 0 5) ||| (M 0 6)) ||| (M 0 7)) ^^^ (-1)))) + (g_J6_bitCount_0f7a4 (M 0 5))) + (g_J6_bitCount_0f7a4 (M 0 6))) + (g_J6_bitCount_0f7a4 (M 0 7))))))]) (M' := M) (by decide +kernel) rfl ?_
    exact zT.iret (ty := Jvm.ClassFile.FieldType.int) (by simp only [g_X1_strayVotes]; try rfl) rfl rfl rfl (by decide +kernel)
theorem k_X1_strayVotes : zCal yy_X1_strayVotes 0 := ⟨⟨⟨⟨zIn (w := 5113) (by decide +kernel) rfl, zIn (w := 1005) (by decide +kernel) rfl⟩, by decide +kernel⟩, by decide +kernel⟩, ⟨zIn (w := 5111) (by decide +kernel) rfl, zIn (w := 5112) (by decide +kernel) rfl⟩⟩
