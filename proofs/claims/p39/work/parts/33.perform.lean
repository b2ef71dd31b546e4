/-! THE WHOLE OBJECT: itself, the opener, the text buffer, the office, the draft, the history, the slots, the report; behind them the offices that were kept -/
def zXo : Nat → Option Nat := fun j => if j < 11 then some (35 + 14 * j) else none
def sh_X (sl : Nat → Option Nat) (ext : List va_E) : List va_E := .inr (7, [.ref 1, .ref 2, .ref 5, .ref 19, .ref 33, .ref 189, .ref 190, .int 0]) ::
  .inr (3, [.ref 2, .ref 4]) ::
  .inr (6, [.int 0, .ref 3, .int 0, .int 0, .int 0, .int 0]) ::
  .inl (1, 600, .inl (fun _ => 0)) ::
  .inl (0, 3, .inl (fun _ => 0)) ::
  .inr (2, [.int 0, .int 0, .ref 6, .ref 7, .ref 8, .ref 9, .ref 10, .ref 11, .ref 12, .ref 15, .ref 17]) ::
  .inl (0, 3, .inl (fun _ => 0)) ::
  .inl (0, 9, .inl (fun _ => 0)) ::
  .inl (0, 9, .inl (fun _ => 0)) ::
  .inl (0, 9, .inl (fun _ => 0)) ::
  .inl (0, 9, .inl (fun _ => 0)) ::
  .inl (0, 9, .inl (fun _ => 0)) ::
  .inr (0, [.int 0, .int 0, .int 0, .int 0, .int 0, .int 0, .int 0, .int 0, .ref 13, .ref 14]) ::
  .inl (0, 9, .inl (fun _ => 0)) ::
  .inl (0, 9, .inl (fun _ => 0)) ::
  .inr (4, [.int 0, .ref 16]) ::
  .inl (0, 96, .inl (fun _ => 0)) ::
  .inr (5, [.ref 18, .int 0, .int 0, .int 0, .int 0]) ::
  .inl (0, 9, .inl (fun _ => 0)) ::
  .inr (2, [.int 0, .int 0, .ref 20, .ref 21, .ref 22, .ref 23, .ref 24, .ref 25, .ref 26, .ref 29, .ref 31]) ::
  .inl (0, 3, .inl (fun _ => 0)) ::
  .inl (0, 9, .inl (fun _ => 0)) ::
  .inl (0, 9, .inl (fun _ => 0)) ::
  .inl (0, 9, .inl (fun _ => 0)) ::
  .inl (0, 9, .inl (fun _ => 0)) ::
  .inl (0, 9, .inl (fun _ => 0)) ::
  .inr (0, [.int 0, .int 0, .int 0, .int 0, .int 0, .int 0, .int 0, .int 0, .ref 27, .ref 28]) ::
  .inl (0, 9, .inl (fun _ => 0)) ::
  .inl (0, 9, .inl (fun _ => 0)) ::
  .inr (4, [.int 0, .ref 30]) ::
  .inl (0, 96, .inl (fun _ => 0)) ::
  .inr (5, [.ref 32, .int 0, .int 0, .int 0, .int 0]) ::
  .inl (0, 9, .inl (fun _ => 0)) ::
  .inr (1, [.int 0, .int 0, .ref 34]) ::
  .inl (3, 11, .inr (.inr (.inr (.inr zXo)))) ::
  .inr (2, [.int 0, .int 0, .ref 36, .ref 37, .ref 38, .ref 39, .ref 40, .ref 41, .ref 42, .ref 45, .ref 47]) ::
  .inl (0, 3, .inl (fun _ => 0)) ::
  .inl (0, 9, .inl (fun _ => 0)) ::
  .inl (0, 9, .inl (fun _ => 0)) ::
  .inl (0, 9, .inl (fun _ => 0)) ::
  .inl (0, 9, .inl (fun _ => 0)) ::
  .inl (0, 9, .inl (fun _ => 0)) ::
  .inr (0, [.int 0, .int 0, .int 0, .int 0, .int 0, .int 0, .int 0, .int 0, .ref 43, .ref 44]) ::
  .inl (0, 9, .inl (fun _ => 0)) ::
  .inl (0, 9, .inl (fun _ => 0)) ::
  .inr (4, [.int 0, .ref 46]) ::
  .inl (0, 96, .inl (fun _ => 0)) ::
  .inr (5, [.ref 48, .int 0, .int 0, .int 0, .int 0]) ::
  .inl (0, 9, .inl (fun _ => 0)) ::
  .inr (2, [.int 0, .int 0, .ref 50, .ref 51, .ref 52, .ref 53, .ref 54, .ref 55, .ref 56, .ref 59, .ref 61]) ::
  .inl (0, 3, .inl (fun _ => 0)) ::
  .inl (0, 9, .inl (fun _ => 0)) ::
  .inl (0, 9, .inl (fun _ => 0)) ::
  .inl (0, 9, .inl (fun _ => 0)) ::
  .inl (0, 9, .inl (fun _ => 0)) ::
  .inl (0, 9, .inl (fun _ => 0)) ::
  .inr (0, [.int 0, .int 0, .int 0, .int 0, .int 0, .int 0, .int 0, .int 0, .ref 57, .ref 58]) ::
  .inl (0, 9, .inl (fun _ => 0)) ::
  .inl (0, 9, .inl (fun _ => 0)) ::
  .inr (4, [.int 0, .ref 60]) ::
  .inl (0, 96, .inl (fun _ => 0)) ::
  .inr (5, [.ref 62, .int 0, .int 0, .int 0, .int 0]) ::
  .inl (0, 9, .inl (fun _ => 0)) ::
  .inr (2, [.int 0, .int 0, .ref 64, .ref 65, .ref 66, .ref 67, .ref 68, .ref 69, .ref 70, .ref 73, .ref 75]) ::
  .inl (0, 3, .inl (fun _ => 0)) ::
  .inl (0, 9, .inl (fun _ => 0)) ::
  .inl (0, 9, .inl (fun _ => 0)) ::
  .inl (0, 9, .inl (fun _ => 0)) ::
  .inl (0, 9, .inl (fun _ => 0)) ::
  .inl (0, 9, .inl (fun _ => 0)) ::
  .inr (0, [.int 0, .int 0, .int 0, .int 0, .int 0, .int 0, .int 0, .int 0, .ref 71, .ref 72]) ::
  .inl (0, 9, .inl (fun _ => 0)) ::
  .inl (0, 9, .inl (fun _ => 0)) ::
  .inr (4, [.int 0, .ref 74]) ::
  .inl (0, 96, .inl (fun _ => 0)) ::
  .inr (5, [.ref 76, .int 0, .int 0, .int 0, .int 0]) ::
  .inl (0, 9, .inl (fun _ => 0)) ::
  .inr (2, [.int 0, .int 0, .ref 78, .ref 79, .ref 80, .ref 81, .ref 82, .ref 83, .ref 84, .ref 87, .ref 89]) ::
  .inl (0, 3, .inl (fun _ => 0)) ::
  .inl (0, 9, .inl (fun _ => 0)) ::
  .inl (0, 9, .inl (fun _ => 0)) ::
  .inl (0, 9, .inl (fun _ => 0)) ::
  .inl (0, 9, .inl (fun _ => 0)) ::
  .inl (0, 9, .inl (fun _ => 0)) ::
  .inr (0, [.int 0, .int 0, .int 0, .int 0, .int 0, .int 0, .int 0, .int 0, .ref 85, .ref 86]) ::
  .inl (0, 9, .inl (fun _ => 0)) ::
  .inl (0, 9, .inl (fun _ => 0)) ::
  .inr (4, [.int 0, .ref 88]) ::
  .inl (0, 96, .inl (fun _ => 0)) ::
  .inr (5, [.ref 90, .int 0, .int 0, .int 0, .int 0]) ::
  .inl (0, 9, .inl (fun _ => 0)) ::
  .inr (2, [.int 0, .int 0, .ref 92, .ref 93, .ref 94, .ref 95, .ref 96, .ref 97, .ref 98, .ref 101, .ref 103]) ::
  .inl (0, 3, .inl (fun _ => 0)) ::
  .inl (0, 9, .inl (fun _ => 0)) ::
  .inl (0, 9, .inl (fun _ => 0)) ::
  .inl (0, 9, .inl (fun _ => 0)) ::
  .inl (0, 9, .inl (fun _ => 0)) ::
  .inl (0, 9, .inl (fun _ => 0)) ::
  .inr (0, [.int 0, .int 0, .int 0, .int 0, .int 0, .int 0, .int 0, .int 0, .ref 99, .ref 100]) ::
  .inl (0, 9, .inl (fun _ => 0)) ::
  .inl (0, 9, .inl (fun _ => 0)) ::
  .inr (4, [.int 0, .ref 102]) ::
  .inl (0, 96, .inl (fun _ => 0)) ::
  .inr (5, [.ref 104, .int 0, .int 0, .int 0, .int 0]) ::
  .inl (0, 9, .inl (fun _ => 0)) ::
  .inr (2, [.int 0, .int 0, .ref 106, .ref 107, .ref 108, .ref 109, .ref 110, .ref 111, .ref 112, .ref 115, .ref 117]) ::
  .inl (0, 3, .inl (fun _ => 0)) ::
  .inl (0, 9, .inl (fun _ => 0)) ::
  .inl (0, 9, .inl (fun _ => 0)) ::
  .inl (0, 9, .inl (fun _ => 0)) ::
  .inl (0, 9, .inl (fun _ => 0)) ::
  .inl (0, 9, .inl (fun _ => 0)) ::
  .inr (0, [.int 0, .int 0, .int 0, .int 0, .int 0, .int 0, .int 0, .int 0, .ref 113, .ref 114]) ::
  .inl (0, 9, .inl (fun _ => 0)) ::
  .inl (0, 9, .inl (fun _ => 0)) ::
  .inr (4, [.int 0, .ref 116]) ::
  .inl (0, 96, .inl (fun _ => 0)) ::
  .inr (5, [.ref 118, .int 0, .int 0, .int 0, .int 0]) ::
  .inl (0, 9, .inl (fun _ => 0)) ::
  .inr (2, [.int 0, .int 0, .ref 120, .ref 121, .ref 122, .ref 123, .ref 124, .ref 125, .ref 126, .ref 129, .ref 131]) ::
  .inl (0, 3, .inl (fun _ => 0)) ::
  .inl (0, 9, .inl (fun _ => 0)) ::
  .inl (0, 9, .inl (fun _ => 0)) ::
  .inl (0, 9, .inl (fun _ => 0)) ::
  .inl (0, 9, .inl (fun _ => 0)) ::
  .inl (0, 9, .inl (fun _ => 0)) ::
  .inr (0, [.int 0, .int 0, .int 0, .int 0, .int 0, .int 0, .int 0, .int 0, .ref 127, .ref 128]) ::
  .inl (0, 9, .inl (fun _ => 0)) ::
  .inl (0, 9, .inl (fun _ => 0)) ::
  .inr (4, [.int 0, .ref 130]) ::
  .inl (0, 96, .inl (fun _ => 0)) ::
  .inr (5, [.ref 132, .int 0, .int 0, .int 0, .int 0]) ::
  .inl (0, 9, .inl (fun _ => 0)) ::
  .inr (2, [.int 0, .int 0, .ref 134, .ref 135, .ref 136, .ref 137, .ref 138, .ref 139, .ref 140, .ref 143, .ref 145]) ::
  .inl (0, 3, .inl (fun _ => 0)) ::
  .inl (0, 9, .inl (fun _ => 0)) ::
  .inl (0, 9, .inl (fun _ => 0)) ::
  .inl (0, 9, .inl (fun _ => 0)) ::
  .inl (0, 9, .inl (fun _ => 0)) ::
  .inl (0, 9, .inl (fun _ => 0)) ::
  .inr (0, [.int 0, .int 0, .int 0, .int 0, .int 0, .int 0, .int 0, .int 0, .ref 141, .ref 142]) ::
  .inl (0, 9, .inl (fun _ => 0)) ::
  .inl (0, 9, .inl (fun _ => 0)) ::
  .inr (4, [.int 0, .ref 144]) ::
  .inl (0, 96, .inl (fun _ => 0)) ::
  .inr (5, [.ref 146, .int 0, .int 0, .int 0, .int 0]) ::
  .inl (0, 9, .inl (fun _ => 0)) ::
  .inr (2, [.int 0, .int 0, .ref 148, .ref 149, .ref 150, .ref 151, .ref 152, .ref 153, .ref 154, .ref 157, .ref 159]) ::
  .inl (0, 3, .inl (fun _ => 0)) ::
  .inl (0, 9, .inl (fun _ => 0)) ::
  .inl (0, 9, .inl (fun _ => 0)) ::
  .inl (0, 9, .inl (fun _ => 0)) ::
  .inl (0, 9, .inl (fun _ => 0)) ::
  .inl (0, 9, .inl (fun _ => 0)) ::
  .inr (0, [.int 0, .int 0, .int 0, .int 0, .int 0, .int 0, .int 0, .int 0, .ref 155, .ref 156]) ::
  .inl (0, 9, .inl (fun _ => 0)) ::
  .inl (0, 9, .inl (fun _ => 0)) ::
  .inr (4, [.int 0, .ref 158]) ::
  .inl (0, 96, .inl (fun _ => 0)) ::
  .inr (5, [.ref 160, .int 0, .int 0, .int 0, .int 0]) ::
  .inl (0, 9, .inl (fun _ => 0)) ::
  .inr (2, [.int 0, .int 0, .ref 162, .ref 163, .ref 164, .ref 165, .ref 166, .ref 167, .ref 168, .ref 171, .ref 173]) ::
  .inl (0, 3, .inl (fun _ => 0)) ::
  .inl (0, 9, .inl (fun _ => 0)) ::
  .inl (0, 9, .inl (fun _ => 0)) ::
  .inl (0, 9, .inl (fun _ => 0)) ::
  .inl (0, 9, .inl (fun _ => 0)) ::
  .inl (0, 9, .inl (fun _ => 0)) ::
  .inr (0, [.int 0, .int 0, .int 0, .int 0, .int 0, .int 0, .int 0, .int 0, .ref 169, .ref 170]) ::
  .inl (0, 9, .inl (fun _ => 0)) ::
  .inl (0, 9, .inl (fun _ => 0)) ::
  .inr (4, [.int 0, .ref 172]) ::
  .inl (0, 96, .inl (fun _ => 0)) ::
  .inr (5, [.ref 174, .int 0, .int 0, .int 0, .int 0]) ::
  .inl (0, 9, .inl (fun _ => 0)) ::
  .inr (2, [.int 0, .int 0, .ref 176, .ref 177, .ref 178, .ref 179, .ref 180, .ref 181, .ref 182, .ref 185, .ref 187]) ::
  .inl (0, 3, .inl (fun _ => 0)) ::
  .inl (0, 9, .inl (fun _ => 0)) ::
  .inl (0, 9, .inl (fun _ => 0)) ::
  .inl (0, 9, .inl (fun _ => 0)) ::
  .inl (0, 9, .inl (fun _ => 0)) ::
  .inl (0, 9, .inl (fun _ => 0)) ::
  .inr (0, [.int 0, .int 0, .int 0, .int 0, .int 0, .int 0, .int 0, .int 0, .ref 183, .ref 184]) ::
  .inl (0, 9, .inl (fun _ => 0)) ::
  .inl (0, 9, .inl (fun _ => 0)) ::
  .inr (4, [.int 0, .ref 186]) ::
  .inl (0, 96, .inl (fun _ => 0)) ::
  .inr (5, [.ref 188, .int 0, .int 0, .int 0, .int 0]) ::
  .inl (0, 9, .inl (fun _ => 0)) ::
  .inl (3, 2, .inr (.inr (.inr (.inr sl)))) ::
  .inl (1, 9, .inl (fun _ => 0)) :: ext
theorem sub_X_1_Opener {sl : Nat → Option Nat} {ext : List va_E} : zSub (sh_X sl ext) 1 sh_Opener := zSub.of rfl
theorem sub_X_19_Office {sl : Nat → Option Nat} {ext : List va_E} : zSub (sh_X sl ext) 19 sh_Office := zSub.of rfl
noncomputable abbrev yy_X5_perform : zY := (yX5_perform, cX5_perform, 3, (some Jvm.ClassFile.FieldType.int), 4, 124)
noncomputable def g_X5_perform (M : zM)  : Int32 × zM := ((g_X4_changeSetting (zPl M 19) 0 (M 4 0)).1, (zPs M 19 14 (g_X4_changeSetting (zPl M 19) 0 (M 4 0)).2))
set_option maxRecDepth 100000 in
theorem c_X5_perform (M : zM) (sl : Nat → Option Nat) (ext : List va_E)   : zC yy_X5_perform 0 0 [.ref 1, .retAddr 0, .ref 19] (sh_X sl ext) M (some (.int (g_X5_perform M).1)) (sh_X sl ext) (g_X5_perform M).2 := by
  refine zC.of (by decide +kernel) rfl (Nat.le_of_ble_eq_true rfl) ?_
  refine zT.gets (idx := 106) 3 rfl rfl (zIn (w := 4052) (by decide +kernel) rfl) (by decide +kernel) ?_
  refine zT.run [(.aload_n 1, 0, 0, 0)] (pe := 4) (ls' := [some (.ref 1), some (.retAddr 0), some (.ref 19)]) (st' := [.retAddr 0, .retAddr 104]) (M' := M) (by decide +kernel) rfl ?_
  refine zTcXU0 (x := ⟨"SealedBallots$Deed", "ordinal", "()I"⟩) (C := "SealedBallots$Deed") (idx := 111) (av := []) (rv := some (.int (nI 0))) (st := [.retAddr 104]) (S1 := [.int (nI 0), .retAddr 104]) (c_ordinal 0 (by decide)) k_Jx29ce0_ordinal_8abf5 (zDeedO 0 (by decide)) rfl rfl (zIn (w := 4057) (by decide +kernel) rfl) (zIn (w := 4054) (by decide +kernel) rfl) (zIn (w := 4055) (by decide +kernel) rfl) (by decide +kernel) (by decide +kernel) (by decide +kernel) rfl (Nat.le_of_ble_eq_true rfl) rfl ?_
  refine zT.xi 3 (j := 0) (x := 1) rfl rfl rfl (by decide) (by decide +kernel) ?_
  refine zT.tabEq (v := 1) rfl (tgt := 80) (off := 72) (dflt := 250) (lo := 1) (hi := 14) (offs := #[72, 84, 96, 108, 119, 142, 159, 164, 187, 192, 203, 208, 220, 232]) (len := 72) (by decide +kernel) (by decide) (by decide) (by decide) (by decide) ?_
  refine zT.run [(.aload_n 2, 0, 0, 0), (.iconst 0, 0, 0, 0), (.aload_n 0, 0, 0, 0), (.getfield 18, 3, 1, 1072), (.iconst 0, 0, 0, 0)] (pe := 87) (ls' := [some (.ref 1), some (.retAddr 0), some (.ref 19)]) (st' := [.int 0, .ref 4, .int 0, .ref 19]) (M' := M) (by decide +kernel) rfl ?_
  refine zT.iald (n := 3) (k := 0) rfl rfl (by decide) (by decide) (by decide +kernel) ?_
  refine zT.cV_sub 19 (o := 0) (idx := 115) (av := [.int (nI 0), .int (M 4 0)]) (rv := (some (.int (g_X4_changeSetting (zPl M 19) 0 (M 4 0)).1))) (st := []) (S1 := [.int (g_X4_changeSetting (zPl M 19) 0 (M 4 0)).1]) (c_X4_changeSetting (zPl M 19) 0 (M 4 0) (by decide)) sub_X_19_Office k_X4_changeSetting _ _ rfl rfl rfl (zIn (w := 4060) (by decide +kernel) rfl) (by decide +kernel) (by decide +kernel) rfl (Nat.le_of_ble_eq_true rfl) rfl ?_
  exact zT.iret (ty := Jvm.ClassFile.FieldType.int) (by simp only [g_X5_perform]; try rfl) (by simp only [g_X5_perform]; try rfl) rfl rfl (by decide +kernel)
theorem k_X5_perform : zCal yy_X5_perform 2 := ⟨⟨⟨⟨zIn (w := 4051) (by decide +kernel) rfl, zIn (w := 1002) (by decide +kernel) rfl⟩, by decide +kernel⟩, by decide +kernel⟩, ⟨zIn (w := 4050) (by decide +kernel) rfl, zIn (w := 13) (by decide +kernel) rfl⟩⟩
noncomputable def g_X5_perform_1 (M : zM)  : Int32 × zM := ((g_X4_changeSetting (zPl M 19) 1 (M 4 0)).1, (zPs M 19 14 (g_X4_changeSetting (zPl M 19) 1 (M 4 0)).2))
set_option maxRecDepth 100000 in
theorem c_X5_perform_1 (M : zM) (sl : Nat → Option Nat) (ext : List va_E)   : zC yy_X5_perform 0 0 [.ref 1, .retAddr 1, .ref 19] (sh_X sl ext) M (some (.int (g_X5_perform_1 M).1)) (sh_X sl ext) (g_X5_perform_1 M).2 := by
  refine zC.of (by decide +kernel) rfl (Nat.le_of_ble_eq_true rfl) ?_
  refine zT.gets (idx := 106) 3 rfl rfl (zIn (w := 4052) (by decide +kernel) rfl) (by decide +kernel) ?_
  refine zT.run [(.aload_n 1, 0, 0, 0)] (pe := 4) (ls' := [some (.ref 1), some (.retAddr 1), some (.ref 19)]) (st' := [.retAddr 1, .retAddr 104]) (M' := M) (by decide +kernel) rfl ?_
  refine zTcXU0 (x := ⟨"SealedBallots$Deed", "ordinal", "()I"⟩) (C := "SealedBallots$Deed") (idx := 111) (av := []) (rv := some (.int (nI 1))) (st := [.retAddr 104]) (S1 := [.int (nI 1), .retAddr 104]) (c_ordinal 1 (by decide)) k_Jx29ce0_ordinal_8abf5 (zDeedO 1 (by decide)) rfl rfl (zIn (w := 4057) (by decide +kernel) rfl) (zIn (w := 4054) (by decide +kernel) rfl) (zIn (w := 4055) (by decide +kernel) rfl) (by decide +kernel) (by decide +kernel) (by decide +kernel) rfl (Nat.le_of_ble_eq_true rfl) rfl ?_
  refine zT.xi 3 (j := 1) (x := 2) rfl rfl rfl (by decide) (by decide +kernel) ?_
  refine zT.tabEq (v := 2) rfl (tgt := 92) (off := 84) (dflt := 250) (lo := 1) (hi := 14) (offs := #[72, 84, 96, 108, 119, 142, 159, 164, 187, 192, 203, 208, 220, 232]) (len := 72) (by decide +kernel) (by decide) (by decide) (by decide) (by decide) ?_
  refine zT.run [(.aload_n 2, 0, 0, 0), (.iconst 1, 0, 0, 0), (.aload_n 0, 0, 0, 0), (.getfield 18, 3, 1, 1072), (.iconst 0, 0, 0, 0)] (pe := 99) (ls' := [some (.ref 1), some (.retAddr 1), some (.ref 19)]) (st' := [.int 0, .ref 4, .int 1, .ref 19]) (M' := M) (by decide +kernel) rfl ?_
  refine zT.iald (n := 3) (k := 0) rfl rfl (by decide) (by decide) (by decide +kernel) ?_
  refine zT.cV_sub 19 (o := 0) (idx := 115) (av := [.int (nI 1), .int (M 4 0)]) (rv := (some (.int (g_X4_changeSetting (zPl M 19) 1 (M 4 0)).1))) (st := []) (S1 := [.int (g_X4_changeSetting (zPl M 19) 1 (M 4 0)).1]) (c_X4_changeSetting (zPl M 19) 1 (M 4 0) (by decide)) sub_X_19_Office k_X4_changeSetting _ _ rfl rfl rfl (zIn (w := 4060) (by decide +kernel) rfl) (by decide +kernel) (by decide +kernel) rfl (Nat.le_of_ble_eq_true rfl) rfl ?_
  exact zT.iret (ty := Jvm.ClassFile.FieldType.int) (by simp only [g_X5_perform_1]; try rfl) (by simp only [g_X5_perform_1]; try rfl) rfl rfl (by decide +kernel)
noncomputable def g_X5_perform_2 (M : zM)  : Int32 × zM := ((g_X4_changeSetting (zPl M 19) 2 (M 4 0)).1, (zPs M 19 14 (g_X4_changeSetting (zPl M 19) 2 (M 4 0)).2))
set_option maxRecDepth 100000 in
theorem c_X5_perform_2 (M : zM) (sl : Nat → Option Nat) (ext : List va_E)   : zC yy_X5_perform 0 0 [.ref 1, .retAddr 2, .ref 19] (sh_X sl ext) M (some (.int (g_X5_perform_2 M).1)) (sh_X sl ext) (g_X5_perform_2 M).2 := by
  refine zC.of (by decide +kernel) rfl (Nat.le_of_ble_eq_true rfl) ?_
  refine zT.gets (idx := 106) 3 rfl rfl (zIn (w := 4052) (by decide +kernel) rfl) (by decide +kernel) ?_
  refine zT.run [(.aload_n 1, 0, 0, 0)] (pe := 4) (ls' := [some (.ref 1), some (.retAddr 2), some (.ref 19)]) (st' := [.retAddr 2, .retAddr 104]) (M' := M) (by decide +kernel) rfl ?_
  refine zTcXU0 (x := ⟨"SealedBallots$Deed", "ordinal", "()I"⟩) (C := "SealedBallots$Deed") (idx := 111) (av := []) (rv := some (.int (nI 2))) (st := [.retAddr 104]) (S1 := [.int (nI 2), .retAddr 104]) (c_ordinal 2 (by decide)) k_Jx29ce0_ordinal_8abf5 (zDeedO 2 (by decide)) rfl rfl (zIn (w := 4057) (by decide +kernel) rfl) (zIn (w := 4054) (by decide +kernel) rfl) (zIn (w := 4055) (by decide +kernel) rfl) (by decide +kernel) (by decide +kernel) (by decide +kernel) rfl (Nat.le_of_ble_eq_true rfl) rfl ?_
  refine zT.xi 3 (j := 2) (x := 3) rfl rfl rfl (by decide) (by decide +kernel) ?_
  refine zT.tabEq (v := 3) rfl (tgt := 104) (off := 96) (dflt := 250) (lo := 1) (hi := 14) (offs := #[72, 84, 96, 108, 119, 142, 159, 164, 187, 192, 203, 208, 220, 232]) (len := 72) (by decide +kernel) (by decide) (by decide) (by decide) (by decide) ?_
  refine zT.run [(.aload_n 2, 0, 0, 0), (.iconst 2, 0, 0, 0), (.aload_n 0, 0, 0, 0), (.getfield 18, 3, 1, 1072), (.iconst 0, 0, 0, 0)] (pe := 111) (ls' := [some (.ref 1), some (.retAddr 2), some (.ref 19)]) (st' := [.int 0, .ref 4, .int 2, .ref 19]) (M' := M) (by decide +kernel) rfl ?_
  refine zT.iald (n := 3) (k := 0) rfl rfl (by decide) (by decide) (by decide +kernel) ?_
  refine zT.cV_sub 19 (o := 0) (idx := 115) (av := [.int (nI 2), .int (M 4 0)]) (rv := (some (.int (g_X4_changeSetting (zPl M 19) 2 (M 4 0)).1))) (st := []) (S1 := [.int (g_X4_changeSetting (zPl M 19) 2 (M 4 0)).1]) (c_X4_changeSetting (zPl M 19) 2 (M 4 0) (by decide)) sub_X_19_Office k_X4_changeSetting _ _ rfl rfl rfl (zIn (w := 4060) (by decide +kernel) rfl) (by decide +kernel) (by decide +kernel) rfl (Nat.le_of_ble_eq_true rfl) rfl ?_
  exact zT.iret (ty := Jvm.ClassFile.FieldType.int) (by simp only [g_X5_perform_2]; try rfl) (by simp only [g_X5_perform_2]; try rfl) rfl rfl (by decide +kernel)
noncomputable def g_X5_perform_3 (M : zM) (n : Nat) (a : Nat) : Int32 × zM := ((g_X4_callBallot (zPl M 19) n a).1, (zPs M 19 14 (g_X4_callBallot (zPl M 19) n a).2))
set_option maxRecDepth 100000 in
theorem c_X5_perform_3 (M : zM) (sl : Nat → Option Nat) (ext : List va_E) (n : Nat) (a : Nat) (hn : M 19 0 = nI n) (h9 : n ≤ 9) (h0 : M 4 0 = nI a) (h_a : a < 9) : zC yy_X5_perform 0 0 [.ref 1, .retAddr 3, .ref 19] (sh_X sl ext) M (some (.int (g_X5_perform_3 M n a).1)) (sh_X sl ext) (g_X5_perform_3 M n a).2 := by
  refine zC.of (by decide +kernel) rfl (Nat.le_of_ble_eq_true rfl) ?_
  refine zT.gets (idx := 106) 3 rfl rfl (zIn (w := 4052) (by decide +kernel) rfl) (by decide +kernel) ?_
  refine zT.run [(.aload_n 1, 0, 0, 0)] (pe := 4) (ls' := [some (.ref 1), some (.retAddr 3), some (.ref 19)]) (st' := [.retAddr 3, .retAddr 104]) (M' := M) (by decide +kernel) rfl ?_
  refine zTcXU0 (x := ⟨"SealedBallots$Deed", "ordinal", "()I"⟩) (C := "SealedBallots$Deed") (idx := 111) (av := []) (rv := some (.int (nI 3))) (st := [.retAddr 104]) (S1 := [.int (nI 3), .retAddr 104]) (c_ordinal 3 (by decide)) k_Jx29ce0_ordinal_8abf5 (zDeedO 3 (by decide)) rfl rfl (zIn (w := 4057) (by decide +kernel) rfl) (zIn (w := 4054) (by decide +kernel) rfl) (zIn (w := 4055) (by decide +kernel) rfl) (by decide +kernel) (by decide +kernel) (by decide +kernel) rfl (Nat.le_of_ble_eq_true rfl) rfl ?_
  refine zT.xi 3 (j := 3) (x := 4) rfl rfl rfl (by decide) (by decide +kernel) ?_
  refine zT.tabEq (v := 4) rfl (tgt := 116) (off := 108) (dflt := 250) (lo := 1) (hi := 14) (offs := #[72, 84, 96, 108, 119, 142, 159, 164, 187, 192, 203, 208, 220, 232]) (len := 72) (by decide +kernel) (by decide) (by decide) (by decide) (by decide) ?_
  refine zT.run [(.aload_n 2, 0, 0, 0), (.aload_n 0, 0, 0, 0), (.getfield 18, 3, 1, 1072), (.iconst 0, 0, 0, 0)] (pe := 122) (ls' := [some (.ref 1), some (.retAddr 3), some (.ref 19)]) (st' := [.int 0, .ref 4, .ref 19]) (M' := M) (by decide +kernel) rfl ?_
  refine zT.iald (n := 3) (k := 0) rfl rfl (by decide) (by decide) (by decide +kernel) ?_
  refine zT.eqS (congrArg (fun v : Int32 => ([.int v, .ref 19] : List Value)) h0) ?_
  refine zT.cV_sub 19 (o := 0) (idx := 119) (av := [.int (nI a)]) (rv := (some (.int (g_X4_callBallot (zPl M 19) n a).1))) (st := []) (S1 := [.int (g_X4_callBallot (zPl M 19) n a).1]) (c_X4_callBallot (zPl M 19) n a hn h9 h_a) sub_X_19_Office k_X4_callBallot _ _ rfl rfl rfl (zIn (w := 4064) (by decide +kernel) rfl) (by decide +kernel) (by decide +kernel) rfl (Nat.le_of_ble_eq_true rfl) rfl ?_
  exact zT.iret (ty := Jvm.ClassFile.FieldType.int) (by simp only [g_X5_perform_3]; try rfl) (by simp only [g_X5_perform_3]; try rfl) rfl rfl (by decide +kernel)
noncomputable def g_X5_perform_4 (M : zM) (a : Nat) (b : Nat) : Int32 × zM := ((g_X4_sealVote (zPl M 19) a (M 4 1) (M 4 2)).1, (zPs M 19 14 (g_X4_sealVote (zPl M 19) a (M 4 1) (M 4 2)).2))
set_option maxRecDepth 100000 in
theorem c_X5_perform_4 (M : zM) (sl : Nat → Option Nat) (ext : List va_E) (a : Nat) (b : Nat) (hc : zHc (zPl M 19)) (h0 : M 4 0 = nI a) (h_a : a < 9) (h1 : M 4 1 = nI b) (h_b : b < 9) : zC yy_X5_perform 0 0 [.ref 1, .retAddr 4, .ref 19] (sh_X sl ext) M (some (.int (g_X5_perform_4 M a b).1)) (sh_X sl ext) (g_X5_perform_4 M a b).2 := by
  refine zC.of (by decide +kernel) rfl (Nat.le_of_ble_eq_true rfl) ?_
  refine zT.gets (idx := 106) 3 rfl rfl (zIn (w := 4052) (by decide +kernel) rfl) (by decide +kernel) ?_
  refine zT.run [(.aload_n 1, 0, 0, 0)] (pe := 4) (ls' := [some (.ref 1), some (.retAddr 4), some (.ref 19)]) (st' := [.retAddr 4, .retAddr 104]) (M' := M) (by decide +kernel) rfl ?_
  refine zTcXU0 (x := ⟨"SealedBallots$Deed", "ordinal", "()I"⟩) (C := "SealedBallots$Deed") (idx := 111) (av := []) (rv := some (.int (nI 4))) (st := [.retAddr 104]) (S1 := [.int (nI 4), .retAddr 104]) (c_ordinal 4 (by decide)) k_Jx29ce0_ordinal_8abf5 (zDeedO 4 (by decide)) rfl rfl (zIn (w := 4057) (by decide +kernel) rfl) (zIn (w := 4054) (by decide +kernel) rfl) (zIn (w := 4055) (by decide +kernel) rfl) (by decide +kernel) (by decide +kernel) (by decide +kernel) rfl (Nat.le_of_ble_eq_true rfl) rfl ?_
  refine zT.xi 3 (j := 4) (x := 5) rfl rfl rfl (by decide) (by decide +kernel) ?_
  refine zT.tabEq (v := 5) rfl (tgt := 127) (off := 119) (dflt := 250) (lo := 1) (hi := 14) (offs := #[72, 84, 96, 108, 119, 142, 159, 164, 187, 192, 203, 208, 220, 232]) (len := 72) (by decide +kernel) (by decide) (by decide) (by decide) (by decide) ?_
  refine zT.run [(.aload_n 2, 0, 0, 0), (.aload_n 0, 0, 0, 0), (.getfield 18, 3, 1, 1072), (.iconst 0, 0, 0, 0)] (pe := 133) (ls' := [some (.ref 1), some (.retAddr 4), some (.ref 19)]) (st' := [.int 0, .ref 4, .ref 19]) (M' := M) (by decide +kernel) rfl ?_
  refine zT.iald (n := 3) (k := 0) rfl rfl (by decide) (by decide) (by decide +kernel) ?_
  refine zT.run [(.aload_n 0, 0, 0, 0), (.getfield 18, 3, 1, 1072), (.iconst 1, 0, 0, 0)] (pe := 139) (ls' := [some (.ref 1), some (.retAddr 4), some (.ref 19)]) (st' := [.int 1, .ref 4, .int (M 4 0), .ref 19]) (M' := M) (by decide +kernel) rfl ?_
  refine zT.iald (n := 3) (k := 1) rfl rfl (by decide) (by decide) (by decide +kernel) ?_
  refine zT.run [(.aload_n 0, 0, 0, 0), (.getfield 18, 3, 1, 1072), (.iconst 2, 0, 0, 0)] (pe := 145) (ls' := [some (.ref 1), some (.retAddr 4), some (.ref 19)]) (st' := [.int 2, .ref 4, .int (M 4 1), .int (M 4 0), .ref 19]) (M' := M) (by decide +kernel) rfl ?_
  refine zT.iald (n := 3) (k := 2) rfl rfl (by decide) (by decide) (by decide +kernel) ?_
  refine zT.eqS (congrArg (fun v : Int32 => ([.int (M 4 2), .int (M 4 1), .int v, .ref 19] : List Value)) h0) ?_
  refine zT.cV_sub 19 (o := 0) (idx := 122) (av := [.int (nI a), .int (M 4 1), .int (M 4 2)]) (rv := (some (.int (g_X4_sealVote (zPl M 19) a (M 4 1) (M 4 2)).1))) (st := []) (S1 := [.int (g_X4_sealVote (zPl M 19) a (M 4 1) (M 4 2)).1]) (c_X4_sealVote (zPl M 19) a (M 4 1) (M 4 2) hc h_a) sub_X_19_Office k_X4_sealVote _ _ rfl rfl rfl (zIn (w := 4065) (by decide +kernel) rfl) (by decide +kernel) (by decide +kernel) rfl (Nat.le_of_ble_eq_true rfl) rfl ?_
  exact zT.iret (ty := Jvm.ClassFile.FieldType.int) (by simp only [g_X5_perform_4]; try rfl) (by simp only [g_X5_perform_4]; try rfl) rfl rfl (by decide +kernel)
noncomputable def g_X5_perform_5 (M : zM) (a : Nat) : Int32 × zM := ((g_X4_sealWith (zPl M 19) a (M 4 1)).1, (zPs M 19 14 (g_X4_sealWith (zPl M 19) a (M 4 1)).2))
set_option maxRecDepth 100000 in
theorem c_X5_perform_5 (M : zM) (sl : Nat → Option Nat) (ext : List va_E) (a : Nat) (hc : zHc (zPl M 19)) (h0 : M 4 0 = nI a) (h_a : a < 9) : zC yy_X5_perform 0 0 [.ref 1, .retAddr 5, .ref 19] (sh_X sl ext) M (some (.int (g_X5_perform_5 M a).1)) (sh_X sl ext) (g_X5_perform_5 M a).2 := by
  refine zC.of (by decide +kernel) rfl (Nat.le_of_ble_eq_true rfl) ?_
  refine zT.gets (idx := 106) 3 rfl rfl (zIn (w := 4052) (by decide +kernel) rfl) (by decide +kernel) ?_
  refine zT.run [(.aload_n 1, 0, 0, 0)] (pe := 4) (ls' := [some (.ref 1), some (.retAddr 5), some (.ref 19)]) (st' := [.retAddr 5, .retAddr 104]) (M' := M) (by decide +kernel) rfl ?_
  refine zTcXU0 (x := ⟨"SealedBallots$Deed", "ordinal", "()I"⟩) (C := "SealedBallots$Deed") (idx := 111) (av := []) (rv := some (.int (nI 5))) (st := [.retAddr 104]) (S1 := [.int (nI 5), .retAddr 104]) (c_ordinal 5 (by decide)) k_Jx29ce0_ordinal_8abf5 (zDeedO 5 (by decide)) rfl rfl (zIn (w := 4057) (by decide +kernel) rfl) (zIn (w := 4054) (by decide +kernel) rfl) (zIn (w := 4055) (by decide +kernel) rfl) (by decide +kernel) (by decide +kernel) (by decide +kernel) rfl (Nat.le_of_ble_eq_true rfl) rfl ?_
  refine zT.xi 3 (j := 5) (x := 6) rfl rfl rfl (by decide) (by decide +kernel) ?_
  refine zT.tabEq (v := 6) rfl (tgt := 150) (off := 142) (dflt := 250) (lo := 1) (hi := 14) (offs := #[72, 84, 96, 108, 119, 142, 159, 164, 187, 192, 203, 208, 220, 232]) (len := 72) (by decide +kernel) (by decide) (by decide) (by decide) (by decide) ?_
  refine zT.run [(.aload_n 2, 0, 0, 0), (.aload_n 0, 0, 0, 0), (.getfield 18, 3, 1, 1072), (.iconst 0, 0, 0, 0)] (pe := 156) (ls' := [some (.ref 1), some (.retAddr 5), some (.ref 19)]) (st' := [.int 0, .ref 4, .ref 19]) (M' := M) (by decide +kernel) rfl ?_
  refine zT.iald (n := 3) (k := 0) rfl rfl (by decide) (by decide) (by decide +kernel) ?_
  refine zT.run [(.aload_n 0, 0, 0, 0), (.getfield 18, 3, 1, 1072), (.iconst 1, 0, 0, 0)] (pe := 162) (ls' := [some (.ref 1), some (.retAddr 5), some (.ref 19)]) (st' := [.int 1, .ref 4, .int (M 4 0), .ref 19]) (M' := M) (by decide +kernel) rfl ?_
  refine zT.iald (n := 3) (k := 1) rfl rfl (by decide) (by decide) (by decide +kernel) ?_
  refine zT.eqS (congrArg (fun v : Int32 => ([.int (M 4 1), .int v, .ref 19] : List Value)) h0) ?_
  refine zT.cV_sub 19 (o := 0) (idx := 125) (av := [.int (nI a), .int (M 4 1)]) (rv := (some (.int (g_X4_sealWith (zPl M 19) a (M 4 1)).1))) (st := []) (S1 := [.int (g_X4_sealWith (zPl M 19) a (M 4 1)).1]) (c_X4_sealWith (zPl M 19) a (M 4 1) hc h_a) sub_X_19_Office k_X4_sealWith _ _ rfl rfl rfl (zIn (w := 4066) (by decide +kernel) rfl) (by decide +kernel) (by decide +kernel) rfl (Nat.le_of_ble_eq_true rfl) rfl ?_
  exact zT.iret (ty := Jvm.ClassFile.FieldType.int) (by simp only [g_X5_perform_5]; try rfl) (by simp only [g_X5_perform_5]; try rfl) rfl rfl (by decide +kernel)
noncomputable def g_X5_perform_6 (M : zM)  : Int32 × zM := ((g_X4_closeSealing (zPl M 19)).1, (zPs M 19 14 (g_X4_closeSealing (zPl M 19)).2))
set_option maxRecDepth 100000 in
theorem c_X5_perform_6 (M : zM) (sl : Nat → Option Nat) (ext : List va_E)   : zC yy_X5_perform 0 0 [.ref 1, .retAddr 6, .ref 19] (sh_X sl ext) M (some (.int (g_X5_perform_6 M).1)) (sh_X sl ext) (g_X5_perform_6 M).2 := by
  refine zC.of (by decide +kernel) rfl (Nat.le_of_ble_eq_true rfl) ?_
  refine zT.gets (idx := 106) 3 rfl rfl (zIn (w := 4052) (by decide +kernel) rfl) (by decide +kernel) ?_
  refine zT.run [(.aload_n 1, 0, 0, 0)] (pe := 4) (ls' := [some (.ref 1), some (.retAddr 6), some (.ref 19)]) (st' := [.retAddr 6, .retAddr 104]) (M' := M) (by decide +kernel) rfl ?_
  refine zTcXU0 (x := ⟨"SealedBallots$Deed", "ordinal", "()I"⟩) (C := "SealedBallots$Deed") (idx := 111) (av := []) (rv := some (.int (nI 6))) (st := [.retAddr 104]) (S1 := [.int (nI 6), .retAddr 104]) (c_ordinal 6 (by decide)) k_Jx29ce0_ordinal_8abf5 (zDeedO 6 (by decide)) rfl rfl (zIn (w := 4057) (by decide +kernel) rfl) (zIn (w := 4054) (by decide +kernel) rfl) (zIn (w := 4055) (by decide +kernel) rfl) (by decide +kernel) (by decide +kernel) (by decide +kernel) rfl (Nat.le_of_ble_eq_true rfl) rfl ?_
  refine zT.xi 3 (j := 6) (x := 7) rfl rfl rfl (by decide) (by decide +kernel) ?_
  refine zT.tabEq (v := 7) rfl (tgt := 167) (off := 159) (dflt := 250) (lo := 1) (hi := 14) (offs := #[72, 84, 96, 108, 119, 142, 159, 164, 187, 192, 203, 208, 220, 232]) (len := 72) (by decide +kernel) (by decide) (by decide) (by decide) (by decide) ?_
  refine zT.run [(.aload_n 2, 0, 0, 0)] (pe := 168) (ls' := [some (.ref 1), some (.retAddr 6), some (.ref 19)]) (st' := [.ref 19]) (M' := M) (by decide +kernel) rfl ?_
  refine zT.cV_sub 19 (o := 0) (idx := 128) (av := []) (rv := (some (.int (g_X4_closeSealing (zPl M 19)).1))) (st := []) (S1 := [.int (g_X4_closeSealing (zPl M 19)).1]) (c_X4_closeSealing (zPl M 19)) sub_X_19_Office k_X4_closeSealing _ _ rfl rfl rfl (zIn (w := 4067) (by decide +kernel) rfl) (by decide +kernel) (by decide +kernel) rfl (Nat.le_of_ble_eq_true rfl) rfl ?_
  exact zT.iret (ty := Jvm.ClassFile.FieldType.int) (by simp only [g_X5_perform_6]; try rfl) (by simp only [g_X5_perform_6]; try rfl) rfl rfl (by decide +kernel)
noncomputable def g_X5_perform_7 (M : zM) (a : Nat) (b : Nat) : Int32 × zM := ((g_X4_breakVote (zPl M 19) a b (M 4 2)).1, (zPs M 19 14 (g_X4_breakVote (zPl M 19) a b (M 4 2)).2))
set_option maxRecDepth 100000 in
theorem c_X5_perform_7 (M : zM) (sl : Nat → Option Nat) (ext : List va_E) (a : Nat) (b : Nat) (hc : zHc (zPl M 19)) (h0 : M 4 0 = nI a) (h_a : a < 9) (h1 : M 4 1 = nI b) (h_b : b < 9) : zC yy_X5_perform 0 0 [.ref 1, .retAddr 7, .ref 19] (sh_X sl ext) M (some (.int (g_X5_perform_7 M a b).1)) (sh_X sl ext) (g_X5_perform_7 M a b).2 := by
  refine zC.of (by decide +kernel) rfl (Nat.le_of_ble_eq_true rfl) ?_
  refine zT.gets (idx := 106) 3 rfl rfl (zIn (w := 4052) (by decide +kernel) rfl) (by decide +kernel) ?_
  refine zT.run [(.aload_n 1, 0, 0, 0)] (pe := 4) (ls' := [some (.ref 1), some (.retAddr 7), some (.ref 19)]) (st' := [.retAddr 7, .retAddr 104]) (M' := M) (by decide +kernel) rfl ?_
  refine zTcXU0 (x := ⟨"SealedBallots$Deed", "ordinal", "()I"⟩) (C := "SealedBallots$Deed") (idx := 111) (av := []) (rv := some (.int (nI 7))) (st := [.retAddr 104]) (S1 := [.int (nI 7), .retAddr 104]) (c_ordinal 7 (by decide)) k_Jx29ce0_ordinal_8abf5 (zDeedO 7 (by decide)) rfl rfl (zIn (w := 4057) (by decide +kernel) rfl) (zIn (w := 4054) (by decide +kernel) rfl) (zIn (w := 4055) (by decide +kernel) rfl) (by decide +kernel) (by decide +kernel) (by decide +kernel) rfl (Nat.le_of_ble_eq_true rfl) rfl ?_
  refine zT.xi 3 (j := 7) (x := 8) rfl rfl rfl (by decide) (by decide +kernel) ?_
  refine zT.tabEq (v := 8) rfl (tgt := 172) (off := 164) (dflt := 250) (lo := 1) (hi := 14) (offs := #[72, 84, 96, 108, 119, 142, 159, 164, 187, 192, 203, 208, 220, 232]) (len := 72) (by decide +kernel) (by decide) (by decide) (by decide) (by decide) ?_
  refine zT.run [(.aload_n 2, 0, 0, 0), (.aload_n 0, 0, 0, 0), (.getfield 18, 3, 1, 1072), (.iconst 0, 0, 0, 0)] (pe := 178) (ls' := [some (.ref 1), some (.retAddr 7), some (.ref 19)]) (st' := [.int 0, .ref 4, .ref 19]) (M' := M) (by decide +kernel) rfl ?_
  refine zT.iald (n := 3) (k := 0) rfl rfl (by decide) (by decide) (by decide +kernel) ?_
  refine zT.run [(.aload_n 0, 0, 0, 0), (.getfield 18, 3, 1, 1072), (.iconst 1, 0, 0, 0)] (pe := 184) (ls' := [some (.ref 1), some (.retAddr 7), some (.ref 19)]) (st' := [.int 1, .ref 4, .int (M 4 0), .ref 19]) (M' := M) (by decide +kernel) rfl ?_
  refine zT.iald (n := 3) (k := 1) rfl rfl (by decide) (by decide) (by decide +kernel) ?_
  refine zT.run [(.aload_n 0, 0, 0, 0), (.getfield 18, 3, 1, 1072), (.iconst 2, 0, 0, 0)] (pe := 190) (ls' := [some (.ref 1), some (.retAddr 7), some (.ref 19)]) (st' := [.int 2, .ref 4, .int (M 4 1), .int (M 4 0), .ref 19]) (M' := M) (by decide +kernel) rfl ?_
  refine zT.iald (n := 3) (k := 2) rfl rfl (by decide) (by decide) (by decide +kernel) ?_
  refine zT.eqS (congrArg (fun v : Int32 => ([.int (M 4 2), .int (M 4 1), .int v, .ref 19] : List Value)) h0) ?_
  refine zT.eqS (congrArg (fun v : Int32 => ([.int (M 4 2), .int v, .int (nI a), .ref 19] : List Value)) h1) ?_
  refine zT.cV_sub 19 (o := 0) (idx := 131) (av := [.int (nI a), .int (nI b), .int (M 4 2)]) (rv := (some (.int (g_X4_breakVote (zPl M 19) a b (M 4 2)).1))) (st := []) (S1 := [.int (g_X4_breakVote (zPl M 19) a b (M 4 2)).1]) (c_X4_breakVote (zPl M 19) a b (M 4 2) hc h_a h_b) sub_X_19_Office k_X4_breakVote _ _ rfl rfl rfl (zIn (w := 4072) (by decide +kernel) rfl) (by decide +kernel) (by decide +kernel) rfl (Nat.le_of_ble_eq_true rfl) rfl ?_
  exact zT.iret (ty := Jvm.ClassFile.FieldType.int) (by simp only [g_X5_perform_7]; try rfl) (by simp only [g_X5_perform_7]; try rfl) rfl rfl (by decide +kernel)
noncomputable def g_X5_perform_8 (M : zM) (n : Nat) (sz : Nat) : Int32 × zM := ((g_X4_countVotes (zPl M 19) n sz).1, (zPs M 19 14 (g_X4_countVotes (zPl M 19) n sz).2))
set_option maxRecDepth 100000 in
theorem c_X5_perform_8 (M : zM) (sl : Nat → Option Nat) (ext : List va_E) (n : Nat) (sz : Nat) (hn : M 19 0 = nI n) (h9 : n ≤ 9) (hsz : M 29 0 = nI sz) (h12 : sz ≤ 12) (hc : zHc (zPl M 19)) : zC yy_X5_perform 0 0 [.ref 1, .retAddr 8, .ref 19] (sh_X sl ext) M (some (.int (g_X5_perform_8 M n sz).1)) (sh_X sl ext) (g_X5_perform_8 M n sz).2 := by
  refine zC.of (by decide +kernel) rfl (Nat.le_of_ble_eq_true rfl) ?_
  refine zT.gets (idx := 106) 3 rfl rfl (zIn (w := 4052) (by decide +kernel) rfl) (by decide +kernel) ?_
  refine zT.run [(.aload_n 1, 0, 0, 0)] (pe := 4) (ls' := [some (.ref 1), some (.retAddr 8), some (.ref 19)]) (st' := [.retAddr 8, .retAddr 104]) (M' := M) (by decide +kernel) rfl ?_
  refine zTcXU0 (x := ⟨"SealedBallots$Deed", "ordinal", "()I"⟩) (C := "SealedBallots$Deed") (idx := 111) (av := []) (rv := some (.int (nI 8))) (st := [.retAddr 104]) (S1 := [.int (nI 8), .retAddr 104]) (c_ordinal 8 (by decide)) k_Jx29ce0_ordinal_8abf5 (zDeedO 8 (by decide)) rfl rfl (zIn (w := 4057) (by decide +kernel) rfl) (zIn (w := 4054) (by decide +kernel) rfl) (zIn (w := 4055) (by decide +kernel) rfl) (by decide +kernel) (by decide +kernel) (by decide +kernel) rfl (Nat.le_of_ble_eq_true rfl) rfl ?_
  refine zT.xi 3 (j := 8) (x := 9) rfl rfl rfl (by decide) (by decide +kernel) ?_
  refine zT.tabEq (v := 9) rfl (tgt := 195) (off := 187) (dflt := 250) (lo := 1) (hi := 14) (offs := #[72, 84, 96, 108, 119, 142, 159, 164, 187, 192, 203, 208, 220, 232]) (len := 72) (by decide +kernel) (by decide) (by decide) (by decide) (by decide) ?_
  refine zT.run [(.aload_n 2, 0, 0, 0)] (pe := 196) (ls' := [some (.ref 1), some (.retAddr 8), some (.ref 19)]) (st' := [.ref 19]) (M' := M) (by decide +kernel) rfl ?_
  refine zT.cV_sub 19 (o := 0) (idx := 134) (av := []) (rv := (some (.int (g_X4_countVotes (zPl M 19) n sz).1))) (st := []) (S1 := [.int (g_X4_countVotes (zPl M 19) n sz).1]) (c_X4_countVotes (zPl M 19) n sz hn h9 hsz h12 hc) sub_X_19_Office k_X4_countVotes _ _ rfl rfl rfl (zIn (w := 4089) (by decide +kernel) rfl) (by decide +kernel) (by decide +kernel) rfl (Nat.le_of_ble_eq_true rfl) rfl ?_
  exact zT.iret (ty := Jvm.ClassFile.FieldType.int) (by simp only [g_X5_perform_8]; try rfl) (by simp only [g_X5_perform_8]; try rfl) rfl rfl (by decide +kernel)
noncomputable def g_X5_perform_9 (M : zM) (n : Nat) (sz : Nat) (a : Nat) : Int32 × zM := ((g_X4_askRecount (zPl M 19) n sz a).1, (zPs M 19 14 (g_X4_askRecount (zPl M 19) n sz a).2))
set_option maxRecDepth 100000 in
theorem c_X5_perform_9 (M : zM) (sl : Nat → Option Nat) (ext : List va_E) (n : Nat) (sz : Nat) (a : Nat) (hn : M 19 0 = nI n) (h9 : n ≤ 9) (hsz : M 29 0 = nI sz) (h12 : sz ≤ 12) (h0 : M 4 0 = nI a) (h_a : a < 9) : zC yy_X5_perform 0 0 [.ref 1, .retAddr 9, .ref 19] (sh_X sl ext) M (some (.int (g_X5_perform_9 M n sz a).1)) (sh_X sl ext) (g_X5_perform_9 M n sz a).2 := by
  refine zC.of (by decide +kernel) rfl (Nat.le_of_ble_eq_true rfl) ?_
  refine zT.gets (idx := 106) 3 rfl rfl (zIn (w := 4052) (by decide +kernel) rfl) (by decide +kernel) ?_
  refine zT.run [(.aload_n 1, 0, 0, 0)] (pe := 4) (ls' := [some (.ref 1), some (.retAddr 9), some (.ref 19)]) (st' := [.retAddr 9, .retAddr 104]) (M' := M) (by decide +kernel) rfl ?_
  refine zTcXU0 (x := ⟨"SealedBallots$Deed", "ordinal", "()I"⟩) (C := "SealedBallots$Deed") (idx := 111) (av := []) (rv := some (.int (nI 9))) (st := [.retAddr 104]) (S1 := [.int (nI 9), .retAddr 104]) (c_ordinal 9 (by decide)) k_Jx29ce0_ordinal_8abf5 (zDeedO 9 (by decide)) rfl rfl (zIn (w := 4057) (by decide +kernel) rfl) (zIn (w := 4054) (by decide +kernel) rfl) (zIn (w := 4055) (by decide +kernel) rfl) (by decide +kernel) (by decide +kernel) (by decide +kernel) rfl (Nat.le_of_ble_eq_true rfl) rfl ?_
  refine zT.xi 3 (j := 9) (x := 10) rfl rfl rfl (by decide) (by decide +kernel) ?_
  refine zT.tabEq (v := 10) rfl (tgt := 200) (off := 192) (dflt := 250) (lo := 1) (hi := 14) (offs := #[72, 84, 96, 108, 119, 142, 159, 164, 187, 192, 203, 208, 220, 232]) (len := 72) (by decide +kernel) (by decide) (by decide) (by decide) (by decide) ?_
  refine zT.run [(.aload_n 2, 0, 0, 0), (.aload_n 0, 0, 0, 0), (.getfield 18, 3, 1, 1072), (.iconst 0, 0, 0, 0)] (pe := 206) (ls' := [some (.ref 1), some (.retAddr 9), some (.ref 19)]) (st' := [.int 0, .ref 4, .ref 19]) (M' := M) (by decide +kernel) rfl ?_
  refine zT.iald (n := 3) (k := 0) rfl rfl (by decide) (by decide) (by decide +kernel) ?_
  refine zT.eqS (congrArg (fun v : Int32 => ([.int v, .ref 19] : List Value)) h0) ?_
  refine zT.cV_sub 19 (o := 0) (idx := 137) (av := [.int (nI a)]) (rv := (some (.int (g_X4_askRecount (zPl M 19) n sz a).1))) (st := []) (S1 := [.int (g_X4_askRecount (zPl M 19) n sz a).1]) (c_X4_askRecount (zPl M 19) n sz a hn h9 hsz h12 h_a) sub_X_19_Office k_X4_askRecount _ _ rfl rfl rfl (zIn (w := 4127) (by decide +kernel) rfl) (by decide +kernel) (by decide +kernel) rfl (Nat.le_of_ble_eq_true rfl) rfl ?_
  exact zT.iret (ty := Jvm.ClassFile.FieldType.int) (by simp only [g_X5_perform_9]; try rfl) (by simp only [g_X5_perform_9]; try rfl) rfl rfl (by decide +kernel)
noncomputable def g_X5_perform_10 (M : zM)  : Int32 × zM := ((g_X4_giveBallotUp (zPl M 19)).1, (zPs M 19 14 (g_X4_giveBallotUp (zPl M 19)).2))
set_option maxRecDepth 100000 in
theorem c_X5_perform_10 (M : zM) (sl : Nat → Option Nat) (ext : List va_E)   : zC yy_X5_perform 0 0 [.ref 1, .retAddr 10, .ref 19] (sh_X sl ext) M (some (.int (g_X5_perform_10 M).1)) (sh_X sl ext) (g_X5_perform_10 M).2 := by
  refine zC.of (by decide +kernel) rfl (Nat.le_of_ble_eq_true rfl) ?_
  refine zT.gets (idx := 106) 3 rfl rfl (zIn (w := 4052) (by decide +kernel) rfl) (by decide +kernel) ?_
  refine zT.run [(.aload_n 1, 0, 0, 0)] (pe := 4) (ls' := [some (.ref 1), some (.retAddr 10), some (.ref 19)]) (st' := [.retAddr 10, .retAddr 104]) (M' := M) (by decide +kernel) rfl ?_
  refine zTcXU0 (x := ⟨"SealedBallots$Deed", "ordinal", "()I"⟩) (C := "SealedBallots$Deed") (idx := 111) (av := []) (rv := some (.int (nI 10))) (st := [.retAddr 104]) (S1 := [.int (nI 10), .retAddr 104]) (c_ordinal 10 (by decide)) k_Jx29ce0_ordinal_8abf5 (zDeedO 10 (by decide)) rfl rfl (zIn (w := 4057) (by decide +kernel) rfl) (zIn (w := 4054) (by decide +kernel) rfl) (zIn (w := 4055) (by decide +kernel) rfl) (by decide +kernel) (by decide +kernel) (by decide +kernel) rfl (Nat.le_of_ble_eq_true rfl) rfl ?_
  refine zT.xi 3 (j := 10) (x := 11) rfl rfl rfl (by decide) (by decide +kernel) ?_
  refine zT.tabEq (v := 11) rfl (tgt := 211) (off := 203) (dflt := 250) (lo := 1) (hi := 14) (offs := #[72, 84, 96, 108, 119, 142, 159, 164, 187, 192, 203, 208, 220, 232]) (len := 72) (by decide +kernel) (by decide) (by decide) (by decide) (by decide) ?_
  refine zT.run [(.aload_n 2, 0, 0, 0)] (pe := 212) (ls' := [some (.ref 1), some (.retAddr 10), some (.ref 19)]) (st' := [.ref 19]) (M' := M) (by decide +kernel) rfl ?_
  refine zT.cV_sub 19 (o := 0) (idx := 140) (av := []) (rv := (some (.int (g_X4_giveBallotUp (zPl M 19)).1))) (st := []) (S1 := [.int (g_X4_giveBallotUp (zPl M 19)).1]) (c_X4_giveBallotUp (zPl M 19)) sub_X_19_Office k_X4_giveBallotUp _ _ rfl rfl rfl (zIn (w := 4147) (by decide +kernel) rfl) (by decide +kernel) (by decide +kernel) rfl (Nat.le_of_ble_eq_true rfl) rfl ?_
  exact zT.iret (ty := Jvm.ClassFile.FieldType.int) (by simp only [g_X5_perform_10]; try rfl) (by simp only [g_X5_perform_10]; try rfl) rfl rfl (by decide +kernel)
noncomputable def g_X5_perform_11 (M : zM) (n : Nat) (a : Nat) : Int32 × zM := ((g_X4_changeUp (zPl M 19) n a 0).1, (zPs M 19 14 (g_X4_changeUp (zPl M 19) n a 0).2))
set_option maxRecDepth 100000 in
theorem c_X5_perform_11 (M : zM) (sl : Nat → Option Nat) (ext : List va_E) (n : Nat) (a : Nat) (hn : M 19 0 = nI n) (h9 : n ≤ 9) (h0 : M 4 0 = nI a) (h_a : a < 9) : zC yy_X5_perform 0 0 [.ref 1, .retAddr 11, .ref 19] (sh_X sl ext) M (some (.int (g_X5_perform_11 M n a).1)) (sh_X sl ext) (g_X5_perform_11 M n a).2 := by
  refine zC.of (by decide +kernel) rfl (Nat.le_of_ble_eq_true rfl) ?_
  refine zT.gets (idx := 106) 3 rfl rfl (zIn (w := 4052) (by decide +kernel) rfl) (by decide +kernel) ?_
  refine zT.run [(.aload_n 1, 0, 0, 0)] (pe := 4) (ls' := [some (.ref 1), some (.retAddr 11), some (.ref 19)]) (st' := [.retAddr 11, .retAddr 104]) (M' := M) (by decide +kernel) rfl ?_
  refine zTcXU0 (x := ⟨"SealedBallots$Deed", "ordinal", "()I"⟩) (C := "SealedBallots$Deed") (idx := 111) (av := []) (rv := some (.int (nI 11))) (st := [.retAddr 104]) (S1 := [.int (nI 11), .retAddr 104]) (c_ordinal 11 (by decide)) k_Jx29ce0_ordinal_8abf5 (zDeedO 11 (by decide)) rfl rfl (zIn (w := 4057) (by decide +kernel) rfl) (zIn (w := 4054) (by decide +kernel) rfl) (zIn (w := 4055) (by decide +kernel) rfl) (by decide +kernel) (by decide +kernel) (by decide +kernel) rfl (Nat.le_of_ble_eq_true rfl) rfl ?_
  refine zT.xi 3 (j := 11) (x := 12) rfl rfl rfl (by decide) (by decide +kernel) ?_
  refine zT.tabEq (v := 12) rfl (tgt := 216) (off := 208) (dflt := 250) (lo := 1) (hi := 14) (offs := #[72, 84, 96, 108, 119, 142, 159, 164, 187, 192, 203, 208, 220, 232]) (len := 72) (by decide +kernel) (by decide) (by decide) (by decide) (by decide) ?_
  refine zT.run [(.aload_n 2, 0, 0, 0), (.aload_n 0, 0, 0, 0), (.getfield 18, 3, 1, 1072), (.iconst 0, 0, 0, 0)] (pe := 222) (ls' := [some (.ref 1), some (.retAddr 11), some (.ref 19)]) (st' := [.int 0, .ref 4, .ref 19]) (M' := M) (by decide +kernel) rfl ?_
  refine zT.iald (n := 3) (k := 0) rfl rfl (by decide) (by decide) (by decide +kernel) ?_
  refine zT.run [(.iconst 0, 0, 0, 0)] (pe := 224) (ls' := [some (.ref 1), some (.retAddr 11), some (.ref 19)]) (st' := [.int 0, .int (M 4 0), .ref 19]) (M' := M) (by decide +kernel) rfl ?_
  refine zT.eqS (congrArg (fun v : Int32 => ([.int 0, .int v, .ref 19] : List Value)) h0) ?_
  refine zT.cV_sub 19 (o := 0) (idx := 143) (av := [.int (nI a), .int 0]) (rv := (some (.int (g_X4_changeUp (zPl M 19) n a 0).1))) (st := []) (S1 := [.int (g_X4_changeUp (zPl M 19) n a 0).1]) (c_X4_changeUp (zPl M 19) n a 0 hn h9 h_a) sub_X_19_Office k_X4_changeUp _ _ rfl rfl rfl (zIn (w := 4151) (by decide +kernel) rfl) (by decide +kernel) (by decide +kernel) rfl (Nat.le_of_ble_eq_true rfl) rfl ?_
  exact zT.iret (ty := Jvm.ClassFile.FieldType.int) (by simp only [g_X5_perform_11]; try rfl) (by simp only [g_X5_perform_11]; try rfl) rfl rfl (by decide +kernel)
noncomputable def g_X5_perform_12 (M : zM) (n : Nat) (a : Nat) : Int32 × zM := ((g_X4_changeUp (zPl M 19) n a 1).1, (zPs M 19 14 (g_X4_changeUp (zPl M 19) n a 1).2))
set_option maxRecDepth 100000 in
theorem c_X5_perform_12 (M : zM) (sl : Nat → Option Nat) (ext : List va_E) (n : Nat) (a : Nat) (hn : M 19 0 = nI n) (h9 : n ≤ 9) (h0 : M 4 0 = nI a) (h_a : a < 9) : zC yy_X5_perform 0 0 [.ref 1, .retAddr 12, .ref 19] (sh_X sl ext) M (some (.int (g_X5_perform_12 M n a).1)) (sh_X sl ext) (g_X5_perform_12 M n a).2 := by
  refine zC.of (by decide +kernel) rfl (Nat.le_of_ble_eq_true rfl) ?_
  refine zT.gets (idx := 106) 3 rfl rfl (zIn (w := 4052) (by decide +kernel) rfl) (by decide +kernel) ?_
  refine zT.run [(.aload_n 1, 0, 0, 0)] (pe := 4) (ls' := [some (.ref 1), some (.retAddr 12), some (.ref 19)]) (st' := [.retAddr 12, .retAddr 104]) (M' := M) (by decide +kernel) rfl ?_
  refine zTcXU0 (x := ⟨"SealedBallots$Deed", "ordinal", "()I"⟩) (C := "SealedBallots$Deed") (idx := 111) (av := []) (rv := some (.int (nI 12))) (st := [.retAddr 104]) (S1 := [.int (nI 12), .retAddr 104]) (c_ordinal 12 (by decide)) k_Jx29ce0_ordinal_8abf5 (zDeedO 12 (by decide)) rfl rfl (zIn (w := 4057) (by decide +kernel) rfl) (zIn (w := 4054) (by decide +kernel) rfl) (zIn (w := 4055) (by decide +kernel) rfl) (by decide +kernel) (by decide +kernel) (by decide +kernel) rfl (Nat.le_of_ble_eq_true rfl) rfl ?_
  refine zT.xi 3 (j := 12) (x := 13) rfl rfl rfl (by decide) (by decide +kernel) ?_
  refine zT.tabEq (v := 13) rfl (tgt := 228) (off := 220) (dflt := 250) (lo := 1) (hi := 14) (offs := #[72, 84, 96, 108, 119, 142, 159, 164, 187, 192, 203, 208, 220, 232]) (len := 72) (by decide +kernel) (by decide) (by decide) (by decide) (by decide) ?_
  refine zT.run [(.aload_n 2, 0, 0, 0), (.aload_n 0, 0, 0, 0), (.getfield 18, 3, 1, 1072), (.iconst 0, 0, 0, 0)] (pe := 234) (ls' := [some (.ref 1), some (.retAddr 12), some (.ref 19)]) (st' := [.int 0, .ref 4, .ref 19]) (M' := M) (by decide +kernel) rfl ?_
  refine zT.iald (n := 3) (k := 0) rfl rfl (by decide) (by decide) (by decide +kernel) ?_
  refine zT.run [(.iconst 1, 0, 0, 0)] (pe := 236) (ls' := [some (.ref 1), some (.retAddr 12), some (.ref 19)]) (st' := [.int 1, .int (M 4 0), .ref 19]) (M' := M) (by decide +kernel) rfl ?_
  refine zT.eqS (congrArg (fun v : Int32 => ([.int 1, .int v, .ref 19] : List Value)) h0) ?_
  refine zT.cV_sub 19 (o := 0) (idx := 143) (av := [.int (nI a), .int 1]) (rv := (some (.int (g_X4_changeUp (zPl M 19) n a 1).1))) (st := []) (S1 := [.int (g_X4_changeUp (zPl M 19) n a 1).1]) (c_X4_changeUp (zPl M 19) n a 1 hn h9 h_a) sub_X_19_Office k_X4_changeUp _ _ rfl rfl rfl (zIn (w := 4151) (by decide +kernel) rfl) (by decide +kernel) (by decide +kernel) rfl (Nat.le_of_ble_eq_true rfl) rfl ?_
  exact zT.iret (ty := Jvm.ClassFile.FieldType.int) (by simp only [g_X5_perform_12]; try rfl) (by simp only [g_X5_perform_12]; try rfl) rfl rfl (by decide +kernel)
noncomputable def g_X5_perform_13 (M : zM) (a : Nat) (b : Nat) : Int32 × zM := ((g_X4_changeLink (zPl M 19) a b 0).1, (zPs M 19 14 (g_X4_changeLink (zPl M 19) a b 0).2))
set_option maxRecDepth 100000 in
theorem c_X5_perform_13 (M : zM) (sl : Nat → Option Nat) (ext : List va_E) (a : Nat) (b : Nat) (h0 : M 4 0 = nI a) (h_a : a < 9) (h1 : M 4 1 = nI b) (h_b : b < 9) : zC yy_X5_perform 0 0 [.ref 1, .retAddr 13, .ref 19] (sh_X sl ext) M (some (.int (g_X5_perform_13 M a b).1)) (sh_X sl ext) (g_X5_perform_13 M a b).2 := by
  refine zC.of (by decide +kernel) rfl (Nat.le_of_ble_eq_true rfl) ?_
  refine zT.gets (idx := 106) 3 rfl rfl (zIn (w := 4052) (by decide +kernel) rfl) (by decide +kernel) ?_
  refine zT.run [(.aload_n 1, 0, 0, 0)] (pe := 4) (ls' := [some (.ref 1), some (.retAddr 13), some (.ref 19)]) (st' := [.retAddr 13, .retAddr 104]) (M' := M) (by decide +kernel) rfl ?_
  refine zTcXU0 (x := ⟨"SealedBallots$Deed", "ordinal", "()I"⟩) (C := "SealedBallots$Deed") (idx := 111) (av := []) (rv := some (.int (nI 13))) (st := [.retAddr 104]) (S1 := [.int (nI 13), .retAddr 104]) (c_ordinal 13 (by decide)) k_Jx29ce0_ordinal_8abf5 (zDeedO 13 (by decide)) rfl rfl (zIn (w := 4057) (by decide +kernel) rfl) (zIn (w := 4054) (by decide +kernel) rfl) (zIn (w := 4055) (by decide +kernel) rfl) (by decide +kernel) (by decide +kernel) (by decide +kernel) rfl (Nat.le_of_ble_eq_true rfl) rfl ?_
  refine zT.xi 3 (j := 13) (x := 14) rfl rfl rfl (by decide) (by decide +kernel) ?_
  refine zT.tabEq (v := 14) rfl (tgt := 240) (off := 232) (dflt := 250) (lo := 1) (hi := 14) (offs := #[72, 84, 96, 108, 119, 142, 159, 164, 187, 192, 203, 208, 220, 232]) (len := 72) (by decide +kernel) (by decide) (by decide) (by decide) (by decide) ?_
  refine zT.run [(.aload_n 2, 0, 0, 0), (.aload_n 0, 0, 0, 0), (.getfield 18, 3, 1, 1072), (.iconst 0, 0, 0, 0)] (pe := 246) (ls' := [some (.ref 1), some (.retAddr 13), some (.ref 19)]) (st' := [.int 0, .ref 4, .ref 19]) (M' := M) (by decide +kernel) rfl ?_
  refine zT.iald (n := 3) (k := 0) rfl rfl (by decide) (by decide) (by decide +kernel) ?_
  refine zT.run [(.aload_n 0, 0, 0, 0), (.getfield 18, 3, 1, 1072), (.iconst 1, 0, 0, 0)] (pe := 252) (ls' := [some (.ref 1), some (.retAddr 13), some (.ref 19)]) (st' := [.int 1, .ref 4, .int (M 4 0), .ref 19]) (M' := M) (by decide +kernel) rfl ?_
  refine zT.iald (n := 3) (k := 1) rfl rfl (by decide) (by decide) (by decide +kernel) ?_
  refine zT.run [(.iconst 0, 0, 0, 0)] (pe := 254) (ls' := [some (.ref 1), some (.retAddr 13), some (.ref 19)]) (st' := [.int 0, .int (M 4 1), .int (M 4 0), .ref 19]) (M' := M) (by decide +kernel) rfl ?_
  refine zT.eqS (congrArg (fun v : Int32 => ([.int 0, .int (M 4 1), .int v, .ref 19] : List Value)) h0) ?_
  refine zT.eqS (congrArg (fun v : Int32 => ([.int 0, .int v, .int (nI a), .ref 19] : List Value)) h1) ?_
  refine zT.cV_sub 19 (o := 0) (idx := 147) (av := [.int (nI a), .int (nI b), .int 0]) (rv := (some (.int (g_X4_changeLink (zPl M 19) a b 0).1))) (st := []) (S1 := [.int (g_X4_changeLink (zPl M 19) a b 0).1]) (c_X4_changeLink (zPl M 19) a b 0 h_a h_b) sub_X_19_Office k_X4_changeLink _ _ rfl rfl rfl (zIn (w := 4155) (by decide +kernel) rfl) (by decide +kernel) (by decide +kernel) rfl (Nat.le_of_ble_eq_true rfl) rfl ?_
  exact zT.iret (ty := Jvm.ClassFile.FieldType.int) (by simp only [g_X5_perform_13]; try rfl) (by simp only [g_X5_perform_13]; try rfl) rfl rfl (by decide +kernel)
noncomputable def g_X5_perform_14 (M : zM) (a : Nat) (b : Nat) : Int32 × zM := ((g_X4_changeLink (zPl M 19) a b 1).1, (zPs M 19 14 (g_X4_changeLink (zPl M 19) a b 1).2))
set_option maxRecDepth 100000 in
theorem c_X5_perform_14 (M : zM) (sl : Nat → Option Nat) (ext : List va_E) (a : Nat) (b : Nat) (h0 : M 4 0 = nI a) (h_a : a < 9) (h1 : M 4 1 = nI b) (h_b : b < 9) : zC yy_X5_perform 0 0 [.ref 1, .retAddr 14, .ref 19] (sh_X sl ext) M (some (.int (g_X5_perform_14 M a b).1)) (sh_X sl ext) (g_X5_perform_14 M a b).2 := by
  refine zC.of (by decide +kernel) rfl (Nat.le_of_ble_eq_true rfl) ?_
  refine zT.gets (idx := 106) 3 rfl rfl (zIn (w := 4052) (by decide +kernel) rfl) (by decide +kernel) ?_
  refine zT.run [(.aload_n 1, 0, 0, 0)] (pe := 4) (ls' := [some (.ref 1), some (.retAddr 14), some (.ref 19)]) (st' := [.retAddr 14, .retAddr 104]) (M' := M) (by decide +kernel) rfl ?_
  refine zTcXU0 (x := ⟨"SealedBallots$Deed", "ordinal", "()I"⟩) (C := "SealedBallots$Deed") (idx := 111) (av := []) (rv := some (.int (nI 14))) (st := [.retAddr 104]) (S1 := [.int (nI 14), .retAddr 104]) (c_ordinal 14 (by decide)) k_Jx29ce0_ordinal_8abf5 (zDeedO 14 (by decide)) rfl rfl (zIn (w := 4057) (by decide +kernel) rfl) (zIn (w := 4054) (by decide +kernel) rfl) (zIn (w := 4055) (by decide +kernel) rfl) (by decide +kernel) (by decide +kernel) (by decide +kernel) rfl (Nat.le_of_ble_eq_true rfl) rfl ?_
  refine zT.xi 3 (j := 14) (x := 0) rfl rfl rfl (by decide) (by decide +kernel) ?_
  refine zT.tabOut (tgt := 258) (dflt := 250) (lo := 1) (hi := 14) (offs := #[72, 84, 96, 108, 119, 142, 159, 164, 187, 192, 203, 208, 220, 232]) (len := 72) (by decide +kernel) (by decide) (by decide) ?_
  refine zT.run [(.aload_n 2, 0, 0, 0), (.aload_n 0, 0, 0, 0), (.getfield 18, 3, 1, 1072), (.iconst 0, 0, 0, 0)] (pe := 264) (ls' := [some (.ref 1), some (.retAddr 14), some (.ref 19)]) (st' := [.int 0, .ref 4, .ref 19]) (M' := M) (by decide +kernel) rfl ?_
  refine zT.iald (n := 3) (k := 0) rfl rfl (by decide) (by decide) (by decide +kernel) ?_
  refine zT.run [(.aload_n 0, 0, 0, 0), (.getfield 18, 3, 1, 1072), (.iconst 1, 0, 0, 0)] (pe := 270) (ls' := [some (.ref 1), some (.retAddr 14), some (.ref 19)]) (st' := [.int 1, .ref 4, .int (M 4 0), .ref 19]) (M' := M) (by decide +kernel) rfl ?_
  refine zT.iald (n := 3) (k := 1) rfl rfl (by decide) (by decide) (by decide +kernel) ?_
  refine zT.run [(.iconst 1, 0, 0, 0)] (pe := 272) (ls' := [some (.ref 1), some (.retAddr 14), some (.ref 19)]) (st' := [.int 1, .int (M 4 1), .int (M 4 0), .ref 19]) (M' := M) (by decide +kernel) rfl ?_
  refine zT.eqS (congrArg (fun v : Int32 => ([.int 1, .int (M 4 1), .int v, .ref 19] : List Value)) h0) ?_
  refine zT.eqS (congrArg (fun v : Int32 => ([.int 1, .int v, .int (nI a), .ref 19] : List Value)) h1) ?_
  refine zT.cV_sub 19 (o := 0) (idx := 147) (av := [.int (nI a), .int (nI b), .int 1]) (rv := (some (.int (g_X4_changeLink (zPl M 19) a b 1).1))) (st := []) (S1 := [.int (g_X4_changeLink (zPl M 19) a b 1).1]) (c_X4_changeLink (zPl M 19) a b 1 h_a h_b) sub_X_19_Office k_X4_changeLink _ _ rfl rfl rfl (zIn (w := 4155) (by decide +kernel) rfl) (by decide +kernel) (by decide +kernel) rfl (Nat.le_of_ble_eq_true rfl) rfl ?_
  exact zT.iret (ty := Jvm.ClassFile.FieldType.int) (by simp only [g_X5_perform_14]; try rfl) (by simp only [g_X5_perform_14]; try rfl) rfl rfl (by decide +kernel)
