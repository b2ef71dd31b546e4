theorem sub_Office_7_Ballot : zSub sh_Office 7 sh_Ballot := zSub.of rfl
noncomputable abbrev yy_X6_makeRoom : zY := (yX6_makeRoom, cX6_makeRoom, 1, none, 1, 60)
noncomputable def g_X6_makeRoom (M : zM)  : zM := (if 12 ≤ (M 0 0) then (zUa M 1 (va_cpy (M 1) (M 1) 8 0 88)) else (zU M 0 0 ((M 0 0) + 1)))
set_option maxRecDepth 100000 in
theorem c_X6_makeRoom (M : zM)   : zC yy_X6_makeRoom 0 0 [.ref 0] sh_Outcomes M none sh_Outcomes (g_X6_makeRoom M) := by
  refine zC.of (by decide +kernel) rfl (Nat.le_of_ble_eq_true rfl) ?_
  refine zT.run [(.aload_n 0, 0, 0, 0), (.getfield 15, 4, 0, 1138), (.bipush 12, 0, 0, 0)] (pe := 6) (ls' := [some (.ref 0)]) (st' := [.int 12, .int (M 0 0)]) (M' := M) (by decide +kernel) rfl ?_
  refine zT.cge (tgt := 22) (off := 16) (by decide +kernel) (by decide) (fun (c1 : 12 ≤ (M 0 0)) => ?_) (fun (c1 : ¬ 12 ≤ (M 0 0)) => ?_)
  · skip
    refine zT.run [(.aload_n 0, 0, 0, 0), (.getfield 9, 4, 1, 1140), (.bipush 8, 0, 0, 0), (.aload_n 0, 0, 0, 0), (.getfield 9, 4, 1, 1140), (.iconst 0, 0, 0, 0), (.aload_n 0, 0, 0, 0), (.getfield 9, 4, 1, 1140), (.arraylength, 0, 0, 0), (.bipush 8, 0, 0, 0), (.isub, 0, 0, 0)] (pe := 41) (ls' := [some (.ref 0)]) (st' := [.int (96 - 8), .int 0, .ref 1, .int 8, .ref 1]) (M' := M) (by decide +kernel) rfl ?_
    refine zT.copyi (idx := 19) (a := 8) (b := 0) (n := 88) rfl rfl rfl rfl rfl (by decide) (by decide) (by decide) (by decide) ⟨⟨⟨⟨zIn (w := 4122) (by decide +kernel) rfl, zLa.1⟩, zLa.2.1⟩, zLa.2.2⟩, by decide +kernel, by decide +kernel⟩ (Nat.le_of_ble_eq_true rfl) (by decide +kernel) ?_
    exact zT.vret (by simp only [g_X6_makeRoom, if_pos c1]; try rfl) rfl (by decide +kernel)
  · skip
    refine zT.run [(.aload_n 0, 0, 0, 0), (.dup, 0, 0, 0), (.getfield 15, 4, 0, 1138), (.iconst 1, 0, 0, 0), (.iadd, 0, 0, 0), (.putfield 15, 4, 0, 1138), (.goto 25, 0, 0, 0)] (pe := 44) (ls' := [some (.ref 0)]) (st' := []) (M' := (zU M 0 0 ((M 0 0) + 1))) (by decide +kernel) rfl ?_
    exact zT.vret (by simp only [g_X6_makeRoom, if_neg c1]; try rfl) rfl (by decide +kernel)
theorem fr_X6_makeRoom (M : zM)  (o : Nat) (ho : o ≠ 0 ∧ o ≠ 1) : (g_X6_makeRoom M) o = M o := by
  simp only [g_X6_makeRoom]
  (repeat' split) <;> simp only [zU_ne ho.1, zU_ne ho.2, zUa_ne ho.1, zUa_ne ho.2]
theorem k_X6_makeRoom : zCal yy_X6_makeRoom 0 := ⟨⟨⟨⟨zIn (w := 4121) (by decide +kernel) rfl, zIn (w := 1006) (by decide +kernel) rfl⟩, by decide +kernel⟩, by decide +kernel⟩, ⟨zIn (w := 4119) (by decide +kernel) rfl, zIn (w := 4120) (by decide +kernel) rfl⟩⟩
noncomputable abbrev yy_X6_write : zY := (yX6_write, cX6_write, 3, none, 0, 0)
noncomputable def g_X6_write (M : zM) (sz : Nat) (w : Nat) (x : Int32) : zM := (if (M 0 0) ≤ 0 then M else (zU M 1 ((sz - 1) * 8 + w) x))
set_option maxRecDepth 100000 in
theorem c_X6_write (M : zM) (sz : Nat) (w : Nat) (x : Int32) (hsz : M 0 0 = nI sz) (h12 : sz ≤ 12) (h_w : w < 8) : zC yy_X6_write 0 0 [.ref 0, .int (nI w), .int x] sh_Outcomes M none sh_Outcomes (g_X6_write M sz w x) := by
  refine zC.of (by decide +kernel) rfl (Nat.le_of_ble_eq_true rfl) ?_
  refine zT.run [(.aload_n 0, 0, 0, 0), (.getfield 15, 4, 0, 1138)] (pe := 4) (ls' := [some (.ref 0), some (.int (nI w)), some (.int x)]) (st' := [.int (M 0 0)]) (M' := M) (by decide +kernel) rfl ?_
  refine zT.zle (tgt := 24) (off := 20) (by decide +kernel) (by decide) (fun (c1 : (M 0 0) ≤ 0) => ?_) (fun (c1 : ¬ (M 0 0) ≤ 0) => ?_)
  · skip
    exact zT.vret (by simp only [g_X6_write, if_pos c1]; try rfl) rfl (by decide +kernel)
  · skip
    refine zT.run [(.aload_n 0, 0, 0, 0), (.getfield 9, 4, 1, 1140), (.aload_n 0, 0, 0, 0), (.getfield 15, 4, 0, 1138), (.iconst 1, 0, 0, 0), (.isub, 0, 0, 0), (.bipush 8, 0, 0, 0), (.imul, 0, 0, 0), (.iload_n 1, 0, 0, 0), (.iadd, 0, 0, 0), (.iload_n 2, 0, 0, 0)] (pe := 23) (ls' := [some (.ref 0), some (.int (nI w)), some (.int x)]) (st' := [.int x, .int ((((M 0 0) - 1) * 8) + (nI w)), .ref 1]) (M' := M) (by decide +kernel) rfl ?_
    refine zT.iast (n := 96) (k := ((sz - 1) * 8 + w)) rfl (zIx8 hsz (zPos hsz c1)) (by have := zPos hsz c1; omega) (by decide) (by decide +kernel) ?_
    exact zT.vret (by simp only [g_X6_write, if_neg c1]; try rfl) rfl (by decide +kernel)
theorem fr_X6_write (M : zM) (sz : Nat) (w : Nat) (x : Int32) (o : Nat) (ho : o ≠ 1) : (g_X6_write M sz w x) o = M o := by
  simp only [g_X6_write]
  (repeat' split) <;> simp only [zU_ne ho, zUa_ne ho]
theorem k_X6_write : zCal yy_X6_write 2 := ⟨⟨⟨⟨zIn (w := 4126) (by decide +kernel) rfl, zIn (w := 1006) (by decide +kernel) rfl⟩, by decide +kernel⟩, by decide +kernel⟩, ⟨zIn (w := 4124) (by decide +kernel) rfl, zIn (w := 4125) (by decide +kernel) rfl⟩⟩
noncomputable abbrev yy_X6_dropLatest : zY := (yX6_dropLatest, cX6_dropLatest, 1, none, 0, 0)
noncomputable def g_X6_dropLatest (M : zM)  : zM := (if (M 0 0) ≤ 0 then M else (zU M 0 0 ((M 0 0) - 1)))
set_option maxRecDepth 100000 in
theorem c_X6_dropLatest (M : zM)   : zC yy_X6_dropLatest 0 0 [.ref 0] sh_Outcomes M none sh_Outcomes (g_X6_dropLatest M) := by
  refine zC.of (by decide +kernel) rfl (Nat.le_of_ble_eq_true rfl) ?_
  refine zT.run [(.aload_n 0, 0, 0, 0), (.getfield 15, 4, 0, 1138)] (pe := 4) (ls' := [some (.ref 0)]) (st' := [.int (M 0 0)]) (M' := M) (by decide +kernel) rfl ?_
  refine zT.zle (tgt := 17) (off := 13) (by decide +kernel) (by decide) (fun (c1 : (M 0 0) ≤ 0) => ?_) (fun (c1 : ¬ (M 0 0) ≤ 0) => ?_)
  · skip
    exact zT.vret (by simp only [g_X6_dropLatest, if_pos c1]; try rfl) rfl (by decide +kernel)
  · skip
    refine zT.run [(.aload_n 0, 0, 0, 0), (.dup, 0, 0, 0), (.getfield 15, 4, 0, 1138), (.iconst 1, 0, 0, 0), (.isub, 0, 0, 0), (.putfield 15, 4, 0, 1138)] (pe := 17) (ls' := [some (.ref 0)]) (st' := []) (M' := (zU M 0 0 ((M 0 0) - 1))) (by decide +kernel) rfl ?_
    exact zT.vret (by simp only [g_X6_dropLatest, if_neg c1]; try rfl) rfl (by decide +kernel)
theorem fr_X6_dropLatest (M : zM)  (o : Nat) (ho : o ≠ 0) : (g_X6_dropLatest M) o = M o := by
  simp only [g_X6_dropLatest]
  (repeat' split) <;> simp only [zU_ne ho, zUa_ne ho]
theorem k_X6_dropLatest : zCal yy_X6_dropLatest 0 := ⟨⟨⟨⟨zIn (w := 4138) (by decide +kernel) rfl, zIn (w := 1006) (by decide +kernel) rfl⟩, by decide +kernel⟩, by decide +kernel⟩, ⟨zIn (w := 4136) (by decide +kernel) rfl, zIn (w := 4137) (by decide +kernel) rfl⟩⟩
noncomputable abbrev yy_X6_tell : zY := (yX6_tell, cX6_tell, 3, (some Jvm.ClassFile.FieldType.int), 0, 0)
noncomputable def g_X6_tell (M : zM) (sz : Nat) (bk : Int32) (w : Nat) : Int32 := (if bk < 0 then (-1) else (if bk < (M 0 0) then (M 1 ((sz - 1 - bk.toNatClampNeg) * 8 + w)) else (-1)))
set_option maxRecDepth 100000 in
theorem c_X6_tell (M : zM) (sz : Nat) (bk : Int32) (w : Nat) (hsz : M 0 0 = nI sz) (h12 : sz ≤ 12) (h_w : w < 8) : zC yy_X6_tell 0 0 [.ref 0, .int bk, .int (nI w)] sh_Outcomes M (some (.int (g_X6_tell M sz bk w))) sh_Outcomes M := by
  refine zC.of (by decide +kernel) rfl (Nat.le_of_ble_eq_true rfl) ?_
  refine zT.run [(.iload_n 1, 0, 0, 0)] (pe := 1) (ls' := [some (.ref 0), some (.int bk), some (.int (nI w))]) (st' := [.int bk]) (M' := M) (by decide +kernel) rfl ?_
  refine zT.zlt (tgt := 12) (off := 11) (by decide +kernel) (by decide) (fun (c1 : bk < 0) => ?_) (fun (c1 : ¬ bk < 0) => ?_)
  · skip
    refine zT.run [(.iconst (-1), 0, 0, 0), (.goto 21, 0, 0, 0)] (pe := 34) (ls' := [some (.ref 0), some (.int bk), some (.int (nI w))]) (st' := [.int (-1)]) (M' := M) (by decide +kernel) rfl ?_
    exact zT.iret (ty := Jvm.ClassFile.FieldType.int) (by simp only [g_X6_tell, if_pos c1]; try rfl) rfl rfl rfl (by decide +kernel)
  · skip
    refine zT.run [(.iload_n 1, 0, 0, 0), (.aload_n 0, 0, 0, 0), (.getfield 15, 4, 0, 1138)] (pe := 9) (ls' := [some (.ref 0), some (.int bk), some (.int (nI w))]) (st' := [.int (M 0 0), .int bk]) (M' := M) (by decide +kernel) rfl ?_
    refine zT.clt (tgt := 16) (off := 7) (by decide +kernel) (by decide) (fun (c2 : bk < (M 0 0)) => ?_) (fun (c2 : ¬ bk < (M 0 0)) => ?_)
    · skip
      refine zT.run [(.aload_n 0, 0, 0, 0), (.getfield 9, 4, 1, 1140), (.aload_n 0, 0, 0, 0), (.getfield 15, 4, 0, 1138), (.iconst 1, 0, 0, 0), (.isub, 0, 0, 0), (.iload_n 1, 0, 0, 0), (.isub, 0, 0, 0), (.bipush 8, 0, 0, 0), (.imul, 0, 0, 0), (.iload_n 2, 0, 0, 0), (.iadd, 0, 0, 0)] (pe := 33) (ls' := [some (.ref 0), some (.int bk), some (.int (nI w))]) (st' := [.int (((((M 0 0) - 1) - bk) * 8) + (nI w)), .ref 1]) (M' := M) (by decide +kernel) rfl ?_
      refine zT.iald (n := 96) (k := ((sz - 1 - bk.toNatClampNeg) * 8 + w)) rfl (zIx8b hsz (by omega) c1 c2) (by have := (zBk hsz (by omega) c1 c2).2; omega) (by decide) (by decide +kernel) ?_
      exact zT.iret (ty := Jvm.ClassFile.FieldType.int) (by simp only [g_X6_tell, if_neg c1, if_pos c2]; try rfl) rfl rfl rfl (by decide +kernel)
    · skip
      refine zT.run [(.iconst (-1), 0, 0, 0), (.goto 21, 0, 0, 0)] (pe := 34) (ls' := [some (.ref 0), some (.int bk), some (.int (nI w))]) (st' := [.int (-1)]) (M' := M) (by decide +kernel) rfl ?_
      exact zT.iret (ty := Jvm.ClassFile.FieldType.int) (by simp only [g_X6_tell, if_neg c1, if_neg c2]; try rfl) rfl rfl rfl (by decide +kernel)
theorem k_X6_tell : zCal yy_X6_tell 2 := ⟨⟨⟨⟨zIn (w := 4134) (by decide +kernel) rfl, zIn (w := 1006) (by decide +kernel) rfl⟩, by decide +kernel⟩, by decide +kernel⟩, ⟨zIn (w := 4132) (by decide +kernel) rfl, zIn (w := 4133) (by decide +kernel) rfl⟩⟩
noncomputable abbrev yy_X6_outOfOrder : zY := (yX6_outOfOrder, cX6_outOfOrder, 3, (some Jvm.ClassFile.FieldType.int), 1, 22)
noncomputable def l_X6_outOfOrder_4 (M : zM) (sz : Nat) (i1 : Nat) (s1 : Int32) : Int32 := (s1 + (if (g_X6_tell M sz (nI (i1 + 1)) 0) < (g_X6_tell M sz ((nI (i1 + 1)) - 1) 0) then 0 else 1))
noncomputable def g_X6_outOfOrder (M : zM) (sz : Nat) : Int32 := (zIt (l_X6_outOfOrder_4 M sz) (sz - 1) 0)
set_option maxRecDepth 100000 in
theorem c_X6_outOfOrder (M : zM) (sz : Nat) (hsz : M 0 0 = nI sz) (h12 : sz ≤ 12)  : zC yy_X6_outOfOrder 0 0 [.ref 0] sh_Outcomes M (some (.int (g_X6_outOfOrder M sz))) sh_Outcomes M := by
  refine zC.of (by decide +kernel) rfl (Nat.le_of_ble_eq_true rfl) ?_
  refine zT.run [(.iconst 0, 0, 0, 0), (.istore_n 1, 0, 0, 0), (.iconst 1, 0, 0, 0), (.istore_n 2, 0, 0, 0)] (pe := 4) (ls' := [some (.ref 0), some (.int 0), some (.int 1)]) (st' := []) (M' := M) (by decide +kernel) rfl ?_
  refine zT.loop (l_X6_outOfOrder_4 M sz) (fun (i : Nat) (s : Int32) => (4, [some (.ref 0), some (.int s), some (.int (nI (i + 1)))], [], sh_Outcomes, M)) (sz - 1) 0 (fun i1 hi1 k1 => ?_) ?_
  · skip
    generalize hs1 : zIt (l_X6_outOfOrder_4 M sz) i1 0 = s1 at k1 ⊢
    show zT _ _ _ _ (4, [some (.ref 0), some (.int s1), some (.int (nI (i1 + 1)))], [], sh_Outcomes, M)
    refine zT.run [(.iload_n 2, 0, 0, 0), (.aload_n 0, 0, 0, 0), (.getfield 15, 4, 0, 1138)] (pe := 9) (ls' := [some (.ref 0), some (.int s1), some (.int (nI (i1 + 1)))]) (st' := [.int (M 0 0), .int (nI (i1 + 1))]) (M' := M) (by decide +kernel) rfl ?_
    refine zT.cge (tgt := 43) (off := 34) (by decide +kernel) (by decide) (fun c => absurd c (zGeN (n := sz) hsz (by omega) (by omega))) (fun _ => ?_)
    refine zT.run [(.iload_n 1, 0, 0, 0), (.aload_n 0, 0, 0, 0), (.iload_n 2, 0, 0, 0), (.iconst 0, 0, 0, 0)] (pe := 16) (ls' := [some (.ref 0), some (.int s1), some (.int (nI (i1 + 1)))]) (st' := [.int 0, .int (nI (i1 + 1)), .ref 0, .int s1]) (M' := M) (by decide +kernel) rfl ?_
    refine zT.cV_own (o := 0) (idx := 25) (av := [.int (nI (i1 + 1)), .int (nI 0)]) (rv := (some (.int (g_X6_tell M sz (nI (i1 + 1)) 0)))) (st := [.int s1]) (S1 := [.int (g_X6_tell M sz (nI (i1 + 1)) 0), .int s1]) (c_X6_tell M sz (nI (i1 + 1)) 0 hsz h12 (by omega)) k_X6_tell _ _ rfl rfl rfl (zIn (w := 5122) (by decide +kernel) rfl) (by decide +kernel) (by decide +kernel) rfl (Nat.le_of_ble_eq_true rfl) rfl ?_
    refine zT.run [(.aload_n 0, 0, 0, 0), (.iload_n 2, 0, 0, 0), (.iconst 1, 0, 0, 0), (.isub, 0, 0, 0), (.iconst 0, 0, 0, 0)] (pe := 24) (ls' := [some (.ref 0), some (.int s1), some (.int (nI (i1 + 1)))]) (st' := [.int 0, .int ((nI (i1 + 1)) - 1), .ref 0, .int (g_X6_tell M sz (nI (i1 + 1)) 0), .int s1]) (M' := M) (by decide +kernel) rfl ?_
    refine zT.cV_own (o := 0) (idx := 25) (av := [.int ((nI (i1 + 1)) - 1), .int (nI 0)]) (rv := (some (.int (g_X6_tell M sz ((nI (i1 + 1)) - 1) 0)))) (st := [.int (g_X6_tell M sz (nI (i1 + 1)) 0), .int s1]) (S1 := [.int (g_X6_tell M sz ((nI (i1 + 1)) - 1) 0), .int (g_X6_tell M sz (nI (i1 + 1)) 0), .int s1]) (c_X6_tell M sz ((nI (i1 + 1)) - 1) 0 hsz h12 (by omega)) k_X6_tell _ _ rfl rfl rfl (zIn (w := 5122) (by decide +kernel) rfl) (by decide +kernel) (by decide +kernel) rfl (Nat.le_of_ble_eq_true rfl) rfl ?_
    refine zT.join (35, [some (.ref 0), some (.int s1), some (.int (nI (i1 + 1)))], [.int (if (g_X6_tell M sz (nI (i1 + 1)) 0) < (g_X6_tell M sz ((nI (i1 + 1)) - 1) 0) then 0 else 1), .int s1], sh_Outcomes, M) ?_ ?_
    · refine zT.clt (tgt := 34) (off := 7) (by decide +kernel) (by decide) (fun (c1 : (g_X6_tell M sz (nI (i1 + 1)) 0) < (g_X6_tell M sz ((nI (i1 + 1)) - 1) 0)) => ?_) (fun (c1 : ¬ (g_X6_tell M sz (nI (i1 + 1)) 0) < (g_X6_tell M sz ((nI (i1 + 1)) - 1) 0)) => ?_)
      · skip
        refine zT.run [(.iconst 0, 0, 0, 0)] (pe := 35) (ls' := [some (.ref 0), some (.int s1), some (.int (nI (i1 + 1)))]) (st' := [.int 0, .int s1]) (M' := M) (by decide +kernel) rfl ?_
        exact zT.here (by simp only [if_pos c1])
      · skip
        refine zT.run [(.iconst 1, 0, 0, 0), (.goto 4, 0, 0, 0)] (pe := 35) (ls' := [some (.ref 0), some (.int s1), some (.int (nI (i1 + 1)))]) (st' := [.int 1, .int s1]) (M' := M) (by decide +kernel) rfl ?_
        exact zT.here (by simp only [if_neg c1])
    · skip
      refine zT.run [(.iadd, 0, 0, 0), (.istore_n 1, 0, 0, 0), (.iinc 2 1, 0, 0, 0), (.goto (-36), 0, 0, 0)] (pe := 4) (ls' := [some (.ref 0), some (.int (s1 + (if (g_X6_tell M sz (nI (i1 + 1)) 0) < (g_X6_tell M sz ((nI (i1 + 1)) - 1) 0) then 0 else 1))), some (.int ((nI (i1 + 1)) + 1))]) (st' := []) (M' := M) (by decide +kernel) rfl ?_
      exact zT.eq (by simp only [l_X6_outOfOrder_4, nI_succ, zDl]; try rfl) k1
  · skip
    show zT _ _ _ _ (4, [some (.ref 0), some (.int (zIt (l_X6_outOfOrder_4 M sz) (sz - 1) 0)), some (.int (nI ((sz - 1) + 1)))], [], sh_Outcomes, M)
    refine zT.run [(.iload_n 2, 0, 0, 0), (.aload_n 0, 0, 0, 0), (.getfield 15, 4, 0, 1138)] (pe := 9) (ls' := [some (.ref 0), some (.int (zIt (l_X6_outOfOrder_4 M sz) (sz - 1) 0)), some (.int (nI ((sz - 1) + 1)))]) (st' := [.int (M 0 0), .int (nI ((sz - 1) + 1))]) (M' := M) (by decide +kernel) rfl ?_
    refine zT.cge (tgt := 43) (off := 34) (by decide +kernel) (by decide) (fun _ => ?_) (fun c => absurd (zGeL (n := sz) hsz (by omega) (by omega)) c)
    refine zT.run [(.iload_n 1, 0, 0, 0)] (pe := 44) (ls' := [some (.ref 0), some (.int (zIt (l_X6_outOfOrder_4 M sz) (sz - 1) 0)), some (.int (nI ((sz - 1) + 1)))]) (st' := [.int (zIt (l_X6_outOfOrder_4 M sz) (sz - 1) 0)]) (M' := M) (by decide +kernel) rfl ?_
    exact zT.iret (ty := Jvm.ClassFile.FieldType.int) (by simp only [g_X6_outOfOrder]; try rfl) rfl rfl rfl (by decide +kernel)
theorem k_X6_outOfOrder : zCal yy_X6_outOfOrder 0 := ⟨⟨⟨⟨zIn (w := 5121) (by decide +kernel) rfl, zIn (w := 1006) (by decide +kernel) rfl⟩, by decide +kernel⟩, by decide +kernel⟩, ⟨zIn (w := 5119) (by decide +kernel) rfl, zIn (w := 5120) (by decide +kernel) rfl⟩⟩
noncomputable abbrev yy_X7_rank : zY := (yX7_rank, cX7_rank, 3, none, 0, 0)
noncomputable def g_X7_rank (M : zM) (r : Nat) : zM := (if (M 12 4) = (-1) then (zU (zU (zU (zU M 12 1 (M 13 r)) 12 2 1) 12 3 (nI r)) 12 4 (nI r)) else (if (M 13 r) ≤ (M 12 1) then (if (M 13 r) = (M 12 1) then (if (M 2 r) ≤ (M 2 (M 12 4).toNatClampNeg) then (zU M 12 2 ((M 12 2) + 1)) else (zU (zU M 12 2 ((M 12 2) + 1)) 12 4 (nI r))) else M) else (zU (zU (zU (zU M 12 1 (M 13 r)) 12 2 1) 12 3 (nI r)) 12 4 (nI r))))
set_option maxRecDepth 100000 in
theorem c_X7_rank (M : zM) (r : Nat) (he : M 12 4 = -1 ∨ ∃ e, e < 9 ∧ M 12 4 = nI e) (h_r : r < 9) : zC yy_X7_rank 0 0 [.ref 12, .int (nI r), .ref 2] sh_Office M none sh_Office (g_X7_rank M r) := by
  refine zC.of (by decide +kernel) rfl (Nat.le_of_ble_eq_true rfl) ?_
  refine zT.run [(.aload_n 0, 0, 0, 0), (.getfield 25, 5, 4, 1158), (.iconst (-1), 0, 0, 0)] (pe := 5) (ls' := [some (.ref 12), some (.int (nI r)), some (.ref 2)]) (st' := [.int (-1), .int (M 12 4)]) (M' := M) (by decide +kernel) rfl ?_
  refine zT.ceq (tgt := 21) (off := 16) (by decide +kernel) (by decide) (fun (c1 : (M 12 4) = (-1)) => ?_) (fun (c1 : ¬ (M 12 4) = (-1)) => ?_)
  · skip
    refine zT.run [(.aload_n 0, 0, 0, 0), (.aload_n 0, 0, 0, 0), (.getfield 9, 5, 0, 1152), (.iload_n 1, 0, 0, 0)] (pe := 27) (ls' := [some (.ref 12), some (.int (nI r)), some (.ref 2)]) (st' := [.int (nI r), .ref 13, .ref 12]) (M' := M) (by decide +kernel) rfl ?_
    refine zT.iald (n := 9) (k := r) rfl rfl (by omega) (by decide) (by decide +kernel) ?_
    refine zT.run [(.putfield 15, 5, 1, 1153), (.aload_n 0, 0, 0, 0), (.iconst 1, 0, 0, 0), (.putfield 19, 5, 2, 1155), (.aload_n 0, 0, 0, 0), (.iload_n 1, 0, 0, 0), (.putfield 22, 5, 3, 1157), (.aload_n 0, 0, 0, 0), (.iload_n 1, 0, 0, 0), (.putfield 25, 5, 4, 1158), (.goto 43, 0, 0, 0)] (pe := 89) (ls' := [some (.ref 12), some (.int (nI r)), some (.ref 2)]) (st' := []) (M' := (zU (zU (zU (zU M 12 1 (M 13 r)) 12 2 1) 12 3 (nI r)) 12 4 (nI r))) (by decide +kernel) rfl ?_
    exact zT.vret (by simp only [g_X7_rank, if_pos c1]; try rfl) rfl (by decide +kernel)
  · skip
    refine zT.run [(.aload_n 0, 0, 0, 0), (.getfield 9, 5, 0, 1152), (.iload_n 1, 0, 0, 0)] (pe := 13) (ls' := [some (.ref 12), some (.int (nI r)), some (.ref 2)]) (st' := [.int (nI r), .ref 13]) (M' := M) (by decide +kernel) rfl ?_
    refine zT.iald (n := 9) (k := r) rfl rfl (by omega) (by decide) (by decide +kernel) ?_
    refine zT.run [(.aload_n 0, 0, 0, 0), (.getfield 15, 5, 1, 1153)] (pe := 18) (ls' := [some (.ref 12), some (.int (nI r)), some (.ref 2)]) (st' := [.int (M 12 1), .int (M 13 r)]) (M' := M) (by decide +kernel) rfl ?_
    refine zT.cle (tgt := 49) (off := 31) (by decide +kernel) (by decide) (fun (c2 : (M 13 r) ≤ (M 12 1)) => ?_) (fun (c2 : ¬ (M 13 r) ≤ (M 12 1)) => ?_)
    · skip
      refine zT.run [(.aload_n 0, 0, 0, 0), (.getfield 9, 5, 0, 1152), (.iload_n 1, 0, 0, 0)] (pe := 54) (ls' := [some (.ref 12), some (.int (nI r)), some (.ref 2)]) (st' := [.int (nI r), .ref 13]) (M' := M) (by decide +kernel) rfl ?_
      refine zT.iald (n := 9) (k := r) rfl rfl (by omega) (by decide) (by decide +kernel) ?_
      refine zT.run [(.aload_n 0, 0, 0, 0), (.getfield 15, 5, 1, 1153)] (pe := 59) (ls' := [some (.ref 12), some (.int (nI r)), some (.ref 2)]) (st' := [.int (M 12 1), .int (M 13 r)]) (M' := M) (by decide +kernel) rfl ?_
      refine zT.cne (tgt := 89) (off := 30) (by decide +kernel) (by decide) (fun (c3 : ¬ (M 13 r) = (M 12 1)) => ?_) (fun (c3 : (M 13 r) = (M 12 1)) => ?_)
      · skip
        exact zT.vret (by simp only [g_X7_rank, if_neg c1, if_pos c2, if_neg c3]; try rfl) rfl (by decide +kernel)
      · skip
        refine zT.run [(.aload_n 0, 0, 0, 0), (.dup, 0, 0, 0), (.getfield 19, 5, 2, 1155), (.iconst 1, 0, 0, 0), (.iadd, 0, 0, 0), (.putfield 19, 5, 2, 1155), (.aload_n 2, 0, 0, 0), (.iload_n 1, 0, 0, 0)] (pe := 74) (ls' := [some (.ref 12), some (.int (nI r)), some (.ref 2)]) (st' := [.int (nI r), .ref 2]) (M' := (zU M 12 2 ((M 12 2) + 1))) (by decide +kernel) rfl ?_
        refine zT.iald (n := 9) (k := r) rfl rfl (by omega) (by decide) (by decide +kernel) ?_
        refine zT.run [(.aload_n 2, 0, 0, 0), (.aload_n 0, 0, 0, 0), (.getfield 25, 5, 4, 1158)] (pe := 80) (ls' := [some (.ref 12), some (.int (nI r)), some (.ref 2)]) (st' := [.int (M 12 4), .ref 2, .int (M 2 r)]) (M' := (zU M 12 2 ((M 12 2) + 1))) (by decide +kernel) rfl ?_
        refine zT.iald (n := 9) (k := (M 12 4).toNatClampNeg) rfl (zEl he (by assumption)).1 (zEl he (by assumption)).2 (by decide) (by decide +kernel) ?_
        refine zT.cle (tgt := 89) (off := 8) (by decide +kernel) (by decide) (fun (c4 : (M 2 r) ≤ (M 2 (M 12 4).toNatClampNeg)) => ?_) (fun (c4 : ¬ (M 2 r) ≤ (M 2 (M 12 4).toNatClampNeg)) => ?_)
        · skip
          exact zT.vret (by simp only [g_X7_rank, if_neg c1, if_pos c2, if_pos c3, if_pos c4]; try rfl) rfl (by decide +kernel)
        · skip
          refine zT.run [(.aload_n 0, 0, 0, 0), (.iload_n 1, 0, 0, 0), (.putfield 25, 5, 4, 1158)] (pe := 89) (ls' := [some (.ref 12), some (.int (nI r)), some (.ref 2)]) (st' := []) (M' := (zU (zU M 12 2 ((M 12 2) + 1)) 12 4 (nI r))) (by decide +kernel) rfl ?_
          exact zT.vret (by simp only [g_X7_rank, if_neg c1, if_pos c2, if_pos c3, if_neg c4]; try rfl) rfl (by decide +kernel)
    · skip
      refine zT.run [(.aload_n 0, 0, 0, 0), (.aload_n 0, 0, 0, 0), (.getfield 9, 5, 0, 1152), (.iload_n 1, 0, 0, 0)] (pe := 27) (ls' := [some (.ref 12), some (.int (nI r)), some (.ref 2)]) (st' := [.int (nI r), .ref 13, .ref 12]) (M' := M) (by decide +kernel) rfl ?_
      refine zT.iald (n := 9) (k := r) rfl rfl (by omega) (by decide) (by decide +kernel) ?_
      refine zT.run [(.putfield 15, 5, 1, 1153), (.aload_n 0, 0, 0, 0), (.iconst 1, 0, 0, 0), (.putfield 19, 5, 2, 1155), (.aload_n 0, 0, 0, 0), (.iload_n 1, 0, 0, 0), (.putfield 22, 5, 3, 1157), (.aload_n 0, 0, 0, 0), (.iload_n 1, 0, 0, 0), (.putfield 25, 5, 4, 1158), (.goto 43, 0, 0, 0)] (pe := 89) (ls' := [some (.ref 12), some (.int (nI r)), some (.ref 2)]) (st' := []) (M' := (zU (zU (zU (zU M 12 1 (M 13 r)) 12 2 1) 12 3 (nI r)) 12 4 (nI r))) (by decide +kernel) rfl ?_
      exact zT.vret (by simp only [g_X7_rank, if_neg c1, if_neg c2]; try rfl) rfl (by decide +kernel)
theorem fr_X7_rank (M : zM) (r : Nat) (o : Nat) (ho : o ≠ 12) : (g_X7_rank M r) o = M o := by
  simp only [g_X7_rank]
  (repeat' split) <;> simp only [zU_ne ho, zUa_ne ho]
theorem k_X7_rank : zCal yy_X7_rank 2 := ⟨⟨⟨⟨zIn (w := 4105) (by decide +kernel) rfl, zIn (w := 1007) (by decide +kernel) rfl⟩, by decide +kernel⟩, by decide +kernel⟩, ⟨zIn (w := 4104) (by decide +kernel) rfl, zIn (w := 14) (by decide +kernel) rfl⟩⟩
theorem e_X7_rank (M : zM) (r : Nat) : g_X7_rank M r 12 4 = M 12 4 ∨ g_X7_rank M r 12 4 = nI r := by
  simp only [g_X7_rank]
  (repeat' split) <;> first | exact Or.inl rfl | exact Or.inr rfl
noncomputable abbrev yy_X7_take : zY := (yX7_take, cX7_take, 6, none, 2, 44)
noncomputable def l_X7_take_23 (M : zM) (f : Int32) (m : Int32) (i1 : Nat) (s1 : zM) : zM := (if (g_X9_has (s1 7 3) (nI i1)) = 0 then (zU s1 13 i1 ((g_X1_validVotesFor (zPl s1 7) (nI i1)) + (if (nI i1) = f then m else 0))) else (g_X7_rank (zU s1 13 i1 ((g_X1_validVotesFor (zPl s1 7) (nI i1)) + (if (nI i1) = f then m else 0))) i1))
theorem fr_l_X7_take_23 (M : zM) (f : Int32) (m : Int32) (o : Nat) (ho : o ≠ 12 ∧ o ≠ 13) : ∀ (k : Nat) (s : zM), (zIt (l_X7_take_23 M f m) k s) o = s o := by
  intro k
  induction k with
  | zero => intro s; rfl
  | succ k ih =>
    intro s
    rw [← ih s]
    show (l_X7_take_23 M f m k (zIt (l_X7_take_23 M f m) k s)) o = _
    generalize zIt (l_X7_take_23 M f m) k s = t
    simp only [l_X7_take_23]
    (repeat' split) <;> simp only [zU_ne ho.1, zU_ne ho.2, (fun (MM : zM) (r : Nat) => fr_X7_rank MM r o (by omega))]
theorem inv_take (M : zM) (f m : Int32) : ∀ (k : Nat) (s : zM), (s 12 4 = -1 ∨ ∃ e, e < 9 ∧ s 12 4 = nI e) → k ≤ 9 → (zIt (l_X7_take_23 M f m) k s 12 4 = -1 ∨ ∃ e, e < 9 ∧ zIt (l_X7_take_23 M f m) k s 12 4 = nI e) := by
  intro k
  induction k with
  | zero => intro s h _; exact h
  | succ k ih =>
    intro s h hk
    have h1 := ih s h (by omega)
    show l_X7_take_23 M f m k (zIt (l_X7_take_23 M f m) k s) 12 4 = -1 ∨ ∃ e, e < 9 ∧ l_X7_take_23 M f m k (zIt (l_X7_take_23 M f m) k s) 12 4 = nI e
    generalize zIt (l_X7_take_23 M f m) k s = t at h1 ⊢
    simp only [l_X7_take_23]
    (repeat' split) <;> first
      | exact h1
      | (rcases e_X7_rank _ k with e | e
         · rw [e]; exact h1
         · rw [e]; exact Or.inr ⟨k, by omega, rfl⟩)
noncomputable def g_X7_take (M : zM) (f : Int32) (m : Int32) : zM := (zIt (l_X7_take_23 M f m) 9 (zU (zU (zU (zU M 12 1 0) 12 2 0) 12 3 (-1)) 12 4 (-1)))
set_option maxRecDepth 100000 in
theorem c_X7_take (M : zM) (f : Int32) (m : Int32)  : zC yy_X7_take 0 0 [.ref 12, .ref 7, .ref 2, .int f, .int m] sh_Office M none sh_Office (g_X7_take M f m) := by
  refine zC.of (by decide +kernel) rfl (Nat.le_of_ble_eq_true rfl) ?_
  refine zT.run [(.aload_n 0, 0, 0, 0), (.iconst 0, 0, 0, 0), (.putfield 15, 5, 1, 1153), (.aload_n 0, 0, 0, 0), (.iconst 0, 0, 0, 0), (.putfield 19, 5, 2, 1155), (.aload_n 0, 0, 0, 0), (.iconst (-1), 0, 0, 0), (.putfield 22, 5, 3, 1157), (.aload_n 0, 0, 0, 0), (.iconst (-1), 0, 0, 0), (.putfield 25, 5, 4, 1158), (.iconst 0, 0, 0, 0), (.istore 5, 0, 0, 0)] (pe := 23) (ls' := [some (.ref 12), some (.ref 7), some (.ref 2), some (.int f), some (.int m), some (.int 0)]) (st' := []) (M' := (zU (zU (zU (zU M 12 1 0) 12 2 0) 12 3 (-1)) 12 4 (-1))) (by decide +kernel) rfl ?_
  refine zT.loop (l_X7_take_23 M f m) (fun (i : Nat) (s : zM) => (23, [some (.ref 12), some (.ref 7), some (.ref 2), some (.int f), some (.int m), some (.int (nI i))], [], sh_Office, s)) 9 (zU (zU (zU (zU M 12 1 0) 12 2 0) 12 3 (-1)) 12 4 (-1)) (fun i1 hi1 k1 => ?_) ?_
  · skip
    generalize hs1 : zIt (l_X7_take_23 M f m) i1 (zU (zU (zU (zU M 12 1 0) 12 2 0) 12 3 (-1)) 12 4 (-1)) = s1 at k1 ⊢
    have he1 : s1 12 4 = -1 ∨ ∃ e, e < 9 ∧ s1 12 4 = nI e := by rw [← hs1]; exact inv_take M f m i1 _ (Or.inl rfl) (by omega)
    have hm1 : ∀ o : Nat, (o ≠ 12 ∧ o ≠ 13) → s1 o = (zU (zU (zU (zU M 12 1 0) 12 2 0) 12 3 (-1)) 12 4 (-1)) o := fun o ho => by rw [← hs1]; exact fr_l_X7_take_23 M f m o ho i1 (zU (zU (zU (zU M 12 1 0) 12 2 0) 12 3 (-1)) 12 4 (-1))
    show zT _ _ _ _ (23, [some (.ref 12), some (.ref 7), some (.ref 2), some (.int f), some (.int m), some (.int (nI i1))], [], sh_Office, s1)
    refine zT.run [(.iload 5, 0, 0, 0), (.bipush 9, 0, 0, 0)] (pe := 27) (ls' := [some (.ref 12), some (.ref 7), some (.ref 2), some (.int f), some (.int m), some (.int (nI i1))]) (st' := [.int 9, .int (nI i1)]) (M' := s1) (by decide +kernel) rfl ?_
    refine zT.cge (tgt := 88) (off := 61) (by decide +kernel) (by decide) (fun c => absurd c (zGeN (n := 9) rfl (by omega) (by omega))) (fun _ => ?_)
    refine zT.run [(.iload 5, 0, 0, 0), (.aload_n 2, 0, 0, 0), (.arraylength, 0, 0, 0)] (pe := 34) (ls' := [some (.ref 12), some (.ref 7), some (.ref 2), some (.int f), some (.int m), some (.int (nI i1))]) (st' := [.int 9, .int (nI i1)]) (M' := s1) (by decide +kernel) rfl ?_
    refine zT.cge (tgt := 88) (off := 54) (by decide +kernel) (by decide) (fun c => absurd c (zGeN (n := 9) rfl (by omega) (by omega))) (fun _ => ?_)
    refine zT.run [(.aload_n 0, 0, 0, 0), (.getfield 9, 5, 0, 1152), (.iload 5, 0, 0, 0), (.aload_n 1, 0, 0, 0), (.iload 5, 0, 0, 0)] (pe := 46) (ls' := [some (.ref 12), some (.ref 7), some (.ref 2), some (.int f), some (.int m), some (.int (nI i1))]) (st' := [.int (nI i1), .ref 7, .int (nI i1), .ref 13]) (M' := s1) (by decide +kernel) rfl ?_
    refine zT.cV_pure 7 (o := 0) (idx := 28) (av := [.int (nI i1)]) (rv := (some (.int (g_X1_validVotesFor (zPl s1 7) (nI i1))))) (st := [.int (nI i1), .ref 13]) (S1 := [.int (g_X1_validVotesFor (zPl s1 7) (nI i1)), .int (nI i1), .ref 13]) (c_X1_validVotesFor (zPl s1 7) (nI i1)) sub_Office_7_Ballot k_X1_validVotesFor _ _ rfl rfl rfl (zIn (w := 4097) (by decide +kernel) rfl) (by decide +kernel) (by decide +kernel) rfl (Nat.le_of_ble_eq_true rfl) rfl ?_
    refine zT.run [(.iload 5, 0, 0, 0), (.iload_n 3, 0, 0, 0)] (pe := 52) (ls' := [some (.ref 12), some (.ref 7), some (.ref 2), some (.int f), some (.int m), some (.int (nI i1))]) (st' := [.int f, .int (nI i1), .int (g_X1_validVotesFor (zPl s1 7) (nI i1)), .int (nI i1), .ref 13]) (M' := s1) (by decide +kernel) rfl ?_
    refine zT.join (61, [some (.ref 12), some (.ref 7), some (.ref 2), some (.int f), some (.int m), some (.int (nI i1))], [.int (if (nI i1) = f then m else 0), .int (g_X1_validVotesFor (zPl s1 7) (nI i1)), .int (nI i1), .ref 13], sh_Office, s1) ?_ ?_
    · refine zT.cne (tgt := 60) (off := 8) (by decide +kernel) (by decide) (fun (c1 : ¬ (nI i1) = f) => ?_) (fun (c1 : (nI i1) = f) => ?_)
      · skip
        refine zT.run [(.iconst 0, 0, 0, 0)] (pe := 61) (ls' := [some (.ref 12), some (.ref 7), some (.ref 2), some (.int f), some (.int m), some (.int (nI i1))]) (st' := [.int 0, .int (g_X1_validVotesFor (zPl s1 7) (nI i1)), .int (nI i1), .ref 13]) (M' := s1) (by decide +kernel) rfl ?_
        exact zT.here (by simp only [if_neg c1])
      · skip
        refine zT.run [(.iload 4, 0, 0, 0), (.goto 4, 0, 0, 0)] (pe := 61) (ls' := [some (.ref 12), some (.ref 7), some (.ref 2), some (.int f), some (.int m), some (.int (nI i1))]) (st' := [.int m, .int (g_X1_validVotesFor (zPl s1 7) (nI i1)), .int (nI i1), .ref 13]) (M' := s1) (by decide +kernel) rfl ?_
        exact zT.here (by simp only [if_pos c1])
    · skip
      refine zT.run [(.iadd, 0, 0, 0)] (pe := 62) (ls' := [some (.ref 12), some (.ref 7), some (.ref 2), some (.int f), some (.int m), some (.int (nI i1))]) (st' := [.int ((g_X1_validVotesFor (zPl s1 7) (nI i1)) + (if (nI i1) = f then m else 0)), .int (nI i1), .ref 13]) (M' := s1) (by decide +kernel) rfl ?_
      refine zT.iast (n := 9) (k := i1) rfl rfl (by omega) (by decide) (by decide +kernel) ?_
      refine zT.run [(.aload_n 1, 0, 0, 0), (.getfield 34, 0, 3, 1097), (.iload 5, 0, 0, 0)] (pe := 69) (ls' := [some (.ref 12), some (.ref 7), some (.ref 2), some (.int f), some (.int m), some (.int (nI i1))]) (st' := [.int (nI i1), .int (s1 7 3)]) (M' := (zU s1 13 i1 ((g_X1_validVotesFor (zPl s1 7) (nI i1)) + (if (nI i1) = f then m else 0)))) (by decide +kernel) rfl ?_
      refine zT.cN_nil "SealedBallots" (idx := 37) (av := [.int (s1 7 3), .int (nI i1)]) (rv := (some (.int (g_X9_has (s1 7 3) (nI i1))))) (st := []) (S1 := [.int (g_X9_has (s1 7 3) (nI i1))]) (c_X9_has (s1 7 3) (nI i1)) k_X9_has rfl (zInN (w := 4101) (by decide +kernel) rfl) (by decide +kernel) (by decide +kernel) rfl (Nat.le_of_ble_eq_true rfl) rfl ?_
      refine zT.zeq (tgt := 82) (off := 10) (by decide +kernel) (by decide) (fun (c2 : (g_X9_has (s1 7 3) (nI i1)) = 0) => ?_) (fun (c2 : ¬ (g_X9_has (s1 7 3) (nI i1)) = 0) => ?_)
      · skip
        refine zT.run [(.iinc 5 1, 0, 0, 0), (.goto (-62), 0, 0, 0)] (pe := 23) (ls' := [some (.ref 12), some (.ref 7), some (.ref 2), some (.int f), some (.int m), some (.int ((nI i1) + 1))]) (st' := []) (M' := (zU s1 13 i1 ((g_X1_validVotesFor (zPl s1 7) (nI i1)) + (if (nI i1) = f then m else 0)))) (by decide +kernel) rfl ?_
        exact zT.eq (by simp only [l_X7_take_23, if_pos c2, nI_succ, zDl]; try rfl) k1
      · skip
        refine zT.run [(.aload_n 0, 0, 0, 0), (.iload 5, 0, 0, 0), (.aload_n 2, 0, 0, 0)] (pe := 79) (ls' := [some (.ref 12), some (.ref 7), some (.ref 2), some (.int f), some (.int m), some (.int (nI i1))]) (st' := [.ref 2, .int (nI i1), .ref 12]) (M' := (zU s1 13 i1 ((g_X1_validVotesFor (zPl s1 7) (nI i1)) + (if (nI i1) = f then m else 0)))) (by decide +kernel) rfl ?_
        refine zT.cV_all (o := 12) (idx := 41) (av := [.int (nI i1), .ref 2]) (rv := none) (st := []) (S1 := []) (c_X7_rank (zU s1 13 i1 ((g_X1_validVotesFor (zPl s1 7) (nI i1)) + (if (nI i1) = f then m else 0))) i1 he1 (by omega)) k_X7_rank _ _ rfl rfl rfl (zIn (w := 4102) (by decide +kernel) rfl) (by decide +kernel) (by decide +kernel) rfl (Nat.le_of_ble_eq_true rfl) rfl ?_
        refine zT.run [(.iinc 5 1, 0, 0, 0), (.goto (-62), 0, 0, 0)] (pe := 23) (ls' := [some (.ref 12), some (.ref 7), some (.ref 2), some (.int f), some (.int m), some (.int ((nI i1) + 1))]) (st' := []) (M' := (g_X7_rank (zU s1 13 i1 ((g_X1_validVotesFor (zPl s1 7) (nI i1)) + (if (nI i1) = f then m else 0))) i1)) (by decide +kernel) rfl ?_
        exact zT.eq (by simp only [l_X7_take_23, if_neg c2, nI_succ, zDl]; try rfl) k1
  · skip
    show zT _ _ _ _ (23, [some (.ref 12), some (.ref 7), some (.ref 2), some (.int f), some (.int m), some (.int (nI 9))], [], sh_Office, (zIt (l_X7_take_23 M f m) 9 (zU (zU (zU (zU M 12 1 0) 12 2 0) 12 3 (-1)) 12 4 (-1))))
    refine zT.run [(.iload 5, 0, 0, 0), (.bipush 9, 0, 0, 0)] (pe := 27) (ls' := [some (.ref 12), some (.ref 7), some (.ref 2), some (.int f), some (.int m), some (.int (nI 9))]) (st' := [.int 9, .int (nI 9)]) (M' := (zIt (l_X7_take_23 M f m) 9 (zU (zU (zU (zU M 12 1 0) 12 2 0) 12 3 (-1)) 12 4 (-1)))) (by decide +kernel) rfl ?_
    refine zT.cge (tgt := 88) (off := 61) (by decide +kernel) (by decide) (fun _ => ?_) (fun c => absurd (zGeY (n := 9) rfl) c)
    exact zT.vret (by simp only [g_X7_take]; try rfl) rfl (by decide +kernel)
theorem fr_X7_take (M : zM) (f : Int32) (m : Int32) (o : Nat) (ho : o ≠ 12 ∧ o ≠ 13) : (g_X7_take M f m) o = M o := by
  simp only [g_X7_take]
  (repeat' split) <;> simp only [zU_ne ho.1, zU_ne ho.2, zUa_ne ho.1, zUa_ne ho.2, (fr_l_X7_take_23 M f m o (by omega))]
theorem k_X7_take : zCal yy_X7_take 4 := ⟨⟨⟨⟨zIn (w := 4096) (by decide +kernel) rfl, zIn (w := 1007) (by decide +kernel) rfl⟩, by decide +kernel⟩, by decide +kernel⟩, ⟨zIn (w := 4094) (by decide +kernel) rfl, zIn (w := 4095) (by decide +kernel) rfl⟩⟩
noncomputable abbrev yy_X7_aheadBy : zY := (yX7_aheadBy, cX7_aheadBy, 2, (some Jvm.ClassFile.FieldType.int), 0, 0)
noncomputable def g_X7_aheadBy (M : zM) (t : Int32) : Int32 := (if t = 0 then (if (M 12 2) ≤ 1 then (M 12 4) else (-1)) else (M 12 4))
set_option maxRecDepth 100000 in
theorem c_X7_aheadBy (M : zM) (t : Int32)  : zC yy_X7_aheadBy 0 0 [.ref 12, .int t] sh_Office M (some (.int (g_X7_aheadBy M t))) sh_Office M := by
  refine zC.of (by decide +kernel) rfl (Nat.le_of_ble_eq_true rfl) ?_
  refine zT.run [(.iload_n 1, 0, 0, 0)] (pe := 1) (ls' := [some (.ref 12), some (.int t)]) (st' := [.int t]) (M' := M) (by decide +kernel) rfl ?_
  refine zT.zne (tgt := 16) (off := 15) (by decide +kernel) (by decide) (fun (c1 : ¬ t = 0) => ?_) (fun (c1 : t = 0) => ?_)
  · skip
    refine zT.run [(.aload_n 0, 0, 0, 0), (.getfield 25, 5, 4, 1158)] (pe := 20) (ls' := [some (.ref 12), some (.int t)]) (st' := [.int (M 12 4)]) (M' := M) (by decide +kernel) rfl ?_
    exact zT.iret (ty := Jvm.ClassFile.FieldType.int) (by simp only [g_X7_aheadBy, if_neg c1]; try rfl) rfl rfl rfl (by decide +kernel)
  · skip
    refine zT.run [(.aload_n 0, 0, 0, 0), (.getfield 19, 5, 2, 1155), (.iconst 1, 0, 0, 0)] (pe := 9) (ls' := [some (.ref 12), some (.int t)]) (st' := [.int 1, .int (M 12 2)]) (M' := M) (by decide +kernel) rfl ?_
    refine zT.cle (tgt := 16) (off := 7) (by decide +kernel) (by decide) (fun (c2 : (M 12 2) ≤ 1) => ?_) (fun (c2 : ¬ (M 12 2) ≤ 1) => ?_)
    · skip
      refine zT.run [(.aload_n 0, 0, 0, 0), (.getfield 25, 5, 4, 1158)] (pe := 20) (ls' := [some (.ref 12), some (.int t)]) (st' := [.int (M 12 4)]) (M' := M) (by decide +kernel) rfl ?_
      exact zT.iret (ty := Jvm.ClassFile.FieldType.int) (by simp only [g_X7_aheadBy, if_pos c1, if_pos c2]; try rfl) rfl rfl rfl (by decide +kernel)
    · skip
      refine zT.run [(.iconst (-1), 0, 0, 0), (.goto 7, 0, 0, 0)] (pe := 20) (ls' := [some (.ref 12), some (.int t)]) (st' := [.int (-1)]) (M' := M) (by decide +kernel) rfl ?_
      exact zT.iret (ty := Jvm.ClassFile.FieldType.int) (by simp only [g_X7_aheadBy, if_pos c1, if_neg c2]; try rfl) rfl rfl rfl (by decide +kernel)
theorem k_X7_aheadBy : zCal yy_X7_aheadBy 1 := ⟨⟨⟨⟨zIn (w := 4113) (by decide +kernel) rfl, zIn (w := 1007) (by decide +kernel) rfl⟩, by decide +kernel⟩, by decide +kernel⟩, ⟨zIn (w := 4111) (by decide +kernel) rfl, zIn (w := 4112) (by decide +kernel) rfl⟩⟩
noncomputable abbrev yy_X7_chosenBy : zY := (yX7_chosenBy, cX7_chosenBy, 3, (some Jvm.ClassFile.FieldType.int), 1, 21)
noncomputable def g_X7_chosenBy (M : zM) (l : Int32) (t : Int32) : Int32 := (if l ≤ (M 12 1) then (g_X7_aheadBy M t) else (-1))
set_option maxRecDepth 100000 in
theorem c_X7_chosenBy (M : zM) (l : Int32) (t : Int32)  : zC yy_X7_chosenBy 0 0 [.ref 12, .int l, .int t] sh_Office M (some (.int (g_X7_chosenBy M l t))) sh_Office M := by
  refine zC.of (by decide +kernel) rfl (Nat.le_of_ble_eq_true rfl) ?_
  refine zT.run [(.aload_n 0, 0, 0, 0), (.getfield 15, 5, 1, 1153), (.iload_n 1, 0, 0, 0)] (pe := 5) (ls' := [some (.ref 12), some (.int l), some (.int t)]) (st' := [.int l, .int (M 12 1)]) (M' := M) (by decide +kernel) rfl ?_
  refine zT.cge (tgt := 12) (off := 7) (by decide +kernel) (by decide) (fun (c1 : l ≤ (M 12 1)) => ?_) (fun (c1 : ¬ l ≤ (M 12 1)) => ?_)
  · skip
    refine zT.run [(.aload_n 0, 0, 0, 0), (.iload_n 2, 0, 0, 0)] (pe := 14) (ls' := [some (.ref 12), some (.int l), some (.int t)]) (st' := [.int t, .ref 12]) (M' := M) (by decide +kernel) rfl ?_
    refine zT.cV_own (o := 12) (idx := 45) (av := [.int t]) (rv := (some (.int (g_X7_aheadBy M t)))) (st := []) (S1 := [.int (g_X7_aheadBy M t)]) (c_X7_aheadBy M t) k_X7_aheadBy _ _ rfl rfl rfl (zIn (w := 4110) (by decide +kernel) rfl) (by decide +kernel) (by decide +kernel) rfl (Nat.le_of_ble_eq_true rfl) rfl ?_
    exact zT.iret (ty := Jvm.ClassFile.FieldType.int) (by simp only [g_X7_chosenBy, if_pos c1]; try rfl) rfl rfl rfl (by decide +kernel)
  · skip
    refine zT.run [(.iconst (-1), 0, 0, 0), (.goto 8, 0, 0, 0)] (pe := 17) (ls' := [some (.ref 12), some (.int l), some (.int t)]) (st' := [.int (-1)]) (M' := M) (by decide +kernel) rfl ?_
    exact zT.iret (ty := Jvm.ClassFile.FieldType.int) (by simp only [g_X7_chosenBy, if_neg c1]; try rfl) rfl rfl rfl (by decide +kernel)
theorem k_X7_chosenBy : zCal yy_X7_chosenBy 2 := ⟨⟨⟨⟨zIn (w := 4109) (by decide +kernel) rfl, zIn (w := 1007) (by decide +kernel) rfl⟩, by decide +kernel⟩, by decide +kernel⟩, ⟨zIn (w := 4107) (by decide +kernel) rfl, zIn (w := 4108) (by decide +kernel) rfl⟩⟩
