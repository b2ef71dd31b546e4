theorem sub_X_5_Office {sl : Nat → Option Nat} {ext : List va_E} : zSub (sh_X sl ext) 5 sh_Office := zSub.of rfl
theorem fr_copy1 (M : zM) (a b o : Nat) (h : o < a ∨ a + 3 ≤ o) : g_X1_copyFrom M a b o = M o := by
  unfold g_X1_copyFrom
  simp only [m_X1_copyFrom_1, m_X1_copyFrom_2, m_X1_copyFrom_3, m_X1_copyFrom_4, m_X1_copyFrom_5, m_X1_copyFrom_6, m_X1_copyFrom_7, m_X1_copyFrom_8, m_X1_copyFrom_9, m_X1_copyFrom_10, zU_ne (show o ≠ a by omega), zUa_ne (show o ≠ a + 1 by omega), zUa_ne (show o ≠ a + 2 by omega)]
theorem fr_copy6 (M : zM) (a b o : Nat) (h : o < a ∨ a + 2 ≤ o) : g_X6_copyFrom M a b o = M o := by
  unfold g_X6_copyFrom
  simp only [m_X6_copyFrom_1, m_X6_copyFrom_2, zU_ne (show o ≠ a by omega), zUa_ne (show o ≠ a + 1 by omega)]
theorem fr_copy (M : zM) (a b o : Nat) (h : o < a ∨ a + 12 ≤ o) : g_X4_copyFrom M a b o = M o := by
  unfold g_X4_copyFrom
  simp only [m_X4_copyFrom_1, m_X4_copyFrom_2, m_X4_copyFrom_3, m_X4_copyFrom_4, m_X4_copyFrom_5, m_X4_copyFrom_6, m_X4_copyFrom_7, m_X4_copyFrom_8, m_X4_copyFrom_9, m_X4_copyFrom_10, zU_ne (show o ≠ a by omega), zUa_ne (show o ≠ a + 1 by omega), zUa_ne (show o ≠ a + 2 by omega), zUa_ne (show o ≠ a + 3 by omega), zUa_ne (show o ≠ a + 4 by omega), zUa_ne (show o ≠ a + 5 by omega), zUa_ne (show o ≠ a + 6 by omega), fun MM x => fr_copy1 MM (a + 7) x o (by omega), fun MM x => fr_copy6 MM (a + 10) x o (by omega)]
theorem sub_X_off {sl : Nat → Option Nat} {ext : List va_E} {j : Nat} (h : j < 11) : zSub (sh_X sl ext) (35 + 14 * j) sh_Office := by
  rcases (show j = 0 ∨ j = 1 ∨ j = 2 ∨ j = 3 ∨ j = 4 ∨ j = 5 ∨ j = 6 ∨ j = 7 ∨ j = 8 ∨ j = 9 ∨ j = 10 by omega) with rfl | rfl | rfl | rfl | rfl | rfl | rfl | rfl | rfl | rfl | rfl <;> exact zSub.of rfl
noncomputable abbrev yy_X9_needReplica : zY := (yX9_needReplica, cX9_needReplica, 2, none, 9, 200)
set_option maxRecDepth 100000 in
theorem c_X9_needReplica_ok (M : zM) (sl : Nat → Option Nat) (ext : List va_E) (n r : Nat) (hn : M 5 0 = nI n) (h9 : n ≤ 9) (h_r : r < n) : zC yy_X9_needReplica 0 0 [.ref 0, .int (nI r)] (sh_X sl ext) M none (sh_X sl ext) M := by
  refine zC.of (by decide +kernel) rfl (Nat.le_of_ble_eq_true rfl) ?_
  refine zT.run [(.iload_n 1, 0, 0, 0)] (pe := 1) (ls' := [some (.ref 0), some (.int (nI r))]) (st' := [.int (nI r)]) (M' := M) (by decide +kernel) rfl ?_
  refine zT.zlt (tgt := 15) (off := 14) (by decide +kernel) (by decide) (fun c => absurd c (nI_pos (by omega))) (fun _ => ?_)
  refine zT.run [(.iload_n 1, 0, 0, 0), (.aload_n 0, 0, 0, 0), (.getfield 24, 7, 2, 2071), (.getfield 133, 2, 0, 1172)] (pe := 12) (ls' := [some (.ref 0), some (.int (nI r))]) (st' := [.int (M 5 0), .int (nI r)]) (M' := M) (by decide +kernel) rfl ?_
  refine zT.clt (tgt := 25) (off := 13) (by decide +kernel) (by decide) (fun _ => ?_) (fun c => absurd (by rw [hn]; exact nI_lt h_r (by omega)) c)
  exact zT.vret rfl rfl (by decide +kernel)
theorem k_X9_needReplica : zCal yy_X9_needReplica 1 := ⟨⟨⟨⟨zIn (w := 4200) (by decide +kernel) rfl, zIn (w := 1001) (by decide +kernel) rfl⟩, by decide +kernel⟩, by decide +kernel⟩, ⟨zIn (w := 4199) (by decide +kernel) rfl, zIn (w := 18) (by decide +kernel) rfl⟩⟩
noncomputable abbrev yy_X9_needKind : zY := (yX9_needKind, cX9_needKind, 2, none, 9, 200)
set_option maxRecDepth 100000 in
theorem c_X9_needKind_ok (v : Int32) (k : Nat) (hk : k < 8) (h1 : ¬ v < zLo k) (h2 : ¬ zHi k < v) : zC yy_X9_needKind 0 0 [.int v, .int (nI k)] [] zM0 none [] zM0 := by
  refine zC.of (by decide +kernel) rfl (Nat.le_of_ble_eq_true rfl) ?_
  refine zT.run [(.iload_n 0, 0, 0, 0), (.iload_n 1, 0, 0, 0)] (pe := 2) (ls' := [some (.int v), some (.int (nI k))]) (st' := [.int (nI k), .int v]) (M' := zM0) (by decide +kernel) rfl ?_
  refine zT.cS_nil (idx := 253) (av := [.int v, .int (nI k)]) (rv := some (.int (g_X9_fits v k))) (st := []) (S1 := [.int (g_X9_fits v k)]) (c_X9_fits v k hk) k_X9_fits rfl (zIn (w := 5003) (by decide +kernel) rfl) (by decide +kernel) (by decide +kernel) rfl (Nat.le_of_ble_eq_true rfl) rfl ?_
  refine zT.zne (tgt := 19) (off := 14) (by decide +kernel) (by decide) (fun _ => ?_) (fun c => absurd c (by unfold g_X9_fits; rw [if_neg h1, if_neg h2]; decide))
  exact zT.vret rfl rfl (by decide +kernel)
theorem k_X9_needKind : zCas yy_X9_needKind 2 := ⟨⟨⟨⟨zIn (w := 5002) (by decide +kernel) rfl, zIn (w := 1001) (by decide +kernel) rfl⟩, by decide +kernel⟩, by decide +kernel⟩, zIn (w := 5001) (by decide +kernel) rfl⟩
noncomputable abbrev yy_X9_needBetween : zY := (yX9_needBetween, cX9_needBetween, 3, none, 9, 200)
set_option maxRecDepth 100000 in
theorem c_X9_needBetween_ok (v lo hi : Int32) (h1 : ¬ v < lo) (h2 : ¬ hi < v) : zC yy_X9_needBetween 0 0 [.int v, .int lo, .int hi] [] zM0 none [] zM0 := by
  refine zC.of (by decide +kernel) rfl (Nat.le_of_ble_eq_true rfl) ?_
  refine zT.run [(.iload_n 0, 0, 0, 0), (.iload_n 1, 0, 0, 0)] (pe := 2) (ls' := [some (.int v), some (.int lo), some (.int hi)]) (st' := [.int lo, .int v]) (M' := zM0) (by decide +kernel) rfl ?_
  refine zT.clt (tgt := 10) (off := 8) (by decide +kernel) (by decide) (fun c => absurd c h1) (fun _ => ?_)
  refine zT.run [(.iload_n 0, 0, 0, 0), (.iload_n 2, 0, 0, 0)] (pe := 7) (ls' := [some (.int v), some (.int lo), some (.int hi)]) (st' := [.int hi, .int v]) (M' := zM0) (by decide +kernel) rfl ?_
  refine zT.cle (tgt := 21) (off := 14) (by decide +kernel) (by decide) (fun _ => ?_) (fun c => absurd (Int32.not_lt.mp h2) c)
  exact zT.vret rfl rfl (by decide +kernel)
theorem k_X9_needBetween : zCas yy_X9_needBetween 3 := ⟨⟨⟨⟨zIn (w := 2106) (by decide +kernel) rfl, zIn (w := 1001) (by decide +kernel) rfl⟩, by decide +kernel⟩, by decide +kernel⟩, zIn (w := 2105) (by decide +kernel) rfl⟩
noncomputable abbrev yy_X3_note : zY := (yX3_note, cX3_note, 2, none, 3, 102)
noncomputable def g_X3_note (M : zM) (nx : Nat) : zM := (g_X4_copyFrom M (35 + 14 * nx) 5)
set_option maxRecDepth 100000 in
theorem c_X3_note (M : zM) (sl : Nat → Option Nat) (ext : List va_E) (nx : Nat) (hx : M 33 1 = nI nx) (hx11 : nx < 11) : zC yy_X3_note 0 0 [.ref 33, .ref 5] (sh_X sl ext) M none (sh_X sl ext) (g_X3_note M nx) := by
  refine zC.of (by decide +kernel) rfl (Nat.le_of_ble_eq_true rfl) ?_
  refine zT.run [(.aload_n 0, 0, 0, 0), (.getfield 13, 1, 2, 1221), (.aload_n 0, 0, 0, 0), (.getfield 18, 1, 1, 1220)] (pe := 8) (ls' := [some (.ref 33), some (.ref 5)]) (st' := [.int (M 33 1), .ref 34]) (M' := M) (by decide +kernel) rfl ?_
  refine zT.aald (n := 11) (k := nx) (q := (35 + 14 * nx)) rfl hx hx11 (by decide) (if_pos hx11) (by decide +kernel) ?_
  refine zT.run [(.aload_n 1, 0, 0, 0)] (pe := 10) (ls' := [some (.ref 33), some (.ref 5)]) (st' := [.ref 5, .ref ((35 + 14 * nx))]) (M' := M) (by decide +kernel) rfl ?_
  refine zT.cV_all (o := (35 + 14 * nx)) (idx := 22) (av := [.ref 5]) (rv := none) (st := []) (S1 := []) (c_X4_copyFrom _ M (35 + 14 * nx) 5 (sub_X_off hx11) sub_X_5_Office) k_X4_copyFrom _ _ (by rw [Nat.zero_add]; exact ((sub_X_off hx11)) 0 (by decide)) rfl rfl (zIn (w := 4160) (by decide +kernel) rfl) (by decide +kernel) (by decide +kernel) (by simp [zRv]) (Nat.le_of_ble_eq_true rfl) rfl ?_
  exact zT.vret (by simp only [g_X3_note]; try rfl) rfl (by decide +kernel)
theorem k_X3_note : zCal yy_X3_note 1 := ⟨⟨⟨⟨zIn (w := 4159) (by decide +kernel) rfl, zIn (w := 1008) (by decide +kernel) rfl⟩, by decide +kernel⟩, by decide +kernel⟩, ⟨zIn (w := 4157) (by decide +kernel) rfl, zIn (w := 4158) (by decide +kernel) rfl⟩⟩
noncomputable abbrev yy_X3_keepNote : zY := (yX3_keepNote, cX3_keepNote, 1, none, 1, 60)
noncomputable def g_X3_keepNote (M : zM)  : zM := (zU (zU M 33 1 (((M 33 1) + 1) - ((M 33 1) + 1) / 11 * 11)) 33 0 (if 10 < ((M 33 0) + 1) then 10 else ((M 33 0) + 1)))
set_option maxRecDepth 100000 in
theorem c_X3_keepNote (M : zM) (sl : Nat → Option Nat) (ext : List va_E)   : zC yy_X3_keepNote 0 0 [.ref 33] (sh_X sl ext) M none (sh_X sl ext) (g_X3_keepNote M) := by
  refine zC.of (by decide +kernel) rfl (Nat.le_of_ble_eq_true rfl) ?_
  refine zT.run [(.aload_n 0, 0, 0, 0), (.aload_n 0, 0, 0, 0), (.getfield 18, 1, 1, 1220), (.iconst 1, 0, 0, 0), (.iadd, 0, 0, 0), (.bipush 11, 0, 0, 0), (.irem, 0, 0, 0), (.putfield 18, 1, 1, 1220), (.aload_n 0, 0, 0, 0), (.aload_n 0, 0, 0, 0), (.getfield 26, 1, 0, 1218), (.iconst 1, 0, 0, 0), (.iadd, 0, 0, 0), (.bipush 10, 0, 0, 0)] (pe := 22) (ls' := [some (.ref 33)]) (st' := [.int 10, .int ((M 33 0) + 1), .ref 33]) (M' := (zU M 33 1 (((M 33 1) + 1) - ((M 33 1) + 1) / 11 * 11))) (by decide +kernel) rfl ?_
  refine zT.mmin (idx := 29) ⟨⟨⟨⟨zIn (w := 4182) (by decide +kernel) rfl, zLm_min.1⟩, zLm_min.2.1⟩, zLm_min.2.2⟩, by decide +kernel, by decide +kernel⟩ (Nat.le_of_ble_eq_true rfl) (by decide +kernel) ?_
  refine zT.run [(.putfield 26, 1, 0, 1218)] (pe := 28) (ls' := [some (.ref 33)]) (st' := []) (M' := (zU (zU M 33 1 (((M 33 1) + 1) - ((M 33 1) + 1) / 11 * 11)) 33 0 (if 10 < ((M 33 0) + 1) then 10 else ((M 33 0) + 1)))) (by decide +kernel) rfl ?_
  exact zT.vret (by simp only [g_X3_keepNote]; try rfl) rfl (by decide +kernel)
theorem k_X3_keepNote : zCal yy_X3_keepNote 0 := ⟨⟨⟨⟨zIn (w := 4181) (by decide +kernel) rfl, zIn (w := 1008) (by decide +kernel) rfl⟩, by decide +kernel⟩, by decide +kernel⟩, ⟨zIn (w := 4179) (by decide +kernel) rfl, zIn (w := 4180) (by decide +kernel) rfl⟩⟩
theorem fr_X3_note (M : zM) (nx o : Nat) (h : o < 35) : g_X3_note M nx o = M o := fr_copy M _ _ o (Or.inl (by omega))
theorem fr_X3_keepNote (M : zM) (o : Nat) (h : o ≠ 33) : g_X3_keepNote M o = M o := by
  unfold g_X3_keepNote
  simp only [zU_ne h]
theorem zMod11 : ∀ n, n < 22 → nI n - nI n / 11 * 11 = nI (n % 11) := by decide +kernel
theorem zNx1 {x : Int32} {n : Nat} (h : x = nI n) (hn : n < 11) : (x + 1) - (x + 1) / 11 * 11 = nI ((n + 1) % 11) := by
  rw [h, show nI n + 1 = nI (n + 1) from nI_1 n]
  exact zMod11 (n + 1) (by omega)
theorem zNx2 {x : Int32} {n : Nat} (h : x = nI n) (hn : n < 11) : ((x + 11) - 1) - ((x + 11) - 1) / 11 * 11 = nI ((n + 10) % 11) := by
  rw [h, show (11 : Int32) = nI 11 from rfl, nI_add, show (1 : Int32) = nI 1 from rfl, pk_sub (by omega), show n + 11 - 1 = n + 10 by omega]
  exact zMod11 (n + 10) (by omega)
noncomputable abbrev yy_X3_takeBack : zY := (yX3_takeBack, cX3_takeBack, 2, (some Jvm.ClassFile.FieldType.boolean), 3, 102)
noncomputable def g_X3_takeBack (M : zM) (nx : Nat) : Int32 × zM := (if (M 33 0) = 0 then (0, M) else (1, (g_X4_copyFrom (zU (zU M 33 0 ((M 33 0) - 1)) 33 1 ((((M 33 1) + 11) - 1) - (((M 33 1) + 11) - 1) / 11 * 11)) 5 (35 + 14 * ((nx + 10) % 11)))))
set_option maxRecDepth 100000 in
theorem c_X3_takeBack (M : zM) (sl : Nat → Option Nat) (ext : List va_E) (nx : Nat) (hx : M 33 1 = nI nx) (hx11 : nx < 11) : zC yy_X3_takeBack 0 0 [.ref 33, .ref 5] (sh_X sl ext) M (some (.int (g_X3_takeBack M nx).1)) (sh_X sl ext) (g_X3_takeBack M nx).2 := by
  refine zC.of (by decide +kernel) rfl (Nat.le_of_ble_eq_true rfl) ?_
  refine zT.run [(.aload_n 0, 0, 0, 0), (.getfield 26, 1, 0, 1218)] (pe := 4) (ls' := [some (.ref 33), some (.ref 5)]) (st' := [.int (M 33 0)]) (M' := M) (by decide +kernel) rfl ?_
  refine zT.zne (tgt := 9) (off := 5) (by decide +kernel) (by decide) (fun (c1 : ¬ (M 33 0) = 0) => ?_) (fun (c1 : (M 33 0) = 0) => ?_)
  · skip
    refine zT.run [(.aload_n 0, 0, 0, 0), (.dup, 0, 0, 0), (.getfield 26, 1, 0, 1218), (.iconst 1, 0, 0, 0), (.isub, 0, 0, 0), (.putfield 26, 1, 0, 1218), (.aload_n 0, 0, 0, 0), (.aload_n 0, 0, 0, 0), (.getfield 18, 1, 1, 1220), (.bipush 11, 0, 0, 0), (.iadd, 0, 0, 0), (.iconst 1, 0, 0, 0), (.isub, 0, 0, 0), (.bipush 11, 0, 0, 0), (.irem, 0, 0, 0), (.putfield 18, 1, 1, 1220), (.aload_n 1, 0, 0, 0), (.aload_n 0, 0, 0, 0), (.getfield 13, 1, 2, 1221), (.aload_n 0, 0, 0, 0), (.getfield 18, 1, 1, 1220)] (pe := 44) (ls' := [some (.ref 33), some (.ref 5)]) (st' := [.int ((((M 33 1) + 11) - 1) - (((M 33 1) + 11) - 1) / 11 * 11), .ref 34, .ref 5]) (M' := (zU (zU M 33 0 ((M 33 0) - 1)) 33 1 ((((M 33 1) + 11) - 1) - (((M 33 1) + 11) - 1) / 11 * 11))) (by decide +kernel) rfl ?_
    refine zT.aald (n := 11) (k := ((nx + 10) % 11)) (q := (35 + 14 * ((nx + 10) % 11))) rfl (zNx2 hx hx11) (Nat.mod_lt _ (by decide)) (by decide) (if_pos (Nat.mod_lt _ (by decide))) (by decide +kernel) ?_
    refine zT.cV_all (o := 5) (idx := 22) (av := [.ref (35 + 14 * ((nx + 10) % 11))]) (rv := none) (st := []) (S1 := []) (c_X4_copyFrom _ (zU (zU M 33 0 ((M 33 0) - 1)) 33 1 ((((M 33 1) + 11) - 1) - (((M 33 1) + 11) - 1) / 11 * 11)) 5 (35 + 14 * ((nx + 10) % 11)) sub_X_5_Office (sub_X_off (Nat.mod_lt _ (by decide)))) k_X4_copyFrom _ _ (by rw [Nat.zero_add]; exact (sub_X_5_Office) 0 (by decide)) rfl rfl (zIn (w := 4160) (by decide +kernel) rfl) (by decide +kernel) (by decide +kernel) (by simp [zRv]) (Nat.le_of_ble_eq_true rfl) rfl ?_
    refine zT.run [(.iconst 1, 0, 0, 0)] (pe := 49) (ls' := [some (.ref 33), some (.ref 5)]) (st' := [.int 1]) (M' := (g_X4_copyFrom (zU (zU M 33 0 ((M 33 0) - 1)) 33 1 ((((M 33 1) + 11) - 1) - (((M 33 1) + 11) - 1) / 11 * 11)) 5 (35 + 14 * ((nx + 10) % 11)))) (by decide +kernel) rfl ?_
    exact zT.iret (ty := Jvm.ClassFile.FieldType.boolean) (by simp only [g_X3_takeBack, if_neg c1]; try rfl) (by simp only [g_X3_takeBack, if_neg c1]; try rfl) rfl rfl (by decide +kernel)
  · skip
    refine zT.run [(.iconst 0, 0, 0, 0)] (pe := 8) (ls' := [some (.ref 33), some (.ref 5)]) (st' := [.int 0]) (M' := M) (by decide +kernel) rfl ?_
    exact zT.iret (ty := Jvm.ClassFile.FieldType.boolean) (by simp only [g_X3_takeBack, if_pos c1]; try rfl) (by simp only [g_X3_takeBack, if_pos c1]; try rfl) rfl rfl (by decide +kernel)
theorem k_X3_takeBack : zCal yy_X3_takeBack 1 := ⟨⟨⟨⟨zIn (w := 5158) (by decide +kernel) rfl, zIn (w := 1008) (by decide +kernel) rfl⟩, by decide +kernel⟩, by decide +kernel⟩, ⟨zIn (w := 5156) (by decide +kernel) rfl, zIn (w := 5157) (by decide +kernel) rfl⟩⟩
noncomputable abbrev yy_X9_settled : zY := (yX9_settled, cX9_settled, 2, (some Jvm.ClassFile.FieldType.int), 2, 80)
noncomputable def d_X9_settled_1 (M : zM) (a : Int32) : zM := (g_X3_keepNote M)
noncomputable def g_X9_settled (M : zM) (a : Int32) : Int32 × zM := (if a < 0 then (a, M) else (a, (d_X9_settled_1 M a)))
set_option maxRecDepth 100000 in
theorem c_X9_settled (M : zM) (sl : Nat → Option Nat) (ext : List va_E) (a : Int32)  : zC yy_X9_settled 0 0 [.ref 0, .int a] (sh_X sl ext) M (some (.int (g_X9_settled M a).1)) (sh_X sl ext) (g_X9_settled M a).2 := by
  refine zC.of (by decide +kernel) rfl (Nat.le_of_ble_eq_true rfl) ?_
  refine zT.run [(.iload_n 1, 0, 0, 0)] (pe := 1) (ls' := [some (.ref 0), some (.int a)]) (st' := [.int a]) (M' := M) (by decide +kernel) rfl ?_
  refine zT.zlt (tgt := 11) (off := 10) (by decide +kernel) (by decide) (fun (c1 : a < 0) => ?_) (fun (c1 : ¬ a < 0) => ?_)
  · skip
    refine zT.run [(.iload_n 1, 0, 0, 0)] (pe := 12) (ls' := [some (.ref 0), some (.int a)]) (st' := [.int a]) (M' := M) (by decide +kernel) rfl ?_
    exact zT.iret (ty := Jvm.ClassFile.FieldType.int) (by simp only [g_X9_settled, if_pos c1]; try rfl) (by simp only [g_X9_settled, if_pos c1]; try rfl) rfl rfl (by decide +kernel)
  · skip
    refine zT.run [(.aload_n 0, 0, 0, 0), (.getfield 34, 7, 4, 2073)] (pe := 8) (ls' := [some (.ref 0), some (.int a)]) (st' := [.ref 33]) (M' := M) (by decide +kernel) rfl ?_
    refine zT.cV_all (o := 33) (idx := 269) (av := []) (rv := none) (st := []) (S1 := []) (c_X3_keepNote M sl ext) k_X3_keepNote _ _ rfl rfl rfl (zIn (w := 4178) (by decide +kernel) rfl) (by decide +kernel) (by decide +kernel) rfl (Nat.le_of_ble_eq_true rfl) rfl ?_
    obtain ⟨v1, hv1⟩ : ∃ v, v = (g_X3_keepNote M) := ⟨_, rfl⟩
    rw [← hv1]
    have ev1 : (d_X9_settled_1 M a) = v1 := by unfold d_X9_settled_1; exact hv1.symm
    refine zT.run [(.iload_n 1, 0, 0, 0)] (pe := 12) (ls' := [some (.ref 0), some (.int a)]) (st' := [.int a]) (M' := v1) (by decide +kernel) rfl ?_
    exact zT.iret (ty := Jvm.ClassFile.FieldType.int) (by unfold g_X9_settled; (try rw [ev1]); first | done | rw [if_neg c1] | rfl) (by unfold g_X9_settled; (try rw [ev1]); first | done | rw [if_neg c1] | rfl) rfl rfl (by decide +kernel)
theorem k_X9_settled : zCal yy_X9_settled 1 := ⟨⟨⟨⟨zIn (w := 4177) (by decide +kernel) rfl, zIn (w := 1001) (by decide +kernel) rfl⟩, by decide +kernel⟩, by decide +kernel⟩, ⟨zIn (w := 4176) (by decide +kernel) rfl, zIn (w := 17) (by decide +kernel) rfl⟩⟩
noncomputable abbrev yy_X9_call : zY := (yX9_call, cX9_call, 2, (some Jvm.ClassFile.FieldType.int), 10, 221)
noncomputable def d_X9_call_1 (M : zM) (n : Nat) (nx : Nat) (r : Nat) : zM := (g_X3_note M nx)
noncomputable def d_X9_call_2 (M : zM) (n : Nat) (nx : Nat) (r : Nat) : Int32 × zM := (g_X9_settled (zPs (d_X9_call_1 M n nx r) 5 14 (g_X4_callBallot (zPl (d_X9_call_1 M n nx r) 5) n r).2) (g_X4_callBallot (zPl (d_X9_call_1 M n nx r) 5) n r).1)
noncomputable def g_X9_call (M : zM) (n : Nat) (nx : Nat) (r : Nat) : Int32 × zM := ((d_X9_call_2 M n nx r).1, (d_X9_call_2 M n nx r).2)
set_option maxRecDepth 100000 in
theorem c_X9_call (M : zM) (sl : Nat → Option Nat) (ext : List va_E) (n : Nat) (nx : Nat) (r : Nat) (hn : M 5 0 = nI n) (h9 : n ≤ 9) (hx : M 33 1 = nI nx) (hx11 : nx < 11) (h_r : r < n) : zC yy_X9_call 0 0 [.ref 0, .int (nI r)] (sh_X sl ext) M (some (.int (g_X9_call M n nx r).1)) (sh_X sl ext) (g_X9_call M n nx r).2 := by
  refine zC.of (by decide +kernel) rfl (Nat.le_of_ble_eq_true rfl) ?_
  refine zT.run [(.aload_n 0, 0, 0, 0), (.iload_n 1, 0, 0, 0)] (pe := 2) (ls' := [some (.ref 0), some (.int (nI r))]) (st' := [.int (nI r), .ref 0]) (M' := M) (by decide +kernel) rfl ?_
  refine zT.cV_own (o := 0) (idx := 85) (av := [.int (nI r)]) (rv := none) (st := []) (S1 := []) (c_X9_needReplica_ok M sl ext n r hn h9 h_r) k_X9_needReplica _ _ rfl rfl rfl (zIn (w := 4197) (by decide +kernel) rfl) (by decide +kernel) (by decide +kernel) rfl (Nat.le_of_ble_eq_true rfl) rfl ?_
  refine zT.run [(.aload_n 0, 0, 0, 0), (.getfield 34, 7, 4, 2073), (.aload_n 0, 0, 0, 0), (.getfield 24, 7, 2, 2071)] (pe := 13) (ls' := [some (.ref 0), some (.int (nI r))]) (st' := [.ref 5, .ref 33]) (M' := M) (by decide +kernel) rfl ?_
  refine zT.cV_all (o := 33) (idx := 75) (av := [.ref 5]) (rv := none) (st := []) (S1 := []) (c_X3_note M sl ext nx hx hx11) k_X3_note _ _ rfl rfl rfl (zIn (w := 4156) (by decide +kernel) rfl) (by decide +kernel) (by decide +kernel) rfl (Nat.le_of_ble_eq_true rfl) rfl ?_
  obtain ⟨v1, hv1⟩ : ∃ v, v = (g_X3_note M nx) := ⟨_, rfl⟩
  rw [← hv1]
  have ev1 : (d_X9_call_1 M n nx r) = v1 := by unfold d_X9_call_1; exact hv1.symm
  have fv1 : ∀ o, o < 35 → v1 o = M o := fun o ho => by rw [hv1]; exact fr_X3_note M nx o ho
  refine zT.run [(.aload_n 0, 0, 0, 0), (.aload_n 0, 0, 0, 0), (.getfield 24, 7, 2, 2071), (.iload_n 1, 0, 0, 0)] (pe := 22) (ls' := [some (.ref 0), some (.int (nI r))]) (st' := [.int (nI r), .ref 5, .ref 0]) (M' := v1) (by decide +kernel) rfl ?_
  refine zT.cV_sub 5 (o := 0) (idx := 57) (av := [.int (nI r)]) (rv := (some (.int (g_X4_callBallot (zPl v1 5) n r).1))) (st := [.ref 0]) (S1 := [.int (g_X4_callBallot (zPl v1 5) n r).1, .ref 0]) (c_X4_callBallot (zPl v1 5) n r ((congrFun (fv1 5 (by decide)) 0).trans hn) h9 (by omega)) sub_X_5_Office k_X4_callBallot _ _ rfl rfl rfl (zIn (w := 2027) (by decide +kernel) rfl) (by decide +kernel) (by decide +kernel) rfl (Nat.le_of_ble_eq_true rfl) rfl ?_
  refine zT.cV_all (o := 0) (idx := 82) (av := [.int (g_X4_callBallot (zPl v1 5) n r).1]) (rv := (some (.int (g_X9_settled (zPs v1 5 14 (g_X4_callBallot (zPl v1 5) n r).2) (g_X4_callBallot (zPl v1 5) n r).1).1))) (st := []) (S1 := [.int (g_X9_settled (zPs v1 5 14 (g_X4_callBallot (zPl v1 5) n r).2) (g_X4_callBallot (zPl v1 5) n r).1).1]) (c_X9_settled (zPs v1 5 14 (g_X4_callBallot (zPl v1 5) n r).2) sl ext (g_X4_callBallot (zPl v1 5) n r).1) k_X9_settled _ _ rfl rfl rfl (zIn (w := 4174) (by decide +kernel) rfl) (by decide +kernel) (by decide +kernel) rfl (Nat.le_of_ble_eq_true rfl) rfl ?_
  obtain ⟨v2, hv2⟩ : ∃ v, v = (g_X9_settled (zPs v1 5 14 (g_X4_callBallot (zPl v1 5) n r).2) (g_X4_callBallot (zPl v1 5) n r).1) := ⟨_, rfl⟩
  rw [← hv2]
  have ev2 : (d_X9_call_2 M n nx r) = v2 := by unfold d_X9_call_2; (try rw [ev1]); exact hv2.symm
  exact zT.iret (ty := Jvm.ClassFile.FieldType.int) (by unfold g_X9_call; (try rw [ev1]); (try rw [ev2]); first | done | rw [rfl] | rfl) (by unfold g_X9_call; (try rw [ev1]); (try rw [ev2]); first | done | rw [rfl] | rfl) rfl rfl (by decide +kernel)
theorem k_X9_call : zCal yy_X9_call 1 := ⟨⟨⟨⟨zIn (w := 4232) (by decide +kernel) rfl, zIn (w := 1001) (by decide +kernel) rfl⟩, by decide +kernel⟩, by decide +kernel⟩, ⟨zIn (w := 4230) (by decide +kernel) rfl, zIn (w := 4231) (by decide +kernel) rfl⟩⟩
noncomputable abbrev yy_X9_seal : zY := (yX9_seal, cX9_seal, 3, (some Jvm.ClassFile.FieldType.int), 10, 221)
noncomputable def d_X9_seal_1 (M : zM) (n : Nat) (nx : Nat) (r : Nat) (x : Int32) : zM := (g_X3_note M nx)
noncomputable def d_X9_seal_2 (M : zM) (n : Nat) (nx : Nat) (r : Nat) (x : Int32) : Int32 × zM := (g_X9_settled (zPs (d_X9_seal_1 M n nx r x) 5 14 (g_X4_sealWith (zPl (d_X9_seal_1 M n nx r x) 5) r x).2) (g_X4_sealWith (zPl (d_X9_seal_1 M n nx r x) 5) r x).1)
noncomputable def g_X9_seal (M : zM) (n : Nat) (nx : Nat) (r : Nat) (x : Int32) : Int32 × zM := ((d_X9_seal_2 M n nx r x).1, (d_X9_seal_2 M n nx r x).2)
set_option maxRecDepth 100000 in
theorem c_X9_seal (M : zM) (sl : Nat → Option Nat) (ext : List va_E) (n : Nat) (nx : Nat) (r : Nat) (x : Int32) (hn : M 5 0 = nI n) (h9 : n ≤ 9) (hc : zHc (zPl M 5)) (hx : M 33 1 = nI nx) (hx11 : nx < 11) (h_r : r < n) (hx1 : ¬ x < 0) (hx2 : x ≤ 65535) : zC yy_X9_seal 0 0 [.ref 0, .int (nI r), .int x] (sh_X sl ext) M (some (.int (g_X9_seal M n nx r x).1)) (sh_X sl ext) (g_X9_seal M n nx r x).2 := by
  refine zC.of (by decide +kernel) rfl (Nat.le_of_ble_eq_true rfl) ?_
  refine zT.run [(.aload_n 0, 0, 0, 0), (.iload_n 1, 0, 0, 0)] (pe := 2) (ls' := [some (.ref 0), some (.int (nI r)), some (.int x)]) (st' := [.int (nI r), .ref 0]) (M' := M) (by decide +kernel) rfl ?_
  refine zT.cV_own (o := 0) (idx := 85) (av := [.int (nI r)]) (rv := none) (st := []) (S1 := []) (c_X9_needReplica_ok M sl ext n r hn h9 h_r) k_X9_needReplica _ _ rfl rfl rfl (zIn (w := 4197) (by decide +kernel) rfl) (by decide +kernel) (by decide +kernel) rfl (Nat.le_of_ble_eq_true rfl) rfl ?_
  refine zT.run [(.iload_n 2, 0, 0, 0), (.iconst 4, 0, 0, 0)] (pe := 7) (ls' := [some (.ref 0), some (.int (nI r)), some (.int x)]) (st' := [.int 4, .int x]) (M' := M) (by decide +kernel) rfl ?_
  refine zT.cS_nil (idx := 89) (av := [.int x, .int (nI 4)]) (rv := none) (st := []) (S1 := []) (c_X9_needKind_ok x 4 (by decide) hx1 (Int32.not_lt.mpr hx2)) k_X9_needKind rfl (zIn (w := 5000) (by decide +kernel) rfl) (by decide +kernel) (by decide +kernel) rfl (Nat.le_of_ble_eq_true rfl) rfl ?_
  refine zT.run [(.aload_n 0, 0, 0, 0), (.getfield 34, 7, 4, 2073), (.aload_n 0, 0, 0, 0), (.getfield 24, 7, 2, 2071)] (pe := 18) (ls' := [some (.ref 0), some (.int (nI r)), some (.int x)]) (st' := [.ref 5, .ref 33]) (M' := M) (by decide +kernel) rfl ?_
  refine zT.cV_all (o := 33) (idx := 75) (av := [.ref 5]) (rv := none) (st := []) (S1 := []) (c_X3_note M sl ext nx hx hx11) k_X3_note _ _ rfl rfl rfl (zIn (w := 4156) (by decide +kernel) rfl) (by decide +kernel) (by decide +kernel) rfl (Nat.le_of_ble_eq_true rfl) rfl ?_
  obtain ⟨v1, hv1⟩ : ∃ v, v = (g_X3_note M nx) := ⟨_, rfl⟩
  rw [← hv1]
  have ev1 : (d_X9_seal_1 M n nx r x) = v1 := by unfold d_X9_seal_1; exact hv1.symm
  have fv1 : ∀ o, o < 35 → v1 o = M o := fun o ho => by rw [hv1]; exact fr_X3_note M nx o ho
  refine zT.run [(.aload_n 0, 0, 0, 0), (.aload_n 0, 0, 0, 0), (.getfield 24, 7, 2, 2071), (.iload_n 1, 0, 0, 0), (.iload_n 2, 0, 0, 0)] (pe := 28) (ls' := [some (.ref 0), some (.int (nI r)), some (.int x)]) (st' := [.int x, .int (nI r), .ref 5, .ref 0]) (M' := v1) (by decide +kernel) rfl ?_
  refine zT.cV_sub 5 (o := 0) (idx := 92) (av := [.int (nI r), .int x]) (rv := (some (.int (g_X4_sealWith (zPl v1 5) r x).1))) (st := [.ref 0]) (S1 := [.int (g_X4_sealWith (zPl v1 5) r x).1, .ref 0]) (c_X4_sealWith (zPl v1 5) r x (zHc.of (M := zPl M 5) (fv1 12 (by decide)) hc) (by omega)) sub_X_5_Office k_X4_sealWith _ _ rfl rfl rfl (zIn (w := 5055) (by decide +kernel) rfl) (by decide +kernel) (by decide +kernel) rfl (Nat.le_of_ble_eq_true rfl) rfl ?_
  refine zT.cV_all (o := 0) (idx := 82) (av := [.int (g_X4_sealWith (zPl v1 5) r x).1]) (rv := (some (.int (g_X9_settled (zPs v1 5 14 (g_X4_sealWith (zPl v1 5) r x).2) (g_X4_sealWith (zPl v1 5) r x).1).1))) (st := []) (S1 := [.int (g_X9_settled (zPs v1 5 14 (g_X4_sealWith (zPl v1 5) r x).2) (g_X4_sealWith (zPl v1 5) r x).1).1]) (c_X9_settled (zPs v1 5 14 (g_X4_sealWith (zPl v1 5) r x).2) sl ext (g_X4_sealWith (zPl v1 5) r x).1) k_X9_settled _ _ rfl rfl rfl (zIn (w := 4174) (by decide +kernel) rfl) (by decide +kernel) (by decide +kernel) rfl (Nat.le_of_ble_eq_true rfl) rfl ?_
  obtain ⟨v2, hv2⟩ : ∃ v, v = (g_X9_settled (zPs v1 5 14 (g_X4_sealWith (zPl v1 5) r x).2) (g_X4_sealWith (zPl v1 5) r x).1) := ⟨_, rfl⟩
  rw [← hv2]
  have ev2 : (d_X9_seal_2 M n nx r x) = v2 := by unfold d_X9_seal_2; (try rw [ev1]); exact hv2.symm
  exact zT.iret (ty := Jvm.ClassFile.FieldType.int) (by unfold g_X9_seal; (try rw [ev1]); (try rw [ev2]); first | done | rw [rfl] | rfl) (by unfold g_X9_seal; (try rw [ev1]); (try rw [ev2]); first | done | rw [rfl] | rfl) rfl rfl (by decide +kernel)
theorem k_X9_seal : zCal yy_X9_seal 2 := ⟨⟨⟨⟨zIn (w := 5054) (by decide +kernel) rfl, zIn (w := 1001) (by decide +kernel) rfl⟩, by decide +kernel⟩, by decide +kernel⟩, ⟨zIn (w := 5052) (by decide +kernel) rfl, zIn (w := 5053) (by decide +kernel) rfl⟩⟩
noncomputable abbrev yy_X9_vote : zY := (yX9_vote, cX9_vote, 4, (some Jvm.ClassFile.FieldType.int), 10, 221)
noncomputable def d_X9_vote_1 (M : zM) (n : Nat) (nx : Nat) (r : Nat) (cd : Nat) (x : Int32) : zM := (g_X3_note M nx)
noncomputable def d_X9_vote_2 (M : zM) (n : Nat) (nx : Nat) (r : Nat) (cd : Nat) (x : Int32) : Int32 × zM := (g_X9_settled (zPs (d_X9_vote_1 M n nx r cd x) 5 14 (g_X4_sealVote (zPl (d_X9_vote_1 M n nx r cd x) 5) r (nI cd) x).2) (g_X4_sealVote (zPl (d_X9_vote_1 M n nx r cd x) 5) r (nI cd) x).1)
noncomputable def g_X9_vote (M : zM) (n : Nat) (nx : Nat) (r : Nat) (cd : Nat) (x : Int32) : Int32 × zM := ((d_X9_vote_2 M n nx r cd x).1, (d_X9_vote_2 M n nx r cd x).2)
set_option maxRecDepth 100000 in
theorem c_X9_vote (M : zM) (sl : Nat → Option Nat) (ext : List va_E) (n : Nat) (nx : Nat) (r : Nat) (cd : Nat) (x : Int32) (hn : M 5 0 = nI n) (h9 : n ≤ 9) (hc : zHc (zPl M 5)) (hx : M 33 1 = nI nx) (hx11 : nx < 11) (h_r : r < n) (h_cd : cd < n) (hx1 : ¬ x < 0) (hx2 : x ≤ 999) : zC yy_X9_vote 0 0 [.ref 0, .int (nI r), .int (nI cd), .int x] (sh_X sl ext) M (some (.int (g_X9_vote M n nx r cd x).1)) (sh_X sl ext) (g_X9_vote M n nx r cd x).2 := by
  refine zC.of (by decide +kernel) rfl (Nat.le_of_ble_eq_true rfl) ?_
  refine zT.run [(.aload_n 0, 0, 0, 0), (.iload_n 1, 0, 0, 0)] (pe := 2) (ls' := [some (.ref 0), some (.int (nI r)), some (.int (nI cd)), some (.int x)]) (st' := [.int (nI r), .ref 0]) (M' := M) (by decide +kernel) rfl ?_
  refine zT.cV_own (o := 0) (idx := 85) (av := [.int (nI r)]) (rv := none) (st := []) (S1 := []) (c_X9_needReplica_ok M sl ext n r hn h9 h_r) k_X9_needReplica _ _ rfl rfl rfl (zIn (w := 4197) (by decide +kernel) rfl) (by decide +kernel) (by decide +kernel) rfl (Nat.le_of_ble_eq_true rfl) rfl ?_
  refine zT.run [(.aload_n 0, 0, 0, 0), (.iload_n 2, 0, 0, 0)] (pe := 7) (ls' := [some (.ref 0), some (.int (nI r)), some (.int (nI cd)), some (.int x)]) (st' := [.int (nI cd), .ref 0]) (M' := M) (by decide +kernel) rfl ?_
  refine zT.cV_own (o := 0) (idx := 85) (av := [.int (nI cd)]) (rv := none) (st := []) (S1 := []) (c_X9_needReplica_ok M sl ext n cd hn h9 h_cd) k_X9_needReplica _ _ rfl rfl rfl (zIn (w := 4197) (by decide +kernel) rfl) (by decide +kernel) (by decide +kernel) rfl (Nat.le_of_ble_eq_true rfl) rfl ?_
  refine zT.run [(.iload_n 3, 0, 0, 0), (.iconst 3, 0, 0, 0)] (pe := 12) (ls' := [some (.ref 0), some (.int (nI r)), some (.int (nI cd)), some (.int x)]) (st' := [.int 3, .int x]) (M' := M) (by decide +kernel) rfl ?_
  refine zT.cS_nil (idx := 89) (av := [.int x, .int (nI 3)]) (rv := none) (st := []) (S1 := []) (c_X9_needKind_ok x 3 (by decide) hx1 (Int32.not_lt.mpr hx2)) k_X9_needKind rfl (zIn (w := 5000) (by decide +kernel) rfl) (by decide +kernel) (by decide +kernel) rfl (Nat.le_of_ble_eq_true rfl) rfl ?_
  refine zT.run [(.aload_n 0, 0, 0, 0), (.getfield 34, 7, 4, 2073), (.aload_n 0, 0, 0, 0), (.getfield 24, 7, 2, 2071)] (pe := 23) (ls' := [some (.ref 0), some (.int (nI r)), some (.int (nI cd)), some (.int x)]) (st' := [.ref 5, .ref 33]) (M' := M) (by decide +kernel) rfl ?_
  refine zT.cV_all (o := 33) (idx := 75) (av := [.ref 5]) (rv := none) (st := []) (S1 := []) (c_X3_note M sl ext nx hx hx11) k_X3_note _ _ rfl rfl rfl (zIn (w := 4156) (by decide +kernel) rfl) (by decide +kernel) (by decide +kernel) rfl (Nat.le_of_ble_eq_true rfl) rfl ?_
  obtain ⟨v1, hv1⟩ : ∃ v, v = (g_X3_note M nx) := ⟨_, rfl⟩
  rw [← hv1]
  have ev1 : (d_X9_vote_1 M n nx r cd x) = v1 := by unfold d_X9_vote_1; exact hv1.symm
  have fv1 : ∀ o, o < 35 → v1 o = M o := fun o ho => by rw [hv1]; exact fr_X3_note M nx o ho
  refine zT.run [(.aload_n 0, 0, 0, 0), (.aload_n 0, 0, 0, 0), (.getfield 24, 7, 2, 2071), (.iload_n 1, 0, 0, 0), (.iload_n 2, 0, 0, 0), (.iload_n 3, 0, 0, 0)] (pe := 34) (ls' := [some (.ref 0), some (.int (nI r)), some (.int (nI cd)), some (.int x)]) (st' := [.int x, .int (nI cd), .int (nI r), .ref 5, .ref 0]) (M' := v1) (by decide +kernel) rfl ?_
  refine zT.cV_sub 5 (o := 0) (idx := 61) (av := [.int (nI r), .int (nI cd), .int x]) (rv := (some (.int (g_X4_sealVote (zPl v1 5) r (nI cd) x).1))) (st := [.ref 0]) (S1 := [.int (g_X4_sealVote (zPl v1 5) r (nI cd) x).1, .ref 0]) (c_X4_sealVote (zPl v1 5) r (nI cd) x (zHc.of (M := zPl M 5) (fv1 12 (by decide)) hc) (by omega)) sub_X_5_Office k_X4_sealVote _ _ rfl rfl rfl (zIn (w := 2043) (by decide +kernel) rfl) (by decide +kernel) (by decide +kernel) rfl (Nat.le_of_ble_eq_true rfl) rfl ?_
  refine zT.cV_all (o := 0) (idx := 82) (av := [.int (g_X4_sealVote (zPl v1 5) r (nI cd) x).1]) (rv := (some (.int (g_X9_settled (zPs v1 5 14 (g_X4_sealVote (zPl v1 5) r (nI cd) x).2) (g_X4_sealVote (zPl v1 5) r (nI cd) x).1).1))) (st := []) (S1 := [.int (g_X9_settled (zPs v1 5 14 (g_X4_sealVote (zPl v1 5) r (nI cd) x).2) (g_X4_sealVote (zPl v1 5) r (nI cd) x).1).1]) (c_X9_settled (zPs v1 5 14 (g_X4_sealVote (zPl v1 5) r (nI cd) x).2) sl ext (g_X4_sealVote (zPl v1 5) r (nI cd) x).1) k_X9_settled _ _ rfl rfl rfl (zIn (w := 4174) (by decide +kernel) rfl) (by decide +kernel) (by decide +kernel) rfl (Nat.le_of_ble_eq_true rfl) rfl ?_
  obtain ⟨v2, hv2⟩ : ∃ v, v = (g_X9_settled (zPs v1 5 14 (g_X4_sealVote (zPl v1 5) r (nI cd) x).2) (g_X4_sealVote (zPl v1 5) r (nI cd) x).1) := ⟨_, rfl⟩
  rw [← hv2]
  have ev2 : (d_X9_vote_2 M n nx r cd x) = v2 := by unfold d_X9_vote_2; (try rw [ev1]); exact hv2.symm
  exact zT.iret (ty := Jvm.ClassFile.FieldType.int) (by unfold g_X9_vote; (try rw [ev1]); (try rw [ev2]); first | done | rw [rfl] | rfl) (by unfold g_X9_vote; (try rw [ev1]); (try rw [ev2]); first | done | rw [rfl] | rfl) rfl rfl (by decide +kernel)
theorem k_X9_vote : zCal yy_X9_vote 3 := ⟨⟨⟨⟨zIn (w := 4239) (by decide +kernel) rfl, zIn (w := 1001) (by decide +kernel) rfl⟩, by decide +kernel⟩, by decide +kernel⟩, ⟨zIn (w := 4237) (by decide +kernel) rfl, zIn (w := 4238) (by decide +kernel) rfl⟩⟩
noncomputable abbrev yy_X9_close : zY := (yX9_close, cX9_close, 1, (some Jvm.ClassFile.FieldType.int), 4, 123)
noncomputable def d_X9_close_1 (M : zM) (nx : Nat) : zM := (g_X3_note M nx)
noncomputable def d_X9_close_2 (M : zM) (nx : Nat) : Int32 × zM := (g_X9_settled (zPs (d_X9_close_1 M nx) 5 14 (g_X4_closeSealing (zPl (d_X9_close_1 M nx) 5)).2) (g_X4_closeSealing (zPl (d_X9_close_1 M nx) 5)).1)
noncomputable def g_X9_close (M : zM) (nx : Nat) : Int32 × zM := ((d_X9_close_2 M nx).1, (d_X9_close_2 M nx).2)
set_option maxRecDepth 100000 in
theorem c_X9_close (M : zM) (sl : Nat → Option Nat) (ext : List va_E) (nx : Nat) (hx : M 33 1 = nI nx) (hx11 : nx < 11) : zC yy_X9_close 0 0 [.ref 0] (sh_X sl ext) M (some (.int (g_X9_close M nx).1)) (sh_X sl ext) (g_X9_close M nx).2 := by
  refine zC.of (by decide +kernel) rfl (Nat.le_of_ble_eq_true rfl) ?_
  refine zT.run [(.aload_n 0, 0, 0, 0), (.getfield 34, 7, 4, 2073), (.aload_n 0, 0, 0, 0), (.getfield 24, 7, 2, 2071)] (pe := 8) (ls' := [some (.ref 0)]) (st' := [.ref 5, .ref 33]) (M' := M) (by decide +kernel) rfl ?_
  refine zT.cV_all (o := 33) (idx := 75) (av := [.ref 5]) (rv := none) (st := []) (S1 := []) (c_X3_note M sl ext nx hx hx11) k_X3_note _ _ rfl rfl rfl (zIn (w := 4156) (by decide +kernel) rfl) (by decide +kernel) (by decide +kernel) rfl (Nat.le_of_ble_eq_true rfl) rfl ?_
  obtain ⟨v1, hv1⟩ : ∃ v, v = (g_X3_note M nx) := ⟨_, rfl⟩
  rw [← hv1]
  have ev1 : (d_X9_close_1 M nx) = v1 := by unfold d_X9_close_1; exact hv1.symm
  have fv1 : ∀ o, o < 35 → v1 o = M o := fun o ho => by rw [hv1]; exact fr_X3_note M nx o ho
  refine zT.run [(.aload_n 0, 0, 0, 0), (.aload_n 0, 0, 0, 0), (.getfield 24, 7, 2, 2071)] (pe := 16) (ls' := [some (.ref 0)]) (st' := [.ref 5, .ref 0]) (M' := v1) (by decide +kernel) rfl ?_
  refine zT.cV_sub 5 (o := 0) (idx := 96) (av := []) (rv := (some (.int (g_X4_closeSealing (zPl v1 5)).1))) (st := [.ref 0]) (S1 := [.int (g_X4_closeSealing (zPl v1 5)).1, .ref 0]) (c_X4_closeSealing (zPl v1 5)) sub_X_5_Office k_X4_closeSealing _ _ rfl rfl rfl (zIn (w := 5008) (by decide +kernel) rfl) (by decide +kernel) (by decide +kernel) rfl (Nat.le_of_ble_eq_true rfl) rfl ?_
  refine zT.cV_all (o := 0) (idx := 82) (av := [.int (g_X4_closeSealing (zPl v1 5)).1]) (rv := (some (.int (g_X9_settled (zPs v1 5 14 (g_X4_closeSealing (zPl v1 5)).2) (g_X4_closeSealing (zPl v1 5)).1).1))) (st := []) (S1 := [.int (g_X9_settled (zPs v1 5 14 (g_X4_closeSealing (zPl v1 5)).2) (g_X4_closeSealing (zPl v1 5)).1).1]) (c_X9_settled (zPs v1 5 14 (g_X4_closeSealing (zPl v1 5)).2) sl ext (g_X4_closeSealing (zPl v1 5)).1) k_X9_settled _ _ rfl rfl rfl (zIn (w := 4174) (by decide +kernel) rfl) (by decide +kernel) (by decide +kernel) rfl (Nat.le_of_ble_eq_true rfl) rfl ?_
  obtain ⟨v2, hv2⟩ : ∃ v, v = (g_X9_settled (zPs v1 5 14 (g_X4_closeSealing (zPl v1 5)).2) (g_X4_closeSealing (zPl v1 5)).1) := ⟨_, rfl⟩
  rw [← hv2]
  have ev2 : (d_X9_close_2 M nx) = v2 := by unfold d_X9_close_2; (try rw [ev1]); exact hv2.symm
  exact zT.iret (ty := Jvm.ClassFile.FieldType.int) (by unfold g_X9_close; (try rw [ev1]); (try rw [ev2]); first | done | rw [rfl] | rfl) (by unfold g_X9_close; (try rw [ev1]); (try rw [ev2]); first | done | rw [rfl] | rfl) rfl rfl (by decide +kernel)
theorem k_X9_close : zCal yy_X9_close 0 := ⟨⟨⟨⟨zIn (w := 5007) (by decide +kernel) rfl, zIn (w := 1001) (by decide +kernel) rfl⟩, by decide +kernel⟩, by decide +kernel⟩, ⟨zIn (w := 5005) (by decide +kernel) rfl, zIn (w := 5006) (by decide +kernel) rfl⟩⟩
noncomputable abbrev yy_X9_breakSeal : zY := (yX9_breakSeal, cX9_breakSeal, 4, (some Jvm.ClassFile.FieldType.int), 10, 221)
noncomputable def d_X9_breakSeal_1 (M : zM) (n : Nat) (nx : Nat) (r : Nat) (cd : Nat) (x : Int32) : zM := (g_X3_note M nx)
noncomputable def d_X9_breakSeal_2 (M : zM) (n : Nat) (nx : Nat) (r : Nat) (cd : Nat) (x : Int32) : Int32 × zM := (g_X9_settled (zPs (d_X9_breakSeal_1 M n nx r cd x) 5 14 (g_X4_breakVote (zPl (d_X9_breakSeal_1 M n nx r cd x) 5) r cd x).2) (g_X4_breakVote (zPl (d_X9_breakSeal_1 M n nx r cd x) 5) r cd x).1)
noncomputable def g_X9_breakSeal (M : zM) (n : Nat) (nx : Nat) (r : Nat) (cd : Nat) (x : Int32) : Int32 × zM := ((d_X9_breakSeal_2 M n nx r cd x).1, (d_X9_breakSeal_2 M n nx r cd x).2)
set_option maxRecDepth 100000 in
theorem c_X9_breakSeal (M : zM) (sl : Nat → Option Nat) (ext : List va_E) (n : Nat) (nx : Nat) (r : Nat) (cd : Nat) (x : Int32) (hn : M 5 0 = nI n) (h9 : n ≤ 9) (hc : zHc (zPl M 5)) (hx : M 33 1 = nI nx) (hx11 : nx < 11) (h_r : r < n) (h_cd : cd < n) (hx1 : ¬ x < 0) (hx2 : x ≤ 999) : zC yy_X9_breakSeal 0 0 [.ref 0, .int (nI r), .int (nI cd), .int x] (sh_X sl ext) M (some (.int (g_X9_breakSeal M n nx r cd x).1)) (sh_X sl ext) (g_X9_breakSeal M n nx r cd x).2 := by
  refine zC.of (by decide +kernel) rfl (Nat.le_of_ble_eq_true rfl) ?_
  refine zT.run [(.aload_n 0, 0, 0, 0), (.iload_n 1, 0, 0, 0)] (pe := 2) (ls' := [some (.ref 0), some (.int (nI r)), some (.int (nI cd)), some (.int x)]) (st' := [.int (nI r), .ref 0]) (M' := M) (by decide +kernel) rfl ?_
  refine zT.cV_own (o := 0) (idx := 85) (av := [.int (nI r)]) (rv := none) (st := []) (S1 := []) (c_X9_needReplica_ok M sl ext n r hn h9 h_r) k_X9_needReplica _ _ rfl rfl rfl (zIn (w := 4197) (by decide +kernel) rfl) (by decide +kernel) (by decide +kernel) rfl (Nat.le_of_ble_eq_true rfl) rfl ?_
  refine zT.run [(.aload_n 0, 0, 0, 0), (.iload_n 2, 0, 0, 0)] (pe := 7) (ls' := [some (.ref 0), some (.int (nI r)), some (.int (nI cd)), some (.int x)]) (st' := [.int (nI cd), .ref 0]) (M' := M) (by decide +kernel) rfl ?_
  refine zT.cV_own (o := 0) (idx := 85) (av := [.int (nI cd)]) (rv := none) (st := []) (S1 := []) (c_X9_needReplica_ok M sl ext n cd hn h9 h_cd) k_X9_needReplica _ _ rfl rfl rfl (zIn (w := 4197) (by decide +kernel) rfl) (by decide +kernel) (by decide +kernel) rfl (Nat.le_of_ble_eq_true rfl) rfl ?_
  refine zT.run [(.iload_n 3, 0, 0, 0), (.iconst 3, 0, 0, 0)] (pe := 12) (ls' := [some (.ref 0), some (.int (nI r)), some (.int (nI cd)), some (.int x)]) (st' := [.int 3, .int x]) (M' := M) (by decide +kernel) rfl ?_
  refine zT.cS_nil (idx := 89) (av := [.int x, .int (nI 3)]) (rv := none) (st := []) (S1 := []) (c_X9_needKind_ok x 3 (by decide) hx1 (Int32.not_lt.mpr hx2)) k_X9_needKind rfl (zIn (w := 5000) (by decide +kernel) rfl) (by decide +kernel) (by decide +kernel) rfl (Nat.le_of_ble_eq_true rfl) rfl ?_
  refine zT.run [(.aload_n 0, 0, 0, 0), (.getfield 34, 7, 4, 2073), (.aload_n 0, 0, 0, 0), (.getfield 24, 7, 2, 2071)] (pe := 23) (ls' := [some (.ref 0), some (.int (nI r)), some (.int (nI cd)), some (.int x)]) (st' := [.ref 5, .ref 33]) (M' := M) (by decide +kernel) rfl ?_
  refine zT.cV_all (o := 33) (idx := 75) (av := [.ref 5]) (rv := none) (st := []) (S1 := []) (c_X3_note M sl ext nx hx hx11) k_X3_note _ _ rfl rfl rfl (zIn (w := 4156) (by decide +kernel) rfl) (by decide +kernel) (by decide +kernel) rfl (Nat.le_of_ble_eq_true rfl) rfl ?_
  obtain ⟨v1, hv1⟩ : ∃ v, v = (g_X3_note M nx) := ⟨_, rfl⟩
  rw [← hv1]
  have ev1 : (d_X9_breakSeal_1 M n nx r cd x) = v1 := by unfold d_X9_breakSeal_1; exact hv1.symm
  have fv1 : ∀ o, o < 35 → v1 o = M o := fun o ho => by rw [hv1]; exact fr_X3_note M nx o ho
  refine zT.run [(.aload_n 0, 0, 0, 0), (.aload_n 0, 0, 0, 0), (.getfield 24, 7, 2, 2071), (.iload_n 1, 0, 0, 0), (.iload_n 2, 0, 0, 0), (.iload_n 3, 0, 0, 0)] (pe := 34) (ls' := [some (.ref 0), some (.int (nI r)), some (.int (nI cd)), some (.int x)]) (st' := [.int x, .int (nI cd), .int (nI r), .ref 5, .ref 0]) (M' := v1) (by decide +kernel) rfl ?_
  refine zT.cV_sub 5 (o := 0) (idx := 100) (av := [.int (nI r), .int (nI cd), .int x]) (rv := (some (.int (g_X4_breakVote (zPl v1 5) r cd x).1))) (st := [.ref 0]) (S1 := [.int (g_X4_breakVote (zPl v1 5) r cd x).1, .ref 0]) (c_X4_breakVote (zPl v1 5) r cd x (zHc.of (M := zPl M 5) (fv1 12 (by decide)) hc) (by omega) (by omega)) sub_X_5_Office k_X4_breakVote _ _ rfl rfl rfl (zIn (w := 5016) (by decide +kernel) rfl) (by decide +kernel) (by decide +kernel) rfl (Nat.le_of_ble_eq_true rfl) rfl ?_
  refine zT.cV_all (o := 0) (idx := 82) (av := [.int (g_X4_breakVote (zPl v1 5) r cd x).1]) (rv := (some (.int (g_X9_settled (zPs v1 5 14 (g_X4_breakVote (zPl v1 5) r cd x).2) (g_X4_breakVote (zPl v1 5) r cd x).1).1))) (st := []) (S1 := [.int (g_X9_settled (zPs v1 5 14 (g_X4_breakVote (zPl v1 5) r cd x).2) (g_X4_breakVote (zPl v1 5) r cd x).1).1]) (c_X9_settled (zPs v1 5 14 (g_X4_breakVote (zPl v1 5) r cd x).2) sl ext (g_X4_breakVote (zPl v1 5) r cd x).1) k_X9_settled _ _ rfl rfl rfl (zIn (w := 4174) (by decide +kernel) rfl) (by decide +kernel) (by decide +kernel) rfl (Nat.le_of_ble_eq_true rfl) rfl ?_
  obtain ⟨v2, hv2⟩ : ∃ v, v = (g_X9_settled (zPs v1 5 14 (g_X4_breakVote (zPl v1 5) r cd x).2) (g_X4_breakVote (zPl v1 5) r cd x).1) := ⟨_, rfl⟩
  rw [← hv2]
  have ev2 : (d_X9_breakSeal_2 M n nx r cd x) = v2 := by unfold d_X9_breakSeal_2; (try rw [ev1]); exact hv2.symm
  exact zT.iret (ty := Jvm.ClassFile.FieldType.int) (by unfold g_X9_breakSeal; (try rw [ev1]); (try rw [ev2]); first | done | rw [rfl] | rfl) (by unfold g_X9_breakSeal; (try rw [ev1]); (try rw [ev2]); first | done | rw [rfl] | rfl) rfl rfl (by decide +kernel)
theorem k_X9_breakSeal : zCal yy_X9_breakSeal 3 := ⟨⟨⟨⟨zIn (w := 5015) (by decide +kernel) rfl, zIn (w := 1001) (by decide +kernel) rfl⟩, by decide +kernel⟩, by decide +kernel⟩, ⟨zIn (w := 5013) (by decide +kernel) rfl, zIn (w := 5014) (by decide +kernel) rfl⟩⟩
noncomputable abbrev yy_X9_count : zY := (yX9_count, cX9_count, 1, (some Jvm.ClassFile.FieldType.int), 4, 124)
noncomputable def d_X9_count_1 (M : zM) (n : Nat) (sz : Nat) (nx : Nat) : zM := (g_X3_note M nx)
noncomputable def d_X9_count_2 (M : zM) (n : Nat) (sz : Nat) (nx : Nat) : Int32 × zM := (g_X9_settled (zPs (d_X9_count_1 M n sz nx) 5 14 (g_X4_countVotes (zPl (d_X9_count_1 M n sz nx) 5) n sz).2) (g_X4_countVotes (zPl (d_X9_count_1 M n sz nx) 5) n sz).1)
noncomputable def g_X9_count (M : zM) (n : Nat) (sz : Nat) (nx : Nat) : Int32 × zM := ((d_X9_count_2 M n sz nx).1, (d_X9_count_2 M n sz nx).2)
set_option maxRecDepth 100000 in
theorem c_X9_count (M : zM) (sl : Nat → Option Nat) (ext : List va_E) (n : Nat) (sz : Nat) (nx : Nat) (hn : M 5 0 = nI n) (h9 : n ≤ 9) (hsz : M 15 0 = nI sz) (h12 : sz ≤ 12) (hc : zHc (zPl M 5)) (hx : M 33 1 = nI nx) (hx11 : nx < 11) : zC yy_X9_count 0 0 [.ref 0] (sh_X sl ext) M (some (.int (g_X9_count M n sz nx).1)) (sh_X sl ext) (g_X9_count M n sz nx).2 := by
  refine zC.of (by decide +kernel) rfl (Nat.le_of_ble_eq_true rfl) ?_
  refine zT.run [(.aload_n 0, 0, 0, 0), (.getfield 34, 7, 4, 2073), (.aload_n 0, 0, 0, 0), (.getfield 24, 7, 2, 2071)] (pe := 8) (ls' := [some (.ref 0)]) (st' := [.ref 5, .ref 33]) (M' := M) (by decide +kernel) rfl ?_
  refine zT.cV_all (o := 33) (idx := 75) (av := [.ref 5]) (rv := none) (st := []) (S1 := []) (c_X3_note M sl ext nx hx hx11) k_X3_note _ _ rfl rfl rfl (zIn (w := 4156) (by decide +kernel) rfl) (by decide +kernel) (by decide +kernel) rfl (Nat.le_of_ble_eq_true rfl) rfl ?_
  obtain ⟨v1, hv1⟩ : ∃ v, v = (g_X3_note M nx) := ⟨_, rfl⟩
  rw [← hv1]
  have ev1 : (d_X9_count_1 M n sz nx) = v1 := by unfold d_X9_count_1; exact hv1.symm
  have fv1 : ∀ o, o < 35 → v1 o = M o := fun o ho => by rw [hv1]; exact fr_X3_note M nx o ho
  refine zT.run [(.aload_n 0, 0, 0, 0), (.aload_n 0, 0, 0, 0), (.getfield 24, 7, 2, 2071)] (pe := 16) (ls' := [some (.ref 0)]) (st' := [.ref 5, .ref 0]) (M' := v1) (by decide +kernel) rfl ?_
  refine zT.cV_sub 5 (o := 0) (idx := 103) (av := []) (rv := (some (.int (g_X4_countVotes (zPl v1 5) n sz).1))) (st := [.ref 0]) (S1 := [.int (g_X4_countVotes (zPl v1 5) n sz).1, .ref 0]) (c_X4_countVotes (zPl v1 5) n sz ((congrFun (fv1 5 (by decide)) 0).trans hn) h9 ((congrFun (fv1 15 (by decide)) 0).trans hsz) h12 (zHc.of (M := zPl M 5) (fv1 12 (by decide)) hc)) sub_X_5_Office k_X4_countVotes _ _ rfl rfl rfl (zIn (w := 5046) (by decide +kernel) rfl) (by decide +kernel) (by decide +kernel) rfl (Nat.le_of_ble_eq_true rfl) rfl ?_
  refine zT.cV_all (o := 0) (idx := 82) (av := [.int (g_X4_countVotes (zPl v1 5) n sz).1]) (rv := (some (.int (g_X9_settled (zPs v1 5 14 (g_X4_countVotes (zPl v1 5) n sz).2) (g_X4_countVotes (zPl v1 5) n sz).1).1))) (st := []) (S1 := [.int (g_X9_settled (zPs v1 5 14 (g_X4_countVotes (zPl v1 5) n sz).2) (g_X4_countVotes (zPl v1 5) n sz).1).1]) (c_X9_settled (zPs v1 5 14 (g_X4_countVotes (zPl v1 5) n sz).2) sl ext (g_X4_countVotes (zPl v1 5) n sz).1) k_X9_settled _ _ rfl rfl rfl (zIn (w := 4174) (by decide +kernel) rfl) (by decide +kernel) (by decide +kernel) rfl (Nat.le_of_ble_eq_true rfl) rfl ?_
  obtain ⟨v2, hv2⟩ : ∃ v, v = (g_X9_settled (zPs v1 5 14 (g_X4_countVotes (zPl v1 5) n sz).2) (g_X4_countVotes (zPl v1 5) n sz).1) := ⟨_, rfl⟩
  rw [← hv2]
  have ev2 : (d_X9_count_2 M n sz nx) = v2 := by unfold d_X9_count_2; (try rw [ev1]); exact hv2.symm
  exact zT.iret (ty := Jvm.ClassFile.FieldType.int) (by unfold g_X9_count; (try rw [ev1]); (try rw [ev2]); first | done | rw [rfl] | rfl) (by unfold g_X9_count; (try rw [ev1]); (try rw [ev2]); first | done | rw [rfl] | rfl) rfl rfl (by decide +kernel)
theorem k_X9_count : zCal yy_X9_count 0 := ⟨⟨⟨⟨zIn (w := 5045) (by decide +kernel) rfl, zIn (w := 1001) (by decide +kernel) rfl⟩, by decide +kernel⟩, by decide +kernel⟩, ⟨zIn (w := 5043) (by decide +kernel) rfl, zIn (w := 5044) (by decide +kernel) rfl⟩⟩
noncomputable abbrev yy_X9_recount : zY := (yX9_recount, cX9_recount, 2, (some Jvm.ClassFile.FieldType.int), 10, 221)
noncomputable def d_X9_recount_1 (M : zM) (n : Nat) (sz : Nat) (nx : Nat) (r : Nat) : zM := (g_X3_note M nx)
noncomputable def d_X9_recount_2 (M : zM) (n : Nat) (sz : Nat) (nx : Nat) (r : Nat) : Int32 × zM := (g_X9_settled (zPs (d_X9_recount_1 M n sz nx r) 5 14 (g_X4_askRecount (zPl (d_X9_recount_1 M n sz nx r) 5) n sz r).2) (g_X4_askRecount (zPl (d_X9_recount_1 M n sz nx r) 5) n sz r).1)
noncomputable def g_X9_recount (M : zM) (n : Nat) (sz : Nat) (nx : Nat) (r : Nat) : Int32 × zM := ((d_X9_recount_2 M n sz nx r).1, (d_X9_recount_2 M n sz nx r).2)
set_option maxRecDepth 100000 in
theorem c_X9_recount (M : zM) (sl : Nat → Option Nat) (ext : List va_E) (n : Nat) (sz : Nat) (nx : Nat) (r : Nat) (hn : M 5 0 = nI n) (h9 : n ≤ 9) (hsz : M 15 0 = nI sz) (h12 : sz ≤ 12) (hx : M 33 1 = nI nx) (hx11 : nx < 11) (h_r : r < n) : zC yy_X9_recount 0 0 [.ref 0, .int (nI r)] (sh_X sl ext) M (some (.int (g_X9_recount M n sz nx r).1)) (sh_X sl ext) (g_X9_recount M n sz nx r).2 := by
  refine zC.of (by decide +kernel) rfl (Nat.le_of_ble_eq_true rfl) ?_
  refine zT.run [(.aload_n 0, 0, 0, 0), (.iload_n 1, 0, 0, 0)] (pe := 2) (ls' := [some (.ref 0), some (.int (nI r))]) (st' := [.int (nI r), .ref 0]) (M' := M) (by decide +kernel) rfl ?_
  refine zT.cV_own (o := 0) (idx := 85) (av := [.int (nI r)]) (rv := none) (st := []) (S1 := []) (c_X9_needReplica_ok M sl ext n r hn h9 h_r) k_X9_needReplica _ _ rfl rfl rfl (zIn (w := 4197) (by decide +kernel) rfl) (by decide +kernel) (by decide +kernel) rfl (Nat.le_of_ble_eq_true rfl) rfl ?_
  refine zT.run [(.aload_n 0, 0, 0, 0), (.getfield 34, 7, 4, 2073), (.aload_n 0, 0, 0, 0), (.getfield 24, 7, 2, 2071)] (pe := 13) (ls' := [some (.ref 0), some (.int (nI r))]) (st' := [.ref 5, .ref 33]) (M' := M) (by decide +kernel) rfl ?_
  refine zT.cV_all (o := 33) (idx := 75) (av := [.ref 5]) (rv := none) (st := []) (S1 := []) (c_X3_note M sl ext nx hx hx11) k_X3_note _ _ rfl rfl rfl (zIn (w := 4156) (by decide +kernel) rfl) (by decide +kernel) (by decide +kernel) rfl (Nat.le_of_ble_eq_true rfl) rfl ?_
  obtain ⟨v1, hv1⟩ : ∃ v, v = (g_X3_note M nx) := ⟨_, rfl⟩
  rw [← hv1]
  have ev1 : (d_X9_recount_1 M n sz nx r) = v1 := by unfold d_X9_recount_1; exact hv1.symm
  have fv1 : ∀ o, o < 35 → v1 o = M o := fun o ho => by rw [hv1]; exact fr_X3_note M nx o ho
  refine zT.run [(.aload_n 0, 0, 0, 0), (.aload_n 0, 0, 0, 0), (.getfield 24, 7, 2, 2071), (.iload_n 1, 0, 0, 0)] (pe := 22) (ls' := [some (.ref 0), some (.int (nI r))]) (st' := [.int (nI r), .ref 5, .ref 0]) (M' := v1) (by decide +kernel) rfl ?_
  refine zT.cV_sub 5 (o := 0) (idx := 106) (av := [.int (nI r)]) (rv := (some (.int (g_X4_askRecount (zPl v1 5) n sz r).1))) (st := [.ref 0]) (S1 := [.int (g_X4_askRecount (zPl v1 5) n sz r).1, .ref 0]) (c_X4_askRecount (zPl v1 5) n sz r ((congrFun (fv1 5 (by decide)) 0).trans hn) h9 ((congrFun (fv1 15 (by decide)) 0).trans hsz) h12 (by omega)) sub_X_5_Office k_X4_askRecount _ _ rfl rfl rfl (zIn (w := 5097) (by decide +kernel) rfl) (by decide +kernel) (by decide +kernel) rfl (Nat.le_of_ble_eq_true rfl) rfl ?_
  refine zT.cV_all (o := 0) (idx := 82) (av := [.int (g_X4_askRecount (zPl v1 5) n sz r).1]) (rv := (some (.int (g_X9_settled (zPs v1 5 14 (g_X4_askRecount (zPl v1 5) n sz r).2) (g_X4_askRecount (zPl v1 5) n sz r).1).1))) (st := []) (S1 := [.int (g_X9_settled (zPs v1 5 14 (g_X4_askRecount (zPl v1 5) n sz r).2) (g_X4_askRecount (zPl v1 5) n sz r).1).1]) (c_X9_settled (zPs v1 5 14 (g_X4_askRecount (zPl v1 5) n sz r).2) sl ext (g_X4_askRecount (zPl v1 5) n sz r).1) k_X9_settled _ _ rfl rfl rfl (zIn (w := 4174) (by decide +kernel) rfl) (by decide +kernel) (by decide +kernel) rfl (Nat.le_of_ble_eq_true rfl) rfl ?_
  obtain ⟨v2, hv2⟩ : ∃ v, v = (g_X9_settled (zPs v1 5 14 (g_X4_askRecount (zPl v1 5) n sz r).2) (g_X4_askRecount (zPl v1 5) n sz r).1) := ⟨_, rfl⟩
  rw [← hv2]
  have ev2 : (d_X9_recount_2 M n sz nx r) = v2 := by unfold d_X9_recount_2; (try rw [ev1]); exact hv2.symm
  exact zT.iret (ty := Jvm.ClassFile.FieldType.int) (by unfold g_X9_recount; (try rw [ev1]); (try rw [ev2]); first | done | rw [rfl] | rfl) (by unfold g_X9_recount; (try rw [ev1]); (try rw [ev2]); first | done | rw [rfl] | rfl) rfl rfl (by decide +kernel)
theorem k_X9_recount : zCal yy_X9_recount 1 := ⟨⟨⟨⟨zIn (w := 5096) (by decide +kernel) rfl, zIn (w := 1001) (by decide +kernel) rfl⟩, by decide +kernel⟩, by decide +kernel⟩, ⟨zIn (w := 5094) (by decide +kernel) rfl, zIn (w := 5095) (by decide +kernel) rfl⟩⟩
noncomputable abbrev yy_X9_giveUp : zY := (yX9_giveUp, cX9_giveUp, 1, (some Jvm.ClassFile.FieldType.int), 4, 123)
noncomputable def d_X9_giveUp_1 (M : zM) (nx : Nat) : zM := (g_X3_note M nx)
noncomputable def d_X9_giveUp_2 (M : zM) (nx : Nat) : Int32 × zM := (g_X9_settled (zPs (d_X9_giveUp_1 M nx) 5 14 (g_X4_giveBallotUp (zPl (d_X9_giveUp_1 M nx) 5)).2) (g_X4_giveBallotUp (zPl (d_X9_giveUp_1 M nx) 5)).1)
noncomputable def g_X9_giveUp (M : zM) (nx : Nat) : Int32 × zM := ((d_X9_giveUp_2 M nx).1, (d_X9_giveUp_2 M nx).2)
set_option maxRecDepth 100000 in
theorem c_X9_giveUp (M : zM) (sl : Nat → Option Nat) (ext : List va_E) (nx : Nat) (hx : M 33 1 = nI nx) (hx11 : nx < 11) : zC yy_X9_giveUp 0 0 [.ref 0] (sh_X sl ext) M (some (.int (g_X9_giveUp M nx).1)) (sh_X sl ext) (g_X9_giveUp M nx).2 := by
  refine zC.of (by decide +kernel) rfl (Nat.le_of_ble_eq_true rfl) ?_
  refine zT.run [(.aload_n 0, 0, 0, 0), (.getfield 34, 7, 4, 2073), (.aload_n 0, 0, 0, 0), (.getfield 24, 7, 2, 2071)] (pe := 8) (ls' := [some (.ref 0)]) (st' := [.ref 5, .ref 33]) (M' := M) (by decide +kernel) rfl ?_
  refine zT.cV_all (o := 33) (idx := 75) (av := [.ref 5]) (rv := none) (st := []) (S1 := []) (c_X3_note M sl ext nx hx hx11) k_X3_note _ _ rfl rfl rfl (zIn (w := 4156) (by decide +kernel) rfl) (by decide +kernel) (by decide +kernel) rfl (Nat.le_of_ble_eq_true rfl) rfl ?_
  obtain ⟨v1, hv1⟩ : ∃ v, v = (g_X3_note M nx) := ⟨_, rfl⟩
  rw [← hv1]
  have ev1 : (d_X9_giveUp_1 M nx) = v1 := by unfold d_X9_giveUp_1; exact hv1.symm
  have fv1 : ∀ o, o < 35 → v1 o = M o := fun o ho => by rw [hv1]; exact fr_X3_note M nx o ho
  refine zT.run [(.aload_n 0, 0, 0, 0), (.aload_n 0, 0, 0, 0), (.getfield 24, 7, 2, 2071)] (pe := 16) (ls' := [some (.ref 0)]) (st' := [.ref 5, .ref 0]) (M' := v1) (by decide +kernel) rfl ?_
  refine zT.cV_sub 5 (o := 0) (idx := 109) (av := []) (rv := (some (.int (g_X4_giveBallotUp (zPl v1 5)).1))) (st := [.ref 0]) (S1 := [.int (g_X4_giveBallotUp (zPl v1 5)).1, .ref 0]) (c_X4_giveBallotUp (zPl v1 5)) sub_X_5_Office k_X4_giveBallotUp _ _ rfl rfl rfl (zIn (w := 5102) (by decide +kernel) rfl) (by decide +kernel) (by decide +kernel) rfl (Nat.le_of_ble_eq_true rfl) rfl ?_
  refine zT.cV_all (o := 0) (idx := 82) (av := [.int (g_X4_giveBallotUp (zPl v1 5)).1]) (rv := (some (.int (g_X9_settled (zPs v1 5 14 (g_X4_giveBallotUp (zPl v1 5)).2) (g_X4_giveBallotUp (zPl v1 5)).1).1))) (st := []) (S1 := [.int (g_X9_settled (zPs v1 5 14 (g_X4_giveBallotUp (zPl v1 5)).2) (g_X4_giveBallotUp (zPl v1 5)).1).1]) (c_X9_settled (zPs v1 5 14 (g_X4_giveBallotUp (zPl v1 5)).2) sl ext (g_X4_giveBallotUp (zPl v1 5)).1) k_X9_settled _ _ rfl rfl rfl (zIn (w := 4174) (by decide +kernel) rfl) (by decide +kernel) (by decide +kernel) rfl (Nat.le_of_ble_eq_true rfl) rfl ?_
  obtain ⟨v2, hv2⟩ : ∃ v, v = (g_X9_settled (zPs v1 5 14 (g_X4_giveBallotUp (zPl v1 5)).2) (g_X4_giveBallotUp (zPl v1 5)).1) := ⟨_, rfl⟩
  rw [← hv2]
  have ev2 : (d_X9_giveUp_2 M nx) = v2 := by unfold d_X9_giveUp_2; (try rw [ev1]); exact hv2.symm
  exact zT.iret (ty := Jvm.ClassFile.FieldType.int) (by unfold g_X9_giveUp; (try rw [ev1]); (try rw [ev2]); first | done | rw [rfl] | rfl) (by unfold g_X9_giveUp; (try rw [ev1]); (try rw [ev2]); first | done | rw [rfl] | rfl) rfl rfl (by decide +kernel)
theorem k_X9_giveUp : zCal yy_X9_giveUp 0 := ⟨⟨⟨⟨zIn (w := 5101) (by decide +kernel) rfl, zIn (w := 1001) (by decide +kernel) rfl⟩, by decide +kernel⟩, by decide +kernel⟩, ⟨zIn (w := 5099) (by decide +kernel) rfl, zIn (w := 5100) (by decide +kernel) rfl⟩⟩
noncomputable abbrev yy_X9_setUp : zY := (yX9_setUp, cX9_setUp, 3, (some Jvm.ClassFile.FieldType.int), 10, 221)
noncomputable def d_X9_setUp_1 (M : zM) (n : Nat) (nx : Nat) (r : Nat) (up : Int32) : zM := (g_X3_note M nx)
noncomputable def d_X9_setUp_2 (M : zM) (n : Nat) (nx : Nat) (r : Nat) (up : Int32) : Int32 × zM := (g_X9_settled (zPs (d_X9_setUp_1 M n nx r up) 5 14 (g_X4_changeUp (zPl (d_X9_setUp_1 M n nx r up) 5) n r up).2) (g_X4_changeUp (zPl (d_X9_setUp_1 M n nx r up) 5) n r up).1)
noncomputable def g_X9_setUp (M : zM) (n : Nat) (nx : Nat) (r : Nat) (up : Int32) : Int32 × zM := ((d_X9_setUp_2 M n nx r up).1, (d_X9_setUp_2 M n nx r up).2)
set_option maxRecDepth 100000 in
theorem c_X9_setUp (M : zM) (sl : Nat → Option Nat) (ext : List va_E) (n : Nat) (nx : Nat) (r : Nat) (up : Int32) (hn : M 5 0 = nI n) (h9 : n ≤ 9) (hx : M 33 1 = nI nx) (hx11 : nx < 11) (h_r : r < n) : zC yy_X9_setUp 0 0 [.ref 0, .int (nI r), .int up] (sh_X sl ext) M (some (.int (g_X9_setUp M n nx r up).1)) (sh_X sl ext) (g_X9_setUp M n nx r up).2 := by
  refine zC.of (by decide +kernel) rfl (Nat.le_of_ble_eq_true rfl) ?_
  refine zT.run [(.aload_n 0, 0, 0, 0), (.iload_n 1, 0, 0, 0)] (pe := 2) (ls' := [some (.ref 0), some (.int (nI r)), some (.int up)]) (st' := [.int (nI r), .ref 0]) (M' := M) (by decide +kernel) rfl ?_
  refine zT.cV_own (o := 0) (idx := 85) (av := [.int (nI r)]) (rv := none) (st := []) (S1 := []) (c_X9_needReplica_ok M sl ext n r hn h9 h_r) k_X9_needReplica _ _ rfl rfl rfl (zIn (w := 4197) (by decide +kernel) rfl) (by decide +kernel) (by decide +kernel) rfl (Nat.le_of_ble_eq_true rfl) rfl ?_
  refine zT.run [(.aload_n 0, 0, 0, 0), (.getfield 34, 7, 4, 2073), (.aload_n 0, 0, 0, 0), (.getfield 24, 7, 2, 2071)] (pe := 13) (ls' := [some (.ref 0), some (.int (nI r)), some (.int up)]) (st' := [.ref 5, .ref 33]) (M' := M) (by decide +kernel) rfl ?_
  refine zT.cV_all (o := 33) (idx := 75) (av := [.ref 5]) (rv := none) (st := []) (S1 := []) (c_X3_note M sl ext nx hx hx11) k_X3_note _ _ rfl rfl rfl (zIn (w := 4156) (by decide +kernel) rfl) (by decide +kernel) (by decide +kernel) rfl (Nat.le_of_ble_eq_true rfl) rfl ?_
  obtain ⟨v1, hv1⟩ : ∃ v, v = (g_X3_note M nx) := ⟨_, rfl⟩
  rw [← hv1]
  have ev1 : (d_X9_setUp_1 M n nx r up) = v1 := by unfold d_X9_setUp_1; exact hv1.symm
  have fv1 : ∀ o, o < 35 → v1 o = M o := fun o ho => by rw [hv1]; exact fr_X3_note M nx o ho
  refine zT.run [(.aload_n 0, 0, 0, 0), (.aload_n 0, 0, 0, 0), (.getfield 24, 7, 2, 2071), (.iload_n 1, 0, 0, 0), (.iload_n 2, 0, 0, 0)] (pe := 23) (ls' := [some (.ref 0), some (.int (nI r)), some (.int up)]) (st' := [.int up, .int (nI r), .ref 5, .ref 0]) (M' := v1) (by decide +kernel) rfl ?_
  refine zT.cV_sub 5 (o := 0) (idx := 112) (av := [.int (nI r), .int up]) (rv := (some (.int (g_X4_changeUp (zPl v1 5) n r up).1))) (st := [.ref 0]) (S1 := [.int (g_X4_changeUp (zPl v1 5) n r up).1, .ref 0]) (c_X4_changeUp (zPl v1 5) n r up ((congrFun (fv1 5 (by decide)) 0).trans hn) h9 (by omega)) sub_X_5_Office k_X4_changeUp _ _ rfl rfl rfl (zIn (w := 5063) (by decide +kernel) rfl) (by decide +kernel) (by decide +kernel) rfl (Nat.le_of_ble_eq_true rfl) rfl ?_
  refine zT.cV_all (o := 0) (idx := 82) (av := [.int (g_X4_changeUp (zPl v1 5) n r up).1]) (rv := (some (.int (g_X9_settled (zPs v1 5 14 (g_X4_changeUp (zPl v1 5) n r up).2) (g_X4_changeUp (zPl v1 5) n r up).1).1))) (st := []) (S1 := [.int (g_X9_settled (zPs v1 5 14 (g_X4_changeUp (zPl v1 5) n r up).2) (g_X4_changeUp (zPl v1 5) n r up).1).1]) (c_X9_settled (zPs v1 5 14 (g_X4_changeUp (zPl v1 5) n r up).2) sl ext (g_X4_changeUp (zPl v1 5) n r up).1) k_X9_settled _ _ rfl rfl rfl (zIn (w := 4174) (by decide +kernel) rfl) (by decide +kernel) (by decide +kernel) rfl (Nat.le_of_ble_eq_true rfl) rfl ?_
  obtain ⟨v2, hv2⟩ : ∃ v, v = (g_X9_settled (zPs v1 5 14 (g_X4_changeUp (zPl v1 5) n r up).2) (g_X4_changeUp (zPl v1 5) n r up).1) := ⟨_, rfl⟩
  rw [← hv2]
  have ev2 : (d_X9_setUp_2 M n nx r up) = v2 := by unfold d_X9_setUp_2; (try rw [ev1]); exact hv2.symm
  exact zT.iret (ty := Jvm.ClassFile.FieldType.int) (by unfold g_X9_setUp; (try rw [ev1]); (try rw [ev2]); first | done | rw [rfl] | rfl) (by unfold g_X9_setUp; (try rw [ev1]); (try rw [ev2]); first | done | rw [rfl] | rfl) rfl rfl (by decide +kernel)
theorem k_X9_setUp : zCal yy_X9_setUp 2 := ⟨⟨⟨⟨zIn (w := 5062) (by decide +kernel) rfl, zIn (w := 1001) (by decide +kernel) rfl⟩, by decide +kernel⟩, by decide +kernel⟩, ⟨zIn (w := 5060) (by decide +kernel) rfl, zIn (w := 5061) (by decide +kernel) rfl⟩⟩
noncomputable abbrev yy_X9_setLink : zY := (yX9_setLink, cX9_setLink, 4, (some Jvm.ClassFile.FieldType.int), 10, 221)
noncomputable def d_X9_setLink_1 (M : zM) (n : Nat) (nx : Nat) (r : Nat) (o2 : Nat) (is : Int32) : zM := (g_X3_note M nx)
noncomputable def d_X9_setLink_2 (M : zM) (n : Nat) (nx : Nat) (r : Nat) (o2 : Nat) (is : Int32) : Int32 × zM := (g_X9_settled (zPs (d_X9_setLink_1 M n nx r o2 is) 5 14 (g_X4_changeLink (zPl (d_X9_setLink_1 M n nx r o2 is) 5) r o2 is).2) (g_X4_changeLink (zPl (d_X9_setLink_1 M n nx r o2 is) 5) r o2 is).1)
noncomputable def g_X9_setLink (M : zM) (n : Nat) (nx : Nat) (r : Nat) (o2 : Nat) (is : Int32) : Int32 × zM := ((d_X9_setLink_2 M n nx r o2 is).1, (d_X9_setLink_2 M n nx r o2 is).2)
set_option maxRecDepth 100000 in
theorem c_X9_setLink (M : zM) (sl : Nat → Option Nat) (ext : List va_E) (n : Nat) (nx : Nat) (r : Nat) (o2 : Nat) (is : Int32) (hn : M 5 0 = nI n) (h9 : n ≤ 9) (hx : M 33 1 = nI nx) (hx11 : nx < 11) (h_r : r < n) (h_o2 : o2 < n) : zC yy_X9_setLink 0 0 [.ref 0, .int (nI r), .int (nI o2), .int is] (sh_X sl ext) M (some (.int (g_X9_setLink M n nx r o2 is).1)) (sh_X sl ext) (g_X9_setLink M n nx r o2 is).2 := by
  refine zC.of (by decide +kernel) rfl (Nat.le_of_ble_eq_true rfl) ?_
  refine zT.run [(.aload_n 0, 0, 0, 0), (.iload_n 1, 0, 0, 0)] (pe := 2) (ls' := [some (.ref 0), some (.int (nI r)), some (.int (nI o2)), some (.int is)]) (st' := [.int (nI r), .ref 0]) (M' := M) (by decide +kernel) rfl ?_
  refine zT.cV_own (o := 0) (idx := 85) (av := [.int (nI r)]) (rv := none) (st := []) (S1 := []) (c_X9_needReplica_ok M sl ext n r hn h9 h_r) k_X9_needReplica _ _ rfl rfl rfl (zIn (w := 4197) (by decide +kernel) rfl) (by decide +kernel) (by decide +kernel) rfl (Nat.le_of_ble_eq_true rfl) rfl ?_
  refine zT.run [(.aload_n 0, 0, 0, 0), (.iload_n 2, 0, 0, 0)] (pe := 7) (ls' := [some (.ref 0), some (.int (nI r)), some (.int (nI o2)), some (.int is)]) (st' := [.int (nI o2), .ref 0]) (M' := M) (by decide +kernel) rfl ?_
  refine zT.cV_own (o := 0) (idx := 85) (av := [.int (nI o2)]) (rv := none) (st := []) (S1 := []) (c_X9_needReplica_ok M sl ext n o2 hn h9 h_o2) k_X9_needReplica _ _ rfl rfl rfl (zIn (w := 4197) (by decide +kernel) rfl) (by decide +kernel) (by decide +kernel) rfl (Nat.le_of_ble_eq_true rfl) rfl ?_
  refine zT.run [(.aload_n 0, 0, 0, 0), (.getfield 34, 7, 4, 2073), (.aload_n 0, 0, 0, 0), (.getfield 24, 7, 2, 2071)] (pe := 18) (ls' := [some (.ref 0), some (.int (nI r)), some (.int (nI o2)), some (.int is)]) (st' := [.ref 5, .ref 33]) (M' := M) (by decide +kernel) rfl ?_
  refine zT.cV_all (o := 33) (idx := 75) (av := [.ref 5]) (rv := none) (st := []) (S1 := []) (c_X3_note M sl ext nx hx hx11) k_X3_note _ _ rfl rfl rfl (zIn (w := 4156) (by decide +kernel) rfl) (by decide +kernel) (by decide +kernel) rfl (Nat.le_of_ble_eq_true rfl) rfl ?_
  obtain ⟨v1, hv1⟩ : ∃ v, v = (g_X3_note M nx) := ⟨_, rfl⟩
  rw [← hv1]
  have ev1 : (d_X9_setLink_1 M n nx r o2 is) = v1 := by unfold d_X9_setLink_1; exact hv1.symm
  have fv1 : ∀ o, o < 35 → v1 o = M o := fun o ho => by rw [hv1]; exact fr_X3_note M nx o ho
  refine zT.run [(.aload_n 0, 0, 0, 0), (.aload_n 0, 0, 0, 0), (.getfield 24, 7, 2, 2071), (.iload_n 1, 0, 0, 0), (.iload_n 2, 0, 0, 0), (.iload_n 3, 0, 0, 0)] (pe := 29) (ls' := [some (.ref 0), some (.int (nI r)), some (.int (nI o2)), some (.int is)]) (st' := [.int is, .int (nI o2), .int (nI r), .ref 5, .ref 0]) (M' := v1) (by decide +kernel) rfl ?_
  refine zT.cV_sub 5 (o := 0) (idx := 53) (av := [.int (nI r), .int (nI o2), .int is]) (rv := (some (.int (g_X4_changeLink (zPl v1 5) r o2 is).1))) (st := [.ref 0]) (S1 := [.int (g_X4_changeLink (zPl v1 5) r o2 is).1, .ref 0]) (c_X4_changeLink (zPl v1 5) r o2 is (by omega) (by omega)) sub_X_5_Office k_X4_changeLink _ _ rfl rfl rfl (zIn (w := 2010) (by decide +kernel) rfl) (by decide +kernel) (by decide +kernel) rfl (Nat.le_of_ble_eq_true rfl) rfl ?_
  refine zT.cV_all (o := 0) (idx := 82) (av := [.int (g_X4_changeLink (zPl v1 5) r o2 is).1]) (rv := (some (.int (g_X9_settled (zPs v1 5 14 (g_X4_changeLink (zPl v1 5) r o2 is).2) (g_X4_changeLink (zPl v1 5) r o2 is).1).1))) (st := []) (S1 := [.int (g_X9_settled (zPs v1 5 14 (g_X4_changeLink (zPl v1 5) r o2 is).2) (g_X4_changeLink (zPl v1 5) r o2 is).1).1]) (c_X9_settled (zPs v1 5 14 (g_X4_changeLink (zPl v1 5) r o2 is).2) sl ext (g_X4_changeLink (zPl v1 5) r o2 is).1) k_X9_settled _ _ rfl rfl rfl (zIn (w := 4174) (by decide +kernel) rfl) (by decide +kernel) (by decide +kernel) rfl (Nat.le_of_ble_eq_true rfl) rfl ?_
  obtain ⟨v2, hv2⟩ : ∃ v, v = (g_X9_settled (zPs v1 5 14 (g_X4_changeLink (zPl v1 5) r o2 is).2) (g_X4_changeLink (zPl v1 5) r o2 is).1) := ⟨_, rfl⟩
  rw [← hv2]
  have ev2 : (d_X9_setLink_2 M n nx r o2 is) = v2 := by unfold d_X9_setLink_2; (try rw [ev1]); exact hv2.symm
  exact zT.iret (ty := Jvm.ClassFile.FieldType.int) (by unfold g_X9_setLink; (try rw [ev1]); (try rw [ev2]); first | done | rw [rfl] | rfl) (by unfold g_X9_setLink; (try rw [ev1]); (try rw [ev2]); first | done | rw [rfl] | rfl) rfl rfl (by decide +kernel)
theorem k_X9_setLink : zCal yy_X9_setLink 3 := ⟨⟨⟨⟨zIn (w := 5070) (by decide +kernel) rfl, zIn (w := 1001) (by decide +kernel) rfl⟩, by decide +kernel⟩, by decide +kernel⟩, ⟨zIn (w := 5068) (by decide +kernel) rfl, zIn (w := 5069) (by decide +kernel) rfl⟩⟩
noncomputable abbrev yy_X9_setFresh : zY := (yX9_setFresh, cX9_setFresh, 3, (some Jvm.ClassFile.FieldType.int), 10, 221)
noncomputable def d_X9_setFresh_1 (M : zM) (n : Nat) (nx : Nat) (r : Nat) (x : Int32) : zM := (g_X3_note M nx)
noncomputable def d_X9_setFresh_2 (M : zM) (n : Nat) (nx : Nat) (r : Nat) (x : Int32) : Int32 × zM := (g_X9_settled (zPs (d_X9_setFresh_1 M n nx r x) 5 14 (g_X4_changeFresh (zPl (d_X9_setFresh_1 M n nx r x) 5) r x).2) (g_X4_changeFresh (zPl (d_X9_setFresh_1 M n nx r x) 5) r x).1)
noncomputable def g_X9_setFresh (M : zM) (n : Nat) (nx : Nat) (r : Nat) (x : Int32) : Int32 × zM := ((d_X9_setFresh_2 M n nx r x).1, (d_X9_setFresh_2 M n nx r x).2)
set_option maxRecDepth 100000 in
theorem c_X9_setFresh (M : zM) (sl : Nat → Option Nat) (ext : List va_E) (n : Nat) (nx : Nat) (r : Nat) (x : Int32) (hn : M 5 0 = nI n) (h9 : n ≤ 9) (hx : M 33 1 = nI nx) (hx11 : nx < 11) (h_r : r < n) (hx1 : ¬ x < 0) (hx2 : x ≤ 999) : zC yy_X9_setFresh 0 0 [.ref 0, .int (nI r), .int x] (sh_X sl ext) M (some (.int (g_X9_setFresh M n nx r x).1)) (sh_X sl ext) (g_X9_setFresh M n nx r x).2 := by
  refine zC.of (by decide +kernel) rfl (Nat.le_of_ble_eq_true rfl) ?_
  refine zT.run [(.aload_n 0, 0, 0, 0), (.iload_n 1, 0, 0, 0)] (pe := 2) (ls' := [some (.ref 0), some (.int (nI r)), some (.int x)]) (st' := [.int (nI r), .ref 0]) (M' := M) (by decide +kernel) rfl ?_
  refine zT.cV_own (o := 0) (idx := 85) (av := [.int (nI r)]) (rv := none) (st := []) (S1 := []) (c_X9_needReplica_ok M sl ext n r hn h9 h_r) k_X9_needReplica _ _ rfl rfl rfl (zIn (w := 4197) (by decide +kernel) rfl) (by decide +kernel) (by decide +kernel) rfl (Nat.le_of_ble_eq_true rfl) rfl ?_
  refine zT.run [(.iload_n 2, 0, 0, 0), (.bipush 6, 0, 0, 0)] (pe := 8) (ls' := [some (.ref 0), some (.int (nI r)), some (.int x)]) (st' := [.int 6, .int x]) (M' := M) (by decide +kernel) rfl ?_
  refine zT.cS_nil (idx := 89) (av := [.int x, .int (nI 6)]) (rv := none) (st := []) (S1 := []) (c_X9_needKind_ok x 6 (by decide) hx1 (Int32.not_lt.mpr hx2)) k_X9_needKind rfl (zIn (w := 5000) (by decide +kernel) rfl) (by decide +kernel) (by decide +kernel) rfl (Nat.le_of_ble_eq_true rfl) rfl ?_
  refine zT.run [(.aload_n 0, 0, 0, 0), (.getfield 34, 7, 4, 2073), (.aload_n 0, 0, 0, 0), (.getfield 24, 7, 2, 2071)] (pe := 19) (ls' := [some (.ref 0), some (.int (nI r)), some (.int x)]) (st' := [.ref 5, .ref 33]) (M' := M) (by decide +kernel) rfl ?_
  refine zT.cV_all (o := 33) (idx := 75) (av := [.ref 5]) (rv := none) (st := []) (S1 := []) (c_X3_note M sl ext nx hx hx11) k_X3_note _ _ rfl rfl rfl (zIn (w := 4156) (by decide +kernel) rfl) (by decide +kernel) (by decide +kernel) rfl (Nat.le_of_ble_eq_true rfl) rfl ?_
  obtain ⟨v1, hv1⟩ : ∃ v, v = (g_X3_note M nx) := ⟨_, rfl⟩
  rw [← hv1]
  have ev1 : (d_X9_setFresh_1 M n nx r x) = v1 := by unfold d_X9_setFresh_1; exact hv1.symm
  have fv1 : ∀ o, o < 35 → v1 o = M o := fun o ho => by rw [hv1]; exact fr_X3_note M nx o ho
  refine zT.run [(.aload_n 0, 0, 0, 0), (.aload_n 0, 0, 0, 0), (.getfield 24, 7, 2, 2071), (.iload_n 1, 0, 0, 0), (.iload_n 2, 0, 0, 0)] (pe := 29) (ls' := [some (.ref 0), some (.int (nI r)), some (.int x)]) (st' := [.int x, .int (nI r), .ref 5, .ref 0]) (M' := v1) (by decide +kernel) rfl ?_
  refine zT.cV_sub 5 (o := 0) (idx := 116) (av := [.int (nI r), .int x]) (rv := (some (.int (g_X4_changeFresh (zPl v1 5) r x).1))) (st := [.ref 0]) (S1 := [.int (g_X4_changeFresh (zPl v1 5) r x).1, .ref 0]) (c_X4_changeFresh (zPl v1 5) r x (by omega)) sub_X_5_Office k_X4_changeFresh _ _ rfl rfl rfl (zIn (w := 5078) (by decide +kernel) rfl) (by decide +kernel) (by decide +kernel) rfl (Nat.le_of_ble_eq_true rfl) rfl ?_
  refine zT.cV_all (o := 0) (idx := 82) (av := [.int (g_X4_changeFresh (zPl v1 5) r x).1]) (rv := (some (.int (g_X9_settled (zPs v1 5 14 (g_X4_changeFresh (zPl v1 5) r x).2) (g_X4_changeFresh (zPl v1 5) r x).1).1))) (st := []) (S1 := [.int (g_X9_settled (zPs v1 5 14 (g_X4_changeFresh (zPl v1 5) r x).2) (g_X4_changeFresh (zPl v1 5) r x).1).1]) (c_X9_settled (zPs v1 5 14 (g_X4_changeFresh (zPl v1 5) r x).2) sl ext (g_X4_changeFresh (zPl v1 5) r x).1) k_X9_settled _ _ rfl rfl rfl (zIn (w := 4174) (by decide +kernel) rfl) (by decide +kernel) (by decide +kernel) rfl (Nat.le_of_ble_eq_true rfl) rfl ?_
  obtain ⟨v2, hv2⟩ : ∃ v, v = (g_X9_settled (zPs v1 5 14 (g_X4_changeFresh (zPl v1 5) r x).2) (g_X4_changeFresh (zPl v1 5) r x).1) := ⟨_, rfl⟩
  rw [← hv2]
  have ev2 : (d_X9_setFresh_2 M n nx r x) = v2 := by unfold d_X9_setFresh_2; (try rw [ev1]); exact hv2.symm
  exact zT.iret (ty := Jvm.ClassFile.FieldType.int) (by unfold g_X9_setFresh; (try rw [ev1]); (try rw [ev2]); first | done | rw [rfl] | rfl) (by unfold g_X9_setFresh; (try rw [ev1]); (try rw [ev2]); first | done | rw [rfl] | rfl) rfl rfl (by decide +kernel)
theorem k_X9_setFresh : zCal yy_X9_setFresh 2 := ⟨⟨⟨⟨zIn (w := 5077) (by decide +kernel) rfl, zIn (w := 1001) (by decide +kernel) rfl⟩, by decide +kernel⟩, by decide +kernel⟩, ⟨zIn (w := 5075) (by decide +kernel) rfl, zIn (w := 5076) (by decide +kernel) rfl⟩⟩
noncomputable abbrev yy_X9_set : zY := (yX9_set, cX9_set, 3, (some Jvm.ClassFile.FieldType.int), 10, 222)
noncomputable def d_X9_set_1 (M : zM) (nx : Nat) (w : Nat) (x : Int32) : zM := (g_X3_note M nx)
noncomputable def d_X9_set_2 (M : zM) (nx : Nat) (w : Nat) (x : Int32) : Int32 × zM := (g_X9_settled (zPs (d_X9_set_1 M nx w x) 5 14 (g_X4_changeSetting (zPl (d_X9_set_1 M nx w x) 5) w x).2) (g_X4_changeSetting (zPl (d_X9_set_1 M nx w x) 5) w x).1)
noncomputable def g_X9_set (M : zM) (nx : Nat) (w : Nat) (x : Int32) : Int32 × zM := ((d_X9_set_2 M nx w x).1, (d_X9_set_2 M nx w x).2)
set_option maxRecDepth 100000 in
theorem c_X9_set (M : zM) (sl : Nat → Option Nat) (ext : List va_E) (nx : Nat) (w : Nat) (x : Int32) (hx : M 33 1 = nI nx) (hx11 : nx < 11) (h_w : w < 3) (hx1 : ¬ x < zLo w) (hx2 : ¬ zHi w < x) : zC yy_X9_set 0 0 [.ref 0, .int (nI w), .int x] (sh_X sl ext) M (some (.int (g_X9_set M nx w x).1)) (sh_X sl ext) (g_X9_set M nx w x).2 := by
  refine zC.of (by decide +kernel) rfl (Nat.le_of_ble_eq_true rfl) ?_
  refine zT.run [(.iload_n 1, 0, 0, 0), (.iconst 0, 0, 0, 0), (.iconst 2, 0, 0, 0)] (pe := 3) (ls' := [some (.ref 0), some (.int (nI w)), some (.int x)]) (st' := [.int 2, .int 0, .int (nI w)]) (M' := M) (by decide +kernel) rfl ?_
  refine zT.cS_nil (idx := 119) (av := [.int (nI w), .int 0, .int 2]) (rv := none) (st := []) (S1 := []) (c_X9_needBetween_ok (nI w) 0 2 (nI_pos (by omega)) (by show ¬ nI 2 < nI w; exact nI_nlt (by omega) (by decide))) k_X9_needBetween rfl (zIn (w := 2104) (by decide +kernel) rfl) (by decide +kernel) (by decide +kernel) rfl (Nat.le_of_ble_eq_true rfl) rfl ?_
  refine zT.run [(.iload_n 2, 0, 0, 0), (.iload_n 1, 0, 0, 0)] (pe := 8) (ls' := [some (.ref 0), some (.int (nI w)), some (.int x)]) (st' := [.int (nI w), .int x]) (M' := M) (by decide +kernel) rfl ?_
  refine zT.cS_nil (idx := 89) (av := [.int x, .int (nI w)]) (rv := none) (st := []) (S1 := []) (c_X9_needKind_ok x w (by omega) hx1 hx2) k_X9_needKind rfl (zIn (w := 5000) (by decide +kernel) rfl) (by decide +kernel) (by decide +kernel) rfl (Nat.le_of_ble_eq_true rfl) rfl ?_
  refine zT.run [(.aload_n 0, 0, 0, 0), (.getfield 34, 7, 4, 2073), (.aload_n 0, 0, 0, 0), (.getfield 24, 7, 2, 2071)] (pe := 19) (ls' := [some (.ref 0), some (.int (nI w)), some (.int x)]) (st' := [.ref 5, .ref 33]) (M' := M) (by decide +kernel) rfl ?_
  refine zT.cV_all (o := 33) (idx := 75) (av := [.ref 5]) (rv := none) (st := []) (S1 := []) (c_X3_note M sl ext nx hx hx11) k_X3_note _ _ rfl rfl rfl (zIn (w := 4156) (by decide +kernel) rfl) (by decide +kernel) (by decide +kernel) rfl (Nat.le_of_ble_eq_true rfl) rfl ?_
  obtain ⟨v1, hv1⟩ : ∃ v, v = (g_X3_note M nx) := ⟨_, rfl⟩
  rw [← hv1]
  have ev1 : (d_X9_set_1 M nx w x) = v1 := by unfold d_X9_set_1; exact hv1.symm
  have fv1 : ∀ o, o < 35 → v1 o = M o := fun o ho => by rw [hv1]; exact fr_X3_note M nx o ho
  refine zT.run [(.aload_n 0, 0, 0, 0), (.aload_n 0, 0, 0, 0), (.getfield 24, 7, 2, 2071), (.iload_n 1, 0, 0, 0), (.iload_n 2, 0, 0, 0)] (pe := 29) (ls' := [some (.ref 0), some (.int (nI w)), some (.int x)]) (st' := [.int x, .int (nI w), .ref 5, .ref 0]) (M' := v1) (by decide +kernel) rfl ?_
  refine zT.cV_sub 5 (o := 0) (idx := 123) (av := [.int (nI w), .int x]) (rv := (some (.int (g_X4_changeSetting (zPl v1 5) w x).1))) (st := [.ref 0]) (S1 := [.int (g_X4_changeSetting (zPl v1 5) w x).1, .ref 0]) (c_X4_changeSetting (zPl v1 5) w x (by omega)) sub_X_5_Office k_X4_changeSetting _ _ rfl rfl rfl (zIn (w := 5089) (by decide +kernel) rfl) (by decide +kernel) (by decide +kernel) rfl (Nat.le_of_ble_eq_true rfl) rfl ?_
  refine zT.cV_all (o := 0) (idx := 82) (av := [.int (g_X4_changeSetting (zPl v1 5) w x).1]) (rv := (some (.int (g_X9_settled (zPs v1 5 14 (g_X4_changeSetting (zPl v1 5) w x).2) (g_X4_changeSetting (zPl v1 5) w x).1).1))) (st := []) (S1 := [.int (g_X9_settled (zPs v1 5 14 (g_X4_changeSetting (zPl v1 5) w x).2) (g_X4_changeSetting (zPl v1 5) w x).1).1]) (c_X9_settled (zPs v1 5 14 (g_X4_changeSetting (zPl v1 5) w x).2) sl ext (g_X4_changeSetting (zPl v1 5) w x).1) k_X9_settled _ _ rfl rfl rfl (zIn (w := 4174) (by decide +kernel) rfl) (by decide +kernel) (by decide +kernel) rfl (Nat.le_of_ble_eq_true rfl) rfl ?_
  obtain ⟨v2, hv2⟩ : ∃ v, v = (g_X9_settled (zPs v1 5 14 (g_X4_changeSetting (zPl v1 5) w x).2) (g_X4_changeSetting (zPl v1 5) w x).1) := ⟨_, rfl⟩
  rw [← hv2]
  have ev2 : (d_X9_set_2 M nx w x) = v2 := by unfold d_X9_set_2; (try rw [ev1]); exact hv2.symm
  exact zT.iret (ty := Jvm.ClassFile.FieldType.int) (by unfold g_X9_set; (try rw [ev1]); (try rw [ev2]); first | done | rw [rfl] | rfl) (by unfold g_X9_set; (try rw [ev1]); (try rw [ev2]); first | done | rw [rfl] | rfl) rfl rfl (by decide +kernel)
theorem k_X9_set : zCal yy_X9_set 2 := ⟨⟨⟨⟨zIn (w := 5088) (by decide +kernel) rfl, zIn (w := 1001) (by decide +kernel) rfl⟩, by decide +kernel⟩, by decide +kernel⟩, ⟨zIn (w := 5086) (by decide +kernel) rfl, zIn (w := 5087) (by decide +kernel) rfl⟩⟩
noncomputable abbrev yy_X9_undo : zY := (yX9_undo, cX9_undo, 1, (some Jvm.ClassFile.FieldType.int), 4, 123)
noncomputable def d_X9_undo_1 (M : zM) (nx : Nat) : Int32 × zM := (g_X3_takeBack M nx)
noncomputable def g_X9_undo (M : zM) (nx : Nat) : Int32 × zM := (if (d_X9_undo_1 M nx).1 = 0 then ((-1), (d_X9_undo_1 M nx).2) else (((d_X9_undo_1 M nx).2 33 0), (d_X9_undo_1 M nx).2))
set_option maxRecDepth 100000 in
theorem c_X9_undo (M : zM) (sl : Nat → Option Nat) (ext : List va_E) (nx : Nat) (hx : M 33 1 = nI nx) (hx11 : nx < 11) : zC yy_X9_undo 0 0 [.ref 0] (sh_X sl ext) M (some (.int (g_X9_undo M nx).1)) (sh_X sl ext) (g_X9_undo M nx).2 := by
  refine zC.of (by decide +kernel) rfl (Nat.le_of_ble_eq_true rfl) ?_
  refine zT.run [(.aload_n 0, 0, 0, 0), (.getfield 34, 7, 4, 2073), (.aload_n 0, 0, 0, 0), (.getfield 24, 7, 2, 2071)] (pe := 8) (ls' := [some (.ref 0)]) (st' := [.ref 5, .ref 33]) (M' := M) (by decide +kernel) rfl ?_
  refine zT.cV_all (o := 33) (idx := 126) (av := [.ref 5]) (rv := (some (.int (g_X3_takeBack M nx).1))) (st := []) (S1 := [.int (g_X3_takeBack M nx).1]) (c_X3_takeBack M sl ext nx hx hx11) k_X3_takeBack _ _ rfl rfl rfl (zIn (w := 5155) (by decide +kernel) rfl) (by decide +kernel) (by decide +kernel) rfl (Nat.le_of_ble_eq_true rfl) rfl ?_
  obtain ⟨v1, hv1⟩ : ∃ v, v = (g_X3_takeBack M nx) := ⟨_, rfl⟩
  rw [← hv1]
  have ev1 : (d_X9_undo_1 M nx) = v1 := by unfold d_X9_undo_1; exact hv1.symm
  refine zT.zeq (tgt := 24) (off := 13) (by decide +kernel) (by decide) (fun (c1 : v1.1 = 0) => ?_) (fun (c1 : ¬ v1.1 = 0) => ?_)
  · skip
    refine zT.run [(.iconst (-1), 0, 0, 0)] (pe := 25) (ls' := [some (.ref 0)]) (st' := [.int (-1)]) (M' := v1.2) (by decide +kernel) rfl ?_
    exact zT.iret (ty := Jvm.ClassFile.FieldType.int) (by unfold g_X9_undo; (try rw [ev1]); first | done | rw [if_pos c1] | rfl) (by unfold g_X9_undo; (try rw [ev1]); first | done | rw [if_pos c1] | rfl) rfl rfl (by decide +kernel)
  · skip
    refine zT.run [(.aload_n 0, 0, 0, 0), (.getfield 34, 7, 4, 2073), (.getfield 130, 1, 0, 1219), (.goto 4, 0, 0, 0)] (pe := 25) (ls' := [some (.ref 0)]) (st' := [.int (v1.2 33 0)]) (M' := v1.2) (by decide +kernel) rfl ?_
    exact zT.iret (ty := Jvm.ClassFile.FieldType.int) (by unfold g_X9_undo; (try rw [ev1]); first | done | rw [if_neg c1] | rfl) (by unfold g_X9_undo; (try rw [ev1]); first | done | rw [if_neg c1] | rfl) rfl rfl (by decide +kernel)
theorem k_X9_undo : zCal yy_X9_undo 0 := ⟨⟨⟨⟨zIn (w := 5154) (by decide +kernel) rfl, zIn (w := 1001) (by decide +kernel) rfl⟩, by decide +kernel⟩, by decide +kernel⟩, ⟨zIn (w := 5152) (by decide +kernel) rfl, zIn (w := 5153) (by decide +kernel) rfl⟩⟩
