noncomputable def sh_Model (gp : Nat → Option Nat) : List va_E := [.inr (8, [.int 0, .ref 1, .ref 2, .int 0, .ref 13, .ref 16, .ref 17, .ref 18, .int 0, .ref 19, .int 0, .ref 20, .int 0, .int 0, .int 0, .int 0, .int 0, .int 0, .int 0]), .inl (0, 187, .inl (fun _ => 0)), .inl (4, 10, .inr (.inr (.inr (.inr gp)))), .inl (0, 187, .inl (fun _ => 0)), .inl (0, 187, .inl (fun _ => 0)), .inl (0, 187, .inl (fun _ => 0)), .inl (0, 187, .inl (fun _ => 0)), .inl (0, 187, .inl (fun _ => 0)), .inl (0, 187, .inl (fun _ => 0)), .inl (0, 187, .inl (fun _ => 0)), .inl (0, 187, .inl (fun _ => 0)), .inl (0, 187, .inl (fun _ => 0)), .inl (0, 187, .inl (fun _ => 0)), .inl (4, 2, .inr (.inr (.inr (.inr (fun j => if j < 2 then some (14 + j) else none))))), .inl (0, 187, .inl (fun _ => 0)), .inl (0, 187, .inl (fun _ => 0)), .inl (2, 2, .inl (fun _ => 0)), .inl (0, 187, .inl (fun _ => 0)), .inl (0, 600, .inl (fun _ => 0)), .inl (1, 9, .inl (fun _ => 0)), .inl (0, 9, .inl (fun _ => 0))]
def zHd (M : zM) : Prop := M 1 4 ≤ 0 ∨ ∃ c, c < 9 ∧ M 1 6 = nI c
theorem zHd.of {M M' : zM} (e : M' 1 = M 1) (h : zHd M) : zHd M' := by
  unfold zHd at h ⊢
  rw [e]
  exact h
theorem zHdI {M : zM} (h : zHd M) (c : ¬ M 1 4 ≤ 0) : M 1 6 = nI (M 1 6).toNatClampNeg ∧ (M 1 6).toNatClampNeg < 9 := by
  rcases h with h | ⟨e, h1, h2⟩
  · exact absurd h c
  · rw [h2, nI_clamp (by omega)]
    exact ⟨rfl, h1⟩
def zHv (M : zM) : Prop := ∀ r, r < 9 → M 1 (10 + r * 9 + 6) = 2 → ∃ v, v < 9 ∧ M 1 (10 + r * 9 + 7) = nI v
theorem zHv.of {M M' : zM} (e : M' 1 = M 1) (h : zHv M) : zHv M' := by
  unfold zHv at h ⊢
  rw [e]
  exact h
/-- the votes that were found are no negative numbers -/
def zHw (M : zM) : Prop := ∀ r, r < 9 → ¬ M 20 r = -1

noncomputable abbrev yy_X10_bad : zY := (yX10_bad, cX10_bad, 5, (some Jvm.ClassFile.FieldType.boolean), 0, 0)
noncomputable def g_X10_bad (M : zM) (v : Int32) (lo : Int32) (hi : Int32) (cd : Int32) : Int32 × zM := (if v < lo then (1, (zU M 0 0 cd)) else (if v ≤ hi then (0, M) else (1, (zU M 0 0 cd))))
set_option maxRecDepth 100000 in
theorem c_X10_bad (M : zM) (gp : Nat → Option Nat) (v : Int32) (lo : Int32) (hi : Int32) (cd : Int32)  : zC yy_X10_bad 0 0 [.ref 0, .int v, .int lo, .int hi, .int cd] (sh_Model gp) M (some (.int (g_X10_bad M v lo hi cd).1)) (sh_Model gp) (g_X10_bad M v lo hi cd).2 := by
  refine zC.of (by decide +kernel) rfl (Nat.le_of_ble_eq_true rfl) ?_
  refine zT.run [(.iload_n 1, 0, 0, 0), (.iload_n 2, 0, 0, 0)] (pe := 2) (ls' := [some (.ref 0), some (.int v), some (.int lo), some (.int hi), some (.int cd)]) (st' := [.int lo, .int v]) (M' := M) (by decide +kernel) rfl ?_
  refine zT.clt (tgt := 10) (off := 8) (by decide +kernel) (by decide) (fun (c1 : v < lo) => ?_) (fun (c1 : ¬ v < lo) => ?_)
  · skip
    refine zT.run [(.aload_n 0, 0, 0, 0), (.iload 4, 0, 0, 0), (.putfield 61, 8, 0, 5149), (.iconst 1, 0, 0, 0)] (pe := 17) (ls' := [some (.ref 0), some (.int v), some (.int lo), some (.int hi), some (.int cd)]) (st' := [.int 1]) (M' := (zU M 0 0 cd)) (by decide +kernel) rfl ?_
    exact zT.iret (ty := Jvm.ClassFile.FieldType.boolean) (by simp only [g_X10_bad, if_pos c1]; try rfl) (by simp only [g_X10_bad, if_pos c1]; try rfl) rfl rfl (by decide +kernel)
  · skip
    refine zT.run [(.iload_n 1, 0, 0, 0), (.iload_n 3, 0, 0, 0)] (pe := 7) (ls' := [some (.ref 0), some (.int v), some (.int lo), some (.int hi), some (.int cd)]) (st' := [.int hi, .int v]) (M' := M) (by decide +kernel) rfl ?_
    refine zT.cle (tgt := 18) (off := 11) (by decide +kernel) (by decide) (fun (c2 : v ≤ hi) => ?_) (fun (c2 : ¬ v ≤ hi) => ?_)
    · skip
      refine zT.run [(.iconst 0, 0, 0, 0)] (pe := 19) (ls' := [some (.ref 0), some (.int v), some (.int lo), some (.int hi), some (.int cd)]) (st' := [.int 0]) (M' := M) (by decide +kernel) rfl ?_
      exact zT.iret (ty := Jvm.ClassFile.FieldType.boolean) (by simp only [g_X10_bad, if_neg c1, if_pos c2]; try rfl) (by simp only [g_X10_bad, if_neg c1, if_pos c2]; try rfl) rfl rfl (by decide +kernel)
    · skip
      refine zT.run [(.aload_n 0, 0, 0, 0), (.iload 4, 0, 0, 0), (.putfield 61, 8, 0, 5149), (.iconst 1, 0, 0, 0)] (pe := 17) (ls' := [some (.ref 0), some (.int v), some (.int lo), some (.int hi), some (.int cd)]) (st' := [.int 1]) (M' := (zU M 0 0 cd)) (by decide +kernel) rfl ?_
      exact zT.iret (ty := Jvm.ClassFile.FieldType.boolean) (by simp only [g_X10_bad, if_neg c1, if_neg c2]; try rfl) (by simp only [g_X10_bad, if_neg c1, if_neg c2]; try rfl) rfl rfl (by decide +kernel)
theorem fr_X10_bad (M : zM) (v : Int32) (lo : Int32) (hi : Int32) (cd : Int32) (o : Nat) (ho : o ≠ 0) : (g_X10_bad M v lo hi cd).2 o = M o := by
  simp only [g_X10_bad]
  (repeat' split) <;> simp only [zU_ne ho, zUa_ne ho]
theorem k_X10_bad : zCal yy_X10_bad 4 := ⟨⟨⟨⟨zIn (w := 5223) (by decide +kernel) rfl, zIn (w := 1012) (by decide +kernel) rfl⟩, by decide +kernel⟩, by decide +kernel⟩, ⟨zIn (w := 5222) (by decide +kernel) rfl, zIn (w := 32) (by decide +kernel) rfl⟩⟩
noncomputable abbrev yy_X10_ones : zY := (yX10_ones, cX10_ones, 3, (some Jvm.ClassFile.FieldType.int), 0, 0)
def zOn : Nat → Int32 → Int32 → Int32
  | 0, _, n => n
  | k + 1, l, n => if l = 0 then n else zOn k (l &&& (l - 1)) (n + 1)
noncomputable def g_X10_ones (b : Int32) : Int32 := zOn b.toBitVec.toNat b 0
theorem zOn_lt {l : Int32} (h : ¬ l = 0) : (l &&& (l - 1)).toBitVec.toNat < l.toBitVec.toNat := by
  have h0 : l.toBitVec.toNat ≠ 0 := fun e => h (Int32.toBitVec_inj.mp (BitVec.eq_of_toNat_eq e))
  have h1 : (l &&& (l - 1)).toBitVec.toNat ≤ (l - 1).toBitVec.toNat := by
    show (l.toBitVec &&& (l - 1).toBitVec).toNat ≤ _
    rw [BitVec.toNat_and]
    exact Nat.and_le_right
  have h2 : (l - 1).toBitVec.toNat = l.toBitVec.toNat - 1 := by
    show (l.toBitVec - 1#32).toNat = _
    have hlt := l.toBitVec.isLt
    rw [BitVec.toNat_sub]
    show (2 ^ 32 - 1 + l.toBitVec.toNat) % 2 ^ 32 = _
    omega
  omega
set_option maxRecDepth 100000 in
theorem c_X10_ones (b : Int32) : zC yy_X10_ones 0 0 [.int b] [] zM0 (some (.int (g_X10_ones b))) [] zM0 := by
  refine zC.of (by decide +kernel) rfl (Nat.le_of_ble_eq_true rfl) ?_
  refine zT.run [(.iconst 0, 0, 0, 0), (.istore_n 1, 0, 0, 0), (.iload_n 0, 0, 0, 0), (.istore_n 2, 0, 0, 0)] (pe := 4) (ls' := [some (.int b), some (.int 0), some (.int b)]) (st' := []) (M' := zM0) (by decide +kernel) rfl ?_
  have key : ∀ (k : Nat) (l n : Int32), l.toBitVec.toNat ≤ k → zT yy_X10_ones 0 0 (zEnd yy_X10_ones (some (.int (zOn k l n))) [] zM0) (4, [some (.int b), some (.int n), some (.int l)], [], [], zM0) := by
    intro k
    induction k with
    | zero =>
      intro l n h
      have e : l = 0 := Int32.toBitVec_inj.mp (BitVec.eq_of_toNat_eq (show l.toBitVec.toNat = 0 by omega))
      refine zT.run [(.iload_n 2, 0, 0, 0)] (pe := 5) (ls' := [some (.int b), some (.int n), some (.int l)]) (st' := [.int l]) (M' := zM0) (by decide +kernel) rfl ?_
      refine zT.zeq (tgt := 20) (off := 15) (by decide +kernel) (by decide) (fun _ => ?_) (fun c => absurd e c)
      refine zT.run [(.iload_n 1, 0, 0, 0)] (pe := 21) (ls' := [some (.int b), some (.int n), some (.int l)]) (st' := [.int n]) (M' := zM0) (by decide +kernel) rfl ?_
      exact zT.iret (ty := .int) rfl rfl rfl rfl (by decide +kernel)
    | succ k ih =>
      intro l n h
      refine zT.run [(.iload_n 2, 0, 0, 0)] (pe := 5) (ls' := [some (.int b), some (.int n), some (.int l)]) (st' := [.int l]) (M' := zM0) (by decide +kernel) rfl ?_
      refine zT.zeq (tgt := 20) (off := 15) (by decide +kernel) (by decide) (fun c => ?_) (fun c => ?_)
      · refine zT.run [(.iload_n 1, 0, 0, 0)] (pe := 21) (ls' := [some (.int b), some (.int n), some (.int l)]) (st' := [.int n]) (M' := zM0) (by decide +kernel) rfl ?_
        exact zT.iret (ty := .int) (by rw [zOn, if_pos c]) rfl rfl rfl (by decide +kernel)
      · refine zT.run [(.iinc 1 1, 0, 0, 0), (.iload_n 2, 0, 0, 0), (.iload_n 2, 0, 0, 0), (.iconst 1, 0, 0, 0), (.isub, 0, 0, 0), (.iand, 0, 0, 0), (.istore_n 2, 0, 0, 0), (.goto (-13), 0, 0, 0)] (pe := 4) (ls' := [some (.int b), some (.int (n + 1)), some (.int (l &&& (l - 1)))]) (st' := []) (M' := zM0) (by decide +kernel) rfl ?_
        have h2 := zOn_lt c
        have h1 := ih (l &&& (l - 1)) (n + 1) (by omega)
        rw [zOn, if_neg c]
        exact h1
  exact key _ b 0 (Nat.le_refl _)
theorem k_X10_ones : zCas yy_X10_ones 1 := ⟨⟨⟨⟨zIn (w := 5234) (by decide +kernel) rfl, zIn (w := 1012) (by decide +kernel) rfl⟩, by decide +kernel⟩, by decide +kernel⟩, zIn (w := 5233) (by decide +kernel) rfl⟩
noncomputable abbrev yy_X10_size : zY := (yX10_size, cX10_size, 1, (some Jvm.ClassFile.FieldType.int), 0, 0)
noncomputable def g_X10_size (v : Int32) : Int32 := (if 0 ≤ v then v else (-v))
set_option maxRecDepth 100000 in
theorem c_X10_size (v : Int32)  : zC yy_X10_size 0 0 [.int v] [] zM0 (some (.int (g_X10_size v))) [] zM0 := by
  refine zC.of (by decide +kernel) rfl (Nat.le_of_ble_eq_true rfl) ?_
  refine zT.run [(.iload_n 0, 0, 0, 0)] (pe := 1) (ls' := [some (.int v)]) (st' := [.int v]) (M' := zM0) (by decide +kernel) rfl ?_
  refine zT.zge (tgt := 9) (off := 8) (by decide +kernel) (by decide) (fun (c1 : 0 ≤ v) => ?_) (fun (c1 : ¬ 0 ≤ v) => ?_)
  · skip
    refine zT.run [(.iload_n 0, 0, 0, 0)] (pe := 10) (ls' := [some (.int v)]) (st' := [.int v]) (M' := zM0) (by decide +kernel) rfl ?_
    exact zT.iret (ty := Jvm.ClassFile.FieldType.int) (by simp only [g_X10_size, if_pos c1]; try rfl) rfl rfl rfl (by decide +kernel)
  · skip
    refine zT.run [(.iload_n 0, 0, 0, 0), (.ineg, 0, 0, 0), (.goto 4, 0, 0, 0)] (pe := 10) (ls' := [some (.int v)]) (st' := [.int (-v)]) (M' := zM0) (by decide +kernel) rfl ?_
    exact zT.iret (ty := Jvm.ClassFile.FieldType.int) (by simp only [g_X10_size, if_neg c1]; try rfl) rfl rfl rfl (by decide +kernel)
theorem k_X10_size : zCas yy_X10_size 1 := ⟨⟨⟨⟨zIn (w := 7098) (by decide +kernel) rfl, zIn (w := 1012) (by decide +kernel) rfl⟩, by decide +kernel⟩, by decide +kernel⟩, zIn (w := 7097) (by decide +kernel) rfl⟩
noncomputable abbrev yy_X10_sealOf : zY := (yX10_sealOf, cX10_sealOf, 3, (some Jvm.ClassFile.FieldType.int), 0, 0)
noncomputable def g_X10_sealOf (a : Int32) (b : Int32) (c : Int32) : Int32 := ((((((((31 * ((a : Int32).toInt64)) + (17 * ((b : Int32).toInt64))) + (7 * ((c : Int32).toInt64))) + 5) * 40503) - (((((31 * ((a : Int32).toInt64)) + (17 * ((b : Int32).toInt64))) + (7 * ((c : Int32).toInt64))) + 5) * 40503) / 65536 * 65536)).toInt32)
set_option maxRecDepth 100000 in
theorem c_X10_sealOf (a : Int32) (b : Int32) (c : Int32)  : zC yy_X10_sealOf 0 0 [.int a, .int b, .int c] [] zM0 (some (.int (g_X10_sealOf a b c))) [] zM0 := by
  refine zC.of (by decide +kernel) rfl (Nat.le_of_ble_eq_true rfl) ?_
  refine zT.run [(.ldc2_w 94, 31, 0, 5131), (.iload_n 0, 0, 0, 0), (.i2l, 0, 0, 0), (.lmul, 0, 0, 0), (.ldc2_w 96, 17, 0, 5132), (.iload_n 1, 0, 0, 0), (.i2l, 0, 0, 0), (.lmul, 0, 0, 0), (.ladd, 0, 0, 0), (.ldc2_w 98, 7, 0, 5133), (.iload_n 2, 0, 0, 0), (.i2l, 0, 0, 0), (.lmul, 0, 0, 0), (.ladd, 0, 0, 0), (.ldc2_w 100, 5, 0, 5134), (.ladd, 0, 0, 0), (.ldc2_w 102, 40503, 0, 5135), (.lmul, 0, 0, 0), (.ldc2_w 104, 65536, 0, 5136), (.lrem, 0, 0, 0), (.l2i, 0, 0, 0)] (pe := 33) (ls' := [some (.int a), some (.int b), some (.int c)]) (st' := [.int ((((((((31 * ((a : Int32).toInt64)) + (17 * ((b : Int32).toInt64))) + (7 * ((c : Int32).toInt64))) + 5) * 40503) - (((((31 * ((a : Int32).toInt64)) + (17 * ((b : Int32).toInt64))) + (7 * ((c : Int32).toInt64))) + 5) * 40503) / 65536 * 65536)).toInt32)]) (M' := zM0) (by decide +kernel) rfl ?_
  exact zT.iret (ty := Jvm.ClassFile.FieldType.int) (by simp only [g_X10_sealOf]; try rfl) rfl rfl rfl (by decide +kernel)
theorem k_X10_sealOf : zCas yy_X10_sealOf 3 := ⟨⟨⟨⟨zIn (w := 5130) (by decide +kernel) rfl, zIn (w := 1012) (by decide +kernel) rfl⟩, by decide +kernel⟩, by decide +kernel⟩, zIn (w := 5129) (by decide +kernel) rfl⟩
noncomputable abbrev yy_X10_leastOf : zY := (yX10_leastOf, cX10_leastOf, 1, (some Jvm.ClassFile.FieldType.int), 0, 0)
noncomputable def g_X10_leastOf (w : Int32) : Int32 := (if w = 0 then 1 else 0)
set_option maxRecDepth 100000 in
theorem c_X10_leastOf (w : Int32)  : zC yy_X10_leastOf 0 0 [.int w] [] zM0 (some (.int (g_X10_leastOf w))) [] zM0 := by
  refine zC.of (by decide +kernel) rfl (Nat.le_of_ble_eq_true rfl) ?_
  refine zT.run [(.iload_n 0, 0, 0, 0)] (pe := 1) (ls' := [some (.int w)]) (st' := [.int w]) (M' := zM0) (by decide +kernel) rfl ?_
  refine zT.zne (tgt := 8) (off := 7) (by decide +kernel) (by decide) (fun (c1 : ¬ w = 0) => ?_) (fun (c1 : w = 0) => ?_)
  · skip
    refine zT.run [(.iconst 0, 0, 0, 0)] (pe := 9) (ls' := [some (.int w)]) (st' := [.int 0]) (M' := zM0) (by decide +kernel) rfl ?_
    exact zT.iret (ty := Jvm.ClassFile.FieldType.int) (by simp only [g_X10_leastOf, if_neg c1]; try rfl) rfl rfl rfl (by decide +kernel)
  · skip
    refine zT.run [(.iconst 1, 0, 0, 0), (.goto 4, 0, 0, 0)] (pe := 9) (ls' := [some (.int w)]) (st' := [.int 1]) (M' := zM0) (by decide +kernel) rfl ?_
    exact zT.iret (ty := Jvm.ClassFile.FieldType.int) (by simp only [g_X10_leastOf, if_pos c1]; try rfl) rfl rfl rfl (by decide +kernel)
theorem k_X10_leastOf : zCas yy_X10_leastOf 1 := ⟨⟨⟨⟨zIn (w := 6141) (by decide +kernel) rfl, zIn (w := 1012) (by decide +kernel) rfl⟩, by decide +kernel⟩, by decide +kernel⟩, zIn (w := 6140) (by decide +kernel) rfl⟩
noncomputable abbrev yy_X10_mostOf : zY := (yX10_mostOf, cX10_mostOf, 1, (some Jvm.ClassFile.FieldType.int), 0, 0)
noncomputable def g_X10_mostOf (w : Int32) : Int32 := (if w = 0 then 9 else (if w = 1 then 1 else 3))
set_option maxRecDepth 100000 in
theorem c_X10_mostOf (w : Int32)  : zC yy_X10_mostOf 0 0 [.int w] [] zM0 (some (.int (g_X10_mostOf w))) [] zM0 := by
  refine zC.of (by decide +kernel) rfl (Nat.le_of_ble_eq_true rfl) ?_
  refine zT.run [(.iload_n 0, 0, 0, 0)] (pe := 1) (ls' := [some (.int w)]) (st' := [.int w]) (M' := zM0) (by decide +kernel) rfl ?_
  refine zT.zne (tgt := 9) (off := 8) (by decide +kernel) (by decide) (fun (c1 : ¬ w = 0) => ?_) (fun (c1 : w = 0) => ?_)
  · skip
    refine zT.run [(.iload_n 0, 0, 0, 0), (.iconst 1, 0, 0, 0)] (pe := 11) (ls' := [some (.int w)]) (st' := [.int 1, .int w]) (M' := zM0) (by decide +kernel) rfl ?_
    refine zT.cne (tgt := 18) (off := 7) (by decide +kernel) (by decide) (fun (c2 : ¬ w = 1) => ?_) (fun (c2 : w = 1) => ?_)
    · skip
      refine zT.run [(.iconst 3, 0, 0, 0)] (pe := 19) (ls' := [some (.int w)]) (st' := [.int 3]) (M' := zM0) (by decide +kernel) rfl ?_
      exact zT.iret (ty := Jvm.ClassFile.FieldType.int) (by simp only [g_X10_mostOf, if_neg c1, if_neg c2]; try rfl) rfl rfl rfl (by decide +kernel)
    · skip
      refine zT.run [(.iconst 1, 0, 0, 0), (.goto 4, 0, 0, 0)] (pe := 19) (ls' := [some (.int w)]) (st' := [.int 1]) (M' := zM0) (by decide +kernel) rfl ?_
      exact zT.iret (ty := Jvm.ClassFile.FieldType.int) (by simp only [g_X10_mostOf, if_neg c1, if_pos c2]; try rfl) rfl rfl rfl (by decide +kernel)
  · skip
    refine zT.run [(.bipush 9, 0, 0, 0), (.goto 13, 0, 0, 0)] (pe := 19) (ls' := [some (.int w)]) (st' := [.int 9]) (M' := zM0) (by decide +kernel) rfl ?_
    exact zT.iret (ty := Jvm.ClassFile.FieldType.int) (by simp only [g_X10_mostOf, if_pos c1]; try rfl) rfl rfl rfl (by decide +kernel)
theorem k_X10_mostOf : zCas yy_X10_mostOf 1 := ⟨⟨⟨⟨zIn (w := 6144) (by decide +kernel) rfl, zIn (w := 1012) (by decide +kernel) rfl⟩, by decide +kernel⟩, by decide +kernel⟩, zIn (w := 6143) (by decide +kernel) rfl⟩
noncomputable abbrev yy_X10_of : zY := (yX10_of, cX10_of, 3, (some Jvm.ClassFile.FieldType.int), 0, 0)
noncomputable def g_X10_of (M : zM) (r : Nat) (w : Nat) : Int32 := (M 1 ((10 + (r * 9)) + w))
set_option maxRecDepth 100000 in
theorem c_X10_of (M : zM) (gp : Nat → Option Nat) (r : Nat) (w : Nat) (h_r : r < 9) (h_w : w < 9) : zC yy_X10_of 0 0 [.ref 0, .int (nI r), .int (nI w)] (sh_Model gp) M (some (.int (g_X10_of M r w))) (sh_Model gp) M := by
  refine zC.of (by decide +kernel) rfl (Nat.le_of_ble_eq_true rfl) ?_
  refine zT.run [(.aload_n 0, 0, 0, 0), (.getfield 9, 8, 1, 5150), (.bipush 10, 0, 0, 0), (.iload_n 1, 0, 0, 0), (.bipush 9, 0, 0, 0), (.imul, 0, 0, 0), (.iadd, 0, 0, 0), (.iload_n 2, 0, 0, 0), (.iadd, 0, 0, 0)] (pe := 13) (ls' := [some (.ref 0), some (.int (nI r)), some (.int (nI w))]) (st' := [.int ((10 + ((nI r) * 9)) + (nI w)), .ref 1]) (M' := M) (by decide +kernel) rfl ?_
  refine zT.iald (n := 187) (k := ((10 + (r * 9)) + w)) rfl (by show (((nI 10) + ((nI r) * (nI 9))) + (nI w)) = nI ((10 + (r * 9)) + w); simp only [pk_mul, nI_add]) (by omega) (by decide) (by decide +kernel) ?_
  exact zT.iret (ty := Jvm.ClassFile.FieldType.int) (by simp only [g_X10_of]; try rfl) rfl rfl rfl (by decide +kernel)
theorem k_X10_of : zCal yy_X10_of 2 := ⟨⟨⟨⟨zIn (w := 5111) (by decide +kernel) rfl, zIn (w := 1012) (by decide +kernel) rfl⟩, by decide +kernel⟩, by decide +kernel⟩, ⟨zIn (w := 5110) (by decide +kernel) rfl, zIn (w := 23) (by decide +kernel) rfl⟩⟩
noncomputable abbrev yy_X10_put : zY := (yX10_put, cX10_put, 4, none, 0, 0)
noncomputable def g_X10_put (M : zM) (r : Nat) (w : Nat) (v : Int32) : zM := (zU M 1 ((10 + (r * 9)) + w) v)
set_option maxRecDepth 100000 in
theorem c_X10_put (M : zM) (gp : Nat → Option Nat) (r : Nat) (w : Nat) (v : Int32) (h_r : r < 9) (h_w : w < 9) : zC yy_X10_put 0 0 [.ref 0, .int (nI r), .int (nI w), .int v] (sh_Model gp) M none (sh_Model gp) (g_X10_put M r w v) := by
  refine zC.of (by decide +kernel) rfl (Nat.le_of_ble_eq_true rfl) ?_
  refine zT.run [(.aload_n 0, 0, 0, 0), (.getfield 9, 8, 1, 5150), (.bipush 10, 0, 0, 0), (.iload_n 1, 0, 0, 0), (.bipush 9, 0, 0, 0), (.imul, 0, 0, 0), (.iadd, 0, 0, 0), (.iload_n 2, 0, 0, 0), (.iadd, 0, 0, 0), (.iload_n 3, 0, 0, 0)] (pe := 14) (ls' := [some (.ref 0), some (.int (nI r)), some (.int (nI w)), some (.int v)]) (st' := [.int v, .int ((10 + ((nI r) * 9)) + (nI w)), .ref 1]) (M' := M) (by decide +kernel) rfl ?_
  refine zT.iast (n := 187) (k := ((10 + (r * 9)) + w)) rfl (by show (((nI 10) + ((nI r) * (nI 9))) + (nI w)) = nI ((10 + (r * 9)) + w); simp only [pk_mul, nI_add]) (by omega) (by decide) (by decide +kernel) ?_
  exact zT.vret (by simp only [g_X10_put]; try rfl) rfl (by decide +kernel)
theorem fr_X10_put (M : zM) (r : Nat) (w : Nat) (v : Int32) (o : Nat) (ho : o ≠ 1) : (g_X10_put M r w v) o = M o := by
  simp only [g_X10_put]
  (repeat' split) <;> simp only [zU_ne ho, zUa_ne ho]
theorem k_X10_put : zCal yy_X10_put 3 := ⟨⟨⟨⟨zIn (w := 5103) (by decide +kernel) rfl, zIn (w := 1012) (by decide +kernel) rfl⟩, by decide +kernel⟩, by decide +kernel⟩, ⟨zIn (w := 5102) (by decide +kernel) rfl, zIn (w := 21) (by decide +kernel) rfl⟩⟩
noncomputable abbrev yy_X10_isUp : zY := (yX10_isUp, cX10_isUp, 2, (some Jvm.ClassFile.FieldType.boolean), 1, 22)
noncomputable def g_X10_isUp (M : zM) (r : Nat) : Int32 := (if (g_X10_of M r 2) = 1 then 1 else 0)
set_option maxRecDepth 100000 in
theorem c_X10_isUp (M : zM) (gp : Nat → Option Nat) (r : Nat) (h_r : r < 9) : zC yy_X10_isUp 0 0 [.ref 0, .int (nI r)] (sh_Model gp) M (some (.int (g_X10_isUp M r))) (sh_Model gp) M := by
  refine zC.of (by decide +kernel) rfl (Nat.le_of_ble_eq_true rfl) ?_
  refine zT.run [(.aload_n 0, 0, 0, 0), (.iload_n 1, 0, 0, 0), (.iconst 2, 0, 0, 0)] (pe := 3) (ls' := [some (.ref 0), some (.int (nI r))]) (st' := [.int 2, .int (nI r), .ref 0]) (M' := M) (by decide +kernel) rfl ?_
  refine zT.cV_own (o := 0) (idx := 80) (av := [.int (nI r), .int (nI 2)]) (rv := (some (.int (g_X10_of M r 2)))) (st := []) (S1 := [.int (g_X10_of M r 2)]) (c_X10_of M gp r 2 (by omega) (by decide)) k_X10_of _ _ rfl rfl rfl (zIn (w := 5108) (by decide +kernel) rfl) (by decide +kernel) (by decide +kernel) rfl (Nat.le_of_ble_eq_true rfl) rfl ?_
  refine zT.run [(.iconst 1, 0, 0, 0)] (pe := 7) (ls' := [some (.ref 0), some (.int (nI r))]) (st' := [.int 1, .int (g_X10_of M r 2)]) (M' := M) (by decide +kernel) rfl ?_
  refine zT.cne (tgt := 14) (off := 7) (by decide +kernel) (by decide) (fun (c1 : ¬ (g_X10_of M r 2) = 1) => ?_) (fun (c1 : (g_X10_of M r 2) = 1) => ?_)
  · skip
    refine zT.run [(.iconst 0, 0, 0, 0)] (pe := 15) (ls' := [some (.ref 0), some (.int (nI r))]) (st' := [.int 0]) (M' := M) (by decide +kernel) rfl ?_
    exact zT.iret (ty := Jvm.ClassFile.FieldType.boolean) (by simp only [g_X10_isUp, if_neg c1]; try rfl) rfl rfl rfl (by decide +kernel)
  · skip
    refine zT.run [(.iconst 1, 0, 0, 0), (.goto 4, 0, 0, 0)] (pe := 15) (ls' := [some (.ref 0), some (.int (nI r))]) (st' := [.int 1]) (M' := M) (by decide +kernel) rfl ?_
    exact zT.iret (ty := Jvm.ClassFile.FieldType.boolean) (by simp only [g_X10_isUp, if_pos c1]; try rfl) rfl rfl rfl (by decide +kernel)
theorem k_X10_isUp : zCal yy_X10_isUp 1 := ⟨⟨⟨⟨zIn (w := 5123) (by decide +kernel) rfl, zIn (w := 1012) (by decide +kernel) rfl⟩, by decide +kernel⟩, by decide +kernel⟩, ⟨zIn (w := 5122) (by decide +kernel) rfl, zIn (w := 26) (by decide +kernel) rfl⟩⟩
theorem nb_X10_isUp {M : zM} {r : Nat} : narrow .boolean (.int (g_X10_isUp M r)) = .int (g_X10_isUp M r) := by
  simp only [g_X10_isUp]
  (repeat' split) <;> rfl
noncomputable abbrev yy_X10_areLinked : zY := (yX10_areLinked, cX10_areLinked, 3, (some Jvm.ClassFile.FieldType.boolean), 1, 22)
noncomputable def g_X10_areLinked (M : zM) (a : Nat) (b : Int32) : Int32 := (if (nI a) = b then 1 else (if (((g_X10_of M a 5) >>> (b &&& 31)) &&& 1) = 1 then 1 else 0))
set_option maxRecDepth 100000 in
theorem c_X10_areLinked (M : zM) (gp : Nat → Option Nat) (a : Nat) (b : Int32) (h_a : a < 9) : zC yy_X10_areLinked 0 0 [.ref 0, .int (nI a), .int b] (sh_Model gp) M (some (.int (g_X10_areLinked M a b))) (sh_Model gp) M := by
  refine zC.of (by decide +kernel) rfl (Nat.le_of_ble_eq_true rfl) ?_
  refine zT.run [(.iload_n 1, 0, 0, 0), (.iload_n 2, 0, 0, 0)] (pe := 2) (ls' := [some (.ref 0), some (.int (nI a)), some (.int b)]) (st' := [.int b, .int (nI a)]) (M' := M) (by decide +kernel) rfl ?_
  refine zT.ceq (tgt := 19) (off := 17) (by decide +kernel) (by decide) (fun (c1 : (nI a) = b) => ?_) (fun (c1 : ¬ (nI a) = b) => ?_)
  · skip
    refine zT.run [(.iconst 1, 0, 0, 0), (.goto 4, 0, 0, 0)] (pe := 24) (ls' := [some (.ref 0), some (.int (nI a)), some (.int b)]) (st' := [.int 1]) (M' := M) (by decide +kernel) rfl ?_
    exact zT.iret (ty := Jvm.ClassFile.FieldType.boolean) (by simp only [g_X10_areLinked, if_pos c1]; try rfl) rfl rfl rfl (by decide +kernel)
  · skip
    refine zT.run [(.aload_n 0, 0, 0, 0), (.iload_n 1, 0, 0, 0), (.iconst 5, 0, 0, 0)] (pe := 8) (ls' := [some (.ref 0), some (.int (nI a)), some (.int b)]) (st' := [.int 5, .int (nI a), .ref 0]) (M' := M) (by decide +kernel) rfl ?_
    refine zT.cV_own (o := 0) (idx := 80) (av := [.int (nI a), .int (nI 5)]) (rv := (some (.int (g_X10_of M a 5)))) (st := []) (S1 := [.int (g_X10_of M a 5)]) (c_X10_of M gp a 5 (by omega) (by decide)) k_X10_of _ _ rfl rfl rfl (zIn (w := 5108) (by decide +kernel) rfl) (by decide +kernel) (by decide +kernel) rfl (Nat.le_of_ble_eq_true rfl) rfl ?_
    refine zT.run [(.iload_n 2, 0, 0, 0), (.ishr, 0, 0, 0), (.iconst 1, 0, 0, 0), (.iand, 0, 0, 0), (.iconst 1, 0, 0, 0)] (pe := 16) (ls' := [some (.ref 0), some (.int (nI a)), some (.int b)]) (st' := [.int 1, .int (((g_X10_of M a 5) >>> (b &&& 31)) &&& 1)]) (M' := M) (by decide +kernel) rfl ?_
    refine zT.cne (tgt := 23) (off := 7) (by decide +kernel) (by decide) (fun (c2 : ¬ (((g_X10_of M a 5) >>> (b &&& 31)) &&& 1) = 1) => ?_) (fun (c2 : (((g_X10_of M a 5) >>> (b &&& 31)) &&& 1) = 1) => ?_)
    · skip
      refine zT.run [(.iconst 0, 0, 0, 0)] (pe := 24) (ls' := [some (.ref 0), some (.int (nI a)), some (.int b)]) (st' := [.int 0]) (M' := M) (by decide +kernel) rfl ?_
      exact zT.iret (ty := Jvm.ClassFile.FieldType.boolean) (by simp only [g_X10_areLinked, if_neg c1, if_neg c2]; try rfl) rfl rfl rfl (by decide +kernel)
    · skip
      refine zT.run [(.iconst 1, 0, 0, 0), (.goto 4, 0, 0, 0)] (pe := 24) (ls' := [some (.ref 0), some (.int (nI a)), some (.int b)]) (st' := [.int 1]) (M' := M) (by decide +kernel) rfl ?_
      exact zT.iret (ty := Jvm.ClassFile.FieldType.boolean) (by simp only [g_X10_areLinked, if_neg c1, if_pos c2]; try rfl) rfl rfl rfl (by decide +kernel)
theorem k_X10_areLinked : zCal yy_X10_areLinked 2 := ⟨⟨⟨⟨zIn (w := 5127) (by decide +kernel) rfl, zIn (w := 1012) (by decide +kernel) rfl⟩, by decide +kernel⟩, by decide +kernel⟩, ⟨zIn (w := 5126) (by decide +kernel) rfl, zIn (w := 27) (by decide +kernel) rfl⟩⟩
theorem nb_X10_areLinked {M : zM} {a : Nat} {b : Int32} : narrow .boolean (.int (g_X10_areLinked M a b)) = .int (g_X10_areLinked M a b) := by
  simp only [g_X10_areLinked]
  (repeat' split) <;> rfl
noncomputable abbrev yy_X10_isOnRoll : zY := (yX10_isOnRoll, cX10_isOnRoll, 2, (some Jvm.ClassFile.FieldType.boolean), 0, 0)
noncomputable def g_X10_isOnRoll (M : zM) (r : Int32) : Int32 := (if (M 1 4) ≤ 0 then 0 else (if (((M 1 7) >>> (r &&& 31)) &&& 1) = 1 then 1 else 0))
set_option maxRecDepth 100000 in
theorem c_X10_isOnRoll (M : zM) (gp : Nat → Option Nat) (r : Int32)  : zC yy_X10_isOnRoll 0 0 [.ref 0, .int r] (sh_Model gp) M (some (.int (g_X10_isOnRoll M r))) (sh_Model gp) M := by
  refine zC.of (by decide +kernel) rfl (Nat.le_of_ble_eq_true rfl) ?_
  refine zT.run [(.aload_n 0, 0, 0, 0), (.getfield 9, 8, 1, 5150), (.iconst 4, 0, 0, 0)] (pe := 5) (ls' := [some (.ref 0), some (.int r)]) (st' := [.int 4, .ref 1]) (M' := M) (by decide +kernel) rfl ?_
  refine zT.iald (n := 187) (k := 4) rfl rfl (by decide) (by decide) (by decide +kernel) ?_
  refine zT.zle (tgt := 28) (off := 22) (by decide +kernel) (by decide) (fun (c1 : (M 1 4) ≤ 0) => ?_) (fun (c1 : ¬ (M 1 4) ≤ 0) => ?_)
  · skip
    refine zT.run [(.iconst 0, 0, 0, 0)] (pe := 29) (ls' := [some (.ref 0), some (.int r)]) (st' := [.int 0]) (M' := M) (by decide +kernel) rfl ?_
    exact zT.iret (ty := Jvm.ClassFile.FieldType.boolean) (by simp only [g_X10_isOnRoll, if_pos c1]; try rfl) rfl rfl rfl (by decide +kernel)
  · skip
    refine zT.run [(.aload_n 0, 0, 0, 0), (.getfield 9, 8, 1, 5150), (.bipush 7, 0, 0, 0)] (pe := 15) (ls' := [some (.ref 0), some (.int r)]) (st' := [.int 7, .ref 1]) (M' := M) (by decide +kernel) rfl ?_
    refine zT.iald (n := 187) (k := 7) rfl rfl (by decide) (by decide) (by decide +kernel) ?_
    refine zT.run [(.iload_n 1, 0, 0, 0), (.ishr, 0, 0, 0), (.iconst 1, 0, 0, 0), (.iand, 0, 0, 0), (.iconst 1, 0, 0, 0)] (pe := 21) (ls' := [some (.ref 0), some (.int r)]) (st' := [.int 1, .int (((M 1 7) >>> (r &&& 31)) &&& 1)]) (M' := M) (by decide +kernel) rfl ?_
    refine zT.cne (tgt := 28) (off := 7) (by decide +kernel) (by decide) (fun (c2 : ¬ (((M 1 7) >>> (r &&& 31)) &&& 1) = 1) => ?_) (fun (c2 : (((M 1 7) >>> (r &&& 31)) &&& 1) = 1) => ?_)
    · skip
      refine zT.run [(.iconst 0, 0, 0, 0)] (pe := 29) (ls' := [some (.ref 0), some (.int r)]) (st' := [.int 0]) (M' := M) (by decide +kernel) rfl ?_
      exact zT.iret (ty := Jvm.ClassFile.FieldType.boolean) (by simp only [g_X10_isOnRoll, if_neg c1, if_neg c2]; try rfl) rfl rfl rfl (by decide +kernel)
    · skip
      refine zT.run [(.iconst 1, 0, 0, 0), (.goto 4, 0, 0, 0)] (pe := 29) (ls' := [some (.ref 0), some (.int r)]) (st' := [.int 1]) (M' := M) (by decide +kernel) rfl ?_
      exact zT.iret (ty := Jvm.ClassFile.FieldType.boolean) (by simp only [g_X10_isOnRoll, if_neg c1, if_pos c2]; try rfl) rfl rfl rfl (by decide +kernel)
theorem k_X10_isOnRoll : zCal yy_X10_isOnRoll 1 := ⟨⟨⟨⟨zIn (w := 5148) (by decide +kernel) rfl, zIn (w := 1012) (by decide +kernel) rfl⟩, by decide +kernel⟩, by decide +kernel⟩, ⟨zIn (w := 5147) (by decide +kernel) rfl, zIn (w := 30) (by decide +kernel) rfl⟩⟩
theorem nb_X10_isOnRoll {M : zM} {r : Int32} : narrow .boolean (.int (g_X10_isOnRoll M r)) = .int (g_X10_isOnRoll M r) := by
  simp only [g_X10_isOnRoll]
  (repeat' split) <;> rfl
noncomputable abbrev yy_X10_need : zY := (yX10_need, cX10_need, 1, (some Jvm.ClassFile.FieldType.int), 1, 22)
noncomputable def g_X10_need (M : zM)  : Int32 := (((g_X10_ones (M 1 7)) / 2) + 1)
set_option maxRecDepth 100000 in
theorem c_X10_need (M : zM) (gp : Nat → Option Nat)   : zC yy_X10_need 0 0 [.ref 0] (sh_Model gp) M (some (.int (g_X10_need M))) (sh_Model gp) M := by
  refine zC.of (by decide +kernel) rfl (Nat.le_of_ble_eq_true rfl) ?_
  refine zT.run [(.aload_n 0, 0, 0, 0), (.getfield 9, 8, 1, 5150), (.bipush 7, 0, 0, 0)] (pe := 6) (ls' := [some (.ref 0)]) (st' := [.int 7, .ref 1]) (M' := M) (by decide +kernel) rfl ?_
  refine zT.iald (n := 187) (k := 7) rfl rfl (by decide) (by decide) (by decide +kernel) ?_
  refine zT.cS_nil (idx := 83) (av := [.int (M 1 7)]) (rv := (some (.int (g_X10_ones (M 1 7))))) (st := []) (S1 := [.int (g_X10_ones (M 1 7))]) (c_X10_ones (M 1 7)) k_X10_ones rfl (zIn (w := 5232) (by decide +kernel) rfl) (by decide +kernel) (by decide +kernel) rfl (Nat.le_of_ble_eq_true rfl) rfl ?_
  refine zT.run [(.iconst 2, 0, 0, 0), (.idiv, 0, 0, 0), (.iconst 1, 0, 0, 0), (.iadd, 0, 0, 0)] (pe := 14) (ls' := [some (.ref 0)]) (st' := [.int (((g_X10_ones (M 1 7)) / 2) + 1)]) (M' := M) (by decide +kernel) rfl ?_
  exact zT.iret (ty := Jvm.ClassFile.FieldType.int) (by simp only [g_X10_need]; try rfl) rfl rfl rfl (by decide +kernel)
theorem k_X10_need : zCal yy_X10_need 0 := ⟨⟨⟨⟨zIn (w := 6034) (by decide +kernel) rfl, zIn (w := 1012) (by decide +kernel) rfl⟩, by decide +kernel⟩, by decide +kernel⟩, ⟨zIn (w := 6033) (by decide +kernel) rfl, zIn (w := 40) (by decide +kernel) rfl⟩⟩
noncomputable abbrev yy_X10_link : zY := (yX10_link, cX10_link, 4, none, 1, 23)
noncomputable def m_X10_link_1 (M : zM) (a : Nat) (b : Nat) (is : Int32) : zM := (g_X10_put (g_X10_put M a 5 (if is = 0 then ((g_X10_of M a 5) &&& ((1 <<< ((nI b) &&& 31)) ^^^ (-1))) else ((g_X10_of M a 5) ||| (1 <<< ((nI b) &&& 31))))) b 5 (if is = 0 then ((g_X10_of (g_X10_put M a 5 (if is = 0 then ((g_X10_of M a 5) &&& ((1 <<< ((nI b) &&& 31)) ^^^ (-1))) else ((g_X10_of M a 5) ||| (1 <<< ((nI b) &&& 31))))) b 5) &&& ((1 <<< ((nI a) &&& 31)) ^^^ (-1))) else ((g_X10_of (g_X10_put M a 5 (if is = 0 then ((g_X10_of M a 5) &&& ((1 <<< ((nI b) &&& 31)) ^^^ (-1))) else ((g_X10_of M a 5) ||| (1 <<< ((nI b) &&& 31))))) b 5) ||| (1 <<< ((nI a) &&& 31)))))
noncomputable def g_X10_link (M : zM) (a : Nat) (b : Nat) (is : Int32) : zM := (m_X10_link_1 M a b is)
set_option maxRecDepth 100000 in
theorem c_X10_link (M : zM) (gp : Nat → Option Nat) (a : Nat) (b : Nat) (is : Int32) (h_a : a < 9) (h_b : b < 9) : zC yy_X10_link 0 0 [.ref 0, .int (nI a), .int (nI b), .int is] (sh_Model gp) M none (sh_Model gp) (g_X10_link M a b is) := by
  refine zC.of (by decide +kernel) rfl (Nat.le_of_ble_eq_true rfl) ?_
  refine zT.run [(.aload_n 0, 0, 0, 0), (.iload_n 1, 0, 0, 0), (.iconst 5, 0, 0, 0), (.iload_n 3, 0, 0, 0)] (pe := 4) (ls' := [some (.ref 0), some (.int (nI a)), some (.int (nI b)), some (.int is)]) (st' := [.int is, .int 5, .int (nI a), .ref 0]) (M' := M) (by decide +kernel) rfl ?_
  refine zT.join (32, [some (.ref 0), some (.int (nI a)), some (.int (nI b)), some (.int is)], [.int (if is = 0 then ((g_X10_of M a 5) &&& ((1 <<< ((nI b) &&& 31)) ^^^ (-1))) else ((g_X10_of M a 5) ||| (1 <<< ((nI b) &&& 31)))), .int 5, .int (nI a), .ref 0], (sh_Model gp), M) ?_ ?_
  · refine zT.zeq (tgt := 20) (off := 16) (by decide +kernel) (by decide) (fun (c1 : is = 0) => ?_) (fun (c1 : ¬ is = 0) => ?_)
    · skip
      refine zT.run [(.aload_n 0, 0, 0, 0), (.iload_n 1, 0, 0, 0), (.iconst 5, 0, 0, 0)] (pe := 23) (ls' := [some (.ref 0), some (.int (nI a)), some (.int (nI b)), some (.int is)]) (st' := [.int 5, .int (nI a), .ref 0, .int 5, .int (nI a), .ref 0]) (M' := M) (by decide +kernel) rfl ?_
      refine zT.cV_own (o := 0) (idx := 80) (av := [.int (nI a), .int (nI 5)]) (rv := (some (.int (g_X10_of M a 5)))) (st := [.int 5, .int (nI a), .ref 0]) (S1 := [.int (g_X10_of M a 5), .int 5, .int (nI a), .ref 0]) (c_X10_of M gp a 5 (by omega) (by decide)) k_X10_of _ _ rfl rfl rfl (zIn (w := 5108) (by decide +kernel) rfl) (by decide +kernel) (by decide +kernel) rfl (Nat.le_of_ble_eq_true rfl) rfl ?_
      refine zT.run [(.iconst 1, 0, 0, 0), (.iload_n 2, 0, 0, 0), (.ishl, 0, 0, 0), (.iconst (-1), 0, 0, 0), (.ixor, 0, 0, 0), (.iand, 0, 0, 0)] (pe := 32) (ls' := [some (.ref 0), some (.int (nI a)), some (.int (nI b)), some (.int is)]) (st' := [.int ((g_X10_of M a 5) &&& ((1 <<< ((nI b) &&& 31)) ^^^ (-1))), .int 5, .int (nI a), .ref 0]) (M' := M) (by decide +kernel) rfl ?_
      exact zT.here (by simp only [if_pos c1])
    · skip
      refine zT.run [(.aload_n 0, 0, 0, 0), (.iload_n 1, 0, 0, 0), (.iconst 5, 0, 0, 0)] (pe := 10) (ls' := [some (.ref 0), some (.int (nI a)), some (.int (nI b)), some (.int is)]) (st' := [.int 5, .int (nI a), .ref 0, .int 5, .int (nI a), .ref 0]) (M' := M) (by decide +kernel) rfl ?_
      refine zT.cV_own (o := 0) (idx := 80) (av := [.int (nI a), .int (nI 5)]) (rv := (some (.int (g_X10_of M a 5)))) (st := [.int 5, .int (nI a), .ref 0]) (S1 := [.int (g_X10_of M a 5), .int 5, .int (nI a), .ref 0]) (c_X10_of M gp a 5 (by omega) (by decide)) k_X10_of _ _ rfl rfl rfl (zIn (w := 5108) (by decide +kernel) rfl) (by decide +kernel) (by decide +kernel) rfl (Nat.le_of_ble_eq_true rfl) rfl ?_
      refine zT.run [(.iconst 1, 0, 0, 0), (.iload_n 2, 0, 0, 0), (.ishl, 0, 0, 0), (.ior, 0, 0, 0), (.goto 15, 0, 0, 0)] (pe := 32) (ls' := [some (.ref 0), some (.int (nI a)), some (.int (nI b)), some (.int is)]) (st' := [.int ((g_X10_of M a 5) ||| (1 <<< ((nI b) &&& 31))), .int 5, .int (nI a), .ref 0]) (M' := M) (by decide +kernel) rfl ?_
      exact zT.here (by simp only [if_neg c1])
  · skip
    refine zT.cV_all (o := 0) (idx := 76) (av := [.int (nI a), .int (nI 5), .int (if is = 0 then ((g_X10_of M a 5) &&& ((1 <<< ((nI b) &&& 31)) ^^^ (-1))) else ((g_X10_of M a 5) ||| (1 <<< ((nI b) &&& 31))))]) (rv := none) (st := []) (S1 := []) (c_X10_put M gp a 5 (if is = 0 then ((g_X10_of M a 5) &&& ((1 <<< ((nI b) &&& 31)) ^^^ (-1))) else ((g_X10_of M a 5) ||| (1 <<< ((nI b) &&& 31)))) (by omega) (by decide)) k_X10_put _ _ rfl rfl rfl (zIn (w := 5100) (by decide +kernel) rfl) (by decide +kernel) (by decide +kernel) rfl (Nat.le_of_ble_eq_true rfl) rfl ?_
    refine zT.run [(.aload_n 0, 0, 0, 0), (.iload_n 2, 0, 0, 0), (.iconst 5, 0, 0, 0), (.iload_n 3, 0, 0, 0)] (pe := 39) (ls' := [some (.ref 0), some (.int (nI a)), some (.int (nI b)), some (.int is)]) (st' := [.int is, .int 5, .int (nI b), .ref 0]) (M' := (g_X10_put M a 5 (if is = 0 then ((g_X10_of M a 5) &&& ((1 <<< ((nI b) &&& 31)) ^^^ (-1))) else ((g_X10_of M a 5) ||| (1 <<< ((nI b) &&& 31)))))) (by decide +kernel) rfl ?_
    refine zT.join (67, [some (.ref 0), some (.int (nI a)), some (.int (nI b)), some (.int is)], [.int (if is = 0 then ((g_X10_of (g_X10_put M a 5 (if is = 0 then ((g_X10_of M a 5) &&& ((1 <<< ((nI b) &&& 31)) ^^^ (-1))) else ((g_X10_of M a 5) ||| (1 <<< ((nI b) &&& 31))))) b 5) &&& ((1 <<< ((nI a) &&& 31)) ^^^ (-1))) else ((g_X10_of (g_X10_put M a 5 (if is = 0 then ((g_X10_of M a 5) &&& ((1 <<< ((nI b) &&& 31)) ^^^ (-1))) else ((g_X10_of M a 5) ||| (1 <<< ((nI b) &&& 31))))) b 5) ||| (1 <<< ((nI a) &&& 31)))), .int 5, .int (nI b), .ref 0], (sh_Model gp), (g_X10_put M a 5 (if is = 0 then ((g_X10_of M a 5) &&& ((1 <<< ((nI b) &&& 31)) ^^^ (-1))) else ((g_X10_of M a 5) ||| (1 <<< ((nI b) &&& 31)))))) ?_ ?_
    · refine zT.zeq (tgt := 55) (off := 16) (by decide +kernel) (by decide) (fun (c2 : is = 0) => ?_) (fun (c2 : ¬ is = 0) => ?_)
      · skip
        refine zT.run [(.aload_n 0, 0, 0, 0), (.iload_n 2, 0, 0, 0), (.iconst 5, 0, 0, 0)] (pe := 58) (ls' := [some (.ref 0), some (.int (nI a)), some (.int (nI b)), some (.int is)]) (st' := [.int 5, .int (nI b), .ref 0, .int 5, .int (nI b), .ref 0]) (M' := (g_X10_put M a 5 (if is = 0 then ((g_X10_of M a 5) &&& ((1 <<< ((nI b) &&& 31)) ^^^ (-1))) else ((g_X10_of M a 5) ||| (1 <<< ((nI b) &&& 31)))))) (by decide +kernel) rfl ?_
        refine zT.cV_own (o := 0) (idx := 80) (av := [.int (nI b), .int (nI 5)]) (rv := (some (.int (g_X10_of (g_X10_put M a 5 (if is = 0 then ((g_X10_of M a 5) &&& ((1 <<< ((nI b) &&& 31)) ^^^ (-1))) else ((g_X10_of M a 5) ||| (1 <<< ((nI b) &&& 31))))) b 5)))) (st := [.int 5, .int (nI b), .ref 0]) (S1 := [.int (g_X10_of (g_X10_put M a 5 (if is = 0 then ((g_X10_of M a 5) &&& ((1 <<< ((nI b) &&& 31)) ^^^ (-1))) else ((g_X10_of M a 5) ||| (1 <<< ((nI b) &&& 31))))) b 5), .int 5, .int (nI b), .ref 0]) (c_X10_of (g_X10_put M a 5 (if is = 0 then ((g_X10_of M a 5) &&& ((1 <<< ((nI b) &&& 31)) ^^^ (-1))) else ((g_X10_of M a 5) ||| (1 <<< ((nI b) &&& 31))))) gp b 5 (by omega) (by decide)) k_X10_of _ _ rfl rfl rfl (zIn (w := 5108) (by decide +kernel) rfl) (by decide +kernel) (by decide +kernel) rfl (Nat.le_of_ble_eq_true rfl) rfl ?_
        refine zT.run [(.iconst 1, 0, 0, 0), (.iload_n 1, 0, 0, 0), (.ishl, 0, 0, 0), (.iconst (-1), 0, 0, 0), (.ixor, 0, 0, 0), (.iand, 0, 0, 0)] (pe := 67) (ls' := [some (.ref 0), some (.int (nI a)), some (.int (nI b)), some (.int is)]) (st' := [.int ((g_X10_of (g_X10_put M a 5 (if is = 0 then ((g_X10_of M a 5) &&& ((1 <<< ((nI b) &&& 31)) ^^^ (-1))) else ((g_X10_of M a 5) ||| (1 <<< ((nI b) &&& 31))))) b 5) &&& ((1 <<< ((nI a) &&& 31)) ^^^ (-1))), .int 5, .int (nI b), .ref 0]) (M' := (g_X10_put M a 5 (if is = 0 then ((g_X10_of M a 5) &&& ((1 <<< ((nI b) &&& 31)) ^^^ (-1))) else ((g_X10_of M a 5) ||| (1 <<< ((nI b) &&& 31)))))) (by decide +kernel) rfl ?_
        exact zT.here (by simp only [if_pos c2])
      · skip
        refine zT.run [(.aload_n 0, 0, 0, 0), (.iload_n 2, 0, 0, 0), (.iconst 5, 0, 0, 0)] (pe := 45) (ls' := [some (.ref 0), some (.int (nI a)), some (.int (nI b)), some (.int is)]) (st' := [.int 5, .int (nI b), .ref 0, .int 5, .int (nI b), .ref 0]) (M' := (g_X10_put M a 5 (if is = 0 then ((g_X10_of M a 5) &&& ((1 <<< ((nI b) &&& 31)) ^^^ (-1))) else ((g_X10_of M a 5) ||| (1 <<< ((nI b) &&& 31)))))) (by decide +kernel) rfl ?_
        refine zT.cV_own (o := 0) (idx := 80) (av := [.int (nI b), .int (nI 5)]) (rv := (some (.int (g_X10_of (g_X10_put M a 5 (if is = 0 then ((g_X10_of M a 5) &&& ((1 <<< ((nI b) &&& 31)) ^^^ (-1))) else ((g_X10_of M a 5) ||| (1 <<< ((nI b) &&& 31))))) b 5)))) (st := [.int 5, .int (nI b), .ref 0]) (S1 := [.int (g_X10_of (g_X10_put M a 5 (if is = 0 then ((g_X10_of M a 5) &&& ((1 <<< ((nI b) &&& 31)) ^^^ (-1))) else ((g_X10_of M a 5) ||| (1 <<< ((nI b) &&& 31))))) b 5), .int 5, .int (nI b), .ref 0]) (c_X10_of (g_X10_put M a 5 (if is = 0 then ((g_X10_of M a 5) &&& ((1 <<< ((nI b) &&& 31)) ^^^ (-1))) else ((g_X10_of M a 5) ||| (1 <<< ((nI b) &&& 31))))) gp b 5 (by omega) (by decide)) k_X10_of _ _ rfl rfl rfl (zIn (w := 5108) (by decide +kernel) rfl) (by decide +kernel) (by decide +kernel) rfl (Nat.le_of_ble_eq_true rfl) rfl ?_
        refine zT.run [(.iconst 1, 0, 0, 0), (.iload_n 1, 0, 0, 0), (.ishl, 0, 0, 0), (.ior, 0, 0, 0), (.goto 15, 0, 0, 0)] (pe := 67) (ls' := [some (.ref 0), some (.int (nI a)), some (.int (nI b)), some (.int is)]) (st' := [.int ((g_X10_of (g_X10_put M a 5 (if is = 0 then ((g_X10_of M a 5) &&& ((1 <<< ((nI b) &&& 31)) ^^^ (-1))) else ((g_X10_of M a 5) ||| (1 <<< ((nI b) &&& 31))))) b 5) ||| (1 <<< ((nI a) &&& 31))), .int 5, .int (nI b), .ref 0]) (M' := (g_X10_put M a 5 (if is = 0 then ((g_X10_of M a 5) &&& ((1 <<< ((nI b) &&& 31)) ^^^ (-1))) else ((g_X10_of M a 5) ||| (1 <<< ((nI b) &&& 31)))))) (by decide +kernel) rfl ?_
        exact zT.here (by simp only [if_neg c2])
    · skip
      refine zT.cV_all (o := 0) (idx := 76) (av := [.int (nI b), .int (nI 5), .int (if is = 0 then ((g_X10_of (g_X10_put M a 5 (if is = 0 then ((g_X10_of M a 5) &&& ((1 <<< ((nI b) &&& 31)) ^^^ (-1))) else ((g_X10_of M a 5) ||| (1 <<< ((nI b) &&& 31))))) b 5) &&& ((1 <<< ((nI a) &&& 31)) ^^^ (-1))) else ((g_X10_of (g_X10_put M a 5 (if is = 0 then ((g_X10_of M a 5) &&& ((1 <<< ((nI b) &&& 31)) ^^^ (-1))) else ((g_X10_of M a 5) ||| (1 <<< ((nI b) &&& 31))))) b 5) ||| (1 <<< ((nI a) &&& 31))))]) (rv := none) (st := []) (S1 := []) (c_X10_put (g_X10_put M a 5 (if is = 0 then ((g_X10_of M a 5) &&& ((1 <<< ((nI b) &&& 31)) ^^^ (-1))) else ((g_X10_of M a 5) ||| (1 <<< ((nI b) &&& 31))))) gp b 5 (if is = 0 then ((g_X10_of (g_X10_put M a 5 (if is = 0 then ((g_X10_of M a 5) &&& ((1 <<< ((nI b) &&& 31)) ^^^ (-1))) else ((g_X10_of M a 5) ||| (1 <<< ((nI b) &&& 31))))) b 5) &&& ((1 <<< ((nI a) &&& 31)) ^^^ (-1))) else ((g_X10_of (g_X10_put M a 5 (if is = 0 then ((g_X10_of M a 5) &&& ((1 <<< ((nI b) &&& 31)) ^^^ (-1))) else ((g_X10_of M a 5) ||| (1 <<< ((nI b) &&& 31))))) b 5) ||| (1 <<< ((nI a) &&& 31)))) (by omega) (by decide)) k_X10_put _ _ rfl rfl rfl (zIn (w := 5100) (by decide +kernel) rfl) (by decide +kernel) (by decide +kernel) rfl (Nat.le_of_ble_eq_true rfl) rfl ?_
      refine zT.eqM (M2 := (m_X10_link_1 M a b is)) rfl ?_
      exact zT.vret (by simp only [g_X10_link]; try rfl) rfl (by decide +kernel)
theorem fr_X10_link (M : zM) (a : Nat) (b : Nat) (is : Int32) (o : Nat) (ho : o ≠ 1) : (g_X10_link M a b is) o = M o := by
  simp only [g_X10_link]
  (repeat' split) <;> simp only [zU_ne ho, zUa_ne ho, m_X10_link_1, (fun (MM : zM) (r : Nat) (w : Nat) (v : Int32) => fr_X10_put MM r w v o (by omega))]
theorem k_X10_link : zCal yy_X10_link 3 := ⟨⟨⟨⟨zIn (w := 5107) (by decide +kernel) rfl, zIn (w := 1012) (by decide +kernel) rfl⟩, by decide +kernel⟩, by decide +kernel⟩, ⟨zIn (w := 5106) (by decide +kernel) rfl, zIn (w := 22) (by decide +kernel) rfl⟩⟩
noncomputable abbrev yy_X10_ups : zY := (yX10_ups, cX10_ups, 3, (some Jvm.ClassFile.FieldType.int), 1, 22)
noncomputable def l_X10_ups_4 (M : zM) (n : Nat) (i1 : Nat) (s1 : Int32) : Int32 := (s1 + (g_X10_of M i1 2))
noncomputable def g_X10_ups (M : zM) (n : Nat) : Int32 := (zIt (l_X10_ups_4 M n) n 0)
set_option maxRecDepth 100000 in
theorem c_X10_ups (M : zM) (gp : Nat → Option Nat) (n : Nat) (hn : M 1 0 = nI n) (h9 : n ≤ 9) : zC yy_X10_ups 0 0 [.ref 0] (sh_Model gp) M (some (.int (g_X10_ups M n))) (sh_Model gp) M := by
  refine zC.of (by decide +kernel) rfl (Nat.le_of_ble_eq_true rfl) ?_
  refine zT.run [(.iconst 0, 0, 0, 0), (.istore_n 1, 0, 0, 0), (.iconst 0, 0, 0, 0), (.istore_n 2, 0, 0, 0)] (pe := 4) (ls' := [some (.ref 0), some (.int 0), some (.int 0)]) (st' := []) (M' := M) (by decide +kernel) rfl ?_
  refine zT.loop (l_X10_ups_4 M n) (fun (i : Nat) (s : Int32) => (4, [some (.ref 0), some (.int s), some (.int (nI i))], [], (sh_Model gp), M)) n 0 (fun i1 hi1 k1 => ?_) ?_
  · skip
    generalize hs1 : zIt (l_X10_ups_4 M n) i1 0 = s1 at k1 ⊢
    show zT _ _ _ _ (4, [some (.ref 0), some (.int s1), some (.int (nI i1))], [], (sh_Model gp), M)
    refine zT.run [(.iload_n 2, 0, 0, 0), (.aload_n 0, 0, 0, 0), (.getfield 9, 8, 1, 5150), (.iconst 0, 0, 0, 0)] (pe := 10) (ls' := [some (.ref 0), some (.int s1), some (.int (nI i1))]) (st' := [.int 0, .ref 1, .int (nI i1)]) (M' := M) (by decide +kernel) rfl ?_
    refine zT.iald (n := 187) (k := 0) rfl rfl (by decide) (by decide) (by decide +kernel) ?_
    refine zT.cge (tgt := 29) (off := 18) (by decide +kernel) (by decide) (fun c => absurd c (zGeN (n := n) hn (by omega) (by omega))) (fun _ => ?_)
    refine zT.run [(.iload_n 1, 0, 0, 0), (.aload_n 0, 0, 0, 0), (.iload_n 2, 0, 0, 0), (.iconst 2, 0, 0, 0)] (pe := 18) (ls' := [some (.ref 0), some (.int s1), some (.int (nI i1))]) (st' := [.int 2, .int (nI i1), .ref 0, .int s1]) (M' := M) (by decide +kernel) rfl ?_
    refine zT.cV_own (o := 0) (idx := 80) (av := [.int (nI i1), .int (nI 2)]) (rv := (some (.int (g_X10_of M i1 2)))) (st := [.int s1]) (S1 := [.int (g_X10_of M i1 2), .int s1]) (c_X10_of M gp i1 2 (by omega) (by decide)) k_X10_of _ _ rfl rfl rfl (zIn (w := 5108) (by decide +kernel) rfl) (by decide +kernel) (by decide +kernel) rfl (Nat.le_of_ble_eq_true rfl) rfl ?_
    refine zT.run [(.iadd, 0, 0, 0), (.istore_n 1, 0, 0, 0), (.iinc 2 1, 0, 0, 0), (.goto (-22), 0, 0, 0)] (pe := 4) (ls' := [some (.ref 0), some (.int (s1 + (g_X10_of M i1 2))), some (.int ((nI i1) + 1))]) (st' := []) (M' := M) (by decide +kernel) rfl ?_
    exact zT.eq (by simp only [l_X10_ups_4, nI_succ, zDl]; try rfl) k1
  · skip
    show zT _ _ _ _ (4, [some (.ref 0), some (.int (zIt (l_X10_ups_4 M n) n 0)), some (.int (nI n))], [], (sh_Model gp), M)
    refine zT.run [(.iload_n 2, 0, 0, 0), (.aload_n 0, 0, 0, 0), (.getfield 9, 8, 1, 5150), (.iconst 0, 0, 0, 0)] (pe := 10) (ls' := [some (.ref 0), some (.int (zIt (l_X10_ups_4 M n) n 0)), some (.int (nI n))]) (st' := [.int 0, .ref 1, .int (nI n)]) (M' := M) (by decide +kernel) rfl ?_
    refine zT.iald (n := 187) (k := 0) rfl rfl (by decide) (by decide) (by decide +kernel) ?_
    refine zT.cge (tgt := 29) (off := 18) (by decide +kernel) (by decide) (fun _ => ?_) (fun c => absurd (zGeY (n := n) hn) c)
    refine zT.run [(.iload_n 1, 0, 0, 0)] (pe := 30) (ls' := [some (.ref 0), some (.int (zIt (l_X10_ups_4 M n) n 0)), some (.int (nI n))]) (st' := [.int (zIt (l_X10_ups_4 M n) n 0)]) (M' := M) (by decide +kernel) rfl ?_
    exact zT.iret (ty := Jvm.ClassFile.FieldType.int) (by simp only [g_X10_ups]; try rfl) rfl rfl rfl (by decide +kernel)
theorem k_X10_ups : zCal yy_X10_ups 0 := ⟨⟨⟨⟨zIn (w := 6122) (by decide +kernel) rfl, zIn (w := 1012) (by decide +kernel) rfl⟩, by decide +kernel⟩, by decide +kernel⟩, ⟨zIn (w := 6121) (by decide +kernel) rfl, zIn (w := 57) (by decide +kernel) rfl⟩⟩
noncomputable abbrev yy_X10_isReached : zY := (yX10_isReached, cX10_isReached, 2, (some Jvm.ClassFile.FieldType.boolean), 2, 44)
noncomputable def g_X10_isReached (M : zM) (r : Nat) : Int32 := (if (M 1 4) ≤ 0 then 0 else (if (g_X10_isUp M r) = 0 then 0 else (if (g_X10_isUp M (M 1 6).toNatClampNeg) = 0 then 0 else (if (g_X10_areLinked M (M 1 6).toNatClampNeg (nI r)) = 0 then 0 else 1))))
set_option maxRecDepth 100000 in
theorem c_X10_isReached (M : zM) (gp : Nat → Option Nat) (r : Nat) (hd : zHd M) (h_r : r < 9) : zC yy_X10_isReached 0 0 [.ref 0, .int (nI r)] (sh_Model gp) M (some (.int (g_X10_isReached M r))) (sh_Model gp) M := by
  refine zC.of (by decide +kernel) rfl (Nat.le_of_ble_eq_true rfl) ?_
  refine zT.run [(.aload_n 0, 0, 0, 0), (.getfield 9, 8, 1, 5150), (.iconst 4, 0, 0, 0)] (pe := 5) (ls' := [some (.ref 0), some (.int (nI r))]) (st' := [.int 4, .ref 1]) (M' := M) (by decide +kernel) rfl ?_
  refine zT.iald (n := 187) (k := 4) rfl rfl (by decide) (by decide) (by decide +kernel) ?_
  refine zT.zle (tgt := 50) (off := 44) (by decide +kernel) (by decide) (fun (c1 : (M 1 4) ≤ 0) => ?_) (fun (c1 : ¬ (M 1 4) ≤ 0) => ?_)
  · skip
    refine zT.run [(.iconst 0, 0, 0, 0)] (pe := 51) (ls' := [some (.ref 0), some (.int (nI r))]) (st' := [.int 0]) (M' := M) (by decide +kernel) rfl ?_
    exact zT.iret (ty := Jvm.ClassFile.FieldType.boolean) (by simp only [g_X10_isReached, if_pos c1]; try rfl) rfl rfl rfl (by decide +kernel)
  · skip
    refine zT.run [(.aload_n 0, 0, 0, 0), (.iload_n 1, 0, 0, 0)] (pe := 11) (ls' := [some (.ref 0), some (.int (nI r))]) (st' := [.int (nI r), .ref 0]) (M' := M) (by decide +kernel) rfl ?_
    refine zT.cV_own (o := 0) (idx := 86) (av := [.int (nI r)]) (rv := (some (.int (g_X10_isUp M r)))) (st := []) (S1 := [.int (g_X10_isUp M r)]) (c_X10_isUp M gp r (by omega)) k_X10_isUp _ _ rfl rfl rfl (zIn (w := 5120) (by decide +kernel) rfl) (by decide +kernel) (by decide +kernel) rfl (Nat.le_of_ble_eq_true rfl) rfl ?_
    refine zT.zeq (tgt := 50) (off := 36) (by decide +kernel) (by decide) (fun (c2 : (g_X10_isUp M r) = 0) => ?_) (fun (c2 : ¬ (g_X10_isUp M r) = 0) => ?_)
    · skip
      refine zT.run [(.iconst 0, 0, 0, 0)] (pe := 51) (ls' := [some (.ref 0), some (.int (nI r))]) (st' := [.int 0]) (M' := M) (by decide +kernel) rfl ?_
      exact zT.iret (ty := Jvm.ClassFile.FieldType.boolean) (by simp only [g_X10_isReached, if_neg c1, if_pos c2]; try rfl) rfl rfl rfl (by decide +kernel)
    · skip
      refine zT.run [(.aload_n 0, 0, 0, 0), (.aload_n 0, 0, 0, 0), (.getfield 9, 8, 1, 5150), (.bipush 6, 0, 0, 0)] (pe := 24) (ls' := [some (.ref 0), some (.int (nI r))]) (st' := [.int 6, .ref 1, .ref 0]) (M' := M) (by decide +kernel) rfl ?_
      refine zT.iald (n := 187) (k := 6) rfl rfl (by decide) (by decide) (by decide +kernel) ?_
      refine zT.eqS (congrArg (fun v : Int32 => ([.int v, .ref 0] : List Value)) (zHdI hd (by assumption)).1) ?_
      refine zT.cV_own (o := 0) (idx := 86) (av := [.int (nI (M 1 6).toNatClampNeg)]) (rv := (some (.int (g_X10_isUp M (M 1 6).toNatClampNeg)))) (st := []) (S1 := [.int (g_X10_isUp M (M 1 6).toNatClampNeg)]) (c_X10_isUp M gp (M 1 6).toNatClampNeg (zHdI hd (by assumption)).2) k_X10_isUp _ _ rfl rfl rfl (zIn (w := 5120) (by decide +kernel) rfl) (by decide +kernel) (by decide +kernel) rfl (Nat.le_of_ble_eq_true rfl) rfl ?_
      refine zT.zeq (tgt := 50) (off := 22) (by decide +kernel) (by decide) (fun (c3 : (g_X10_isUp M (M 1 6).toNatClampNeg) = 0) => ?_) (fun (c3 : ¬ (g_X10_isUp M (M 1 6).toNatClampNeg) = 0) => ?_)
      · skip
        refine zT.run [(.iconst 0, 0, 0, 0)] (pe := 51) (ls' := [some (.ref 0), some (.int (nI r))]) (st' := [.int 0]) (M' := M) (by decide +kernel) rfl ?_
        exact zT.iret (ty := Jvm.ClassFile.FieldType.boolean) (by simp only [g_X10_isReached, if_neg c1, if_neg c2, if_pos c3]; try rfl) rfl rfl rfl (by decide +kernel)
      · skip
        refine zT.run [(.aload_n 0, 0, 0, 0), (.aload_n 0, 0, 0, 0), (.getfield 9, 8, 1, 5150), (.bipush 6, 0, 0, 0)] (pe := 38) (ls' := [some (.ref 0), some (.int (nI r))]) (st' := [.int 6, .ref 1, .ref 0]) (M' := M) (by decide +kernel) rfl ?_
        refine zT.iald (n := 187) (k := 6) rfl rfl (by decide) (by decide) (by decide +kernel) ?_
        refine zT.run [(.iload_n 1, 0, 0, 0)] (pe := 40) (ls' := [some (.ref 0), some (.int (nI r))]) (st' := [.int (nI r), .int (M 1 6), .ref 0]) (M' := M) (by decide +kernel) rfl ?_
        refine zT.eqS (congrArg (fun v : Int32 => ([.int (nI r), .int v, .ref 0] : List Value)) (zHdI hd (by assumption)).1) ?_
        refine zT.cV_own (o := 0) (idx := 90) (av := [.int (nI (M 1 6).toNatClampNeg), .int (nI r)]) (rv := (some (.int (g_X10_areLinked M (M 1 6).toNatClampNeg (nI r))))) (st := []) (S1 := [.int (g_X10_areLinked M (M 1 6).toNatClampNeg (nI r))]) (c_X10_areLinked M gp (M 1 6).toNatClampNeg (nI r) (zHdI hd (by assumption)).2) k_X10_areLinked _ _ rfl rfl rfl (zIn (w := 5124) (by decide +kernel) rfl) (by decide +kernel) (by decide +kernel) rfl (Nat.le_of_ble_eq_true rfl) rfl ?_
        refine zT.zeq (tgt := 50) (off := 7) (by decide +kernel) (by decide) (fun (c4 : (g_X10_areLinked M (M 1 6).toNatClampNeg (nI r)) = 0) => ?_) (fun (c4 : ¬ (g_X10_areLinked M (M 1 6).toNatClampNeg (nI r)) = 0) => ?_)
        · skip
          refine zT.run [(.iconst 0, 0, 0, 0)] (pe := 51) (ls' := [some (.ref 0), some (.int (nI r))]) (st' := [.int 0]) (M' := M) (by decide +kernel) rfl ?_
          exact zT.iret (ty := Jvm.ClassFile.FieldType.boolean) (by simp only [g_X10_isReached, if_neg c1, if_neg c2, if_neg c3, if_pos c4]; try rfl) rfl rfl rfl (by decide +kernel)
        · skip
          refine zT.run [(.iconst 1, 0, 0, 0), (.goto 4, 0, 0, 0)] (pe := 51) (ls' := [some (.ref 0), some (.int (nI r))]) (st' := [.int 1]) (M' := M) (by decide +kernel) rfl ?_
          exact zT.iret (ty := Jvm.ClassFile.FieldType.boolean) (by simp only [g_X10_isReached, if_neg c1, if_neg c2, if_neg c3, if_neg c4]; try rfl) rfl rfl rfl (by decide +kernel)
theorem k_X10_isReached : zCal yy_X10_isReached 1 := ⟨⟨⟨⟨zIn (w := 6018) (by decide +kernel) rfl, zIn (w := 1012) (by decide +kernel) rfl⟩, by decide +kernel⟩, by decide +kernel⟩, ⟨zIn (w := 6017) (by decide +kernel) rfl, zIn (w := 38) (by decide +kernel) rfl⟩⟩
theorem nb_X10_isReached {M : zM} {r : Nat} : narrow .boolean (.int (g_X10_isReached M r)) = .int (g_X10_isReached M r) := by
  simp only [g_X10_isReached]
  (repeat' split) <;> rfl
noncomputable abbrev yy_X10_votesOf : zY := (yX10_votesOf, cX10_votesOf, 4, (some Jvm.ClassFile.FieldType.int), 1, 22)
noncomputable def l_X10_votesOf_4 (M : zM) (n : Nat) (k : Int32) (i1 : Nat) (s1 : Int32) : Int32 := (s1 + (if (g_X10_isOnRoll M (nI i1)) = 0 then (0 : Int32) else (if (g_X10_of M i1 6) = k then (1 : Int32) else (0 : Int32))))
noncomputable def g_X10_votesOf (M : zM) (n : Nat) (k : Int32) : Int32 := (zIt (l_X10_votesOf_4 M n k) n 0)
set_option maxRecDepth 100000 in
theorem c_X10_votesOf (M : zM) (gp : Nat → Option Nat) (n : Nat) (k : Int32) (hn : M 1 0 = nI n) (h9 : n ≤ 9) : zC yy_X10_votesOf 0 0 [.ref 0, .int k] (sh_Model gp) M (some (.int (g_X10_votesOf M n k))) (sh_Model gp) M := by
  refine zC.of (by decide +kernel) rfl (Nat.le_of_ble_eq_true rfl) ?_
  refine zT.run [(.iconst 0, 0, 0, 0), (.istore_n 2, 0, 0, 0), (.iconst 0, 0, 0, 0), (.istore_n 3, 0, 0, 0)] (pe := 4) (ls' := [some (.ref 0), some (.int k), some (.int 0), some (.int 0)]) (st' := []) (M' := M) (by decide +kernel) rfl ?_
  refine zT.loop (l_X10_votesOf_4 M n k) (fun (i : Nat) (s : Int32) => (4, [some (.ref 0), some (.int k), some (.int s), some (.int (nI i))], [], (sh_Model gp), M)) n 0 (fun i1 hi1 k1 => ?_) ?_
  · skip
    generalize hs1 : zIt (l_X10_votesOf_4 M n k) i1 0 = s1 at k1 ⊢
    show zT _ _ _ _ (4, [some (.ref 0), some (.int k), some (.int s1), some (.int (nI i1))], [], (sh_Model gp), M)
    refine zT.run [(.iload_n 3, 0, 0, 0), (.aload_n 0, 0, 0, 0), (.getfield 9, 8, 1, 5150), (.iconst 0, 0, 0, 0)] (pe := 10) (ls' := [some (.ref 0), some (.int k), some (.int s1), some (.int (nI i1))]) (st' := [.int 0, .ref 1, .int (nI i1)]) (M' := M) (by decide +kernel) rfl ?_
    refine zT.iald (n := 187) (k := 0) rfl rfl (by decide) (by decide) (by decide +kernel) ?_
    refine zT.cge (tgt := 47) (off := 36) (by decide +kernel) (by decide) (fun c => absurd c (zGeN (n := n) hn (by omega) (by omega))) (fun _ => ?_)
    refine zT.run [(.iload_n 2, 0, 0, 0), (.aload_n 0, 0, 0, 0), (.iload_n 3, 0, 0, 0)] (pe := 17) (ls' := [some (.ref 0), some (.int k), some (.int s1), some (.int (nI i1))]) (st' := [.int (nI i1), .ref 0, .int s1]) (M' := M) (by decide +kernel) rfl ?_
    refine zT.cV_own (o := 0) (idx := 106) (av := [.int (nI i1)]) (rv := (some (.int (g_X10_isOnRoll M (nI i1))))) (st := [.int s1]) (S1 := [.int (g_X10_isOnRoll M (nI i1)), .int s1]) (c_X10_isOnRoll M gp (nI i1)) k_X10_isOnRoll _ _ rfl rfl rfl (zIn (w := 5145) (by decide +kernel) rfl) (by decide +kernel) (by decide +kernel) rfl (Nat.le_of_ble_eq_true rfl) rfl ?_
    refine zT.join (39, [some (.ref 0), some (.int k), some (.int s1), some (.int (nI i1))], [.int (if (g_X10_isOnRoll M (nI i1)) = 0 then (0 : Int32) else (if (g_X10_of M i1 6) = k then (1 : Int32) else (0 : Int32))), .int s1], (sh_Model gp), M) ?_ ?_
    · refine zT.zeq (tgt := 38) (off := 18) (by decide +kernel) (by decide) (fun (c1 : (g_X10_isOnRoll M (nI i1)) = 0) => ?_) (fun (c1 : ¬ (g_X10_isOnRoll M (nI i1)) = 0) => ?_)
      · skip
        refine zT.run [(.iconst 0, 0, 0, 0)] (pe := 39) (ls' := [some (.ref 0), some (.int k), some (.int s1), some (.int (nI i1))]) (st' := [.int 0, .int s1]) (M' := M) (by decide +kernel) rfl ?_
        exact zT.here (by simp only [if_pos c1])
      · skip
        refine zT.run [(.aload_n 0, 0, 0, 0), (.iload_n 3, 0, 0, 0), (.bipush 6, 0, 0, 0)] (pe := 27) (ls' := [some (.ref 0), some (.int k), some (.int s1), some (.int (nI i1))]) (st' := [.int 6, .int (nI i1), .ref 0, .int s1]) (M' := M) (by decide +kernel) rfl ?_
        refine zT.cV_own (o := 0) (idx := 80) (av := [.int (nI i1), .int (nI 6)]) (rv := (some (.int (g_X10_of M i1 6)))) (st := [.int s1]) (S1 := [.int (g_X10_of M i1 6), .int s1]) (c_X10_of M gp i1 6 (by omega) (by decide)) k_X10_of _ _ rfl rfl rfl (zIn (w := 5108) (by decide +kernel) rfl) (by decide +kernel) (by decide +kernel) rfl (Nat.le_of_ble_eq_true rfl) rfl ?_
        refine zT.run [(.iload_n 1, 0, 0, 0)] (pe := 31) (ls' := [some (.ref 0), some (.int k), some (.int s1), some (.int (nI i1))]) (st' := [.int k, .int (g_X10_of M i1 6), .int s1]) (M' := M) (by decide +kernel) rfl ?_
        refine zT.cne (tgt := 38) (off := 7) (by decide +kernel) (by decide) (fun (c2 : ¬ (g_X10_of M i1 6) = k) => ?_) (fun (c2 : (g_X10_of M i1 6) = k) => ?_)
        · skip
          refine zT.run [(.iconst 0, 0, 0, 0)] (pe := 39) (ls' := [some (.ref 0), some (.int k), some (.int s1), some (.int (nI i1))]) (st' := [.int 0, .int s1]) (M' := M) (by decide +kernel) rfl ?_
          exact zT.here (by simp only [if_neg c1, if_neg c2])
        · skip
          refine zT.run [(.iconst 1, 0, 0, 0), (.goto 4, 0, 0, 0)] (pe := 39) (ls' := [some (.ref 0), some (.int k), some (.int s1), some (.int (nI i1))]) (st' := [.int 1, .int s1]) (M' := M) (by decide +kernel) rfl ?_
          exact zT.here (by simp only [if_neg c1, if_pos c2])
    · skip
      refine zT.run [(.iadd, 0, 0, 0), (.istore_n 2, 0, 0, 0), (.iinc 3 1, 0, 0, 0), (.goto (-40), 0, 0, 0)] (pe := 4) (ls' := [some (.ref 0), some (.int k), some (.int (s1 + (if (g_X10_isOnRoll M (nI i1)) = 0 then (0 : Int32) else (if (g_X10_of M i1 6) = k then (1 : Int32) else (0 : Int32))))), some (.int ((nI i1) + 1))]) (st' := []) (M' := M) (by decide +kernel) rfl ?_
      exact zT.eq (by simp only [l_X10_votesOf_4, nI_succ, zDl]; try rfl) k1
  · skip
    show zT _ _ _ _ (4, [some (.ref 0), some (.int k), some (.int (zIt (l_X10_votesOf_4 M n k) n 0)), some (.int (nI n))], [], (sh_Model gp), M)
    refine zT.run [(.iload_n 3, 0, 0, 0), (.aload_n 0, 0, 0, 0), (.getfield 9, 8, 1, 5150), (.iconst 0, 0, 0, 0)] (pe := 10) (ls' := [some (.ref 0), some (.int k), some (.int (zIt (l_X10_votesOf_4 M n k) n 0)), some (.int (nI n))]) (st' := [.int 0, .ref 1, .int (nI n)]) (M' := M) (by decide +kernel) rfl ?_
    refine zT.iald (n := 187) (k := 0) rfl rfl (by decide) (by decide) (by decide +kernel) ?_
    refine zT.cge (tgt := 47) (off := 36) (by decide +kernel) (by decide) (fun _ => ?_) (fun c => absurd (zGeY (n := n) hn) c)
    refine zT.run [(.iload_n 2, 0, 0, 0)] (pe := 48) (ls' := [some (.ref 0), some (.int k), some (.int (zIt (l_X10_votesOf_4 M n k) n 0)), some (.int (nI n))]) (st' := [.int (zIt (l_X10_votesOf_4 M n k) n 0)]) (M' := M) (by decide +kernel) rfl ?_
    exact zT.iret (ty := Jvm.ClassFile.FieldType.int) (by simp only [g_X10_votesOf]; try rfl) rfl rfl rfl (by decide +kernel)
theorem k_X10_votesOf : zCal yy_X10_votesOf 1 := ⟨⟨⟨⟨zIn (w := 5144) (by decide +kernel) rfl, zIn (w := 1012) (by decide +kernel) rfl⟩, by decide +kernel⟩, by decide +kernel⟩, ⟨zIn (w := 5143) (by decide +kernel) rfl, zIn (w := 29) (by decide +kernel) rfl⟩⟩
noncomputable abbrev yy_X10_rollOf : zY := (yX10_rollOf, cX10_rollOf, 4, (some Jvm.ClassFile.FieldType.int), 2, 44)
noncomputable def l_X10_rollOf_4 (M : zM) (n : Nat) (cl : Nat) (i1 : Nat) (s1 : Int32) : Int32 := (s1 ||| (if (g_X10_isUp M i1) = 0 then (0 : Int32) else (if (g_X10_areLinked M cl (nI i1)) = 0 then (0 : Int32) else (1 <<< ((nI i1) &&& 31)))))
noncomputable def g_X10_rollOf (M : zM) (n : Nat) (cl : Nat) : Int32 := (zIt (l_X10_rollOf_4 M n cl) n 0)
set_option maxRecDepth 100000 in
theorem c_X10_rollOf (M : zM) (gp : Nat → Option Nat) (n : Nat) (cl : Nat) (hn : M 1 0 = nI n) (h9 : n ≤ 9) (h_cl : cl < 9) : zC yy_X10_rollOf 0 0 [.ref 0, .int (nI cl)] (sh_Model gp) M (some (.int (g_X10_rollOf M n cl))) (sh_Model gp) M := by
  refine zC.of (by decide +kernel) rfl (Nat.le_of_ble_eq_true rfl) ?_
  refine zT.run [(.iconst 0, 0, 0, 0), (.istore_n 2, 0, 0, 0), (.iconst 0, 0, 0, 0), (.istore_n 3, 0, 0, 0)] (pe := 4) (ls' := [some (.ref 0), some (.int (nI cl)), some (.int 0), some (.int 0)]) (st' := []) (M' := M) (by decide +kernel) rfl ?_
  refine zT.loop (l_X10_rollOf_4 M n cl) (fun (i : Nat) (s : Int32) => (4, [some (.ref 0), some (.int (nI cl)), some (.int s), some (.int (nI i))], [], (sh_Model gp), M)) n 0 (fun i1 hi1 k1 => ?_) ?_
  · skip
    generalize hs1 : zIt (l_X10_rollOf_4 M n cl) i1 0 = s1 at k1 ⊢
    show zT _ _ _ _ (4, [some (.ref 0), some (.int (nI cl)), some (.int s1), some (.int (nI i1))], [], (sh_Model gp), M)
    refine zT.run [(.iload_n 3, 0, 0, 0), (.aload_n 0, 0, 0, 0), (.getfield 9, 8, 1, 5150), (.iconst 0, 0, 0, 0)] (pe := 10) (ls' := [some (.ref 0), some (.int (nI cl)), some (.int s1), some (.int (nI i1))]) (st' := [.int 0, .ref 1, .int (nI i1)]) (M' := M) (by decide +kernel) rfl ?_
    refine zT.iald (n := 187) (k := 0) rfl rfl (by decide) (by decide) (by decide +kernel) ?_
    refine zT.cge (tgt := 47) (off := 36) (by decide +kernel) (by decide) (fun c => absurd c (zGeN (n := n) hn (by omega) (by omega))) (fun _ => ?_)
    refine zT.run [(.iload_n 2, 0, 0, 0), (.aload_n 0, 0, 0, 0), (.iload_n 3, 0, 0, 0)] (pe := 17) (ls' := [some (.ref 0), some (.int (nI cl)), some (.int s1), some (.int (nI i1))]) (st' := [.int (nI i1), .ref 0, .int s1]) (M' := M) (by decide +kernel) rfl ?_
    refine zT.cV_own (o := 0) (idx := 86) (av := [.int (nI i1)]) (rv := (some (.int (g_X10_isUp M i1)))) (st := [.int s1]) (S1 := [.int (g_X10_isUp M i1), .int s1]) (c_X10_isUp M gp i1 (by omega)) k_X10_isUp _ _ rfl rfl rfl (zIn (w := 5120) (by decide +kernel) rfl) (by decide +kernel) (by decide +kernel) rfl (Nat.le_of_ble_eq_true rfl) rfl ?_
    refine zT.join (39, [some (.ref 0), some (.int (nI cl)), some (.int s1), some (.int (nI i1))], [.int (if (g_X10_isUp M i1) = 0 then (0 : Int32) else (if (g_X10_areLinked M cl (nI i1)) = 0 then (0 : Int32) else (1 <<< ((nI i1) &&& 31)))), .int s1], (sh_Model gp), M) ?_ ?_
    · refine zT.zeq (tgt := 38) (off := 18) (by decide +kernel) (by decide) (fun (c1 : (g_X10_isUp M i1) = 0) => ?_) (fun (c1 : ¬ (g_X10_isUp M i1) = 0) => ?_)
      · skip
        refine zT.run [(.iconst 0, 0, 0, 0)] (pe := 39) (ls' := [some (.ref 0), some (.int (nI cl)), some (.int s1), some (.int (nI i1))]) (st' := [.int 0, .int s1]) (M' := M) (by decide +kernel) rfl ?_
        exact zT.here (by simp only [if_pos c1])
      · skip
        refine zT.run [(.aload_n 0, 0, 0, 0), (.iload_n 1, 0, 0, 0), (.iload_n 3, 0, 0, 0)] (pe := 26) (ls' := [some (.ref 0), some (.int (nI cl)), some (.int s1), some (.int (nI i1))]) (st' := [.int (nI i1), .int (nI cl), .ref 0, .int s1]) (M' := M) (by decide +kernel) rfl ?_
        refine zT.cV_own (o := 0) (idx := 90) (av := [.int (nI cl), .int (nI i1)]) (rv := (some (.int (g_X10_areLinked M cl (nI i1))))) (st := [.int s1]) (S1 := [.int (g_X10_areLinked M cl (nI i1)), .int s1]) (c_X10_areLinked M gp cl (nI i1) (by omega)) k_X10_areLinked _ _ rfl rfl rfl (zIn (w := 5124) (by decide +kernel) rfl) (by decide +kernel) (by decide +kernel) rfl (Nat.le_of_ble_eq_true rfl) rfl ?_
        refine zT.zeq (tgt := 38) (off := 9) (by decide +kernel) (by decide) (fun (c2 : (g_X10_areLinked M cl (nI i1)) = 0) => ?_) (fun (c2 : ¬ (g_X10_areLinked M cl (nI i1)) = 0) => ?_)
        · skip
          refine zT.run [(.iconst 0, 0, 0, 0)] (pe := 39) (ls' := [some (.ref 0), some (.int (nI cl)), some (.int s1), some (.int (nI i1))]) (st' := [.int 0, .int s1]) (M' := M) (by decide +kernel) rfl ?_
          exact zT.here (by simp only [if_neg c1, if_pos c2])
        · skip
          refine zT.run [(.iconst 1, 0, 0, 0), (.iload_n 3, 0, 0, 0), (.ishl, 0, 0, 0), (.goto 4, 0, 0, 0)] (pe := 39) (ls' := [some (.ref 0), some (.int (nI cl)), some (.int s1), some (.int (nI i1))]) (st' := [.int (1 <<< ((nI i1) &&& 31)), .int s1]) (M' := M) (by decide +kernel) rfl ?_
          exact zT.here (by simp only [if_neg c1, if_neg c2])
    · skip
      refine zT.run [(.ior, 0, 0, 0), (.istore_n 2, 0, 0, 0), (.iinc 3 1, 0, 0, 0), (.goto (-40), 0, 0, 0)] (pe := 4) (ls' := [some (.ref 0), some (.int (nI cl)), some (.int (s1 ||| (if (g_X10_isUp M i1) = 0 then (0 : Int32) else (if (g_X10_areLinked M cl (nI i1)) = 0 then (0 : Int32) else (1 <<< ((nI i1) &&& 31)))))), some (.int ((nI i1) + 1))]) (st' := []) (M' := M) (by decide +kernel) rfl ?_
      exact zT.eq (by simp only [l_X10_rollOf_4, nI_succ, zDl]; try rfl) k1
  · skip
    show zT _ _ _ _ (4, [some (.ref 0), some (.int (nI cl)), some (.int (zIt (l_X10_rollOf_4 M n cl) n 0)), some (.int (nI n))], [], (sh_Model gp), M)
    refine zT.run [(.iload_n 3, 0, 0, 0), (.aload_n 0, 0, 0, 0), (.getfield 9, 8, 1, 5150), (.iconst 0, 0, 0, 0)] (pe := 10) (ls' := [some (.ref 0), some (.int (nI cl)), some (.int (zIt (l_X10_rollOf_4 M n cl) n 0)), some (.int (nI n))]) (st' := [.int 0, .ref 1, .int (nI n)]) (M' := M) (by decide +kernel) rfl ?_
    refine zT.iald (n := 187) (k := 0) rfl rfl (by decide) (by decide) (by decide +kernel) ?_
    refine zT.cge (tgt := 47) (off := 36) (by decide +kernel) (by decide) (fun _ => ?_) (fun c => absurd (zGeY (n := n) hn) c)
    refine zT.run [(.iload_n 2, 0, 0, 0)] (pe := 48) (ls' := [some (.ref 0), some (.int (nI cl)), some (.int (zIt (l_X10_rollOf_4 M n cl) n 0)), some (.int (nI n))]) (st' := [.int (zIt (l_X10_rollOf_4 M n cl) n 0)]) (M' := M) (by decide +kernel) rfl ?_
    exact zT.iret (ty := Jvm.ClassFile.FieldType.int) (by simp only [g_X10_rollOf]; try rfl) rfl rfl rfl (by decide +kernel)
theorem k_X10_rollOf : zCal yy_X10_rollOf 1 := ⟨⟨⟨⟨zIn (w := 5119) (by decide +kernel) rfl, zIn (w := 1012) (by decide +kernel) rfl⟩, by decide +kernel⟩, by decide +kernel⟩, ⟨zIn (w := 5118) (by decide +kernel) rfl, zIn (w := 25) (by decide +kernel) rfl⟩⟩
noncomputable abbrev yy_X10_isEnough : zY := (yX10_isEnough, cX10_isEnough, 2, (some Jvm.ClassFile.FieldType.boolean), 1, 22)
noncomputable def g_X10_isEnough (M : zM) (roll : Int32) : Int32 := (if (2 * (g_X10_ones roll)) ≤ (M 1 0) then 0 else 1)
set_option maxRecDepth 100000 in
theorem c_X10_isEnough (M : zM) (gp : Nat → Option Nat) (roll : Int32)  : zC yy_X10_isEnough 0 0 [.ref 0, .int roll] (sh_Model gp) M (some (.int (g_X10_isEnough M roll))) (sh_Model gp) M := by
  refine zC.of (by decide +kernel) rfl (Nat.le_of_ble_eq_true rfl) ?_
  refine zT.run [(.iconst 2, 0, 0, 0), (.iload_n 1, 0, 0, 0)] (pe := 2) (ls' := [some (.ref 0), some (.int roll)]) (st' := [.int roll, .int 2]) (M' := M) (by decide +kernel) rfl ?_
  refine zT.cS_nil (idx := 83) (av := [.int roll]) (rv := (some (.int (g_X10_ones roll)))) (st := [.int 2]) (S1 := [.int (g_X10_ones roll), .int 2]) (c_X10_ones roll) k_X10_ones rfl (zIn (w := 5232) (by decide +kernel) rfl) (by decide +kernel) (by decide +kernel) rfl (Nat.le_of_ble_eq_true rfl) rfl ?_
  refine zT.run [(.imul, 0, 0, 0), (.aload_n 0, 0, 0, 0), (.getfield 9, 8, 1, 5150), (.iconst 0, 0, 0, 0)] (pe := 11) (ls' := [some (.ref 0), some (.int roll)]) (st' := [.int 0, .ref 1, .int (2 * (g_X10_ones roll))]) (M' := M) (by decide +kernel) rfl ?_
  refine zT.iald (n := 187) (k := 0) rfl rfl (by decide) (by decide) (by decide +kernel) ?_
  refine zT.cle (tgt := 19) (off := 7) (by decide +kernel) (by decide) (fun (c1 : (2 * (g_X10_ones roll)) ≤ (M 1 0)) => ?_) (fun (c1 : ¬ (2 * (g_X10_ones roll)) ≤ (M 1 0)) => ?_)
  · skip
    refine zT.run [(.iconst 0, 0, 0, 0)] (pe := 20) (ls' := [some (.ref 0), some (.int roll)]) (st' := [.int 0]) (M' := M) (by decide +kernel) rfl ?_
    exact zT.iret (ty := Jvm.ClassFile.FieldType.boolean) (by simp only [g_X10_isEnough, if_pos c1]; try rfl) rfl rfl rfl (by decide +kernel)
  · skip
    refine zT.run [(.iconst 1, 0, 0, 0), (.goto 4, 0, 0, 0)] (pe := 20) (ls' := [some (.ref 0), some (.int roll)]) (st' := [.int 1]) (M' := M) (by decide +kernel) rfl ?_
    exact zT.iret (ty := Jvm.ClassFile.FieldType.boolean) (by simp only [g_X10_isEnough, if_neg c1]; try rfl) rfl rfl rfl (by decide +kernel)
theorem k_X10_isEnough : zCal yy_X10_isEnough 1 := ⟨⟨⟨⟨zIn (w := 5231) (by decide +kernel) rfl, zIn (w := 1012) (by decide +kernel) rfl⟩, by decide +kernel⟩, by decide +kernel⟩, ⟨zIn (w := 5230) (by decide +kernel) rfl, zIn (w := 34) (by decide +kernel) rfl⟩⟩
theorem nb_X10_isEnough {M : zM} {roll : Int32} : narrow .boolean (.int (g_X10_isEnough M roll)) = .int (g_X10_isEnough M roll) := by
  simp only [g_X10_isEnough]
  (repeat' split) <;> rfl
noncomputable abbrev yy_X10_spoiling : zY := (yX10_spoiling, cX10_spoiling, 3, (some Jvm.ClassFile.FieldType.int), 2, 43)
noncomputable def g_X10_spoiling (M : zM) (v : Nat) (cd : Nat) : Int32 := (if (g_X10_isOnRoll M (nI cd)) = 0 then 2 else (if (g_X10_of M v 1) ≤ (g_X10_of M cd 1) then (if (g_X10_isUp M cd) = 0 then 4 else 0) else 3))
set_option maxRecDepth 100000 in
theorem c_X10_spoiling (M : zM) (gp : Nat → Option Nat) (v : Nat) (cd : Nat) (h_v : v < 9) (h_cd : cd < 9) : zC yy_X10_spoiling 0 0 [.ref 0, .int (nI v), .int (nI cd)] (sh_Model gp) M (some (.int (g_X10_spoiling M v cd))) (sh_Model gp) M := by
  refine zC.of (by decide +kernel) rfl (Nat.le_of_ble_eq_true rfl) ?_
  refine zT.run [(.aload_n 0, 0, 0, 0), (.iload_n 2, 0, 0, 0)] (pe := 2) (ls' := [some (.ref 0), some (.int (nI v)), some (.int (nI cd))]) (st' := [.int (nI cd), .ref 0]) (M' := M) (by decide +kernel) rfl ?_
  refine zT.cV_own (o := 0) (idx := 106) (av := [.int (nI cd)]) (rv := (some (.int (g_X10_isOnRoll M (nI cd))))) (st := []) (S1 := [.int (g_X10_isOnRoll M (nI cd))]) (c_X10_isOnRoll M gp (nI cd)) k_X10_isOnRoll _ _ rfl rfl rfl (zIn (w := 5145) (by decide +kernel) rfl) (by decide +kernel) (by decide +kernel) rfl (Nat.le_of_ble_eq_true rfl) rfl ?_
  refine zT.zne (tgt := 10) (off := 5) (by decide +kernel) (by decide) (fun (c1 : ¬ (g_X10_isOnRoll M (nI cd)) = 0) => ?_) (fun (c1 : (g_X10_isOnRoll M (nI cd)) = 0) => ?_)
  · skip
    refine zT.run [(.aload_n 0, 0, 0, 0), (.iload_n 2, 0, 0, 0), (.iconst 1, 0, 0, 0)] (pe := 13) (ls' := [some (.ref 0), some (.int (nI v)), some (.int (nI cd))]) (st' := [.int 1, .int (nI cd), .ref 0]) (M' := M) (by decide +kernel) rfl ?_
    refine zT.cV_own (o := 0) (idx := 80) (av := [.int (nI cd), .int (nI 1)]) (rv := (some (.int (g_X10_of M cd 1)))) (st := []) (S1 := [.int (g_X10_of M cd 1)]) (c_X10_of M gp cd 1 (by omega) (by decide)) k_X10_of _ _ rfl rfl rfl (zIn (w := 5108) (by decide +kernel) rfl) (by decide +kernel) (by decide +kernel) rfl (Nat.le_of_ble_eq_true rfl) rfl ?_
    refine zT.run [(.aload_n 0, 0, 0, 0), (.iload_n 1, 0, 0, 0), (.iconst 1, 0, 0, 0)] (pe := 19) (ls' := [some (.ref 0), some (.int (nI v)), some (.int (nI cd))]) (st' := [.int 1, .int (nI v), .ref 0, .int (g_X10_of M cd 1)]) (M' := M) (by decide +kernel) rfl ?_
    refine zT.cV_own (o := 0) (idx := 80) (av := [.int (nI v), .int (nI 1)]) (rv := (some (.int (g_X10_of M v 1)))) (st := [.int (g_X10_of M cd 1)]) (S1 := [.int (g_X10_of M v 1), .int (g_X10_of M cd 1)]) (c_X10_of M gp v 1 (by omega) (by decide)) k_X10_of _ _ rfl rfl rfl (zIn (w := 5108) (by decide +kernel) rfl) (by decide +kernel) (by decide +kernel) rfl (Nat.le_of_ble_eq_true rfl) rfl ?_
    refine zT.cge (tgt := 29) (off := 7) (by decide +kernel) (by decide) (fun (c2 : (g_X10_of M v 1) ≤ (g_X10_of M cd 1)) => ?_) (fun (c2 : ¬ (g_X10_of M v 1) ≤ (g_X10_of M cd 1)) => ?_)
    · skip
      refine zT.run [(.aload_n 0, 0, 0, 0), (.iload_n 2, 0, 0, 0)] (pe := 31) (ls' := [some (.ref 0), some (.int (nI v)), some (.int (nI cd))]) (st' := [.int (nI cd), .ref 0]) (M' := M) (by decide +kernel) rfl ?_
      refine zT.cV_own (o := 0) (idx := 86) (av := [.int (nI cd)]) (rv := (some (.int (g_X10_isUp M cd)))) (st := []) (S1 := [.int (g_X10_isUp M cd)]) (c_X10_isUp M gp cd (by omega)) k_X10_isUp _ _ rfl rfl rfl (zIn (w := 5120) (by decide +kernel) rfl) (by decide +kernel) (by decide +kernel) rfl (Nat.le_of_ble_eq_true rfl) rfl ?_
      refine zT.zeq (tgt := 41) (off := 7) (by decide +kernel) (by decide) (fun (c3 : (g_X10_isUp M cd) = 0) => ?_) (fun (c3 : ¬ (g_X10_isUp M cd) = 0) => ?_)
      · skip
        refine zT.run [(.iconst 4, 0, 0, 0)] (pe := 42) (ls' := [some (.ref 0), some (.int (nI v)), some (.int (nI cd))]) (st' := [.int 4]) (M' := M) (by decide +kernel) rfl ?_
        exact zT.iret (ty := Jvm.ClassFile.FieldType.int) (by simp only [g_X10_spoiling, if_neg c1, if_pos c2, if_pos c3]; try rfl) rfl rfl rfl (by decide +kernel)
      · skip
        refine zT.run [(.iconst 0, 0, 0, 0), (.goto 4, 0, 0, 0)] (pe := 42) (ls' := [some (.ref 0), some (.int (nI v)), some (.int (nI cd))]) (st' := [.int 0]) (M' := M) (by decide +kernel) rfl ?_
        exact zT.iret (ty := Jvm.ClassFile.FieldType.int) (by simp only [g_X10_spoiling, if_neg c1, if_pos c2, if_neg c3]; try rfl) rfl rfl rfl (by decide +kernel)
    · skip
      refine zT.run [(.iconst 3, 0, 0, 0), (.goto 16, 0, 0, 0)] (pe := 42) (ls' := [some (.ref 0), some (.int (nI v)), some (.int (nI cd))]) (st' := [.int 3]) (M' := M) (by decide +kernel) rfl ?_
      exact zT.iret (ty := Jvm.ClassFile.FieldType.int) (by simp only [g_X10_spoiling, if_neg c1, if_neg c2]; try rfl) rfl rfl rfl (by decide +kernel)
  · skip
    refine zT.run [(.iconst 2, 0, 0, 0)] (pe := 9) (ls' := [some (.ref 0), some (.int (nI v)), some (.int (nI cd))]) (st' := [.int 2]) (M' := M) (by decide +kernel) rfl ?_
    exact zT.iret (ty := Jvm.ClassFile.FieldType.int) (by simp only [g_X10_spoiling, if_pos c1]; try rfl) rfl rfl rfl (by decide +kernel)
theorem k_X10_spoiling : zCal yy_X10_spoiling 2 := ⟨⟨⟨⟨zIn (w := 6054) (by decide +kernel) rfl, zIn (w := 1012) (by decide +kernel) rfl⟩, by decide +kernel⟩, by decide +kernel⟩, ⟨zIn (w := 6053) (by decide +kernel) rfl, zIn (w := 44) (by decide +kernel) rfl⟩⟩
