theorem zTkP.of {ty : Nat} {m m' : zM} (e : m' 0 = m 0) (h : zTkP ty m) : zTkP ty m' := by
  unfold zTkP at h ⊢
  rw [e]
  exact h
theorem zTkP.of2 {ty : Nat} {m m' : zM} (e8 : m' 0 8 = m 0 8) (e14 : m' 0 14 = m 0 14) (e15 : m' 0 15 = m 0 15) (h : zTkP ty m) : zTkP ty m' := by
  unfold zTkP at h ⊢
  rw [e8, e14, e15]
  exact h
theorem tk_X10_scan (M : zM) (ty : Nat) (h600 : ty ≤ 600) (htk : zTkP ty M) : zTkP ty (g_X10_scan M ty) := e_X10_scan M ty h600 htk.at
noncomputable abbrev yy_X10_wrong : zY := (yX10_wrong, cX10_wrong, 2, none, 0, 0)
noncomputable def g_X10_wrong (M : zM) (cd : Int32) : zM := (if (M 0 18) = 0 then (zU M 0 18 ((8 * (M 0 15)) + cd)) else M)
set_option maxRecDepth 100000 in
theorem c_X10_wrong (M : zM) (gp : Nat → Option Nat) (cd : Int32)  : zC yy_X10_wrong 0 0 [.ref 0, .int cd] (sh_Model gp) M none (sh_Model gp) (g_X10_wrong M cd) := by
  refine zC.of (by decide +kernel) rfl (Nat.le_of_ble_eq_true rfl) ?_
  refine zT.run [(.aload_n 0, 0, 0, 0), (.getfield 235, 8, 18, 5167)] (pe := 4) (ls' := [some (.ref 0), some (.int cd)]) (st' := [.int (M 0 18)]) (M' := M) (by decide +kernel) rfl ?_
  refine zT.zne (tgt := 20) (off := 16) (by decide +kernel) (by decide) (fun (c1 : ¬ (M 0 18) = 0) => ?_) (fun (c1 : (M 0 18) = 0) => ?_)
  · skip
    exact zT.vret (by simp only [g_X10_wrong, if_neg c1]; try rfl) rfl (by decide +kernel)
  · skip
    refine zT.run [(.aload_n 0, 0, 0, 0), (.bipush 8, 0, 0, 0), (.aload_n 0, 0, 0, 0), (.getfield 220, 8, 15, 5164), (.imul, 0, 0, 0), (.iload_n 1, 0, 0, 0), (.iadd, 0, 0, 0), (.putfield 235, 8, 18, 5167)] (pe := 20) (ls' := [some (.ref 0), some (.int cd)]) (st' := []) (M' := (zU M 0 18 ((8 * (M 0 15)) + cd))) (by decide +kernel) rfl ?_
    exact zT.vret (by simp only [g_X10_wrong, if_pos c1]; try rfl) rfl (by decide +kernel)
theorem fr_X10_wrong (M : zM) (cd : Int32) (o : Nat) (ho : o ≠ 0) : (g_X10_wrong M cd) o = M o := by
  simp only [g_X10_wrong]
  (repeat' split) <;> simp only [zU_ne ho, zUa_ne ho]
theorem k_X10_wrong : zCal yy_X10_wrong 1 := ⟨⟨⟨⟨zIn (w := 6188) (by decide +kernel) rfl, zIn (w := 1012) (by decide +kernel) rfl⟩, by decide +kernel⟩, by decide +kernel⟩, ⟨zIn (w := 6187) (by decide +kernel) rfl, zIn (w := 64) (by decide +kernel) rfl⟩⟩
theorem tk_X10_wrong {ty : Nat} (M : zM) (cd : Int32) (h600 : ty ≤ 600) (htk : zTkP ty M) : zTkP ty (g_X10_wrong M cd) := by
  simp only [g_X10_wrong]
  split <;> exact htk
/-- behind a fault there is one -/
theorem e_X10_wrong {ty k : Nat} (M : zM) (h600 : ty ≤ 600) (htk : zTkP ty M) (hk : 0 < k) (hk2 : k < 8) : ¬ g_X10_wrong M (nI k) 0 18 = 0 := by
  obtain ⟨h1, f, a, h2, h3, h4, h5⟩ := htk
  simp only [g_X10_wrong]
  by_cases c : M 0 18 = 0
  · rw [if_pos c]
    show ¬ 8 * M 0 15 + nI k = 0
    rw [h4, show (8 : Int32) = nI 8 from rfl, pk_mul, nI_add]
    exact nI_ne0 (by omega) (by omega)
  · rw [if_neg c]
    exact c
noncomputable abbrev yy_X10_goOn : zY := (yX10_goOn, cX10_goOn, 1, none, 2, 41)
noncomputable def g_X10_goOn (M : zM) (ty : Nat) : zM := (if (M 0 18) = 0 then (g_X10_scan M ty) else M)
set_option maxRecDepth 100000 in
theorem c_X10_goOn (M : zM) (gp : Nat → Option Nat) (ty : Nat) (h600 : ty ≤ 600) (htk : zTkP ty M) : zC yy_X10_goOn 0 0 [.ref 0] (sh_Model gp) M none (sh_Model gp) (g_X10_goOn M ty) := by
  refine zC.of (by decide +kernel) rfl (Nat.le_of_ble_eq_true rfl) ?_
  refine zT.run [(.aload_n 0, 0, 0, 0), (.getfield 235, 8, 18, 5167)] (pe := 4) (ls' := [some (.ref 0)]) (st' := [.int (M 0 18)]) (M' := M) (by decide +kernel) rfl ?_
  refine zT.zne (tgt := 11) (off := 7) (by decide +kernel) (by decide) (fun (c1 : ¬ (M 0 18) = 0) => ?_) (fun (c1 : (M 0 18) = 0) => ?_)
  · skip
    exact zT.vret (by simp only [g_X10_goOn, if_neg c1]; try rfl) rfl (by decide +kernel)
  · skip
    refine zT.run [(.aload_n 0, 0, 0, 0)] (pe := 8) (ls' := [some (.ref 0)]) (st' := [.ref 0]) (M' := M) (by decide +kernel) rfl ?_
    refine zT.cV_all (o := 0) (idx := 247) (av := []) (rv := none) (st := []) (S1 := []) (c_X10_scan M gp ty h600 htk.at) k_X10_scan _ _ rfl rfl rfl (zIn (w := 6161) (by decide +kernel) rfl) (by decide +kernel) (by decide +kernel) rfl (Nat.le_of_ble_eq_true rfl) rfl ?_
    exact zT.vret (by simp only [g_X10_goOn, if_pos c1]; try rfl) rfl (by decide +kernel)
theorem fr_X10_goOn (M : zM) (ty : Nat) (o : Nat) (ho : o ≠ 0) : (g_X10_goOn M ty) o = M o := by
  simp only [g_X10_goOn]
  (repeat' split) <;> simp only [zU_ne ho, zUa_ne ho, (fun (MM : zM) (ty : Nat) => fr_X10_scan MM ty o (by omega))]
theorem k_X10_goOn : zCal yy_X10_goOn 0 := ⟨⟨⟨⟨zIn (w := 6192) (by decide +kernel) rfl, zIn (w := 1012) (by decide +kernel) rfl⟩, by decide +kernel⟩, by decide +kernel⟩, ⟨zIn (w := 6191) (by decide +kernel) rfl, zIn (w := 65) (by decide +kernel) rfl⟩⟩
theorem tk_X10_goOn (M : zM) (ty : Nat) (h600 : ty ≤ 600) (htk : zTkP ty M) : zTkP ty (g_X10_goOn M ty) := by
  simp only [g_X10_goOn]
  split
  · exact tk_X10_scan M ty h600 htk
  · exact htk
theorem ke_X10_goOn (M : zM) (ty k : Nat) (h1 : k ≠ 14) (h2 : k ≠ 15) (h3 : k ≠ 16) (h4 : k ≠ 17) : g_X10_goOn M ty 0 k = M 0 k := by
  simp only [g_X10_goOn]
  split
  · exact e2_X10_scan M ty k h1 h2 h3 h4
  · rfl
noncomputable abbrev yy_X10_bounds : zY := (yX10_bounds, cX10_bounds, 3, none, 1, 21)
noncomputable def g_X10_bounds (M : zM) (lo : Int32) (hi : Int32) : zM := (if (M 0 18) = 0 then (if (M 0 16) = 2 then (if (M 0 17) < lo then (g_X10_wrong M 2) else (if (M 0 17) ≤ hi then M else (g_X10_wrong M 2))) else (g_X10_wrong M 1)) else M)
set_option maxRecDepth 100000 in
theorem c_X10_bounds (M : zM) (gp : Nat → Option Nat) (lo : Int32) (hi : Int32)  : zC yy_X10_bounds 0 0 [.ref 0, .int lo, .int hi] (sh_Model gp) M none (sh_Model gp) (g_X10_bounds M lo hi) := by
  refine zC.of (by decide +kernel) rfl (Nat.le_of_ble_eq_true rfl) ?_
  refine zT.run [(.aload_n 0, 0, 0, 0), (.getfield 235, 8, 18, 5167)] (pe := 4) (ls' := [some (.ref 0), some (.int lo), some (.int hi)]) (st' := [.int (M 0 18)]) (M' := M) (by decide +kernel) rfl ?_
  refine zT.zne (tgt := 23) (off := 19) (by decide +kernel) (by decide) (fun (c1 : ¬ (M 0 18) = 0) => ?_) (fun (c1 : (M 0 18) = 0) => ?_)
  · skip
    refine zT.run [(.aload_n 0, 0, 0, 0), (.getfield 235, 8, 18, 5167)] (pe := 27) (ls' := [some (.ref 0), some (.int lo), some (.int hi)]) (st' := [.int (M 0 18)]) (M' := M) (by decide +kernel) rfl ?_
    refine zT.zne (tgt := 51) (off := 24) (by decide +kernel) (by decide) (fun _ => ?_) (fun c => absurd c c1)
    exact zT.vret (by simp only [g_X10_bounds, if_neg c1]; try rfl) rfl (by decide +kernel)
  · skip
    refine zT.run [(.aload_n 0, 0, 0, 0), (.getfield 223, 8, 16, 5165), (.iconst 2, 0, 0, 0)] (pe := 12) (ls' := [some (.ref 0), some (.int lo), some (.int hi)]) (st' := [.int 2, .int (M 0 16)]) (M' := M) (by decide +kernel) rfl ?_
    refine zT.ceq (tgt := 23) (off := 11) (by decide +kernel) (by decide) (fun (c2 : (M 0 16) = 2) => ?_) (fun (c2 : ¬ (M 0 16) = 2) => ?_)
    · skip
      refine zT.run [(.aload_n 0, 0, 0, 0), (.getfield 235, 8, 18, 5167)] (pe := 27) (ls' := [some (.ref 0), some (.int lo), some (.int hi)]) (st' := [.int (M 0 18)]) (M' := M) (by decide +kernel) rfl ?_
      refine zT.zne (tgt := 51) (off := 24) (by decide +kernel) (by decide) (fun c => absurd c1 c) (fun _ => ?_)
      refine zT.run [(.aload_n 0, 0, 0, 0), (.getfield 232, 8, 17, 5166), (.iload_n 1, 0, 0, 0)] (pe := 35) (ls' := [some (.ref 0), some (.int lo), some (.int hi)]) (st' := [.int lo, .int (M 0 17)]) (M' := M) (by decide +kernel) rfl ?_
      refine zT.clt (tgt := 46) (off := 11) (by decide +kernel) (by decide) (fun (c3 : (M 0 17) < lo) => ?_) (fun (c3 : ¬ (M 0 17) < lo) => ?_)
      · skip
        refine zT.run [(.aload_n 0, 0, 0, 0), (.iconst 2, 0, 0, 0)] (pe := 48) (ls' := [some (.ref 0), some (.int lo), some (.int hi)]) (st' := [.int 2, .ref 0]) (M' := M) (by decide +kernel) rfl ?_
        refine zT.cV_all (o := 0) (idx := 250) (av := [.int 2]) (rv := none) (st := []) (S1 := []) (c_X10_wrong M gp 2) k_X10_wrong _ _ rfl rfl rfl (zIn (w := 6185) (by decide +kernel) rfl) (by decide +kernel) (by decide +kernel) rfl (Nat.le_of_ble_eq_true rfl) rfl ?_
        exact zT.vret (by simp only [g_X10_bounds, if_pos c1, if_pos c2, if_pos c3]; try rfl) rfl (by decide +kernel)
      · skip
        refine zT.run [(.aload_n 0, 0, 0, 0), (.getfield 232, 8, 17, 5166), (.iload_n 2, 0, 0, 0)] (pe := 43) (ls' := [some (.ref 0), some (.int lo), some (.int hi)]) (st' := [.int hi, .int (M 0 17)]) (M' := M) (by decide +kernel) rfl ?_
        refine zT.cle (tgt := 51) (off := 8) (by decide +kernel) (by decide) (fun (c4 : (M 0 17) ≤ hi) => ?_) (fun (c4 : ¬ (M 0 17) ≤ hi) => ?_)
        · skip
          exact zT.vret (by simp only [g_X10_bounds, if_pos c1, if_pos c2, if_neg c3, if_pos c4]; try rfl) rfl (by decide +kernel)
        · skip
          refine zT.run [(.aload_n 0, 0, 0, 0), (.iconst 2, 0, 0, 0)] (pe := 48) (ls' := [some (.ref 0), some (.int lo), some (.int hi)]) (st' := [.int 2, .ref 0]) (M' := M) (by decide +kernel) rfl ?_
          refine zT.cV_all (o := 0) (idx := 250) (av := [.int 2]) (rv := none) (st := []) (S1 := []) (c_X10_wrong M gp 2) k_X10_wrong _ _ rfl rfl rfl (zIn (w := 6185) (by decide +kernel) rfl) (by decide +kernel) (by decide +kernel) rfl (Nat.le_of_ble_eq_true rfl) rfl ?_
          exact zT.vret (by simp only [g_X10_bounds, if_pos c1, if_pos c2, if_neg c3, if_neg c4]; try rfl) rfl (by decide +kernel)
    · skip
      refine zT.run [(.aload_n 0, 0, 0, 0), (.iconst 1, 0, 0, 0)] (pe := 17) (ls' := [some (.ref 0), some (.int lo), some (.int hi)]) (st' := [.int 1, .ref 0]) (M' := M) (by decide +kernel) rfl ?_
      refine zT.cV_all (o := 0) (idx := 250) (av := [.int 1]) (rv := none) (st := []) (S1 := []) (c_X10_wrong M gp 1) k_X10_wrong _ _ rfl rfl rfl (zIn (w := 6185) (by decide +kernel) rfl) (by decide +kernel) (by decide +kernel) rfl (Nat.le_of_ble_eq_true rfl) rfl ?_
      refine zT.run [(.goto 31, 0, 0, 0)] (pe := 51) (ls' := [some (.ref 0), some (.int lo), some (.int hi)]) (st' := []) (M' := (g_X10_wrong M 1)) (by decide +kernel) rfl ?_
      exact zT.vret (by simp only [g_X10_bounds, if_pos c1, if_neg c2]; try rfl) rfl (by decide +kernel)
theorem fr_X10_bounds (M : zM) (lo : Int32) (hi : Int32) (o : Nat) (ho : o ≠ 0) : (g_X10_bounds M lo hi) o = M o := by
  simp only [g_X10_bounds]
  (repeat' split) <;> simp only [zU_ne ho, zUa_ne ho, (fun (MM : zM) (cd : Int32) => fr_X10_wrong MM cd o (by omega))]
theorem k_X10_bounds : zCal yy_X10_bounds 2 := ⟨⟨⟨⟨zIn (w := 6200) (by decide +kernel) rfl, zIn (w := 1012) (by decide +kernel) rfl⟩, by decide +kernel⟩, by decide +kernel⟩, ⟨zIn (w := 6199) (by decide +kernel) rfl, zIn (w := 67) (by decide +kernel) rfl⟩⟩
theorem tk_X10_bounds {ty : Nat} (M : zM) (lo hi : Int32) (h600 : ty ≤ 600) (htk : zTkP ty M) : zTkP ty (g_X10_bounds M lo hi) := by
  simp only [g_X10_bounds]
  (repeat' split) <;> first | exact htk | exact tk_X10_wrong M _ h600 htk
theorem e_X10_bounds {ty : Nat} (M : zM) (lo hi : Int32) (h600 : ty ≤ 600) (htk : zTkP ty M) (h : g_X10_bounds M lo hi 0 18 = 0) : g_X10_bounds M lo hi = M ∧ M 0 18 = 0 ∧ M 0 16 = 2 ∧ ¬ M 0 17 < lo ∧ M 0 17 ≤ hi := by
  simp only [g_X10_bounds] at h ⊢
  by_cases c1 : M 0 18 = 0
  · by_cases c2 : M 0 16 = 2
    · by_cases c3 : M 0 17 < lo
      · exfalso
        simp only [if_pos c1, if_pos c2, if_pos c3] at h
        exact e_X10_wrong (k := 2) M h600 htk (by decide) (by decide) h
      · by_cases c4 : M 0 17 ≤ hi
        · simp only [if_pos c1, if_pos c2, if_neg c3, if_pos c4]
          exact ⟨trivial, c1, c2, c3, c4⟩
        · exfalso
          simp only [if_pos c1, if_pos c2, if_neg c3, if_neg c4] at h
          exact e_X10_wrong (k := 2) M h600 htk (by decide) (by decide) h
    · exfalso
      simp only [if_pos c1, if_neg c2] at h
      exact e_X10_wrong (k := 1) M h600 htk (by decide) (by decide) h
  · exfalso
    by_cases c2 : M 0 16 = 2
    · simp only [if_neg c1] at h
      exact c1 h
    · simp only [if_neg c1] at h
      exact c1 h
noncomputable abbrev yy_X10_read : zY := (yX10_read, cX10_read, 4, (some Jvm.ClassFile.FieldType.int), 3, 61)
noncomputable def g_X10_read (M : zM) (ty : Nat) (lo : Int32) (hi : Int32) : Int32 × zM := (if ((g_X10_goOn (g_X10_bounds M lo hi) ty) 0 18) = 0 then (((g_X10_bounds M lo hi) 0 17), (g_X10_goOn (g_X10_bounds M lo hi) ty)) else (0, (g_X10_goOn (g_X10_bounds M lo hi) ty)))
set_option maxRecDepth 100000 in
theorem c_X10_read (M : zM) (gp : Nat → Option Nat) (ty : Nat) (lo : Int32) (hi : Int32) (h600 : ty ≤ 600) (htk : zTkP ty M) : zC yy_X10_read 0 0 [.ref 0, .int lo, .int hi] (sh_Model gp) M (some (.int (g_X10_read M ty lo hi).1)) (sh_Model gp) (g_X10_read M ty lo hi).2 := by
  refine zC.of (by decide +kernel) rfl (Nat.le_of_ble_eq_true rfl) ?_
  refine zT.run [(.aload_n 0, 0, 0, 0), (.iload_n 1, 0, 0, 0), (.iload_n 2, 0, 0, 0)] (pe := 3) (ls' := [some (.ref 0), some (.int lo), some (.int hi), none]) (st' := [.int hi, .int lo, .ref 0]) (M' := M) (by decide +kernel) rfl ?_
  refine zT.cV_all (o := 0) (idx := 253) (av := [.int lo, .int hi]) (rv := none) (st := []) (S1 := []) (c_X10_bounds M gp lo hi) k_X10_bounds _ _ rfl rfl rfl (zIn (w := 6197) (by decide +kernel) rfl) (by decide +kernel) (by decide +kernel) rfl (Nat.le_of_ble_eq_true rfl) rfl ?_
  refine zT.run [(.aload_n 0, 0, 0, 0), (.getfield 232, 8, 17, 5166), (.istore_n 3, 0, 0, 0), (.aload_n 0, 0, 0, 0)] (pe := 12) (ls' := [some (.ref 0), some (.int lo), some (.int hi), some (.int ((g_X10_bounds M lo hi) 0 17))]) (st' := [.ref 0]) (M' := (g_X10_bounds M lo hi)) (by decide +kernel) rfl ?_
  refine zT.cV_all (o := 0) (idx := 256) (av := []) (rv := none) (st := []) (S1 := []) (c_X10_goOn (g_X10_bounds M lo hi) gp ty h600 (tk_X10_bounds M lo hi h600 htk)) k_X10_goOn _ _ rfl rfl rfl (zIn (w := 6189) (by decide +kernel) rfl) (by decide +kernel) (by decide +kernel) rfl (Nat.le_of_ble_eq_true rfl) rfl ?_
  refine zT.run [(.aload_n 0, 0, 0, 0), (.getfield 235, 8, 18, 5167)] (pe := 19) (ls' := [some (.ref 0), some (.int lo), some (.int hi), some (.int ((g_X10_bounds M lo hi) 0 17))]) (st' := [.int ((g_X10_goOn (g_X10_bounds M lo hi) ty) 0 18)]) (M' := (g_X10_goOn (g_X10_bounds M lo hi) ty)) (by decide +kernel) rfl ?_
  refine zT.zne (tgt := 26) (off := 7) (by decide +kernel) (by decide) (fun (c1 : ¬ ((g_X10_goOn (g_X10_bounds M lo hi) ty) 0 18) = 0) => ?_) (fun (c1 : ((g_X10_goOn (g_X10_bounds M lo hi) ty) 0 18) = 0) => ?_)
  · skip
    refine zT.run [(.iconst 0, 0, 0, 0)] (pe := 27) (ls' := [some (.ref 0), some (.int lo), some (.int hi), some (.int ((g_X10_bounds M lo hi) 0 17))]) (st' := [.int 0]) (M' := (g_X10_goOn (g_X10_bounds M lo hi) ty)) (by decide +kernel) rfl ?_
    exact zT.iret (ty := Jvm.ClassFile.FieldType.int) (by simp only [g_X10_read, if_neg c1]; try rfl) (by simp only [g_X10_read, if_neg c1]; try rfl) rfl rfl (by decide +kernel)
  · skip
    refine zT.run [(.iload_n 3, 0, 0, 0), (.goto 4, 0, 0, 0)] (pe := 27) (ls' := [some (.ref 0), some (.int lo), some (.int hi), some (.int ((g_X10_bounds M lo hi) 0 17))]) (st' := [.int ((g_X10_bounds M lo hi) 0 17)]) (M' := (g_X10_goOn (g_X10_bounds M lo hi) ty)) (by decide +kernel) rfl ?_
    exact zT.iret (ty := Jvm.ClassFile.FieldType.int) (by simp only [g_X10_read, if_pos c1]; try rfl) (by simp only [g_X10_read, if_pos c1]; try rfl) rfl rfl (by decide +kernel)
theorem fr_X10_read (M : zM) (ty : Nat) (lo : Int32) (hi : Int32) (o : Nat) (ho : o ≠ 0) : (g_X10_read M ty lo hi).2 o = M o := by
  simp only [g_X10_read]
  (repeat' split) <;> simp only [zU_ne ho, zUa_ne ho, (fun (MM : zM) (ty : Nat) => fr_X10_goOn MM ty o (by omega)), (fun (MM : zM) (lo : Int32) (hi : Int32) => fr_X10_bounds MM lo hi o (by omega))]
theorem k_X10_read : zCal yy_X10_read 2 := ⟨⟨⟨⟨zIn (w := 6196) (by decide +kernel) rfl, zIn (w := 1012) (by decide +kernel) rfl⟩, by decide +kernel⟩, by decide +kernel⟩, ⟨zIn (w := 6195) (by decide +kernel) rfl, zIn (w := 66) (by decide +kernel) rfl⟩⟩
theorem tk_X10_read (M : zM) (ty : Nat) (lo hi : Int32) (h600 : ty ≤ 600) (htk : zTkP ty M) : zTkP ty (g_X10_read M ty lo hi).2 := by
  have h := tk_X10_goOn _ ty h600 (tk_X10_bounds M lo hi h600 htk)
  simp only [g_X10_read]
  (repeat' split) <;> exact h
theorem e_X10_read (M : zM) (ty : Nat) (lo hi : Int32) (h600 : ty ≤ 600) (htk : zTkP ty M) (h : (g_X10_read M ty lo hi).2 0 18 = 0) : ¬ (g_X10_read M ty lo hi).1 < lo ∧ (g_X10_read M ty lo hi).1 ≤ hi ∧ M 0 18 = 0 := by
  have h2 : (g_X10_read M ty lo hi).2 0 18 = g_X10_bounds M lo hi 0 18 := by
    have := ke_X10_goOn (g_X10_bounds M lo hi) ty 18 (by decide) (by decide) (by decide) (by decide)
    simp only [g_X10_read]
    (repeat' split) <;> exact this
  have h4 := ke_X10_goOn (g_X10_bounds M lo hi) ty 18 (by decide) (by decide) (by decide) (by decide)
  rw [h2] at h
  obtain ⟨e1, e2, e3, e4, e5⟩ := e_X10_bounds M lo hi h600 htk h
  rw [e1] at h4
  have h5 : g_X10_goOn M ty 0 18 = 0 := h4.trans e2
  simp only [g_X10_read, e1, if_pos h5]
  exact ⟨e4, e5, e2⟩
noncomputable abbrev yy_X10_replicaHere : zY := (yX10_replicaHere, cX10_replicaHere, 1, (some Jvm.ClassFile.FieldType.int), 4, 84)
noncomputable def g_X10_replicaHere (M : zM) (ty : Nat) : Int32 × zM := ((g_X10_read M ty 0 ((M 1 0) - 1)).1, (g_X10_read M ty 0 ((M 1 0) - 1)).2)
set_option maxRecDepth 100000 in
theorem c_X10_replicaHere (M : zM) (gp : Nat → Option Nat) (ty : Nat) (h600 : ty ≤ 600) (htk : zTkP ty M) : zC yy_X10_replicaHere 0 0 [.ref 0] (sh_Model gp) M (some (.int (g_X10_replicaHere M ty).1)) (sh_Model gp) (g_X10_replicaHere M ty).2 := by
  refine zC.of (by decide +kernel) rfl (Nat.le_of_ble_eq_true rfl) ?_
  refine zT.run [(.aload_n 0, 0, 0, 0), (.iconst 0, 0, 0, 0), (.aload_n 0, 0, 0, 0), (.getfield 9, 8, 1, 5150), (.iconst 0, 0, 0, 0)] (pe := 7) (ls' := [some (.ref 0)]) (st' := [.int 0, .ref 1, .int 0, .ref 0]) (M' := M) (by decide +kernel) rfl ?_
  refine zT.iald (n := 187) (k := 0) rfl rfl (by decide) (by decide) (by decide +kernel) ?_
  refine zT.run [(.iconst 1, 0, 0, 0), (.isub, 0, 0, 0)] (pe := 10) (ls' := [some (.ref 0)]) (st' := [.int ((M 1 0) - 1), .int 0, .ref 0]) (M' := M) (by decide +kernel) rfl ?_
  refine zT.cV_all (o := 0) (idx := 259) (av := [.int 0, .int ((M 1 0) - 1)]) (rv := (some (.int (g_X10_read M ty 0 ((M 1 0) - 1)).1))) (st := []) (S1 := [.int (g_X10_read M ty 0 ((M 1 0) - 1)).1]) (c_X10_read M gp ty 0 ((M 1 0) - 1) h600 htk) k_X10_read _ _ rfl rfl rfl (zIn (w := 6193) (by decide +kernel) rfl) (by decide +kernel) (by decide +kernel) rfl (Nat.le_of_ble_eq_true rfl) rfl ?_
  exact zT.iret (ty := Jvm.ClassFile.FieldType.int) (by simp only [g_X10_replicaHere]; try rfl) (by simp only [g_X10_replicaHere]; try rfl) rfl rfl (by decide +kernel)
theorem fr_X10_replicaHere (M : zM) (ty : Nat) (o : Nat) (ho : o ≠ 0) : (g_X10_replicaHere M ty).2 o = M o := by
  simp only [g_X10_replicaHere]
  (repeat' split) <;> simp only [zU_ne ho, zUa_ne ho, (fun (MM : zM) (ty : Nat) (lo : Int32) (hi : Int32) => fr_X10_read MM ty lo hi o (by omega))]
theorem k_X10_replicaHere : zCal yy_X10_replicaHere 0 := ⟨⟨⟨⟨zIn (w := 6235) (by decide +kernel) rfl, zIn (w := 1012) (by decide +kernel) rfl⟩, by decide +kernel⟩, by decide +kernel⟩, ⟨zIn (w := 6234) (by decide +kernel) rfl, zIn (w := 72) (by decide +kernel) rfl⟩⟩
theorem tk_X10_replicaHere (M : zM) (ty : Nat) (h600 : ty ≤ 600) (htk : zTkP ty M) : zTkP ty (g_X10_replicaHere M ty).2 := tk_X10_read M ty _ _ h600 htk
theorem e_X10_replicaHere (M : zM) (ty n : Nat) (h600 : ty ≤ 600) (htk : zTkP ty M) (hn : M 1 0 = nI n) (h9 : n ≤ 9) (h : (g_X10_replicaHere M ty).2 0 18 = 0) : (g_X10_replicaHere M ty).1 = nI (g_X10_replicaHere M ty).1.toNatClampNeg ∧ (g_X10_replicaHere M ty).1.toNatClampNeg < n ∧ M 0 18 = 0 := by
  obtain ⟨e1, e2, e3⟩ := e_X10_read M ty 0 (M 1 0 - 1) h600 htk h
  have e1 : ¬ (g_X10_replicaHere M ty).1 < 0 := e1
  have e2 : (g_X10_replicaHere M ty).1 ≤ M 1 0 - 1 := e2
  obtain ⟨j, hj, ej⟩ := nI_of e1
  rw [ej, nI_clamp hj]
  rw [ej, hn] at e2
  refine ⟨rfl, ?_, e3⟩
  rcases Nat.eq_zero_or_pos n with h0 | h0
  · subst h0
    exfalso
    exact nI_pos hj (Int32.lt_of_le_of_lt e2 (by decide))
  · rw [show (1 : Int32) = nI 1 from rfl, pk_sub h0] at e2
    have := (nI_leI hj (by omega)).mp e2
    omega
noncomputable abbrev yy_X10_ends : zY := (yX10_ends, cX10_ends, 2, (some Jvm.ClassFile.FieldType.boolean), 1, 21)
noncomputable def j_X10_ends_20 (M : zM) (x : Int32) : zM := (if (M 0 18) = 0 then (if (M 0 16) = 1 then M else (g_X10_wrong M 1)) else M)
theorem fr_j_X10_ends_20 (M : zM) (x : Int32) (o : Nat) (ho : o ≠ 0) : (j_X10_ends_20 M x) o = M o := by
  simp only [j_X10_ends_20]
  (repeat' split) <;> (try simp only [zU_ne ho, zUa_ne ho, (fun (MM : zM) (cd : Int32) => fr_X10_wrong MM cd o (by omega))])
noncomputable def j_X10_ends_36 (M : zM) (x : Int32) : zM := (if ((j_X10_ends_20 M x) 0 18) = 0 then (if x = 0 then (j_X10_ends_20 M x) else (g_X10_wrong (j_X10_ends_20 M x) 4)) else (j_X10_ends_20 M x))
theorem fr_j_X10_ends_36 (M : zM) (x : Int32) (o : Nat) (ho : o ≠ 0) : (j_X10_ends_36 M x) o = (j_X10_ends_20 M x) o := by
  simp only [j_X10_ends_36]
  (repeat' split) <;> (try simp only [zU_ne ho, zUa_ne ho, (fr_j_X10_ends_20 M x o (by omega)), (fun (MM : zM) (cd : Int32) => fr_X10_wrong MM cd o (by omega))])
noncomputable def g_X10_ends (M : zM) (x : Int32) : Int32 × zM := (if ((j_X10_ends_36 M x) 0 18) = 0 then (1, (j_X10_ends_36 M x)) else (0, (j_X10_ends_36 M x)))
set_option maxRecDepth 100000 in
theorem c_X10_ends (M : zM) (gp : Nat → Option Nat) (x : Int32)  : zC yy_X10_ends 0 0 [.ref 0, .int x] (sh_Model gp) M (some (.int (g_X10_ends M x).1)) (sh_Model gp) (g_X10_ends M x).2 := by
  refine zC.of (by decide +kernel) rfl (Nat.le_of_ble_eq_true rfl) ?_
  refine zT.run [(.aload_n 0, 0, 0, 0), (.getfield 235, 8, 18, 5167)] (pe := 4) (ls' := [some (.ref 0), some (.int x)]) (st' := [.int (M 0 18)]) (M' := M) (by decide +kernel) rfl ?_
  refine zT.join (20, [some (.ref 0), some (.int x)], [], (sh_Model gp), (j_X10_ends_20 M x)) ?_ ?_
  · refine zT.zne (tgt := 20) (off := 16) (by decide +kernel) (by decide) (fun (c1 : ¬ (M 0 18) = 0) => ?_) (fun (c1 : (M 0 18) = 0) => ?_)
    · skip
      exact zT.here (by simp only [j_X10_ends_20, if_neg c1]; try rfl)
    · skip
      refine zT.run [(.aload_n 0, 0, 0, 0), (.getfield 223, 8, 16, 5165), (.iconst 1, 0, 0, 0)] (pe := 12) (ls' := [some (.ref 0), some (.int x)]) (st' := [.int 1, .int (M 0 16)]) (M' := M) (by decide +kernel) rfl ?_
      refine zT.ceq (tgt := 20) (off := 8) (by decide +kernel) (by decide) (fun (c2 : (M 0 16) = 1) => ?_) (fun (c2 : ¬ (M 0 16) = 1) => ?_)
      · skip
        exact zT.here (by simp only [j_X10_ends_20, if_pos c1, if_pos c2]; try rfl)
      · skip
        refine zT.run [(.aload_n 0, 0, 0, 0), (.iconst 1, 0, 0, 0)] (pe := 17) (ls' := [some (.ref 0), some (.int x)]) (st' := [.int 1, .ref 0]) (M' := M) (by decide +kernel) rfl ?_
        refine zT.cV_all (o := 0) (idx := 250) (av := [.int 1]) (rv := none) (st := []) (S1 := []) (c_X10_wrong M gp 1) k_X10_wrong _ _ rfl rfl rfl (zIn (w := 6185) (by decide +kernel) rfl) (by decide +kernel) (by decide +kernel) rfl (Nat.le_of_ble_eq_true rfl) rfl ?_
        exact zT.here (by simp only [j_X10_ends_20, if_pos c1, if_neg c2]; try rfl)
  · skip
    refine zT.run [(.aload_n 0, 0, 0, 0), (.getfield 235, 8, 18, 5167)] (pe := 24) (ls' := [some (.ref 0), some (.int x)]) (st' := [.int ((j_X10_ends_20 M x) 0 18)]) (M' := (j_X10_ends_20 M x)) (by decide +kernel) rfl ?_
    refine zT.join (36, [some (.ref 0), some (.int x)], [], (sh_Model gp), (j_X10_ends_36 M x)) ?_ ?_
    · refine zT.zne (tgt := 36) (off := 12) (by decide +kernel) (by decide) (fun (c3 : ¬ ((j_X10_ends_20 M x) 0 18) = 0) => ?_) (fun (c3 : ((j_X10_ends_20 M x) 0 18) = 0) => ?_)
      · skip
        exact zT.here (by simp only [j_X10_ends_36, if_neg c3]; try rfl)
      · skip
        refine zT.run [(.iload_n 1, 0, 0, 0)] (pe := 28) (ls' := [some (.ref 0), some (.int x)]) (st' := [.int x]) (M' := (j_X10_ends_20 M x)) (by decide +kernel) rfl ?_
        refine zT.zeq (tgt := 36) (off := 8) (by decide +kernel) (by decide) (fun (c4 : x = 0) => ?_) (fun (c4 : ¬ x = 0) => ?_)
        · skip
          exact zT.here (by simp only [j_X10_ends_36, if_pos c3, if_pos c4]; try rfl)
        · skip
          refine zT.run [(.aload_n 0, 0, 0, 0), (.iconst 4, 0, 0, 0)] (pe := 33) (ls' := [some (.ref 0), some (.int x)]) (st' := [.int 4, .ref 0]) (M' := (j_X10_ends_20 M x)) (by decide +kernel) rfl ?_
          refine zT.cV_all (o := 0) (idx := 250) (av := [.int 4]) (rv := none) (st := []) (S1 := []) (c_X10_wrong (j_X10_ends_20 M x) gp 4) k_X10_wrong _ _ rfl rfl rfl (zIn (w := 6185) (by decide +kernel) rfl) (by decide +kernel) (by decide +kernel) rfl (Nat.le_of_ble_eq_true rfl) rfl ?_
          exact zT.here (by simp only [j_X10_ends_36, if_pos c3, if_neg c4]; try rfl)
    · skip
      refine zT.run [(.aload_n 0, 0, 0, 0), (.getfield 235, 8, 18, 5167)] (pe := 40) (ls' := [some (.ref 0), some (.int x)]) (st' := [.int ((j_X10_ends_36 M x) 0 18)]) (M' := (j_X10_ends_36 M x)) (by decide +kernel) rfl ?_
      refine zT.zne (tgt := 47) (off := 7) (by decide +kernel) (by decide) (fun (c5 : ¬ ((j_X10_ends_36 M x) 0 18) = 0) => ?_) (fun (c5 : ((j_X10_ends_36 M x) 0 18) = 0) => ?_)
      · skip
        refine zT.run [(.iconst 0, 0, 0, 0)] (pe := 48) (ls' := [some (.ref 0), some (.int x)]) (st' := [.int 0]) (M' := (j_X10_ends_36 M x)) (by decide +kernel) rfl ?_
        exact zT.iret (ty := Jvm.ClassFile.FieldType.boolean) (by simp only [g_X10_ends, if_neg c5]; try rfl) (by simp only [g_X10_ends, if_neg c5]; try rfl) rfl rfl (by decide +kernel)
      · skip
        refine zT.run [(.iconst 1, 0, 0, 0), (.goto 4, 0, 0, 0)] (pe := 48) (ls' := [some (.ref 0), some (.int x)]) (st' := [.int 1]) (M' := (j_X10_ends_36 M x)) (by decide +kernel) rfl ?_
        exact zT.iret (ty := Jvm.ClassFile.FieldType.boolean) (by simp only [g_X10_ends, if_pos c5]; try rfl) (by simp only [g_X10_ends, if_pos c5]; try rfl) rfl rfl (by decide +kernel)
theorem fr_X10_ends (M : zM) (x : Int32) (o : Nat) (ho : o ≠ 0) : (g_X10_ends M x).2 o = M o := by
  simp only [g_X10_ends]
  (repeat' split) <;> simp only [zU_ne ho, zUa_ne ho, (fr_j_X10_ends_36 M x o (by omega)), (fr_j_X10_ends_20 M x o (by omega))]
theorem k_X10_ends : zCal yy_X10_ends 1 := ⟨⟨⟨⟨zIn (w := 6204) (by decide +kernel) rfl, zIn (w := 1012) (by decide +kernel) rfl⟩, by decide +kernel⟩, by decide +kernel⟩, ⟨zIn (w := 6203) (by decide +kernel) rfl, zIn (w := 68) (by decide +kernel) rfl⟩⟩
theorem tk_X10_ends {ty : Nat} (M : zM) (x : Int32) (h600 : ty ≤ 600) (htk : zTkP ty M) : zTkP ty (g_X10_ends M x).2 := by
  have h1 : zTkP ty (j_X10_ends_20 M x) := by
    simp only [j_X10_ends_20]
    (repeat' split) <;> first | exact htk | exact tk_X10_wrong M _ h600 htk
  have h2 : zTkP ty (j_X10_ends_36 M x) := by
    simp only [j_X10_ends_36]
    (repeat' split) <;> first | exact h1 | exact tk_X10_wrong _ _ h600 h1
  simp only [g_X10_ends]
  (repeat' split) <;> exact h2
