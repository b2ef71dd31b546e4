theorem sub_X_2_Text {sl : Nat → Option Nat} {ext : List va_E} : zSub (sh_X sl ext) 2 sh_Text := zSub.of rfl
noncomputable abbrev yy_X5_readReplicas : zY := (yX5_readReplicas, cX5_readReplicas, 4, (some Jvm.ClassFile.FieldType.int), 6, 128)
noncomputable def m_X5_readReplicas_1 (M : zM) (ty : Nat) : zM := (zPs M 2 2 (g_X8_advance (zPl M 2) ty))
noncomputable def m_X5_readReplicas_2 (M : zM) (ty : Nat) (x1 : Int32 × zM) : zM := (zPs x1.2 1 4 (g_X5_readReplica (zPl x1.2 1) ty (x1.2 19 0)).2)
noncomputable def m_X5_readReplicas_3 (M : zM) (ty : Nat) (x1 : Int32 × zM) : zM := (zPs (m_X5_readReplicas_2 M ty x1) 19 14 (g_X4_addReplica (zPl (m_X5_readReplicas_2 M ty x1) 19) ((x1.2 19 0)).toNatClampNeg ((g_X5_readReplica (zPl x1.2 1) ty (x1.2 19 0)).2 3 0) ((g_X5_readReplica (zPl x1.2 1) ty (x1.2 19 0)).2 3 1)))
noncomputable def m_X5_readReplicas_4 (M : zM) (ty : Nat) (x1 : Int32 × zM) : zM := (zPs (m_X5_readReplicas_3 M ty x1) 2 2 (g_X8_advance (zPl (m_X5_readReplicas_3 M ty x1) 2) ty))
noncomputable def f_X5_readReplicas_23 (M : zM) (ty : Nat) (x1 : Int32 × zM) : (Int32 × zM) ⊕ (Int32 × Int32 × zM) := (if 9 < x1.1 then (.inr (0, x1.1, x1.2)) else (if (g_X8_isWord (zPl x1.2 2) ty 19) = 0 then (.inr (0, x1.1, x1.2)) else (if (g_X5_readReplica (zPl x1.2 1) ty (x1.2 19 0)).1 = 0 then (.inl ((x1.1 + 1), (m_X5_readReplicas_4 M ty x1))) else (.inr ((g_X5_readReplica (zPl x1.2 1) ty (x1.2 19 0)).1, x1.1, (m_X5_readReplicas_2 M ty x1))))))
theorem hf_readReplicas (M : zM) (ty : Nat) (h600 : ty ≤ 600) : ∀ x y : Int32 × zM, (fun (x : Int32 × zM) => zTq ty (zPl x.2 2) ∧ zDj (zPl x.2 19) ∧ ∃ k, k ≤ 10 ∧ x.1 = nI k) x → f_X5_readReplicas_23 M ty x = .inl y → (fun (x : Int32 × zM) => zTq ty (zPl x.2 2) ∧ zDj (zPl x.2 19) ∧ ∃ k, k ≤ 10 ∧ x.1 = nI k) y ∧ 10 - y.1.toNatClampNeg < 10 - x.1.toNatClampNeg := by
  rintro ⟨t, m⟩ y ⟨h1, h2, k, hk, h3⟩ h
  dsimp only at h1 h2 h3 h
  subst h3
  unfold f_X5_readReplicas_23 at h
  dsimp only at h
  by_cases c1 : 9 < nI k
  · rw [if_pos c1] at h
    cases h
  rw [if_neg c1] at h
  have k9 : k ≤ 9 := by
    rcases Nat.lt_or_ge 9 k with q | q
    · exact absurd (nI_lt (a := 9) (b := k) q (by omega)) c1
    · exact q
  by_cases c2 : (g_X8_isWord (zPl m 2) ty 19) = 0
  · rw [if_pos c2] at h
    cases h
  rw [if_neg c2] at h
  by_cases c3 : (g_X5_readReplica (zPl m 1) ty (m 19 0)).1 = 0
  · rw [if_pos c3] at h
    have e := Sum.inl.inj h
    subst e
    have hlt : m 19 0 < 9 := by
      apply Decidable.byContradiction
      intro q
      unfold g_X5_readReplica at c3
      rw [if_neg q] at c3
      exact absurd c3 (show ¬ (3 : Int32) = 0 by decide)
    have t1 : zTq ty (zPl (m_X5_readReplicas_2 M ty (nI k, m)) 2) := by
      unfold m_X5_readReplicas_2
      exact zTq.of (m := zPl (g_X5_readReplica (zPl m 1) ty (m 19 0)).2 1) (e_X5_readReplica (zPl m 1) ty _ h600 (zTq.of (m := zPl m 2) h1 rfl)) rfl
    have d1 : zDj (zPl (m_X5_readReplicas_2 M ty (nI k, m)) 19) := by
      unfold m_X5_readReplicas_2
      exact zDj.of (N := zPl m 19) h2 rfl rfl (zHc.of rfl h2.2.2)
    have e19 : (m_X5_readReplicas_2 M ty (nI k, m)) 19 0 = m 19 0 := by
      unfold m_X5_readReplicas_2
      rfl
    have d2 : zDj (zPl (m_X5_readReplicas_3 M ty (nI k, m)) 19) := by
      unfold m_X5_readReplicas_3
      have := (dj_addReplica _ ((g_X5_readReplica (zPl m 1) ty (m 19 0)).2 3 0) ((g_X5_readReplica (zPl m 1) ty (m 19 0)).2 3 1) d1 (by show (m_X5_readReplicas_2 M ty (nI k, m)) 19 0 < 9; rw [e19]; exact hlt)).1
      have e9 : zPl (m_X5_readReplicas_2 M ty (nI k, m)) 19 0 0 = m 19 0 := e19
      rw [e9] at this
      exact zDj.of (N := g_X4_addReplica (zPl (m_X5_readReplicas_2 M ty (nI k, m)) 19) (m 19 0).toNatClampNeg ((g_X5_readReplica (zPl m 1) ty (m 19 0)).2 3 0) ((g_X5_readReplica (zPl m 1) ty (m 19 0)).2 3 1)) this rfl rfl (zHc.of rfl this.2.2)
    have t2 : zTq ty (zPl (m_X5_readReplicas_3 M ty (nI k, m)) 2) := by
      unfold m_X5_readReplicas_3
      exact zTq.of (m := zPl (m_X5_readReplicas_2 M ty (nI k, m)) 2) t1 rfl
    refine ⟨⟨?_, ?_, k + 1, by omega, (nI_succ k).symm⟩, ?_⟩
    · dsimp only
      unfold m_X5_readReplicas_4
      exact zTq.of (m := g_X8_advance (zPl (m_X5_readReplicas_3 M ty (nI k, m)) 2) ty) (e_X8_advance _ ty h600 (zTq.e t2)) rfl
    · dsimp only
      unfold m_X5_readReplicas_4
      exact zDj.of (N := zPl (m_X5_readReplicas_3 M ty (nI k, m)) 19) d2 rfl rfl (zHc.of rfl d2.2.2)
    · dsimp only
      rw [← nI_succ, nI_clamp (by omega), nI_clamp (by omega)]
      omega
  · rw [if_neg c3] at h
    cases h
noncomputable def w_X5_readReplicas_23 (M : zM) (ty : Nat) (x : Int32 × zM) : Int32 × Int32 × zM := zWr (fun (x : Int32 × zM) => ((0 : Int32), x)) (f_X5_readReplicas_23 M ty) (11 + ty) x
theorem wr_readReplicas (M : zM) (ty : Nat) (h600 : ty ≤ 600) (x : Int32 × zM) (hx : (fun (x : Int32 × zM) => zTq ty (zPl x.2 2) ∧ zDj (zPl x.2 19) ∧ ∃ k, k ≤ 10 ∧ x.1 = nI k) x) : zTq ty (zPl (w_X5_readReplicas_23 M ty x).2.2 2) ∧ zDj (zPl (w_X5_readReplicas_23 M ty x).2.2 19) ∧ ((w_X5_readReplicas_23 M ty x).1 = 0 → True) := by
  refine zWr_P (R := fun (b : Int32 × Int32 × zM) => zTq ty (zPl b.2.2 2) ∧ zDj (zPl b.2.2 19) ∧ (b.1 = 0 → True)) (hf_readReplicas M ty h600) ?_ _ x hx (by omega)
  rintro ⟨t, m⟩ b ⟨h1, h2, k, hk, h3⟩ h
  dsimp only at h1 h2 h3 h
  subst h3
  have t1 : zTq ty (zPl (m_X5_readReplicas_2 M ty (nI k, m)) 2) := by
    unfold m_X5_readReplicas_2
    exact zTq.of (m := zPl (g_X5_readReplica (zPl m 1) ty (m 19 0)).2 1) (e_X5_readReplica (zPl m 1) ty _ h600 (zTq.of (m := zPl m 2) h1 rfl)) rfl
  have d1 : zDj (zPl (m_X5_readReplicas_2 M ty (nI k, m)) 19) := by
    unfold m_X5_readReplicas_2
    exact zDj.of (N := zPl m 19) h2 rfl rfl (zHc.of rfl h2.2.2)
  unfold f_X5_readReplicas_23 at h
  dsimp only at h
  (repeat' split at h) <;> first
    | (cases h; done)
    | (have e := Sum.inr.inj h
       subst e
       exact ⟨by with_reducible assumption, by with_reducible assumption, fun _ => trivial⟩)
noncomputable def g_X5_readReplicas (M : zM) (ty : Nat) : Int32 × zM := (if (g_X8_isWord (zPl M 2) ty 18) = 0 then (1, M) else (if (w_X5_readReplicas_23 M ty (0, (m_X5_readReplicas_1 M ty))).1 = 0 then (if ((w_X5_readReplicas_23 M ty (0, (m_X5_readReplicas_1 M ty))).2.2 19 0) < 2 then (if (g_X8_isEnd (zPl (w_X5_readReplicas_23 M ty (0, (m_X5_readReplicas_1 M ty))).2.2 2)) = 0 then (if (g_X5_deedThere (zPl (w_X5_readReplicas_23 M ty (0, (m_X5_readReplicas_1 M ty))).2.2 1) ty) < 15 then (3, (w_X5_readReplicas_23 M ty (0, (m_X5_readReplicas_1 M ty))).2.2) else (1, (w_X5_readReplicas_23 M ty (0, (m_X5_readReplicas_1 M ty))).2.2)) else (3, (w_X5_readReplicas_23 M ty (0, (m_X5_readReplicas_1 M ty))).2.2)) else (0, (w_X5_readReplicas_23 M ty (0, (m_X5_readReplicas_1 M ty))).2.2)) else ((w_X5_readReplicas_23 M ty (0, (m_X5_readReplicas_1 M ty))).1, (w_X5_readReplicas_23 M ty (0, (m_X5_readReplicas_1 M ty))).2.2)))
set_option maxRecDepth 100000 in
theorem c_X5_readReplicas (M : zM) (sl : Nat → Option Nat) (ext : List va_E) (ty : Nat) (h600 : ty ≤ 600) (htx : zTq ty (zPl M 2)) (hdj : zDj (zPl M 19)) : zC yy_X5_readReplicas 0 0 [.ref 1, .ref 19] (sh_X sl ext) M (some (.int (g_X5_readReplicas M ty).1)) (sh_X sl ext) (g_X5_readReplicas M ty).2 := by
  refine zC.of (by decide +kernel) rfl (Nat.le_of_ble_eq_true rfl) ?_
  refine zT.run [(.aload_n 0, 0, 0, 0), (.getfield 12, 3, 0, 1070)] (pe := 4) (ls' := [some (.ref 1), some (.ref 19), none, none]) (st' := [.ref 2]) (M' := M) (by decide +kernel) rfl ?_
  refine zT.ldcS 18 rfl rfl (by decide +kernel) ?_
  refine zT.cV_pure 2 (o := 0) (idx := 62) (av := [.retAddr 218]) (rv := (some (.int (g_X8_isWord (zPl M 2) ty 18)))) (st := []) (S1 := [.int (g_X8_isWord (zPl M 2) ty 18)]) (c_X8_isWord (zPl M 2) ty 18 h600 htx (by decide)) sub_X_2_Text k_X8_isWord _ _ rfl rfl rfl (zIn (w := 3223) (by decide +kernel) rfl) (by decide +kernel) (by decide +kernel) rfl (Nat.le_of_ble_eq_true rfl) rfl ?_
  refine zT.zne (tgt := 14) (off := 5) (by decide +kernel) (by decide) (fun (c1 : ¬ (g_X8_isWord (zPl M 2) ty 18) = 0) => ?_) (fun (c1 : (g_X8_isWord (zPl M 2) ty 18) = 0) => ?_)
  · skip
    refine zT.run [(.aload_n 0, 0, 0, 0), (.getfield 12, 3, 0, 1070)] (pe := 18) (ls' := [some (.ref 1), some (.ref 19), none, none]) (st' := [.ref 2]) (M' := M) (by decide +kernel) rfl ?_
    refine zT.cV_sub 2 (o := 0) (idx := 54) (av := []) (rv := none) (st := []) (S1 := []) (c_X8_advance (zPl M 2) ty h600 (zTq.e htx)) sub_X_2_Text k_X8_advance _ _ rfl rfl rfl (zIn (w := 4004) (by decide +kernel) rfl) (by decide +kernel) (by decide +kernel) rfl (Nat.le_of_ble_eq_true rfl) rfl ?_
    refine zT.eqM (M2 := (m_X5_readReplicas_1 M ty)) rfl ?_
    refine zT.run [(.iconst 0, 0, 0, 0), (.istore_n 2, 0, 0, 0)] (pe := 23) (ls' := [some (.ref 1), some (.ref 19), some (.int 0), none]) (st' := []) (M' := (m_X5_readReplicas_1 M ty)) (by decide +kernel) rfl ?_
    refine zT.wx (fun (x : Int32 × zM) => ((0 : Int32), x)) (f_X5_readReplicas_23 M ty) (fun (x : Int32 × zM) => zTq ty (zPl x.2 2) ∧ zDj (zPl x.2 19) ∧ ∃ k, k ≤ 10 ∧ x.1 = nI k) (fun (x : Int32 × zM) => 10 - x.1.toNatClampNeg) (fun (x : Int32 × zM) => (23, [some (.ref 1), some (.ref 19), some (.int x.1), none], [], (sh_X sl ext), x.2)) (fun (b : Int32 × Int32 × zM) => if b.1 = 0 then (85, [some (.ref 1), some (.ref 19), some (.int b.2.1), none], [], (sh_X sl ext), b.2.2) else (54, [some (.ref 1), some (.ref 19), some (.int b.2.1), some (.int b.1)], [], (sh_X sl ext), b.2.2)) (hf_readReplicas M ty h600) (fun x1 hp1 k1 kk1 => ?_) (11 + ty) (0, (m_X5_readReplicas_1 M ty)) ⟨(zTq.of (m := (g_X8_advance (zPl M 2) ty)) (e_X8_advance _ ty h600 (zTq.e htx)) rfl), (zDj.of (N := zPl M 19) hdj rfl rfl (zHc.of rfl (hdj).2.2)), 0, by decide, rfl⟩ (by omega) ?_
    · skip
      show zT _ _ _ _ (23, [some (.ref 1), some (.ref 19), some (.int x1.1), none], [], (sh_X sl ext), x1.2)
      have htw : zTq ty (zPl x1.2 2) := hp1.1
      have hdw : zDj (zPl x1.2 19) := hp1.2.1
      refine zT.run [(.iload_n 2, 0, 0, 0), (.bipush 9, 0, 0, 0)] (pe := 26) (ls' := [some (.ref 1), some (.ref 19), some (.int x1.1), none]) (st' := [.int 9, .int x1.1]) (M' := x1.2) (by decide +kernel) rfl ?_
      refine zT.cgt (tgt := 85) (off := 59) (by decide +kernel) (by decide) (fun (c2 : 9 < x1.1) => ?_) (fun (c2 : ¬ 9 < x1.1) => ?_)
      · skip
        exact zT.eq (if_pos rfl).symm (kk1 (0, x1.1, x1.2) (by simp only [f_X5_readReplicas_23, if_pos c2]))
      · skip
        refine zT.run [(.aload_n 0, 0, 0, 0), (.getfield 12, 3, 0, 1070)] (pe := 33) (ls' := [some (.ref 1), some (.ref 19), some (.int x1.1), none]) (st' := [.ref 2]) (M' := x1.2) (by decide +kernel) rfl ?_
        refine zT.ldcS 19 rfl rfl (by decide +kernel) ?_
        refine zT.cV_pure 2 (o := 0) (idx := 62) (av := [.retAddr 219]) (rv := (some (.int (g_X8_isWord (zPl x1.2 2) ty 19)))) (st := []) (S1 := [.int (g_X8_isWord (zPl x1.2 2) ty 19)]) (c_X8_isWord (zPl x1.2 2) ty 19 h600 htw (by decide)) sub_X_2_Text k_X8_isWord _ _ rfl rfl rfl (zIn (w := 3223) (by decide +kernel) rfl) (by decide +kernel) (by decide +kernel) rfl (Nat.le_of_ble_eq_true rfl) rfl ?_
        refine zT.zeq (tgt := 85) (off := 47) (by decide +kernel) (by decide) (fun (c3 : (g_X8_isWord (zPl x1.2 2) ty 19) = 0) => ?_) (fun (c3 : ¬ (g_X8_isWord (zPl x1.2 2) ty 19) = 0) => ?_)
        · skip
          exact zT.eq (if_pos rfl).symm (kk1 (0, x1.1, x1.2) (by simp only [f_X5_readReplicas_23, if_neg c2, if_pos c3]))
        · skip
          refine zT.run [(.aload_n 0, 0, 0, 0), (.aload_n 1, 0, 0, 0), (.getfield 42, 2, 0, 1171)] (pe := 46) (ls' := [some (.ref 1), some (.ref 19), some (.int x1.1), none]) (st' := [.int (x1.2 19 0), .ref 1]) (M' := x1.2) (by decide +kernel) rfl ?_
          refine zT.cV_sub 1 (o := 0) (idx := 68) (av := [.int (x1.2 19 0)]) (rv := (some (.int (g_X5_readReplica (zPl x1.2 1) ty (x1.2 19 0)).1))) (st := []) (S1 := [.int (g_X5_readReplica (zPl x1.2 1) ty (x1.2 19 0)).1]) (c_X5_readReplica (zPl x1.2 1) ty (x1.2 19 0) h600 (zTq.of (m := zPl x1.2 2) htw rfl)) sub_X_1_Opener k_X5_readReplica _ _ rfl rfl rfl (zIn (w := 4006) (by decide +kernel) rfl) (by decide +kernel) (by decide +kernel) rfl (Nat.le_of_ble_eq_true rfl) rfl ?_
          refine zT.eqM (M2 := (m_X5_readReplicas_2 M ty x1)) rfl ?_
          refine zT.run [(.istore_n 3, 0, 0, 0), (.iload_n 3, 0, 0, 0)] (pe := 51) (ls' := [some (.ref 1), some (.ref 19), some (.int x1.1), some (.int (g_X5_readReplica (zPl x1.2 1) ty (x1.2 19 0)).1)]) (st' := [.int (g_X5_readReplica (zPl x1.2 1) ty (x1.2 19 0)).1]) (M' := (m_X5_readReplicas_2 M ty x1)) (by decide +kernel) rfl ?_
          refine zT.zeq (tgt := 56) (off := 5) (by decide +kernel) (by decide) (fun (c4 : (g_X5_readReplica (zPl x1.2 1) ty (x1.2 19 0)).1 = 0) => ?_) (fun (c4 : ¬ (g_X5_readReplica (zPl x1.2 1) ty (x1.2 19 0)).1 = 0) => ?_)
          · skip
            refine zT.run [(.aload_n 1, 0, 0, 0), (.aload_n 0, 0, 0, 0), (.getfield 18, 3, 1, 1072), (.iconst 0, 0, 0, 0)] (pe := 62) (ls' := [some (.ref 1), some (.ref 19), some (.int x1.1), some (.int (g_X5_readReplica (zPl x1.2 1) ty (x1.2 19 0)).1)]) (st' := [.int 0, .ref 4, .ref 19]) (M' := (m_X5_readReplicas_2 M ty x1)) (by decide +kernel) rfl ?_
            refine zT.iald (n := 3) (k := 0) rfl rfl (by decide) (by decide) (by decide +kernel) ?_
            refine zT.run [(.aload_n 0, 0, 0, 0), (.getfield 18, 3, 1, 1072), (.iconst 1, 0, 0, 0)] (pe := 68) (ls' := [some (.ref 1), some (.ref 19), some (.int x1.1), some (.int (g_X5_readReplica (zPl x1.2 1) ty (x1.2 19 0)).1)]) (st' := [.int 1, .ref 4, .int ((g_X5_readReplica (zPl x1.2 1) ty (x1.2 19 0)).2 3 0), .ref 19]) (M' := (m_X5_readReplicas_2 M ty x1)) (by decide +kernel) rfl ?_
            refine zT.iald (n := 3) (k := 1) rfl rfl (by decide) (by decide) (by decide +kernel) ?_
            refine zT.cV_sub 19 (o := 0) (idx := 72) (av := [.int ((g_X5_readReplica (zPl x1.2 1) ty (x1.2 19 0)).2 3 0), .int ((g_X5_readReplica (zPl x1.2 1) ty (x1.2 19 0)).2 3 1)]) (rv := none) (st := []) (S1 := []) (c_X4_addReplica (zPl (m_X5_readReplicas_2 M ty x1) 19) ((x1.2 19 0)).toNatClampNeg ((g_X5_readReplica (zPl x1.2 1) ty (x1.2 19 0)).2 3 0) ((g_X5_readReplica (zPl x1.2 1) ty (x1.2 19 0)).2 3 1) ((zDj.of (N := zPl x1.2 19) hdw rfl rfl (zHc.of rfl (hdw).2.2))).1.1 ((zDj.of (N := zPl x1.2 19) hdw rfl rfl (zHc.of rfl (hdw).2.2))).1.2) sub_X_19_Office k_X4_addReplica _ _ rfl rfl rfl (zIn (w := 4029) (by decide +kernel) rfl) (by decide +kernel) (by decide +kernel) rfl (Nat.le_of_ble_eq_true rfl) rfl ?_
            refine zT.eqM (M2 := (m_X5_readReplicas_3 M ty x1)) rfl ?_
            refine zT.run [(.aload_n 0, 0, 0, 0), (.getfield 12, 3, 0, 1070)] (pe := 76) (ls' := [some (.ref 1), some (.ref 19), some (.int x1.1), some (.int (g_X5_readReplica (zPl x1.2 1) ty (x1.2 19 0)).1)]) (st' := [.ref 2]) (M' := (m_X5_readReplicas_3 M ty x1)) (by decide +kernel) rfl ?_
            refine zT.cV_sub 2 (o := 0) (idx := 54) (av := []) (rv := none) (st := []) (S1 := []) (c_X8_advance (zPl (m_X5_readReplicas_3 M ty x1) 2) ty h600 (zTq.e (zTq.of (m := zPl (m_X5_readReplicas_2 M ty x1) 2) (zTq.of (m := zPl (g_X5_readReplica (zPl x1.2 1) ty (x1.2 19 0)).2 1) (e_X5_readReplica (zPl x1.2 1) ty _ h600 (zTq.of (m := zPl x1.2 2) htw rfl)) rfl) rfl))) sub_X_2_Text k_X8_advance _ _ rfl rfl rfl (zIn (w := 4004) (by decide +kernel) rfl) (by decide +kernel) (by decide +kernel) rfl (Nat.le_of_ble_eq_true rfl) rfl ?_
            refine zT.eqM (M2 := (m_X5_readReplicas_4 M ty x1)) rfl ?_
            refine zT.run [(.iinc 2 1, 0, 0, 0), (.goto (-59), 0, 0, 0)] (pe := 23) (ls' := [some (.ref 1), some (.ref 19), some (.int (x1.1 + 1)), some (.int (g_X5_readReplica (zPl x1.2 1) ty (x1.2 19 0)).1)]) (st' := []) (M' := (m_X5_readReplicas_4 M ty x1)) (by decide +kernel) rfl ?_
            refine zT.drop 3 ?_
            simp only [zDl]
            exact k1 ((x1.1 + 1), (m_X5_readReplicas_4 M ty x1)) (by simp only [f_X5_readReplicas_23, if_neg c2, if_neg c3, if_pos c4])
          · skip
            exact zT.eq (if_neg c4).symm (kk1 ((g_X5_readReplica (zPl x1.2 1) ty (x1.2 19 0)).1, x1.1, (m_X5_readReplicas_2 M ty x1)) (by simp only [f_X5_readReplicas_23, if_neg c2, if_neg c3, if_neg c4]))
    · skip
      have hw9 := wr_readReplicas M ty h600 (0, (m_X5_readReplicas_1 M ty)) ⟨(zTq.of (m := (g_X8_advance (zPl M 2) ty)) (e_X8_advance _ ty h600 (zTq.e htx)) rfl), (zDj.of (N := zPl M 19) hdj rfl rfl (zHc.of rfl (hdj).2.2)), 0, by decide, rfl⟩
      by_cases c5 : (w_X5_readReplicas_23 M ty (0, (m_X5_readReplicas_1 M ty))).1 = 0
      · skip
        refine zT.eq (if_pos c5) ?_
        show zT _ _ _ _ (85, [some (.ref 1), some (.ref 19), some (.int (w_X5_readReplicas_23 M ty (0, (m_X5_readReplicas_1 M ty))).2.1), none], [], (sh_X sl ext), (w_X5_readReplicas_23 M ty (0, (m_X5_readReplicas_1 M ty))).2.2)
        refine zT.run [(.aload_n 1, 0, 0, 0), (.getfield 42, 2, 0, 1171), (.iconst 2, 0, 0, 0)] (pe := 90) (ls' := [some (.ref 1), some (.ref 19), some (.int (w_X5_readReplicas_23 M ty (0, (m_X5_readReplicas_1 M ty))).2.1), none]) (st' := [.int 2, .int ((w_X5_readReplicas_23 M ty (0, (m_X5_readReplicas_1 M ty))).2.2 19 0)]) (M' := (w_X5_readReplicas_23 M ty (0, (m_X5_readReplicas_1 M ty))).2.2) (by decide +kernel) rfl ?_
        refine zT.clt (tgt := 95) (off := 5) (by decide +kernel) (by decide) (fun (c6 : ((w_X5_readReplicas_23 M ty (0, (m_X5_readReplicas_1 M ty))).2.2 19 0) < 2) => ?_) (fun (c6 : ¬ ((w_X5_readReplicas_23 M ty (0, (m_X5_readReplicas_1 M ty))).2.2 19 0) < 2) => ?_)
        · skip
          refine zT.run [(.aload_n 0, 0, 0, 0), (.getfield 12, 3, 0, 1070)] (pe := 99) (ls' := [some (.ref 1), some (.ref 19), some (.int (w_X5_readReplicas_23 M ty (0, (m_X5_readReplicas_1 M ty))).2.1), none]) (st' := [.ref 2]) (M' := (w_X5_readReplicas_23 M ty (0, (m_X5_readReplicas_1 M ty))).2.2) (by decide +kernel) rfl ?_
          refine zT.cV_pure 2 (o := 0) (idx := 34) (av := []) (rv := (some (.int (g_X8_isEnd (zPl (w_X5_readReplicas_23 M ty (0, (m_X5_readReplicas_1 M ty))).2.2 2))))) (st := []) (S1 := [.int (g_X8_isEnd (zPl (w_X5_readReplicas_23 M ty (0, (m_X5_readReplicas_1 M ty))).2.2 2))]) (c_X8_isEnd (zPl (w_X5_readReplicas_23 M ty (0, (m_X5_readReplicas_1 M ty))).2.2 2)) sub_X_2_Text k_X8_isEnd _ _ rfl rfl rfl (zIn (w := 4030) (by decide +kernel) rfl) (by decide +kernel) (by decide +kernel) rfl (Nat.le_of_ble_eq_true rfl) rfl ?_
          refine zT.zne (tgt := 112) (off := 10) (by decide +kernel) (by decide) (fun (c7 : ¬ (g_X8_isEnd (zPl (w_X5_readReplicas_23 M ty (0, (m_X5_readReplicas_1 M ty))).2.2 2)) = 0) => ?_) (fun (c7 : (g_X8_isEnd (zPl (w_X5_readReplicas_23 M ty (0, (m_X5_readReplicas_1 M ty))).2.2 2)) = 0) => ?_)
          · skip
            refine zT.run [(.iconst 3, 0, 0, 0), (.goto 4, 0, 0, 0)] (pe := 117) (ls' := [some (.ref 1), some (.ref 19), some (.int (w_X5_readReplicas_23 M ty (0, (m_X5_readReplicas_1 M ty))).2.1), none]) (st' := [.int 3]) (M' := (w_X5_readReplicas_23 M ty (0, (m_X5_readReplicas_1 M ty))).2.2) (by decide +kernel) rfl ?_
            exact zT.iret (ty := Jvm.ClassFile.FieldType.int) (by simp only [g_X5_readReplicas, if_neg c1, if_pos c5, if_pos c6, if_neg c7]; try rfl) (by simp only [g_X5_readReplicas, if_neg c1, if_pos c5, if_pos c6, if_neg c7]; try rfl) rfl rfl (by decide +kernel)
          · skip
            refine zT.run [(.aload_n 0, 0, 0, 0)] (pe := 106) (ls' := [some (.ref 1), some (.ref 19), some (.int (w_X5_readReplicas_23 M ty (0, (m_X5_readReplicas_1 M ty))).2.1), none]) (st' := [.ref 1]) (M' := (w_X5_readReplicas_23 M ty (0, (m_X5_readReplicas_1 M ty))).2.2) (by decide +kernel) rfl ?_
            by_cases c8 : (g_X5_deedThere (zPl (w_X5_readReplicas_23 M ty (0, (m_X5_readReplicas_1 M ty))).2.2 1) ty) < 15
            · skip
              refine zT.cV_pure 1 (o := 0) (idx := 38) (av := []) (rv := (some (zDv (g_X5_deedThere (zPl (w_X5_readReplicas_23 M ty (0, (m_X5_readReplicas_1 M ty))).2.2 1) ty)))) (st := []) (S1 := [.retAddr ((g_X5_deedThere (zPl (w_X5_readReplicas_23 M ty (0, (m_X5_readReplicas_1 M ty))).2.2 1) ty))]) (c_X5_deedThere (zPl (w_X5_readReplicas_23 M ty (0, (m_X5_readReplicas_1 M ty))).2.2 1) ty h600 (zTq.of (m := zPl (w_X5_readReplicas_23 M ty (0, (m_X5_readReplicas_1 M ty))).2.2 2) hw9.1 rfl)) sub_X_1_Opener k_X5_deedThere _ _ rfl rfl rfl (zIn (w := 4034) (by decide +kernel) rfl) (by decide +kernel) (by decide +kernel) rfl (Nat.le_of_ble_eq_true rfl) (by unfold zDv; rw [if_pos c8]; rfl) ?_
              refine zT.nullX (off := 7) (by decide +kernel) ?_
              refine zT.run [(.iconst 3, 0, 0, 0), (.goto 4, 0, 0, 0)] (pe := 117) (ls' := [some (.ref 1), some (.ref 19), some (.int (w_X5_readReplicas_23 M ty (0, (m_X5_readReplicas_1 M ty))).2.1), none]) (st' := [.int 3]) (M' := (w_X5_readReplicas_23 M ty (0, (m_X5_readReplicas_1 M ty))).2.2) (by decide +kernel) rfl ?_
              exact zT.iret (ty := Jvm.ClassFile.FieldType.int) (by simp only [g_X5_readReplicas, if_neg c1, if_pos c5, if_pos c6, if_pos c7, if_pos c8]; try rfl) (by simp only [g_X5_readReplicas, if_neg c1, if_pos c5, if_pos c6, if_pos c7, if_pos c8]; try rfl) rfl rfl (by decide +kernel)
            · skip
              refine zT.cV_pure 1 (o := 0) (idx := 38) (av := []) (rv := (some (zDv (g_X5_deedThere (zPl (w_X5_readReplicas_23 M ty (0, (m_X5_readReplicas_1 M ty))).2.2 1) ty)))) (st := []) (S1 := [.null]) (c_X5_deedThere (zPl (w_X5_readReplicas_23 M ty (0, (m_X5_readReplicas_1 M ty))).2.2 1) ty h600 (zTq.of (m := zPl (w_X5_readReplicas_23 M ty (0, (m_X5_readReplicas_1 M ty))).2.2 2) hw9.1 rfl)) sub_X_1_Opener k_X5_deedThere _ _ rfl rfl rfl (zIn (w := 4034) (by decide +kernel) rfl) (by decide +kernel) (by decide +kernel) rfl (Nat.le_of_ble_eq_true rfl) (by unfold zDv; rw [if_neg c8]; rfl) ?_
              refine zT.nullN (off := 7) (tgt := 116) (by decide +kernel) (by decide) ?_
              refine zT.run [(.iconst 1, 0, 0, 0)] (pe := 117) (ls' := [some (.ref 1), some (.ref 19), some (.int (w_X5_readReplicas_23 M ty (0, (m_X5_readReplicas_1 M ty))).2.1), none]) (st' := [.int 1]) (M' := (w_X5_readReplicas_23 M ty (0, (m_X5_readReplicas_1 M ty))).2.2) (by decide +kernel) rfl ?_
              exact zT.iret (ty := Jvm.ClassFile.FieldType.int) (by simp only [g_X5_readReplicas, if_neg c1, if_pos c5, if_pos c6, if_pos c7, if_neg c8]; try rfl) (by simp only [g_X5_readReplicas, if_neg c1, if_pos c5, if_pos c6, if_pos c7, if_neg c8]; try rfl) rfl rfl (by decide +kernel)
        · skip
          refine zT.run [(.iconst 0, 0, 0, 0)] (pe := 94) (ls' := [some (.ref 1), some (.ref 19), some (.int (w_X5_readReplicas_23 M ty (0, (m_X5_readReplicas_1 M ty))).2.1), none]) (st' := [.int 0]) (M' := (w_X5_readReplicas_23 M ty (0, (m_X5_readReplicas_1 M ty))).2.2) (by decide +kernel) rfl ?_
          exact zT.iret (ty := Jvm.ClassFile.FieldType.int) (by simp only [g_X5_readReplicas, if_neg c1, if_pos c5, if_neg c6]; try rfl) (by simp only [g_X5_readReplicas, if_neg c1, if_pos c5, if_neg c6]; try rfl) rfl rfl (by decide +kernel)
      · skip
        refine zT.eq (if_neg c5) ?_
        show zT _ _ _ _ (54, [some (.ref 1), some (.ref 19), some (.int (w_X5_readReplicas_23 M ty (0, (m_X5_readReplicas_1 M ty))).2.1), some (.int (w_X5_readReplicas_23 M ty (0, (m_X5_readReplicas_1 M ty))).1)], [], (sh_X sl ext), (w_X5_readReplicas_23 M ty (0, (m_X5_readReplicas_1 M ty))).2.2)
        refine zT.run [(.iload_n 3, 0, 0, 0)] (pe := 55) (ls' := [some (.ref 1), some (.ref 19), some (.int (w_X5_readReplicas_23 M ty (0, (m_X5_readReplicas_1 M ty))).2.1), some (.int (w_X5_readReplicas_23 M ty (0, (m_X5_readReplicas_1 M ty))).1)]) (st' := [.int (w_X5_readReplicas_23 M ty (0, (m_X5_readReplicas_1 M ty))).1]) (M' := (w_X5_readReplicas_23 M ty (0, (m_X5_readReplicas_1 M ty))).2.2) (by decide +kernel) rfl ?_
        exact zT.iret (ty := Jvm.ClassFile.FieldType.int) (by simp only [g_X5_readReplicas, if_neg c1, if_neg c5]; try rfl) (by simp only [g_X5_readReplicas, if_neg c1, if_neg c5]; try rfl) rfl rfl (by decide +kernel)
  · skip
    refine zT.run [(.iconst 1, 0, 0, 0)] (pe := 13) (ls' := [some (.ref 1), some (.ref 19), none, none]) (st' := [.int 1]) (M' := M) (by decide +kernel) rfl ?_
    exact zT.iret (ty := Jvm.ClassFile.FieldType.int) (by simp only [g_X5_readReplicas, if_pos c1]; try rfl) (by simp only [g_X5_readReplicas, if_pos c1]; try rfl) rfl rfl (by decide +kernel)
theorem k_X5_readReplicas : zCal yy_X5_readReplicas 1 := ⟨⟨⟨⟨zIn (w := 3221) (by decide +kernel) rfl, zIn (w := 1002) (by decide +kernel) rfl⟩, by decide +kernel⟩, by decide +kernel⟩, ⟨zIn (w := 3220) (by decide +kernel) rfl, zIn (w := 8) (by decide +kernel) rfl⟩⟩
