/-! READING AN OFFICE: the replicas come first -/
def zNv (m : zM) : Prop := ∀ r, r < 9 → m 1 (10 + r * 9 + 6) = 0
theorem zNv.v {m : zM} (h : zNv m) : zHv m := fun r hr q => absurd ((h r hr).symm.trans q) (by decide)
theorem zNv.of {m m' : zM} (e : m' 1 = m 1) (h : zNv m) : zNv m' := by
  unfold zNv at h ⊢
  rw [e]
  exact h
theorem zNv_put {M : zM} {r w : Nat} {x : Int32} (hw : w < 9) (h6 : w ≠ 6) (h : zNv M) : zNv (g_X10_put M r w x) := by
  intro q hq
  unfold g_X10_put
  rw [zU_k (by omega)]
  exact h q hq
theorem zNv_lo {M : zM} {k : Nat} {x : Int32} (hk : k < 10) (h : zNv M) : zNv (zU M 1 k x) := by
  intro q hq
  rw [zU_k (by omega)]
  exact h q hq
theorem zNv_link {M : zM} {a b : Nat} {x : Int32} (h : zNv M) : zNv (g_X10_link M a b x) := by
  unfold g_X10_link m_X10_link_1
  exact zNv_put (by decide) (by decide) (zNv_put (by decide) (by decide) h)
/-- while the replicas are read: so many, no ballot, no outcome -/
def zRpW (m : zM) : Prop := (m 1 0 = nI (m 1 0).toNatClampNeg ∧ (m 1 0).toNatClampNeg ≤ 9) ∧ m 1 9 = 0 ∧ m 1 4 = 0 ∧ zNv m
theorem zRpW.of {m m' : zM} (e : m' 1 = m 1) (h : zRpW m) : zRpW m' := by
  obtain ⟨h1, h2, h3, h4⟩ := h
  exact ⟨by rw [e]; exact h1, by rw [e]; exact h2, by rw [e]; exact h3, h4.of e⟩
def zRpP (ty : Nat) (m : zM) : Prop := zTkP ty m ∧ zRpW m
theorem zLt9 {x : Int32} (h : x = nI x.toNatClampNeg) (h9 : x.toNatClampNeg ≤ 9) (c : ¬ x = 9) : x.toNatClampNeg < 9 := by
  have : x.toNatClampNeg ≠ 9 := fun e => c (by rw [h, e]; rfl)
  omega
theorem rp_X10_addReplica (M : zM) (age fresh : Int32) (h : zRpW M) (h8 : (M 1 0).toNatClampNeg < 9) : zRpW (g_X10_addReplica M (M 1 0).toNatClampNeg age fresh) := by
  obtain ⟨h1, h2, h3, h4⟩ := h
  generalize hn : (M 1 0).toNatClampNeg = n at h1 h8 ⊢
  have e0 : g_X10_addReplica M n age fresh 1 0 = nI (n + 1) := by
    show (r_X10_addReplica_46 M n age fresh) 1 0 + 1 = _
    have : (r_X10_addReplica_46 M n age fresh) 1 0 = M 1 0 := by
      unfold r_X10_addReplica_46
      rw [lo_l_X10_addReplica_46 M n age fresh 0 (by decide)]
      rw [lo_X10_put _ _ _ _ _ (by decide), lo_X10_put _ _ _ _ _ (by decide), lo_X10_put _ _ _ _ _ (by decide), lo_X10_put _ _ _ _ _ (by decide), lo_X10_put _ _ _ _ _ (by decide)]
    rw [this, h1.1, nI_1]
  refine ⟨⟨by rw [e0, nI_clamp (by omega)], by rw [e0, nI_clamp (by omega)]; omega⟩, ?_, ?_, ?_⟩
  · rw [lo_X10_addReplica M n age fresh 9 (by decide)]
    exact h2
  · rw [lo_X10_addReplica M n age fresh 4 (by decide)]
    exact h3
  · refine zNv_lo (by decide) ?_
    refine zIt_inv (f := l_X10_addReplica_46 M n age fresh) (P := fun (_ : Nat) (s : zM) => zNv s) n _ ?_ ?_
    · exact zNv_put (by decide) (by decide) (zNv_put (by decide) (by decide) (zNv_put (by decide) (by decide) (zNv_put (by decide) (by decide) (zNv_put (by decide) (by decide) h4))))
    · intro i hi s hs
      exact zNv_link hs
noncomputable def zRpM (ty : Nat) (m : zM) : Nat := 2 * (ty - (m 0 14).toNatClampNeg) + (if g_X10_isWord m ty 19 = 0 then 0 else 1)
theorem zWord {m : zM} {ty tx : Nat} (h : ¬ g_X10_isWord m ty tx = 0) : m 0 18 = 0 ∧ m 0 16 = 3 := by
  unfold g_X10_isWord at h
  by_cases a : m 0 18 = 0
  · by_cases b : m 0 16 = 3
    · exact ⟨a, b⟩
    · rw [if_pos a, if_neg b] at h
      exact absurd rfl h
  · rw [if_neg a] at h
    exact absurd rfl h
theorem zGo {ty : Nat} {x Z : zM} (h600 : ty ≤ 600) (hq : zTkQ ty (x 0 14).toNatClampNeg Z) (hz : g_X10_goOn Z ty 0 18 = 0) (hk : ¬ g_X10_goOn Z ty 0 16 = 0) : (x 0 14).toNatClampNeg < (g_X10_goOn Z ty 0 14).toNatClampNeg := by
  rw [ke_X10_goOn Z ty 18 (by decide) (by decide) (by decide) (by decide)] at hz
  have e : g_X10_goOn Z ty = g_X10_scan Z ty := by unfold g_X10_goOn; rw [if_pos hz]
  rw [e] at hk ⊢
  exact Nat.lt_of_le_of_lt hq.2 ((e3_X10_scan Z ty h600 hq.1.at).2 hk)
theorem zRpM_lt {ty : Nat} {x Z : zM} (h600 : ty ≤ 600) (c : ¬ g_X10_isWord x ty 19 = 0) (hq : zTkQ ty (x 0 14).toNatClampNeg Z) : zRpM ty (g_X10_goOn Z ty) < zRpM ty x := by
  have h1 := tq_X10_goOn Z ty h600 hq
  have h2 := (zAtL h1.1.at h600).2
  have h3 := h1.2
  unfold zRpM
  rw [if_neg c]
  by_cases d : g_X10_isWord (g_X10_goOn Z ty) ty 19 = 0
  · rw [if_pos d]
    omega
  · rw [if_neg d]
    obtain ⟨a, b⟩ := zWord d
    have := zGo h600 hq a (by rw [b]; decide)
    omega
theorem rp_add {M m : zM} {age fresh : Int32} (hm : zRpW m) (e : M 1 = m 1) (h8 : (m 1 0).toNatClampNeg < 9) : zRpW (g_X10_addReplica M (m 1 0).toNatClampNeg age fresh) := by
  have h := hm.of e
  have e0 : M 1 0 = m 1 0 := congrFun e 0
  have := rp_X10_addReplica M age fresh h (by rw [e0]; exact h8)
  rw [e0] at this
  exact this
noncomputable abbrev yy_X10_replicas : zY := (yX10_replicas, cX10_replicas, 3, none, 6, 130)
noncomputable def d_X10_replicas_1 (M : zM) (ty : Nat) (m1 : zM) : zM := (g_X10_goOn m1 ty)
noncomputable def d_X10_replicas_2 (M : zM) (ty : Nat) (m1 : zM) : Int32 × zM := (g_X10_read (d_X10_replicas_1 M ty m1) ty 1 99)
noncomputable def d_X10_replicas_3 (M : zM) (ty : Nat) (m1 : zM) : Int32 × zM := (g_X10_read (d_X10_replicas_2 M ty m1).2 ty 0 999)
noncomputable def d_X10_replicas_4 (M : zM) (ty : Nat) (m1 : zM) : Int32 × zM := (g_X10_ends (d_X10_replicas_3 M ty m1).2 0)
noncomputable def d_X10_replicas_5 (M : zM) (ty : Nat) (m1 : zM) : zM := (g_X10_goOn (d_X10_replicas_4 M ty m1).2 ty)
noncomputable def d_X10_replicas_6 (M : zM) (ty : Nat) (m1 : zM) : zM := (g_X10_addReplica (d_X10_replicas_4 M ty m1).2 (m1 1 0).toNatClampNeg (d_X10_replicas_2 M ty m1).1 (d_X10_replicas_3 M ty m1).1)
noncomputable def d_X10_replicas_7 (M : zM) (ty : Nat) (m1 : zM) : zM := (g_X10_goOn (d_X10_replicas_6 M ty m1) ty)
noncomputable def d_X10_replicas_8 (M : zM) (ty : Nat) (m1 : zM) : zM := (g_X10_wrong m1 3)
noncomputable def d_X10_replicas_9 (M : zM) (ty : Nat) (m1 : zM) : zM := (g_X10_goOn (d_X10_replicas_8 M ty m1) ty)
noncomputable def d_X10_replicas_10 (M : zM) (ty : Nat) (m1 : zM) : Int32 × zM := (g_X10_read (d_X10_replicas_9 M ty m1) ty 1 99)
noncomputable def d_X10_replicas_11 (M : zM) (ty : Nat) (m1 : zM) : Int32 × zM := (g_X10_read (d_X10_replicas_10 M ty m1).2 ty 0 999)
noncomputable def d_X10_replicas_12 (M : zM) (ty : Nat) (m1 : zM) : Int32 × zM := (g_X10_ends (d_X10_replicas_11 M ty m1).2 0)
noncomputable def d_X10_replicas_13 (M : zM) (ty : Nat) (m1 : zM) : zM := (g_X10_goOn (d_X10_replicas_12 M ty m1).2 ty)
noncomputable def d_X10_replicas_14 (M : zM) (ty : Nat) (m1 : zM) : zM := (g_X10_addReplica (d_X10_replicas_12 M ty m1).2 (m1 1 0).toNatClampNeg (d_X10_replicas_10 M ty m1).1 (d_X10_replicas_11 M ty m1).1)
noncomputable def d_X10_replicas_15 (M : zM) (ty : Nat) (m1 : zM) : zM := (g_X10_goOn (d_X10_replicas_14 M ty m1) ty)
noncomputable def f_X10_replicas_0 (M : zM) (ty : Nat) (m1 : zM) : zM ⊕ zM := (if (g_X10_isWord m1 ty 19) = 0 then (.inr m1) else (if (m1 1 0) = 9 then (if (d_X10_replicas_12 M ty m1).1 = 0 then (.inl (d_X10_replicas_13 M ty m1)) else (.inl (d_X10_replicas_15 M ty m1))) else (if (d_X10_replicas_4 M ty m1).1 = 0 then (.inl (d_X10_replicas_5 M ty m1)) else (.inl (d_X10_replicas_7 M ty m1)))))
set_option maxRecDepth 100000 in
theorem hf_replicas (M : zM) (ty : Nat) (h600 : ty ≤ 600) : ∀ x y : zM, zRpP ty x → f_X10_replicas_0 M ty x = .inl y → zRpP ty y ∧ zRpM ty y < zRpM ty x := by
  intro m1 y hp1 hy
  have htk1 : zTkP ty m1 := hp1.1
  have hrp : zRpW m1 := hp1.2
  have hn1 : m1 1 0 = nI (m1 1 0).toNatClampNeg := hrp.1.1
  have h91 : (m1 1 0).toNatClampNeg ≤ 9 := hrp.1.2
  have h9 : (m1 1 0).toNatClampNeg ≤ 9 := h91
  have htq : zTkQ ty (m1 0 14).toNatClampNeg m1 := ⟨htk1, Nat.le_refl _⟩
  by_cases c1 : (g_X10_isWord m1 ty 19) = 0
  · skip
    have e9 : (f_X10_replicas_0 M ty) m1 = .inr m1 := (by simp only [f_X10_replicas_0, if_pos c1])
    cases e9.symm.trans hy
  · skip
    by_cases c2 : (m1 1 0) = 9
    · skip
      obtain ⟨v8, hv8⟩ : ∃ v, v = (g_X10_wrong m1 3) := ⟨_, rfl⟩
      have ev8 : (d_X10_replicas_8 M ty m1) = v8 := by unfold d_X10_replicas_8; exact hv8.symm
      have tk8 : zTkP ty v8 := by rw [hv8]; exact (tk_X10_wrong m1 3 h600 htk1)
      have lw8 : v8 1 = m1 1 := by rw [hv8]; exact (fr_X10_wrong m1 3 1 (by decide))
      have tq8 : zTkQ ty (m1 0 14).toNatClampNeg v8 := by rw [hv8]; exact (tq_X10_wrong m1 3 h600 htq)
      obtain ⟨v9, hv9⟩ : ∃ v, v = (g_X10_goOn v8 ty) := ⟨_, rfl⟩
      have ev9 : (d_X10_replicas_9 M ty m1) = v9 := by unfold d_X10_replicas_9; (try rw [ev8]); exact hv9.symm
      have tk9 : zTkP ty v9 := by rw [hv9]; exact (tk_X10_goOn v8 ty h600 tk8)
      have lw9 : v9 1 = m1 1 := by rw [hv9]; exact ((fr_X10_goOn v8 ty 1 (by decide)).trans lw8)
      have go9 : v9 0 18 = 0 → v8 0 18 = 0 := by rw [hv9, ke_X10_goOn v8 ty 18 (by decide) (by decide) (by decide) (by decide)]; exact fun h => h
      have tq9 : zTkQ ty (m1 0 14).toNatClampNeg v9 := by rw [hv9]; exact (tq_X10_goOn v8 ty h600 tq8)
      obtain ⟨v10, hv10⟩ : ∃ v, v = (g_X10_read v9 ty 1 99) := ⟨_, rfl⟩
      have ev10 : (d_X10_replicas_10 M ty m1) = v10 := by unfold d_X10_replicas_10; (try rw [ev9]); exact hv10.symm
      have tk10 : zTkP ty v10.2 := by rw [hv10]; exact (tk_X10_read v9 ty 1 99 h600 tk9)
      have lw10 : v10.2 1 = m1 1 := by rw [hv10]; exact ((fr_X10_read v9 ty 1 99 1 (by decide)).trans lw9)
      have rd10 : v10.2 0 18 = 0 → v9 0 18 = 0 := by rw [hv10]; exact fun h => (e_X10_read v9 ty 1 99 h600 tk9 h).2.2
      have tq10 : zTkQ ty (m1 0 14).toNatClampNeg v10.2 := by rw [hv10]; exact (tq_X10_read v9 ty 1 99 h600 tq9)
      obtain ⟨v11, hv11⟩ : ∃ v, v = (g_X10_read v10.2 ty 0 999) := ⟨_, rfl⟩
      have ev11 : (d_X10_replicas_11 M ty m1) = v11 := by unfold d_X10_replicas_11; (try rw [ev10]); exact hv11.symm
      have tk11 : zTkP ty v11.2 := by rw [hv11]; exact (tk_X10_read v10.2 ty 0 999 h600 tk10)
      have lw11 : v11.2 1 = m1 1 := by rw [hv11]; exact ((fr_X10_read v10.2 ty 0 999 1 (by decide)).trans lw10)
      have rd11 : v11.2 0 18 = 0 → v10.2 0 18 = 0 := by rw [hv11]; exact fun h => (e_X10_read v10.2 ty 0 999 h600 tk10 h).2.2
      have tq11 : zTkQ ty (m1 0 14).toNatClampNeg v11.2 := by rw [hv11]; exact (tq_X10_read v10.2 ty 0 999 h600 tq10)
      obtain ⟨v12, hv12⟩ : ∃ v, v = (g_X10_ends v11.2 0) := ⟨_, rfl⟩
      have ev12 : (d_X10_replicas_12 M ty m1) = v12 := by unfold d_X10_replicas_12; (try rw [ev11]); exact hv12.symm
      have tk12 : zTkP ty v12.2 := by rw [hv12]; exact (tk_X10_ends v11.2 0 h600 tk11)
      have lw12 : v12.2 1 = m1 1 := by rw [hv12]; exact ((fr_X10_ends v11.2 0 1 (by decide)).trans lw11)
      have tq12 : zTkQ ty (m1 0 14).toNatClampNeg v12.2 := by rw [hv12]; exact (tq_X10_ends v11.2 0 h600 tq11)
      have en12 : ¬ v12.1 = 0 → v11.2 0 18 = 0 ∧ (0 : Int32) = 0 ∧ v12.2 = v11.2 := by rw [hv12]; exact fun h => ⟨(e_X10_ends v11.2 0 h600 tk11 h).1, (e_X10_ends v11.2 0 h600 tk11 h).2.1, (e_X10_ends v11.2 0 h600 tk11 h).2.2.2⟩
      by_cases c4 : v12.1 = 0
      · skip
        obtain ⟨v13, hv13⟩ : ∃ v, v = (g_X10_goOn v12.2 ty) := ⟨_, rfl⟩
        have ev13 : (d_X10_replicas_13 M ty m1) = v13 := by unfold d_X10_replicas_13; (try rw [ev12]); exact hv13.symm
        have tk13 : zTkP ty v13 := by rw [hv13]; exact (tk_X10_goOn v12.2 ty h600 tk12)
        have lw13 : v13 1 = m1 1 := by rw [hv13]; exact ((fr_X10_goOn v12.2 ty 1 (by decide)).trans lw12)
        have go13 : v13 0 18 = 0 → v12.2 0 18 = 0 := by rw [hv13, ke_X10_goOn v12.2 ty 18 (by decide) (by decide) (by decide) (by decide)]; exact fun h => h
        have tq13 : zTkQ ty (m1 0 14).toNatClampNeg v13 := by rw [hv13]; exact (tq_X10_goOn v12.2 ty h600 tq12)
        have e9 : (f_X10_replicas_0 M ty) m1 = .inl v13 := (by unfold f_X10_replicas_0; (try rw [ev8]); (try rw [ev9]); (try rw [ev10]); (try rw [ev11]); (try rw [ev12]); (try rw [ev13]); first | done | rw [if_neg c1, if_pos c2, if_pos c4] | rfl)
        obtain rfl := Sum.inl.inj (e9.symm.trans hy)
        refine ⟨⟨tk13, (zRpW.of lw13 hrp)⟩, ?_⟩
        rw [hv13]
        exact zRpM_lt h600 c1 tq12
      · skip
        obtain ⟨v14, hv14⟩ : ∃ v, v = (g_X10_addReplica v12.2 (m1 1 0).toNatClampNeg v10.1 v11.1) := ⟨_, rfl⟩
        have ev14 : (d_X10_replicas_14 M ty m1) = v14 := by unfold d_X10_replicas_14; (try rw [ev10]); (try rw [ev11]); (try rw [ev12]); exact hv14.symm
        have tk14 : zTkP ty v14 := by rw [hv14]; exact zTkP.of (fr_X10_addReplica v12.2 (m1 1 0).toNatClampNeg v10.1 v11.1 0 (by decide)) tk12
        have tq14 : zTkQ ty (m1 0 14).toNatClampNeg v14 := by rw [hv14]; exact zTkQ.of (fr_X10_addReplica v12.2 (m1 1 0).toNatClampNeg v10.1 v11.1 0 (by decide)) tq12
        obtain ⟨v15, hv15⟩ : ∃ v, v = (g_X10_goOn v14 ty) := ⟨_, rfl⟩
        have ev15 : (d_X10_replicas_15 M ty m1) = v15 := by unfold d_X10_replicas_15; (try rw [ev14]); exact hv15.symm
        have tk15 : zTkP ty v15 := by rw [hv15]; exact (tk_X10_goOn v14 ty h600 tk14)
        have go15 : v15 0 18 = 0 → v14 0 18 = 0 := by rw [hv15, ke_X10_goOn v14 ty 18 (by decide) (by decide) (by decide) (by decide)]; exact fun h => h
        have tq15 : zTkQ ty (m1 0 14).toNatClampNeg v15 := by rw [hv15]; exact (tq_X10_goOn v14 ty h600 tq14)
        have e9 : (f_X10_replicas_0 M ty) m1 = .inl v15 := (by unfold f_X10_replicas_0; (try rw [ev8]); (try rw [ev9]); (try rw [ev10]); (try rw [ev11]); (try rw [ev12]); (try rw [ev14]); (try rw [ev15]); first | done | rw [if_neg c1, if_pos c2, if_neg c4] | rfl)
        obtain rfl := Sum.inl.inj (e9.symm.trans hy)
        refine ⟨⟨tk15, (zRpW.of (show v15 1 = v14 1 by rw [hv15]; exact (fr_X10_goOn v14 ty 1 (by decide))) (show zRpW v14 by rw [hv14]; exact rp_add hrp lw12 (absurd (go9 (rd10 (rd11 (en12 c4).1))) (by rw [hv8]; exact e_X10_wrong (k := 3) m1 h600 htk1 (by decide) (by decide)))))⟩, ?_⟩
        rw [hv15]
        exact zRpM_lt h600 c1 tq14
    · skip
      obtain ⟨v1, hv1⟩ : ∃ v, v = (g_X10_goOn m1 ty) := ⟨_, rfl⟩
      have ev1 : (d_X10_replicas_1 M ty m1) = v1 := by unfold d_X10_replicas_1; exact hv1.symm
      have tk1 : zTkP ty v1 := by rw [hv1]; exact (tk_X10_goOn m1 ty h600 htk1)
      have lw1 : v1 1 = m1 1 := by rw [hv1]; exact (fr_X10_goOn m1 ty 1 (by decide))
      have go1 : v1 0 18 = 0 → m1 0 18 = 0 := by rw [hv1, ke_X10_goOn m1 ty 18 (by decide) (by decide) (by decide) (by decide)]; exact fun h => h
      have tq1 : zTkQ ty (m1 0 14).toNatClampNeg v1 := by rw [hv1]; exact (tq_X10_goOn m1 ty h600 htq)
      obtain ⟨v2, hv2⟩ : ∃ v, v = (g_X10_read v1 ty 1 99) := ⟨_, rfl⟩
      have ev2 : (d_X10_replicas_2 M ty m1) = v2 := by unfold d_X10_replicas_2; (try rw [ev1]); exact hv2.symm
      have tk2 : zTkP ty v2.2 := by rw [hv2]; exact (tk_X10_read v1 ty 1 99 h600 tk1)
      have lw2 : v2.2 1 = m1 1 := by rw [hv2]; exact ((fr_X10_read v1 ty 1 99 1 (by decide)).trans lw1)
      have rd2 : v2.2 0 18 = 0 → v1 0 18 = 0 := by rw [hv2]; exact fun h => (e_X10_read v1 ty 1 99 h600 tk1 h).2.2
      have tq2 : zTkQ ty (m1 0 14).toNatClampNeg v2.2 := by rw [hv2]; exact (tq_X10_read v1 ty 1 99 h600 tq1)
      obtain ⟨v3, hv3⟩ : ∃ v, v = (g_X10_read v2.2 ty 0 999) := ⟨_, rfl⟩
      have ev3 : (d_X10_replicas_3 M ty m1) = v3 := by unfold d_X10_replicas_3; (try rw [ev2]); exact hv3.symm
      have tk3 : zTkP ty v3.2 := by rw [hv3]; exact (tk_X10_read v2.2 ty 0 999 h600 tk2)
      have lw3 : v3.2 1 = m1 1 := by rw [hv3]; exact ((fr_X10_read v2.2 ty 0 999 1 (by decide)).trans lw2)
      have rd3 : v3.2 0 18 = 0 → v2.2 0 18 = 0 := by rw [hv3]; exact fun h => (e_X10_read v2.2 ty 0 999 h600 tk2 h).2.2
      have tq3 : zTkQ ty (m1 0 14).toNatClampNeg v3.2 := by rw [hv3]; exact (tq_X10_read v2.2 ty 0 999 h600 tq2)
      obtain ⟨v4, hv4⟩ : ∃ v, v = (g_X10_ends v3.2 0) := ⟨_, rfl⟩
      have ev4 : (d_X10_replicas_4 M ty m1) = v4 := by unfold d_X10_replicas_4; (try rw [ev3]); exact hv4.symm
      have tk4 : zTkP ty v4.2 := by rw [hv4]; exact (tk_X10_ends v3.2 0 h600 tk3)
      have lw4 : v4.2 1 = m1 1 := by rw [hv4]; exact ((fr_X10_ends v3.2 0 1 (by decide)).trans lw3)
      have tq4 : zTkQ ty (m1 0 14).toNatClampNeg v4.2 := by rw [hv4]; exact (tq_X10_ends v3.2 0 h600 tq3)
      have en4 : ¬ v4.1 = 0 → v3.2 0 18 = 0 ∧ (0 : Int32) = 0 ∧ v4.2 = v3.2 := by rw [hv4]; exact fun h => ⟨(e_X10_ends v3.2 0 h600 tk3 h).1, (e_X10_ends v3.2 0 h600 tk3 h).2.1, (e_X10_ends v3.2 0 h600 tk3 h).2.2.2⟩
      by_cases c3 : v4.1 = 0
      · skip
        obtain ⟨v5, hv5⟩ : ∃ v, v = (g_X10_goOn v4.2 ty) := ⟨_, rfl⟩
        have ev5 : (d_X10_replicas_5 M ty m1) = v5 := by unfold d_X10_replicas_5; (try rw [ev4]); exact hv5.symm
        have tk5 : zTkP ty v5 := by rw [hv5]; exact (tk_X10_goOn v4.2 ty h600 tk4)
        have lw5 : v5 1 = m1 1 := by rw [hv5]; exact ((fr_X10_goOn v4.2 ty 1 (by decide)).trans lw4)
        have go5 : v5 0 18 = 0 → v4.2 0 18 = 0 := by rw [hv5, ke_X10_goOn v4.2 ty 18 (by decide) (by decide) (by decide) (by decide)]; exact fun h => h
        have tq5 : zTkQ ty (m1 0 14).toNatClampNeg v5 := by rw [hv5]; exact (tq_X10_goOn v4.2 ty h600 tq4)
        have e9 : (f_X10_replicas_0 M ty) m1 = .inl v5 := (by unfold f_X10_replicas_0; (try rw [ev1]); (try rw [ev2]); (try rw [ev3]); (try rw [ev4]); (try rw [ev5]); first | done | rw [if_neg c1, if_neg c2, if_pos c3] | rfl)
        obtain rfl := Sum.inl.inj (e9.symm.trans hy)
        refine ⟨⟨tk5, (zRpW.of lw5 hrp)⟩, ?_⟩
        rw [hv5]
        exact zRpM_lt h600 c1 tq4
      · skip
        obtain ⟨v6, hv6⟩ : ∃ v, v = (g_X10_addReplica v4.2 (m1 1 0).toNatClampNeg v2.1 v3.1) := ⟨_, rfl⟩
        have ev6 : (d_X10_replicas_6 M ty m1) = v6 := by unfold d_X10_replicas_6; (try rw [ev2]); (try rw [ev3]); (try rw [ev4]); exact hv6.symm
        have tk6 : zTkP ty v6 := by rw [hv6]; exact zTkP.of (fr_X10_addReplica v4.2 (m1 1 0).toNatClampNeg v2.1 v3.1 0 (by decide)) tk4
        have tq6 : zTkQ ty (m1 0 14).toNatClampNeg v6 := by rw [hv6]; exact zTkQ.of (fr_X10_addReplica v4.2 (m1 1 0).toNatClampNeg v2.1 v3.1 0 (by decide)) tq4
        obtain ⟨v7, hv7⟩ : ∃ v, v = (g_X10_goOn v6 ty) := ⟨_, rfl⟩
        have ev7 : (d_X10_replicas_7 M ty m1) = v7 := by unfold d_X10_replicas_7; (try rw [ev6]); exact hv7.symm
        have tk7 : zTkP ty v7 := by rw [hv7]; exact (tk_X10_goOn v6 ty h600 tk6)
        have go7 : v7 0 18 = 0 → v6 0 18 = 0 := by rw [hv7, ke_X10_goOn v6 ty 18 (by decide) (by decide) (by decide) (by decide)]; exact fun h => h
        have tq7 : zTkQ ty (m1 0 14).toNatClampNeg v7 := by rw [hv7]; exact (tq_X10_goOn v6 ty h600 tq6)
        have e9 : (f_X10_replicas_0 M ty) m1 = .inl v7 := (by unfold f_X10_replicas_0; (try rw [ev1]); (try rw [ev2]); (try rw [ev3]); (try rw [ev4]); (try rw [ev6]); (try rw [ev7]); first | done | rw [if_neg c1, if_neg c2, if_neg c3] | rfl)
        obtain rfl := Sum.inl.inj (e9.symm.trans hy)
        refine ⟨⟨tk7, (zRpW.of (show v7 1 = v6 1 by rw [hv7]; exact (fr_X10_goOn v6 ty 1 (by decide))) (show zRpW v6 by rw [hv6]; exact rp_add hrp lw4 (zLt9 hn1 h91 c2)))⟩, ?_⟩
        rw [hv7]
        exact zRpM_lt h600 c1 tq6
noncomputable def w_X10_replicas_0 (M : zM) (ty : Nat) (m : zM) : zM := zWr (fun (m : zM) => m) (f_X10_replicas_0 M ty) (1202) m
theorem wr_replicas (M : zM) (ty : Nat) (h600 : ty ≤ 600) (m : zM) (hm : zRpP ty m) : zRpP ty (w_X10_replicas_0 M ty m) := by
  refine zWr_P (μ := zRpM ty) (hf_replicas M ty h600) (fun x b hx e => ?_) _ m hm (by unfold zRpM; split <;> omega)
  unfold f_X10_replicas_0 at e
  (repeat' split at e) <;> first
    | (cases e; done)
    | (have e := Sum.inr.inj e
       subst e
       exact hx)
noncomputable def d_X10_replicas_16 (M : zM) (ty : Nat) : zM := (g_X10_wrong (w_X10_replicas_0 M ty M) 3)
noncomputable def d_X10_replicas_17 (M : zM) (ty : Nat) : zM := (g_X10_wrong (w_X10_replicas_0 M ty M) 3)
noncomputable def d_X10_replicas_18 (M : zM) (ty : Nat) : zM := (g_X10_wrong (w_X10_replicas_0 M ty M) 1)
noncomputable def d_X10_replicas_19 (M : zM) (ty : Nat) : zM := (g_X10_wrong (d_X10_replicas_18 M ty) 3)
noncomputable def g_X10_replicas (M : zM) (ty : Nat) : zM := (if ((w_X10_replicas_0 M ty M) 0 18) = 0 then (if ((w_X10_replicas_0 M ty M) 0 16) = 0 then (if 2 ≤ ((w_X10_replicas_0 M ty M) 1 0) then (w_X10_replicas_0 M ty M) else (d_X10_replicas_16 M ty)) else (if (g_X10_isDeed (w_X10_replicas_0 M ty M) ty) = 0 then (if ((d_X10_replicas_18 M ty) 0 18) = 0 then (if 2 ≤ ((d_X10_replicas_18 M ty) 1 0) then (d_X10_replicas_18 M ty) else (d_X10_replicas_19 M ty)) else (d_X10_replicas_18 M ty)) else (if 2 ≤ ((w_X10_replicas_0 M ty M) 1 0) then (w_X10_replicas_0 M ty M) else (d_X10_replicas_17 M ty)))) else (w_X10_replicas_0 M ty M))
set_option maxRecDepth 100000 in
theorem c_X10_replicas (M : zM) (gp : Nat → Option Nat) (ty : Nat) (h600 : ty ≤ 600) (htk : zTkP ty M) (hrp0 : zRpW M) : zC yy_X10_replicas 0 0 [.ref 0] (sh_Model gp) M none (sh_Model gp) (g_X10_replicas M ty) := by
  refine zC.of (by decide +kernel) rfl (Nat.le_of_ble_eq_true rfl) ?_
  refine zT.wx (fun (m : zM) => m) (f_X10_replicas_0 M ty) (zRpP ty) (zRpM ty) (fun (m : zM) => (0, [some (.ref 0), none, none], [], (sh_Model gp), m)) (fun (m : zM) => (68, [some (.ref 0), none, none], [], (sh_Model gp), m)) (hf_replicas M ty h600) (fun m1 hp1 k1 kk1 => ?_) (1202) M ⟨htk, hrp0⟩ (by unfold zRpM; split <;> omega) ?_
  · skip
    show zT _ _ _ _ (0, [some (.ref 0), none, none], [], (sh_Model gp), m1)
    have htk1 : zTkP ty m1 := hp1.1
    have hrp : zRpW m1 := hp1.2
    have hn1 : m1 1 0 = nI (m1 1 0).toNatClampNeg := hrp.1.1
    have h91 : (m1 1 0).toNatClampNeg ≤ 9 := hrp.1.2
    have h9 : (m1 1 0).toNatClampNeg ≤ 9 := h91
    have htq : zTkQ ty (m1 0 14).toNatClampNeg m1 := ⟨htk1, Nat.le_refl _⟩
    refine zT.run [(.aload_n 0, 0, 0, 0)] (pe := 1) (ls' := [some (.ref 0), none, none]) (st' := [.ref 0]) (M' := m1) (by decide +kernel) rfl ?_
    refine zT.ldcSW 36 rfl rfl (by decide +kernel) ?_
    refine zT.cV_own (o := 0) (idx := 264) (av := [.retAddr 219]) (rv := (some (.int (g_X10_isWord m1 ty 19)))) (st := []) (S1 := [.int (g_X10_isWord m1 ty 19)]) (c_X10_isWord m1 gp ty 19 h600 htk1 (by decide)) k_X10_isWord _ _ rfl rfl rfl (zIn (w := 6174) (by decide +kernel) rfl) (by decide +kernel) (by decide +kernel) rfl (Nat.le_of_ble_eq_true rfl) rfl ?_
    refine zT.zeq (tgt := 68) (off := 61) (by decide +kernel) (by decide) (fun (c1 : (g_X10_isWord m1 ty 19) = 0) => ?_) (fun (c1 : ¬ (g_X10_isWord m1 ty 19) = 0) => ?_)
    · skip
      exact kk1 _ (by simp only [f_X10_replicas_0, if_pos c1])
    · skip
      refine zT.run [(.aload_n 0, 0, 0, 0), (.getfield 9, 8, 1, 5150), (.iconst 0, 0, 0, 0)] (pe := 15) (ls' := [some (.ref 0), none, none]) (st' := [.int 0, .ref 1]) (M' := m1) (by decide +kernel) rfl ?_
      refine zT.iald (n := 187) (k := 0) rfl rfl (by decide) (by decide) (by decide +kernel) ?_
      refine zT.run [(.bipush 9, 0, 0, 0)] (pe := 18) (ls' := [some (.ref 0), none, none]) (st' := [.int 9, .int (m1 1 0)]) (M' := m1) (by decide +kernel) rfl ?_
      refine zT.cne (tgt := 26) (off := 8) (by decide +kernel) (by decide) (fun (c2 : ¬ (m1 1 0) = 9) => ?_) (fun (c2 : (m1 1 0) = 9) => ?_)
      · skip
        refine zT.run [(.aload_n 0, 0, 0, 0)] (pe := 27) (ls' := [some (.ref 0), none, none]) (st' := [.ref 0]) (M' := m1) (by decide +kernel) rfl ?_
        refine zT.cV_all (o := 0) (idx := 256) (av := []) (rv := none) (st := []) (S1 := []) (c_X10_goOn m1 gp ty h600 htk1) k_X10_goOn _ _ rfl rfl rfl (zIn (w := 6189) (by decide +kernel) rfl) (by decide +kernel) (by decide +kernel) rfl (Nat.le_of_ble_eq_true rfl) rfl ?_
        obtain ⟨v1, hv1⟩ : ∃ v, v = (g_X10_goOn m1 ty) := ⟨_, rfl⟩
        rw [← hv1]
        have ev1 : (d_X10_replicas_1 M ty m1) = v1 := by unfold d_X10_replicas_1; exact hv1.symm
        have tk1 : zTkP ty v1 := by rw [hv1]; exact (tk_X10_goOn m1 ty h600 htk1)
        have lw1 : v1 1 = m1 1 := by rw [hv1]; exact (fr_X10_goOn m1 ty 1 (by decide))
        have go1 : v1 0 18 = 0 → m1 0 18 = 0 := by rw [hv1, ke_X10_goOn m1 ty 18 (by decide) (by decide) (by decide) (by decide)]; exact fun h => h
        have tq1 : zTkQ ty (m1 0 14).toNatClampNeg v1 := by rw [hv1]; exact (tq_X10_goOn m1 ty h600 htq)
        refine zT.run [(.aload_n 0, 0, 0, 0), (.iconst 1, 0, 0, 0), (.bipush 99, 0, 0, 0)] (pe := 34) (ls' := [some (.ref 0), none, none]) (st' := [.int 99, .int 1, .ref 0]) (M' := v1) (by decide +kernel) rfl ?_
        refine zT.cV_all (o := 0) (idx := 259) (av := [.int 1, .int 99]) (rv := (some (.int (g_X10_read v1 ty 1 99).1))) (st := []) (S1 := [.int (g_X10_read v1 ty 1 99).1]) (c_X10_read v1 gp ty 1 99 h600 tk1) k_X10_read _ _ rfl rfl rfl (zIn (w := 6193) (by decide +kernel) rfl) (by decide +kernel) (by decide +kernel) rfl (Nat.le_of_ble_eq_true rfl) rfl ?_
        obtain ⟨v2, hv2⟩ : ∃ v, v = (g_X10_read v1 ty 1 99) := ⟨_, rfl⟩
        rw [← hv2]
        have ev2 : (d_X10_replicas_2 M ty m1) = v2 := by unfold d_X10_replicas_2; (try rw [ev1]); exact hv2.symm
        have tk2 : zTkP ty v2.2 := by rw [hv2]; exact (tk_X10_read v1 ty 1 99 h600 tk1)
        have lw2 : v2.2 1 = m1 1 := by rw [hv2]; exact ((fr_X10_read v1 ty 1 99 1 (by decide)).trans lw1)
        have rd2 : v2.2 0 18 = 0 → v1 0 18 = 0 := by rw [hv2]; exact fun h => (e_X10_read v1 ty 1 99 h600 tk1 h).2.2
        have tq2 : zTkQ ty (m1 0 14).toNatClampNeg v2.2 := by rw [hv2]; exact (tq_X10_read v1 ty 1 99 h600 tq1)
        refine zT.run [(.istore_n 1, 0, 0, 0), (.aload_n 0, 0, 0, 0), (.iconst 0, 0, 0, 0), (.sipush 999, 0, 0, 0)] (pe := 43) (ls' := [some (.ref 0), some (.int v2.1), none]) (st' := [.int 999, .int 0, .ref 0]) (M' := v2.2) (by decide +kernel) rfl ?_
        refine zT.cV_all (o := 0) (idx := 259) (av := [.int 0, .int 999]) (rv := (some (.int (g_X10_read v2.2 ty 0 999).1))) (st := []) (S1 := [.int (g_X10_read v2.2 ty 0 999).1]) (c_X10_read v2.2 gp ty 0 999 h600 tk2) k_X10_read _ _ rfl rfl rfl (zIn (w := 6193) (by decide +kernel) rfl) (by decide +kernel) (by decide +kernel) rfl (Nat.le_of_ble_eq_true rfl) rfl ?_
        obtain ⟨v3, hv3⟩ : ∃ v, v = (g_X10_read v2.2 ty 0 999) := ⟨_, rfl⟩
        rw [← hv3]
        have ev3 : (d_X10_replicas_3 M ty m1) = v3 := by unfold d_X10_replicas_3; (try rw [ev2]); exact hv3.symm
        have tk3 : zTkP ty v3.2 := by rw [hv3]; exact (tk_X10_read v2.2 ty 0 999 h600 tk2)
        have lw3 : v3.2 1 = m1 1 := by rw [hv3]; exact ((fr_X10_read v2.2 ty 0 999 1 (by decide)).trans lw2)
        have rd3 : v3.2 0 18 = 0 → v2.2 0 18 = 0 := by rw [hv3]; exact fun h => (e_X10_read v2.2 ty 0 999 h600 tk2 h).2.2
        have tq3 : zTkQ ty (m1 0 14).toNatClampNeg v3.2 := by rw [hv3]; exact (tq_X10_read v2.2 ty 0 999 h600 tq2)
        refine zT.run [(.istore_n 2, 0, 0, 0), (.aload_n 0, 0, 0, 0), (.iconst 0, 0, 0, 0)] (pe := 49) (ls' := [some (.ref 0), some (.int v2.1), some (.int v3.1)]) (st' := [.int 0, .ref 0]) (M' := v3.2) (by decide +kernel) rfl ?_
        refine zT.cV_all (o := 0) (idx := 306) (av := [.int 0]) (rv := (some (.int (g_X10_ends v3.2 0).1))) (st := []) (S1 := [.int (g_X10_ends v3.2 0).1]) (c_X10_ends v3.2 gp 0) k_X10_ends _ _ rfl rfl rfl (zIn (w := 6201) (by decide +kernel) rfl) (by decide +kernel) (by decide +kernel) rfl (Nat.le_of_ble_eq_true rfl) rfl ?_
        obtain ⟨v4, hv4⟩ : ∃ v, v = (g_X10_ends v3.2 0) := ⟨_, rfl⟩
        rw [← hv4]
        have ev4 : (d_X10_replicas_4 M ty m1) = v4 := by unfold d_X10_replicas_4; (try rw [ev3]); exact hv4.symm
        have tk4 : zTkP ty v4.2 := by rw [hv4]; exact (tk_X10_ends v3.2 0 h600 tk3)
        have lw4 : v4.2 1 = m1 1 := by rw [hv4]; exact ((fr_X10_ends v3.2 0 1 (by decide)).trans lw3)
        have tq4 : zTkQ ty (m1 0 14).toNatClampNeg v4.2 := by rw [hv4]; exact (tq_X10_ends v3.2 0 h600 tq3)
        have en4 : ¬ v4.1 = 0 → v3.2 0 18 = 0 ∧ (0 : Int32) = 0 ∧ v4.2 = v3.2 := by rw [hv4]; exact fun h => ⟨(e_X10_ends v3.2 0 h600 tk3 h).1, (e_X10_ends v3.2 0 h600 tk3 h).2.1, (e_X10_ends v3.2 0 h600 tk3 h).2.2.2⟩
        refine zT.zeq (tgt := 61) (off := 9) (by decide +kernel) (by decide) (fun (c3 : v4.1 = 0) => ?_) (fun (c3 : ¬ v4.1 = 0) => ?_)
        · skip
          refine zT.run [(.aload_n 0, 0, 0, 0)] (pe := 62) (ls' := [some (.ref 0), some (.int v2.1), some (.int v3.1)]) (st' := [.ref 0]) (M' := v4.2) (by decide +kernel) rfl ?_
          refine zT.cV_all (o := 0) (idx := 256) (av := []) (rv := none) (st := []) (S1 := []) (c_X10_goOn v4.2 gp ty h600 tk4) k_X10_goOn _ _ rfl rfl rfl (zIn (w := 6189) (by decide +kernel) rfl) (by decide +kernel) (by decide +kernel) rfl (Nat.le_of_ble_eq_true rfl) rfl ?_
          obtain ⟨v5, hv5⟩ : ∃ v, v = (g_X10_goOn v4.2 ty) := ⟨_, rfl⟩
          rw [← hv5]
          have ev5 : (d_X10_replicas_5 M ty m1) = v5 := by unfold d_X10_replicas_5; (try rw [ev4]); exact hv5.symm
          have tk5 : zTkP ty v5 := by rw [hv5]; exact (tk_X10_goOn v4.2 ty h600 tk4)
          have lw5 : v5 1 = m1 1 := by rw [hv5]; exact ((fr_X10_goOn v4.2 ty 1 (by decide)).trans lw4)
          have go5 : v5 0 18 = 0 → v4.2 0 18 = 0 := by rw [hv5, ke_X10_goOn v4.2 ty 18 (by decide) (by decide) (by decide) (by decide)]; exact fun h => h
          have tq5 : zTkQ ty (m1 0 14).toNatClampNeg v5 := by rw [hv5]; exact (tq_X10_goOn v4.2 ty h600 tq4)
          refine zT.run [(.goto (-65), 0, 0, 0)] (pe := 0) (ls' := [some (.ref 0), some (.int v2.1), some (.int v3.1)]) (st' := []) (M' := v5) (by decide +kernel) rfl ?_
          refine zT.drop 1 ?_
          refine zT.drop 2 ?_
          exact zT.eq (by simp only [zDl]; try rfl) (k1 _ (by unfold f_X10_replicas_0; (try rw [ev1]); (try rw [ev2]); (try rw [ev3]); (try rw [ev4]); (try rw [ev5]); first | done | rw [if_neg c1, if_neg c2, if_pos c3] | rfl))
        · skip
          refine zT.run [(.aload_n 0, 0, 0, 0), (.iload_n 1, 0, 0, 0), (.iload_n 2, 0, 0, 0)] (pe := 58) (ls' := [some (.ref 0), some (.int v2.1), some (.int v3.1)]) (st' := [.int v3.1, .int v2.1, .ref 0]) (M' := v4.2) (by decide +kernel) rfl ?_
          refine zT.cV_all (o := 0) (idx := 41) (av := [.int v2.1, .int v3.1]) (rv := none) (st := []) (S1 := []) (c_X10_addReplica v4.2 gp (m1 1 0).toNatClampNeg v2.1 v3.1 ((congrFun lw4 0).trans hn1) h9 (zLt9 hn1 h91 c2)) k_X10_addReplica _ _ rfl rfl rfl (zIn (w := 5096) (by decide +kernel) rfl) (by decide +kernel) (by decide +kernel) rfl (Nat.le_of_ble_eq_true rfl) rfl ?_
          obtain ⟨v6, hv6⟩ : ∃ v, v = (g_X10_addReplica v4.2 (m1 1 0).toNatClampNeg v2.1 v3.1) := ⟨_, rfl⟩
          rw [← hv6]
          have ev6 : (d_X10_replicas_6 M ty m1) = v6 := by unfold d_X10_replicas_6; (try rw [ev2]); (try rw [ev3]); (try rw [ev4]); exact hv6.symm
          have tk6 : zTkP ty v6 := by rw [hv6]; exact zTkP.of (fr_X10_addReplica v4.2 (m1 1 0).toNatClampNeg v2.1 v3.1 0 (by decide)) tk4
          have tq6 : zTkQ ty (m1 0 14).toNatClampNeg v6 := by rw [hv6]; exact zTkQ.of (fr_X10_addReplica v4.2 (m1 1 0).toNatClampNeg v2.1 v3.1 0 (by decide)) tq4
          refine zT.run [(.aload_n 0, 0, 0, 0)] (pe := 62) (ls' := [some (.ref 0), some (.int v2.1), some (.int v3.1)]) (st' := [.ref 0]) (M' := v6) (by decide +kernel) rfl ?_
          refine zT.cV_all (o := 0) (idx := 256) (av := []) (rv := none) (st := []) (S1 := []) (c_X10_goOn v6 gp ty h600 tk6) k_X10_goOn _ _ rfl rfl rfl (zIn (w := 6189) (by decide +kernel) rfl) (by decide +kernel) (by decide +kernel) rfl (Nat.le_of_ble_eq_true rfl) rfl ?_
          obtain ⟨v7, hv7⟩ : ∃ v, v = (g_X10_goOn v6 ty) := ⟨_, rfl⟩
          rw [← hv7]
          have ev7 : (d_X10_replicas_7 M ty m1) = v7 := by unfold d_X10_replicas_7; (try rw [ev6]); exact hv7.symm
          have tk7 : zTkP ty v7 := by rw [hv7]; exact (tk_X10_goOn v6 ty h600 tk6)
          have go7 : v7 0 18 = 0 → v6 0 18 = 0 := by rw [hv7, ke_X10_goOn v6 ty 18 (by decide) (by decide) (by decide) (by decide)]; exact fun h => h
          have tq7 : zTkQ ty (m1 0 14).toNatClampNeg v7 := by rw [hv7]; exact (tq_X10_goOn v6 ty h600 tq6)
          refine zT.run [(.goto (-65), 0, 0, 0)] (pe := 0) (ls' := [some (.ref 0), some (.int v2.1), some (.int v3.1)]) (st' := []) (M' := v7) (by decide +kernel) rfl ?_
          refine zT.drop 1 ?_
          refine zT.drop 2 ?_
          exact zT.eq (by simp only [zDl]; try rfl) (k1 _ (by unfold f_X10_replicas_0; (try rw [ev1]); (try rw [ev2]); (try rw [ev3]); (try rw [ev4]); (try rw [ev6]); (try rw [ev7]); first | done | rw [if_neg c1, if_neg c2, if_neg c3] | rfl))
      · skip
        refine zT.run [(.aload_n 0, 0, 0, 0), (.iconst 3, 0, 0, 0)] (pe := 23) (ls' := [some (.ref 0), none, none]) (st' := [.int 3, .ref 0]) (M' := m1) (by decide +kernel) rfl ?_
        refine zT.cV_all (o := 0) (idx := 250) (av := [.int 3]) (rv := none) (st := []) (S1 := []) (c_X10_wrong m1 gp 3) k_X10_wrong _ _ rfl rfl rfl (zIn (w := 6185) (by decide +kernel) rfl) (by decide +kernel) (by decide +kernel) rfl (Nat.le_of_ble_eq_true rfl) rfl ?_
        obtain ⟨v8, hv8⟩ : ∃ v, v = (g_X10_wrong m1 3) := ⟨_, rfl⟩
        rw [← hv8]
        have ev8 : (d_X10_replicas_8 M ty m1) = v8 := by unfold d_X10_replicas_8; exact hv8.symm
        have tk8 : zTkP ty v8 := by rw [hv8]; exact (tk_X10_wrong m1 3 h600 htk1)
        have lw8 : v8 1 = m1 1 := by rw [hv8]; exact (fr_X10_wrong m1 3 1 (by decide))
        have tq8 : zTkQ ty (m1 0 14).toNatClampNeg v8 := by rw [hv8]; exact (tq_X10_wrong m1 3 h600 htq)
        refine zT.run [(.aload_n 0, 0, 0, 0)] (pe := 27) (ls' := [some (.ref 0), none, none]) (st' := [.ref 0]) (M' := v8) (by decide +kernel) rfl ?_
        refine zT.cV_all (o := 0) (idx := 256) (av := []) (rv := none) (st := []) (S1 := []) (c_X10_goOn v8 gp ty h600 tk8) k_X10_goOn _ _ rfl rfl rfl (zIn (w := 6189) (by decide +kernel) rfl) (by decide +kernel) (by decide +kernel) rfl (Nat.le_of_ble_eq_true rfl) rfl ?_
        obtain ⟨v9, hv9⟩ : ∃ v, v = (g_X10_goOn v8 ty) := ⟨_, rfl⟩
        rw [← hv9]
        have ev9 : (d_X10_replicas_9 M ty m1) = v9 := by unfold d_X10_replicas_9; (try rw [ev8]); exact hv9.symm
        have tk9 : zTkP ty v9 := by rw [hv9]; exact (tk_X10_goOn v8 ty h600 tk8)
        have lw9 : v9 1 = m1 1 := by rw [hv9]; exact ((fr_X10_goOn v8 ty 1 (by decide)).trans lw8)
        have go9 : v9 0 18 = 0 → v8 0 18 = 0 := by rw [hv9, ke_X10_goOn v8 ty 18 (by decide) (by decide) (by decide) (by decide)]; exact fun h => h
        have tq9 : zTkQ ty (m1 0 14).toNatClampNeg v9 := by rw [hv9]; exact (tq_X10_goOn v8 ty h600 tq8)
        refine zT.run [(.aload_n 0, 0, 0, 0), (.iconst 1, 0, 0, 0), (.bipush 99, 0, 0, 0)] (pe := 34) (ls' := [some (.ref 0), none, none]) (st' := [.int 99, .int 1, .ref 0]) (M' := v9) (by decide +kernel) rfl ?_
        refine zT.cV_all (o := 0) (idx := 259) (av := [.int 1, .int 99]) (rv := (some (.int (g_X10_read v9 ty 1 99).1))) (st := []) (S1 := [.int (g_X10_read v9 ty 1 99).1]) (c_X10_read v9 gp ty 1 99 h600 tk9) k_X10_read _ _ rfl rfl rfl (zIn (w := 6193) (by decide +kernel) rfl) (by decide +kernel) (by decide +kernel) rfl (Nat.le_of_ble_eq_true rfl) rfl ?_
        obtain ⟨v10, hv10⟩ : ∃ v, v = (g_X10_read v9 ty 1 99) := ⟨_, rfl⟩
        rw [← hv10]
        have ev10 : (d_X10_replicas_10 M ty m1) = v10 := by unfold d_X10_replicas_10; (try rw [ev9]); exact hv10.symm
        have tk10 : zTkP ty v10.2 := by rw [hv10]; exact (tk_X10_read v9 ty 1 99 h600 tk9)
        have lw10 : v10.2 1 = m1 1 := by rw [hv10]; exact ((fr_X10_read v9 ty 1 99 1 (by decide)).trans lw9)
        have rd10 : v10.2 0 18 = 0 → v9 0 18 = 0 := by rw [hv10]; exact fun h => (e_X10_read v9 ty 1 99 h600 tk9 h).2.2
        have tq10 : zTkQ ty (m1 0 14).toNatClampNeg v10.2 := by rw [hv10]; exact (tq_X10_read v9 ty 1 99 h600 tq9)
        refine zT.run [(.istore_n 1, 0, 0, 0), (.aload_n 0, 0, 0, 0), (.iconst 0, 0, 0, 0), (.sipush 999, 0, 0, 0)] (pe := 43) (ls' := [some (.ref 0), some (.int v10.1), none]) (st' := [.int 999, .int 0, .ref 0]) (M' := v10.2) (by decide +kernel) rfl ?_
        refine zT.cV_all (o := 0) (idx := 259) (av := [.int 0, .int 999]) (rv := (some (.int (g_X10_read v10.2 ty 0 999).1))) (st := []) (S1 := [.int (g_X10_read v10.2 ty 0 999).1]) (c_X10_read v10.2 gp ty 0 999 h600 tk10) k_X10_read _ _ rfl rfl rfl (zIn (w := 6193) (by decide +kernel) rfl) (by decide +kernel) (by decide +kernel) rfl (Nat.le_of_ble_eq_true rfl) rfl ?_
        obtain ⟨v11, hv11⟩ : ∃ v, v = (g_X10_read v10.2 ty 0 999) := ⟨_, rfl⟩
        rw [← hv11]
        have ev11 : (d_X10_replicas_11 M ty m1) = v11 := by unfold d_X10_replicas_11; (try rw [ev10]); exact hv11.symm
        have tk11 : zTkP ty v11.2 := by rw [hv11]; exact (tk_X10_read v10.2 ty 0 999 h600 tk10)
        have lw11 : v11.2 1 = m1 1 := by rw [hv11]; exact ((fr_X10_read v10.2 ty 0 999 1 (by decide)).trans lw10)
        have rd11 : v11.2 0 18 = 0 → v10.2 0 18 = 0 := by rw [hv11]; exact fun h => (e_X10_read v10.2 ty 0 999 h600 tk10 h).2.2
        have tq11 : zTkQ ty (m1 0 14).toNatClampNeg v11.2 := by rw [hv11]; exact (tq_X10_read v10.2 ty 0 999 h600 tq10)
        refine zT.run [(.istore_n 2, 0, 0, 0), (.aload_n 0, 0, 0, 0), (.iconst 0, 0, 0, 0)] (pe := 49) (ls' := [some (.ref 0), some (.int v10.1), some (.int v11.1)]) (st' := [.int 0, .ref 0]) (M' := v11.2) (by decide +kernel) rfl ?_
        refine zT.cV_all (o := 0) (idx := 306) (av := [.int 0]) (rv := (some (.int (g_X10_ends v11.2 0).1))) (st := []) (S1 := [.int (g_X10_ends v11.2 0).1]) (c_X10_ends v11.2 gp 0) k_X10_ends _ _ rfl rfl rfl (zIn (w := 6201) (by decide +kernel) rfl) (by decide +kernel) (by decide +kernel) rfl (Nat.le_of_ble_eq_true rfl) rfl ?_
        obtain ⟨v12, hv12⟩ : ∃ v, v = (g_X10_ends v11.2 0) := ⟨_, rfl⟩
        rw [← hv12]
        have ev12 : (d_X10_replicas_12 M ty m1) = v12 := by unfold d_X10_replicas_12; (try rw [ev11]); exact hv12.symm
        have tk12 : zTkP ty v12.2 := by rw [hv12]; exact (tk_X10_ends v11.2 0 h600 tk11)
        have lw12 : v12.2 1 = m1 1 := by rw [hv12]; exact ((fr_X10_ends v11.2 0 1 (by decide)).trans lw11)
        have tq12 : zTkQ ty (m1 0 14).toNatClampNeg v12.2 := by rw [hv12]; exact (tq_X10_ends v11.2 0 h600 tq11)
        have en12 : ¬ v12.1 = 0 → v11.2 0 18 = 0 ∧ (0 : Int32) = 0 ∧ v12.2 = v11.2 := by rw [hv12]; exact fun h => ⟨(e_X10_ends v11.2 0 h600 tk11 h).1, (e_X10_ends v11.2 0 h600 tk11 h).2.1, (e_X10_ends v11.2 0 h600 tk11 h).2.2.2⟩
        refine zT.zeq (tgt := 61) (off := 9) (by decide +kernel) (by decide) (fun (c4 : v12.1 = 0) => ?_) (fun (c4 : ¬ v12.1 = 0) => ?_)
        · skip
          refine zT.run [(.aload_n 0, 0, 0, 0)] (pe := 62) (ls' := [some (.ref 0), some (.int v10.1), some (.int v11.1)]) (st' := [.ref 0]) (M' := v12.2) (by decide +kernel) rfl ?_
          refine zT.cV_all (o := 0) (idx := 256) (av := []) (rv := none) (st := []) (S1 := []) (c_X10_goOn v12.2 gp ty h600 tk12) k_X10_goOn _ _ rfl rfl rfl (zIn (w := 6189) (by decide +kernel) rfl) (by decide +kernel) (by decide +kernel) rfl (Nat.le_of_ble_eq_true rfl) rfl ?_
          obtain ⟨v13, hv13⟩ : ∃ v, v = (g_X10_goOn v12.2 ty) := ⟨_, rfl⟩
          rw [← hv13]
          have ev13 : (d_X10_replicas_13 M ty m1) = v13 := by unfold d_X10_replicas_13; (try rw [ev12]); exact hv13.symm
          have tk13 : zTkP ty v13 := by rw [hv13]; exact (tk_X10_goOn v12.2 ty h600 tk12)
          have lw13 : v13 1 = m1 1 := by rw [hv13]; exact ((fr_X10_goOn v12.2 ty 1 (by decide)).trans lw12)
          have go13 : v13 0 18 = 0 → v12.2 0 18 = 0 := by rw [hv13, ke_X10_goOn v12.2 ty 18 (by decide) (by decide) (by decide) (by decide)]; exact fun h => h
          have tq13 : zTkQ ty (m1 0 14).toNatClampNeg v13 := by rw [hv13]; exact (tq_X10_goOn v12.2 ty h600 tq12)
          refine zT.run [(.goto (-65), 0, 0, 0)] (pe := 0) (ls' := [some (.ref 0), some (.int v10.1), some (.int v11.1)]) (st' := []) (M' := v13) (by decide +kernel) rfl ?_
          refine zT.drop 1 ?_
          refine zT.drop 2 ?_
          exact zT.eq (by simp only [zDl]; try rfl) (k1 _ (by unfold f_X10_replicas_0; (try rw [ev8]); (try rw [ev9]); (try rw [ev10]); (try rw [ev11]); (try rw [ev12]); (try rw [ev13]); first | done | rw [if_neg c1, if_pos c2, if_pos c4] | rfl))
        · skip
          refine zT.run [(.aload_n 0, 0, 0, 0), (.iload_n 1, 0, 0, 0), (.iload_n 2, 0, 0, 0)] (pe := 58) (ls' := [some (.ref 0), some (.int v10.1), some (.int v11.1)]) (st' := [.int v11.1, .int v10.1, .ref 0]) (M' := v12.2) (by decide +kernel) rfl ?_
          refine zT.cV_all (o := 0) (idx := 41) (av := [.int v10.1, .int v11.1]) (rv := none) (st := []) (S1 := []) (c_X10_addReplica v12.2 gp (m1 1 0).toNatClampNeg v10.1 v11.1 ((congrFun lw12 0).trans hn1) h9 (absurd (go9 (rd10 (rd11 (en12 c4).1))) (by rw [hv8]; exact e_X10_wrong (k := 3) m1 h600 htk1 (by decide) (by decide)))) k_X10_addReplica _ _ rfl rfl rfl (zIn (w := 5096) (by decide +kernel) rfl) (by decide +kernel) (by decide +kernel) rfl (Nat.le_of_ble_eq_true rfl) rfl ?_
          obtain ⟨v14, hv14⟩ : ∃ v, v = (g_X10_addReplica v12.2 (m1 1 0).toNatClampNeg v10.1 v11.1) := ⟨_, rfl⟩
          rw [← hv14]
          have ev14 : (d_X10_replicas_14 M ty m1) = v14 := by unfold d_X10_replicas_14; (try rw [ev10]); (try rw [ev11]); (try rw [ev12]); exact hv14.symm
          have tk14 : zTkP ty v14 := by rw [hv14]; exact zTkP.of (fr_X10_addReplica v12.2 (m1 1 0).toNatClampNeg v10.1 v11.1 0 (by decide)) tk12
          have tq14 : zTkQ ty (m1 0 14).toNatClampNeg v14 := by rw [hv14]; exact zTkQ.of (fr_X10_addReplica v12.2 (m1 1 0).toNatClampNeg v10.1 v11.1 0 (by decide)) tq12
          refine zT.run [(.aload_n 0, 0, 0, 0)] (pe := 62) (ls' := [some (.ref 0), some (.int v10.1), some (.int v11.1)]) (st' := [.ref 0]) (M' := v14) (by decide +kernel) rfl ?_
          refine zT.cV_all (o := 0) (idx := 256) (av := []) (rv := none) (st := []) (S1 := []) (c_X10_goOn v14 gp ty h600 tk14) k_X10_goOn _ _ rfl rfl rfl (zIn (w := 6189) (by decide +kernel) rfl) (by decide +kernel) (by decide +kernel) rfl (Nat.le_of_ble_eq_true rfl) rfl ?_
          obtain ⟨v15, hv15⟩ : ∃ v, v = (g_X10_goOn v14 ty) := ⟨_, rfl⟩
          rw [← hv15]
          have ev15 : (d_X10_replicas_15 M ty m1) = v15 := by unfold d_X10_replicas_15; (try rw [ev14]); exact hv15.symm
          have tk15 : zTkP ty v15 := by rw [hv15]; exact (tk_X10_goOn v14 ty h600 tk14)
          have go15 : v15 0 18 = 0 → v14 0 18 = 0 := by rw [hv15, ke_X10_goOn v14 ty 18 (by decide) (by decide) (by decide) (by decide)]; exact fun h => h
          have tq15 : zTkQ ty (m1 0 14).toNatClampNeg v15 := by rw [hv15]; exact (tq_X10_goOn v14 ty h600 tq14)
          refine zT.run [(.goto (-65), 0, 0, 0)] (pe := 0) (ls' := [some (.ref 0), some (.int v10.1), some (.int v11.1)]) (st' := []) (M' := v15) (by decide +kernel) rfl ?_
          refine zT.drop 1 ?_
          refine zT.drop 2 ?_
          exact zT.eq (by simp only [zDl]; try rfl) (k1 _ (by unfold f_X10_replicas_0; (try rw [ev8]); (try rw [ev9]); (try rw [ev10]); (try rw [ev11]); (try rw [ev12]); (try rw [ev14]); (try rw [ev15]); first | done | rw [if_neg c1, if_pos c2, if_neg c4] | rfl))
  · skip
    show zT _ _ _ _ (68, [some (.ref 0), none, none], [], (sh_Model gp), (w_X10_replicas_0 M ty M))
    have hw0 : zRpP ty (w_X10_replicas_0 M ty M) := wr_replicas M ty h600 M ⟨htk, hrp0⟩
    refine zT.run [(.aload_n 0, 0, 0, 0), (.getfield 235, 8, 18, 5167)] (pe := 72) (ls' := [some (.ref 0), none, none]) (st' := [.int ((w_X10_replicas_0 M ty M) 0 18)]) (M' := (w_X10_replicas_0 M ty M)) (by decide +kernel) rfl ?_
    refine zT.zne (tgt := 94) (off := 22) (by decide +kernel) (by decide) (fun (c5 : ¬ ((w_X10_replicas_0 M ty M) 0 18) = 0) => ?_) (fun (c5 : ((w_X10_replicas_0 M ty M) 0 18) = 0) => ?_)
    · skip
      refine zT.run [(.aload_n 0, 0, 0, 0), (.getfield 235, 8, 18, 5167)] (pe := 98) (ls' := [some (.ref 0), none, none]) (st' := [.int ((w_X10_replicas_0 M ty M) 0 18)]) (M' := (w_X10_replicas_0 M ty M)) (by decide +kernel) rfl ?_
      refine zT.zne (tgt := 116) (off := 18) (by decide +kernel) (by decide) (fun _ => ?_) (fun c => absurd c c5)
      exact zT.vret (by simp only [g_X10_replicas, if_neg c5]; try rfl) rfl (by decide +kernel)
    · skip
      refine zT.run [(.aload_n 0, 0, 0, 0), (.getfield 223, 8, 16, 5165)] (pe := 79) (ls' := [some (.ref 0), none, none]) (st' := [.int ((w_X10_replicas_0 M ty M) 0 16)]) (M' := (w_X10_replicas_0 M ty M)) (by decide +kernel) rfl ?_
      refine zT.zeq (tgt := 94) (off := 15) (by decide +kernel) (by decide) (fun (c6 : ((w_X10_replicas_0 M ty M) 0 16) = 0) => ?_) (fun (c6 : ¬ ((w_X10_replicas_0 M ty M) 0 16) = 0) => ?_)
      · skip
        refine zT.run [(.aload_n 0, 0, 0, 0), (.getfield 235, 8, 18, 5167)] (pe := 98) (ls' := [some (.ref 0), none, none]) (st' := [.int ((w_X10_replicas_0 M ty M) 0 18)]) (M' := (w_X10_replicas_0 M ty M)) (by decide +kernel) rfl ?_
        refine zT.zne (tgt := 116) (off := 18) (by decide +kernel) (by decide) (fun c => absurd c5 c) (fun _ => ?_)
        refine zT.run [(.aload_n 0, 0, 0, 0), (.getfield 9, 8, 1, 5150), (.iconst 0, 0, 0, 0)] (pe := 106) (ls' := [some (.ref 0), none, none]) (st' := [.int 0, .ref 1]) (M' := (w_X10_replicas_0 M ty M)) (by decide +kernel) rfl ?_
        refine zT.iald (n := 187) (k := 0) rfl rfl (by decide) (by decide) (by decide +kernel) ?_
        refine zT.run [(.iconst 2, 0, 0, 0)] (pe := 108) (ls' := [some (.ref 0), none, none]) (st' := [.int 2, .int ((w_X10_replicas_0 M ty M) 1 0)]) (M' := (w_X10_replicas_0 M ty M)) (by decide +kernel) rfl ?_
        refine zT.cge (tgt := 116) (off := 8) (by decide +kernel) (by decide) (fun (c7 : 2 ≤ ((w_X10_replicas_0 M ty M) 1 0)) => ?_) (fun (c7 : ¬ 2 ≤ ((w_X10_replicas_0 M ty M) 1 0)) => ?_)
        · skip
          exact zT.vret (by simp only [g_X10_replicas, if_pos c5, if_pos c6, if_pos c7]; try rfl) rfl (by decide +kernel)
        · skip
          refine zT.run [(.aload_n 0, 0, 0, 0), (.iconst 3, 0, 0, 0)] (pe := 113) (ls' := [some (.ref 0), none, none]) (st' := [.int 3, .ref 0]) (M' := (w_X10_replicas_0 M ty M)) (by decide +kernel) rfl ?_
          refine zT.cV_all (o := 0) (idx := 250) (av := [.int 3]) (rv := none) (st := []) (S1 := []) (c_X10_wrong (w_X10_replicas_0 M ty M) gp 3) k_X10_wrong _ _ rfl rfl rfl (zIn (w := 6185) (by decide +kernel) rfl) (by decide +kernel) (by decide +kernel) rfl (Nat.le_of_ble_eq_true rfl) rfl ?_
          obtain ⟨v16, hv16⟩ : ∃ v, v = (g_X10_wrong (w_X10_replicas_0 M ty M) 3) := ⟨_, rfl⟩
          rw [← hv16]
          have ev16 : (d_X10_replicas_16 M ty) = v16 := by unfold d_X10_replicas_16; exact hv16.symm
          have tk16 : zTkP ty v16 := by rw [hv16]; exact (tk_X10_wrong (w_X10_replicas_0 M ty M) 3 h600 hw0.1)
          exact zT.vret (by unfold g_X10_replicas; (try rw [ev16]); first | done | rw [if_pos c5, if_pos c6, if_neg c7] | rfl) rfl (by decide +kernel)
      · skip
        refine zT.run [(.aload_n 0, 0, 0, 0)] (pe := 83) (ls' := [some (.ref 0), none, none]) (st' := [.ref 0]) (M' := (w_X10_replicas_0 M ty M)) (by decide +kernel) rfl ?_
        refine zT.cV_own (o := 0) (idx := 309) (av := []) (rv := (some (.int (g_X10_isDeed (w_X10_replicas_0 M ty M) ty)))) (st := []) (S1 := [.int (g_X10_isDeed (w_X10_replicas_0 M ty M) ty)]) (c_X10_isDeed (w_X10_replicas_0 M ty M) gp ty h600 hw0.1) k_X10_isDeed _ _ rfl rfl rfl (zIn (w := 6205) (by decide +kernel) rfl) (by decide +kernel) (by decide +kernel) rfl (Nat.le_of_ble_eq_true rfl) rfl ?_
        refine zT.zne (tgt := 94) (off := 8) (by decide +kernel) (by decide) (fun (c8 : ¬ (g_X10_isDeed (w_X10_replicas_0 M ty M) ty) = 0) => ?_) (fun (c8 : (g_X10_isDeed (w_X10_replicas_0 M ty M) ty) = 0) => ?_)
        · skip
          refine zT.run [(.aload_n 0, 0, 0, 0), (.getfield 235, 8, 18, 5167)] (pe := 98) (ls' := [some (.ref 0), none, none]) (st' := [.int ((w_X10_replicas_0 M ty M) 0 18)]) (M' := (w_X10_replicas_0 M ty M)) (by decide +kernel) rfl ?_
          refine zT.zne (tgt := 116) (off := 18) (by decide +kernel) (by decide) (fun c => absurd c5 c) (fun _ => ?_)
          refine zT.run [(.aload_n 0, 0, 0, 0), (.getfield 9, 8, 1, 5150), (.iconst 0, 0, 0, 0)] (pe := 106) (ls' := [some (.ref 0), none, none]) (st' := [.int 0, .ref 1]) (M' := (w_X10_replicas_0 M ty M)) (by decide +kernel) rfl ?_
          refine zT.iald (n := 187) (k := 0) rfl rfl (by decide) (by decide) (by decide +kernel) ?_
          refine zT.run [(.iconst 2, 0, 0, 0)] (pe := 108) (ls' := [some (.ref 0), none, none]) (st' := [.int 2, .int ((w_X10_replicas_0 M ty M) 1 0)]) (M' := (w_X10_replicas_0 M ty M)) (by decide +kernel) rfl ?_
          refine zT.cge (tgt := 116) (off := 8) (by decide +kernel) (by decide) (fun (c9 : 2 ≤ ((w_X10_replicas_0 M ty M) 1 0)) => ?_) (fun (c9 : ¬ 2 ≤ ((w_X10_replicas_0 M ty M) 1 0)) => ?_)
          · skip
            exact zT.vret (by simp only [g_X10_replicas, if_pos c5, if_neg c6, if_neg c8, if_pos c9]; try rfl) rfl (by decide +kernel)
          · skip
            refine zT.run [(.aload_n 0, 0, 0, 0), (.iconst 3, 0, 0, 0)] (pe := 113) (ls' := [some (.ref 0), none, none]) (st' := [.int 3, .ref 0]) (M' := (w_X10_replicas_0 M ty M)) (by decide +kernel) rfl ?_
            refine zT.cV_all (o := 0) (idx := 250) (av := [.int 3]) (rv := none) (st := []) (S1 := []) (c_X10_wrong (w_X10_replicas_0 M ty M) gp 3) k_X10_wrong _ _ rfl rfl rfl (zIn (w := 6185) (by decide +kernel) rfl) (by decide +kernel) (by decide +kernel) rfl (Nat.le_of_ble_eq_true rfl) rfl ?_
            obtain ⟨v17, hv17⟩ : ∃ v, v = (g_X10_wrong (w_X10_replicas_0 M ty M) 3) := ⟨_, rfl⟩
            rw [← hv17]
            have ev17 : (d_X10_replicas_17 M ty) = v17 := by unfold d_X10_replicas_17; exact hv17.symm
            have tk17 : zTkP ty v17 := by rw [hv17]; exact (tk_X10_wrong (w_X10_replicas_0 M ty M) 3 h600 hw0.1)
            exact zT.vret (by unfold g_X10_replicas; (try rw [ev17]); first | done | rw [if_pos c5, if_neg c6, if_neg c8, if_neg c9] | rfl) rfl (by decide +kernel)
        · skip
          refine zT.run [(.aload_n 0, 0, 0, 0), (.iconst 1, 0, 0, 0)] (pe := 91) (ls' := [some (.ref 0), none, none]) (st' := [.int 1, .ref 0]) (M' := (w_X10_replicas_0 M ty M)) (by decide +kernel) rfl ?_
          refine zT.cV_all (o := 0) (idx := 250) (av := [.int 1]) (rv := none) (st := []) (S1 := []) (c_X10_wrong (w_X10_replicas_0 M ty M) gp 1) k_X10_wrong _ _ rfl rfl rfl (zIn (w := 6185) (by decide +kernel) rfl) (by decide +kernel) (by decide +kernel) rfl (Nat.le_of_ble_eq_true rfl) rfl ?_
          obtain ⟨v18, hv18⟩ : ∃ v, v = (g_X10_wrong (w_X10_replicas_0 M ty M) 1) := ⟨_, rfl⟩
          rw [← hv18]
          have ev18 : (d_X10_replicas_18 M ty) = v18 := by unfold d_X10_replicas_18; exact hv18.symm
          have tk18 : zTkP ty v18 := by rw [hv18]; exact (tk_X10_wrong (w_X10_replicas_0 M ty M) 1 h600 hw0.1)
          refine zT.run [(.aload_n 0, 0, 0, 0), (.getfield 235, 8, 18, 5167)] (pe := 98) (ls' := [some (.ref 0), none, none]) (st' := [.int (v18 0 18)]) (M' := v18) (by decide +kernel) rfl ?_
          refine zT.zne (tgt := 116) (off := 18) (by decide +kernel) (by decide) (fun (c10 : ¬ (v18 0 18) = 0) => ?_) (fun (c10 : (v18 0 18) = 0) => ?_)
          · skip
            exact zT.vret (by unfold g_X10_replicas; (try rw [ev18]); first | done | rw [if_pos c5, if_neg c6, if_pos c8, if_neg c10] | rfl) rfl (by decide +kernel)
          · skip
            refine zT.run [(.aload_n 0, 0, 0, 0), (.getfield 9, 8, 1, 5150), (.iconst 0, 0, 0, 0)] (pe := 106) (ls' := [some (.ref 0), none, none]) (st' := [.int 0, .ref 1]) (M' := v18) (by decide +kernel) rfl ?_
            refine zT.iald (n := 187) (k := 0) rfl rfl (by decide) (by decide) (by decide +kernel) ?_
            refine zT.run [(.iconst 2, 0, 0, 0)] (pe := 108) (ls' := [some (.ref 0), none, none]) (st' := [.int 2, .int (v18 1 0)]) (M' := v18) (by decide +kernel) rfl ?_
            refine zT.cge (tgt := 116) (off := 8) (by decide +kernel) (by decide) (fun (c11 : 2 ≤ (v18 1 0)) => ?_) (fun (c11 : ¬ 2 ≤ (v18 1 0)) => ?_)
            · skip
              exact zT.vret (by unfold g_X10_replicas; (try rw [ev18]); first | done | rw [if_pos c5, if_neg c6, if_pos c8, if_pos c10, if_pos c11] | rfl) rfl (by decide +kernel)
            · skip
              refine zT.run [(.aload_n 0, 0, 0, 0), (.iconst 3, 0, 0, 0)] (pe := 113) (ls' := [some (.ref 0), none, none]) (st' := [.int 3, .ref 0]) (M' := v18) (by decide +kernel) rfl ?_
              refine zT.cV_all (o := 0) (idx := 250) (av := [.int 3]) (rv := none) (st := []) (S1 := []) (c_X10_wrong v18 gp 3) k_X10_wrong _ _ rfl rfl rfl (zIn (w := 6185) (by decide +kernel) rfl) (by decide +kernel) (by decide +kernel) rfl (Nat.le_of_ble_eq_true rfl) rfl ?_
              obtain ⟨v19, hv19⟩ : ∃ v, v = (g_X10_wrong v18 3) := ⟨_, rfl⟩
              rw [← hv19]
              have ev19 : (d_X10_replicas_19 M ty) = v19 := by unfold d_X10_replicas_19; (try rw [ev18]); exact hv19.symm
              have tk19 : zTkP ty v19 := by rw [hv19]; exact (tk_X10_wrong v18 3 h600 tk18)
              exact zT.vret (by unfold g_X10_replicas; (try rw [ev18]); (try rw [ev19]); first | done | rw [if_pos c5, if_neg c6, if_pos c8, if_pos c10, if_neg c11] | rfl) rfl (by decide +kernel)
theorem k_X10_replicas : zCal yy_X10_replicas 0 := ⟨⟨⟨⟨zIn (w := 6183) (by decide +kernel) rfl, zIn (w := 1012) (by decide +kernel) rfl⟩, by decide +kernel⟩, by decide +kernel⟩, ⟨zIn (w := 6182) (by decide +kernel) rfl, zIn (w := 63) (by decide +kernel) rfl⟩⟩
