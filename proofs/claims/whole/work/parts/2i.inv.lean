/-! WHAT AN OFFICE KEEPS, whatever a deed does to it -/
def zWi (n oz : Nat) (M : zM) : Prop := (M 1 0 = nI n ∧ n ≤ 9) ∧ (M 1 9 = nI oz ∧ oz ≤ 12) ∧ zHd M ∧ zHv M ∧ (M 1 4 = 3 → 0 < oz)
def zWn (n : Nat) (M : zM) : Prop := ∃ oz, zWi n oz M
theorem zWn.of {n : Nat} {M M' : zM} (e : M' 1 = M 1) (h : zWn n M) : zWn n M' := by
  obtain ⟨oz, h1, h2, h3, h4, h5⟩ := h
  exact ⟨oz, by rw [e]; exact h1, by rw [e]; exact h2, h3.of e, h4.of e, by rw [e]; exact h5⟩
theorem zHv_lo {M : zM} {k : Nat} {x : Int32} (hk : k < 10) (h : zHv M) : zHv (zU M 1 k x) := by
  intro r hr h1
  rw [zU_k (by omega)] at h1 ⊢
  exact h r hr h1
theorem zHv_out {M : zM} {k : Nat} {x : Int32} (hk : 91 ≤ k) (h : zHv M) : zHv (zU M 1 k x) := by
  intro r hr h1
  rw [zU_k (by omega)] at h1 ⊢
  exact h r hr h1
theorem zHv_put {M : zM} {r w : Nat} {x : Int32} (hw : w < 9) (h6 : w ≠ 6) (h7 : w ≠ 7) (h : zHv M) : zHv (g_X10_put M r w x) := by
  intro q hq h1
  unfold g_X10_put at h1 ⊢
  rw [zU_k (by omega)] at h1 ⊢
  exact h q hq h1
theorem zHv_vote {M : zM} {r : Nat} {x : Int32} (hx : ¬ x = 2) (h : zHv M) : zHv (g_X10_put M r 6 x) := by
  intro q hq h1
  unfold g_X10_put at h1 ⊢
  by_cases e : q = r
  · subst e
    exfalso
    rw [zU_eq] at h1
    exact hx ((if_pos rfl).symm.trans h1)
  · rw [zU_k (by omega)] at h1 ⊢
    exact h q hq h1
theorem zHv_val {M : zM} {r : Nat} {x : Int32} (hx : ¬ M 1 (10 + r * 9 + 6) = 2 ∨ ∃ v, v < 9 ∧ x = nI v) (h : ∀ q, q < 9 → q ≠ r → M 1 (10 + q * 9 + 6) = 2 → ∃ v, v < 9 ∧ M 1 (10 + q * 9 + 7) = nI v) : zHv (g_X10_put M r 7 x) := by
  intro q hq h1
  unfold g_X10_put at h1 ⊢
  rw [zU_k (by omega)] at h1
  by_cases e : q = r
  · subst e
    rcases hx with hx | ⟨v, a, b⟩
    · exact absurd h1 hx
    · refine ⟨v, a, ?_⟩
      rw [zU_eq]
      exact (if_pos rfl).trans b
  · rw [zU_k (by omega)]
    exact h q hq e h1
theorem zHv.q {M : zM} {r : Nat} (h : zHv M) : ∀ q, q < 9 → q ≠ r → M 1 (10 + q * 9 + 6) = 2 → ∃ v, v < 9 ∧ M 1 (10 + q * 9 + 7) = nI v := fun q hq _ => h q hq
theorem zPut_at {M : zM} {r w : Nat} {x : Int32} : g_X10_put M r w x 1 (10 + r * 9 + w) = x := by
  unfold g_X10_put
  rw [zU_eq]
  exact if_pos rfl
/-- an office whose low numbers but those told are the same -/
theorem zWi_low {n oz : Nat} {M M' : zM} (h : zWi n oz M) (e0 : M' 1 0 = M 1 0) (e9 : M' 1 9 = M 1 9) (e4 : M' 1 4 = M 1 4) (e6 : M' 1 6 = M 1 6) (hv : zHv M') : zWi n oz M' := by
  obtain ⟨h1, h2, h3, h4, h5⟩ := h
  exact ⟨by rw [e0]; exact h1, by rw [e9]; exact h2, h3.of2 e4 e6, hv, by rw [e4]; exact h5⟩
theorem wi_X10_put {n r w : Nat} {M : zM} (x : Int32) (hw : w < 9) (h6 : w ≠ 6) (h7 : w ≠ 7) (h : zWn n M) : zWn n (g_X10_put M r w x) := by
  obtain ⟨oz, h⟩ := h
  exact ⟨oz, zWi_low h (lo_X10_put _ _ _ _ _ (by decide)) (lo_X10_put _ _ _ _ _ (by decide)) (lo_X10_put _ _ _ _ _ (by decide)) (lo_X10_put _ _ _ _ _ (by decide)) (zHv_put hw h6 h7 h.2.2.2.1)⟩
theorem wi_X10_link (M : zM) (a b : Nat) (is : Int32) {n : Nat} (h : zWn n M) : zWn n (g_X10_link M a b is) := by
  unfold g_X10_link m_X10_link_1
  exact wi_X10_put _ (by decide) (by decide) (by decide) (wi_X10_put _ (by decide) (by decide) (by decide) h)
theorem wi_X10_callIt (M : zM) (n cl : Nat) (hc : cl < 9) (h : zWn n M) : zWn n (g_X10_callIt M n cl).2 := by
  obtain ⟨oz, h1, h2, h3, h4, h5⟩ := h
  have hv1 : zHv (zIt (l_X10_callIt_11 M n cl) n (0, M)).2 := by
    refine zIt_inv (f := l_X10_callIt_11 M n cl) (P := fun (_ : Nat) (s : Int32 × zM) => zHv s.2) n (0, M) h4 ?_
    intro i hi s hs
    show zHv (g_X10_put (g_X10_put (g_X10_put s.2 i 6 0) i 7 (-1)) i 8 0)
    exact zHv_put (by decide) (by decide) (by decide) (zHv_val (Or.inl (by rw [zPut_at]; decide)) (zHv_vote (by decide) hs).q)
  have hv2 : zHv (r_X10_callIt_103 M n cl) := by
    refine zIt_inv (f := l_X10_callIt_103 M n cl) (P := fun (_ : Nat) (s : zM) => zHv s) n _ hv1 ?_
    intro i hi s hs
    simp only [l_X10_callIt_103]
    split
    · exact zHv_put (by decide) (by decide) (by decide) (zHv_put (by decide) (by decide) (by decide) hs)
    · exact hs
  refine ⟨oz, by rw [lo_X10_callIt M n cl 0 (by decide)]; exact h1, by rw [lo_X10_callIt M n cl 9 (by decide)]; exact h2, Or.inr ⟨cl, hc, rfl⟩, ?_, fun e => absurd (show (1 : Int32) = 3 from e) (by decide)⟩
  exact zHv_lo (by decide) (zHv_lo (by decide) (zHv_lo (by decide) (zHv_lo (by decide) (zHv_lo (by decide) hv2))))
theorem wi_X10_sealIt (M : zM) (n r : Nat) (x : Int32) (h : zWn n M) : zWn n (g_X10_sealIt M n r x).2 := by
  obtain ⟨oz, h⟩ := h
  exact ⟨oz, zWi_low h (lo_X10_sealIt _ _ _ _ _ (by decide)) (lo_X10_sealIt _ _ _ _ _ (by decide)) (lo_X10_sealIt _ _ _ _ _ (by decide)) (lo_X10_sealIt _ _ _ _ _ (by decide)) (zHv_put (by decide) (by decide) (by decide) (zHv_vote (by decide) h.2.2.2.1))⟩
theorem wi_X10_closeIt (M : zM) (n : Nat) (hk : zHk M) (h : zWn n M) : zWn n (g_X10_closeIt M n).2 := by
  obtain ⟨oz, h1, h2, h3, h4, h5⟩ := h
  exact ⟨oz, h1, h2, Or.inr hk, zHv_lo (by decide) h4, fun e => absurd (show (2 : Int32) = 3 from e) (by decide)⟩
theorem wi_X10_giveIt (M : zM) {n : Nat} (h : zWn n M) : zWn n (g_X10_giveIt M).2 := by
  obtain ⟨oz, h1, h2, h3, h4, h5⟩ := h
  exact ⟨oz, h1, h2, Or.inl (show (0 : Int32) ≤ 0 by decide), zHv_lo (by decide) h4, fun e => absurd (show (0 : Int32) = 3 from e) (by decide)⟩
theorem wi_X10_breakIt (M : zM) (r cd : Nat) (x : Int32) (hc : cd < 9) {n : Nat} (h : zWn n M) : zWn n (g_X10_breakIt M r cd x).2 := by
  obtain ⟨oz, h⟩ := h
  refine ⟨oz, zWi_low h (lo_X10_breakIt _ _ _ _ _ (by decide)) (lo_X10_breakIt _ _ _ _ _ (by decide)) (lo_X10_breakIt _ _ _ _ _ (by decide)) (lo_X10_breakIt _ _ _ _ _ (by decide)) ?_⟩
  show zHv (m_X10_breakIt_2 M r cd x)
  unfold m_X10_breakIt_2 m_X10_breakIt_1
  generalize (if (g_X10_sealOf (nI cd) x (M 1 5)) = (g_X10_of M r 8) then (g_X10_spoiling M r cd) else (1 : Int32)) = y
  by_cases c : y = 0
  · rw [if_pos c, if_pos c]
    refine zHv_val (Or.inr ⟨cd, hc, rfl⟩) fun q hq hqr h1 => ?_
    unfold g_X10_put at h1 ⊢
    rw [zU_k (by omega)] at h1 ⊢
    exact h.2.2.2.1 q hq h1
  · rw [if_neg c, if_neg c]
    exact zHv_val (Or.inl (by rw [zPut_at]; decide)) (zHv_vote (by decide) h.2.2.2.1).q
theorem wi_X10_upIt (M : zM) (n r : Nat) (up : Int32) (h : zWn n M) : zWn n (g_X10_upIt M n r up).2 := by
  have h1 : ∀ x : Int32, zWn n (g_X10_put M r 2 x) := fun x => wi_X10_put _ (by decide) (by decide) (by decide) h
  unfold g_X10_upIt
  split
  · refine zIt_inv (f := l_X10_upIt_28 M n r up) (P := fun (_ : Nat) (s : zM) => zWn n s) n _ (wi_X10_put _ (by decide) (by decide) (by decide) (h1 _)) ?_
    intro i hi s hs
    simp only [l_X10_upIt_28]
    (repeat' split) <;> first | exact hs | exact wi_X10_put _ (by decide) (by decide) (by decide) hs
  · exact h1 _
theorem wi_X10_recountIt (M : zM) (n oz : Nat) (hoz : M 1 9 = nI oz) (h12 : oz ≤ 12) (hp : 0 < oz) (hk : zHk M) (h : zWn n M) : zWn n (g_X10_recountIt M n oz).2 := by
  obtain ⟨oz', h1, h2, h3, h4, h5⟩ := h
  have e9 : oz' ≤ 12 := h2.2
  have hv1 : zHv (r_X10_recountIt_11 M n oz).2 := by
    refine zIt_inv (f := l_X10_recountIt_11 M n oz) (P := fun (_ : Nat) (s : Int32 × zM) => zHv s.2) n (0, M) h4 ?_
    intro i hi s hs
    have a1 : zHv (g_X10_put (g_X10_put s.2 i 6 1) i 7 (-1)) := zHv_val (Or.inl (by rw [zPut_at]; decide)) (zHv_vote (by decide) hs).q
    have a2 : zHv (g_X10_put (g_X10_put (g_X10_put s.2 i 6 1) i 7 (-1)) i 4 (-1)) := zHv_put (by decide) (by decide) (by decide) a1
    have a3 : zHv (g_X10_put s.2 i 4 (-1)) := zHv_put (by decide) (by decide) (by decide) hs
    simp only [l_X10_recountIt_11]
    (repeat' split) <;> first | exact hs | exact a1 | exact a2 | exact a3
  have e0 : (g_X10_recountIt M n oz).2 1 9 = M 1 9 - 1 := by
    show (r_X10_recountIt_11 M n oz).2 1 9 - 1 = _
    rw [show (r_X10_recountIt_11 M n oz).2 1 9 = M 1 9 from lo_l_X10_recountIt_11 M n oz 9 (by decide) n (0, M)]
  refine ⟨oz' - 1, by rw [lo_X10_recountIt M n oz 0 (by decide)]; exact h1, ⟨?_, by omega⟩, Or.inr (hk.of (lo_X10_recountIt M n oz 6 (by decide))), ?_, fun e => absurd (show (2 : Int32) = 3 from e) (by decide)⟩
  · rw [e0, h2.1]
    rcases Nat.eq_zero_or_pos oz' with q | q
    · exfalso
      have e : nI oz = nI oz' := hoz.symm.trans h2.1
      have := (nI_eq (by omega) (by omega)).mp e
      omega
    · rw [show (1 : Int32) = nI 1 from rfl, pk_sub q]
  · exact zHv_lo (by decide) (zHv_lo (by decide) (zHv_lo (by decide) hv1))
theorem zHk_close {M : zM} {n : Nat} (hd : zHd M) (h : g_X10_noClose M n = 0) : zHk M := by
  rcases hd with h1 | h1
  · exfalso
    have h2 : ¬ M 1 4 = 1 := fun e => by rw [e] at h1; exact absurd h1 (by decide)
    have : g_X10_noClose M n = 5 := by simp only [g_X10_noClose, if_neg h2]
    rw [this] at h
    exact absurd h (by decide)
  · exact h1
theorem zHk_rec {M : zM} {oz r : Nat} (hd : zHd M) (h : g_X10_noRecount M oz r = 0) : zHk M := by
  rcases hd with h1 | h1
  · exfalso
    have h2 : ¬ M 1 4 = 3 := fun e => by rw [e] at h1; exact absurd h1 (by decide)
    have : g_X10_noRecount M oz r = 13 := by simp only [g_X10_noRecount, if_neg h2]
    rw [this] at h
    exact absurd h (by decide)
  · exact h1
theorem zHv_addOutcome (M : zM) (n oz : Nat) (ch : Int32) (h : zHv M) : zHv (g_X10_addOutcome M n oz ch) := by
  have h1 : zHv (j_X10_addOutcome_54 M n oz ch) := by
    simp only [j_X10_addOutcome_54]
    split
    · refine zHv_lo (by decide) ?_
      refine zIt_inv (f := l_X10_addOutcome_15 M n oz ch) (P := fun (_ : Nat) (s : zM) => zHv s) 88 M h ?_
      intro i hi s hs
      exact zHv_out (by omega) hs
    · exact h
  unfold g_X10_addOutcome m_X10_addOutcome_2 m_X10_addOutcome_1
  refine zHv_lo (by decide) ?_
  iterate 8 refine zHv_out (by omega) ?_
  exact h1
theorem wi_X10_countIt (M : zM) (n oz : Nat) (hoz : M 1 9 = nI oz) (h12 : oz ≤ 12) (hk : zHk M) (h : zWn n M) : zWn n (g_X10_countIt M n oz).2 := by
  obtain ⟨oz', h1, h2, h3, h4, h5⟩ := h
  have hv1 : zHv (r_X10_countIt_14 M n oz) := by
    refine zIt_inv (f := l_X10_countIt_14 M n oz) (P := fun (_ : Nat) (s : zM) => zHv s) n _ (zHv_lo (by decide) (h4.of (fr_X10_chosenNow M n 1 (by decide)))) ?_
    intro i hi s hs
    simp only [l_X10_countIt_14]
    (repeat' split) <;> first | exact hs | exact zHv_put (by decide) (by decide) (by decide) hs
  have e9 : (r_X10_countIt_14 M n oz) 1 9 = M 1 9 := by
    unfold r_X10_countIt_14
    rw [lo_l_X10_countIt_14 M n oz 9 (by decide), zU_k (by decide), fr_X10_chosenNow M n 1 (by decide)]
  have e4 : (r_X10_countIt_14 M n oz) 1 4 = 3 := by
    unfold r_X10_countIt_14
    rw [lo_l_X10_countIt_14 M n oz 4 (by decide)]
    rfl
  have key : ∀ ch, zWn n (g_X10_addOutcome (r_X10_countIt_14 M n oz) n oz ch) := by
    intro ch
    have hz := e_addOutcome54 (r_X10_countIt_14 M n oz) n oz ch (e9.trans hoz) h12
    have e : g_X10_addOutcome (r_X10_countIt_14 M n oz) n oz ch 1 9 = nI (zOn2 oz + 1) := by
      unfold g_X10_addOutcome
      rw [show ∀ (A : zM) (y : Int32), zU A 1 9 y 1 9 = y from fun A y => rfl]
      simp only [m_X10_addOutcome_2, m_X10_addOutcome_1, zU_h9 (o := 9) (by decide), zU_h9a (o := 9) (by decide), hz]
      rw [nI_1]
    refine ⟨zOn2 oz + 1, ?_, ⟨e, by have := zOn2_lt h12; omega⟩, ?_, zHv_addOutcome _ _ _ _ hv1, fun _ => by omega⟩
    · rw [lo_X10_addOutcome _ n oz ch 0 (by decide)]
      refine ⟨?_, h1.2⟩
      rw [← h1.1]
      unfold r_X10_countIt_14
      rw [lo_l_X10_countIt_14 M n oz 0 (by decide), zU_k (by decide), fr_X10_chosenNow M n 1 (by decide)]
    · refine Or.inr (hk.of ?_)
      rw [lo_X10_addOutcome _ n oz ch 6 (by decide)]
      unfold r_X10_countIt_14
      rw [lo_l_X10_countIt_14 M n oz 6 (by decide), zU_k (by decide), fr_X10_chosenNow M n 1 (by decide)]
  unfold g_X10_countIt
  split <;> exact key _
theorem wi_set {n w : Nat} {M : zM} {x : Int32} (hw : w < 3) (h : zWn n M) : zWn n (zU M 1 (1 + w) x) := by
  obtain ⟨oz, h⟩ := h
  exact ⟨oz, zWi_low h (zU_k (by omega)) (zU_k (by omega)) (zU_k (by omega)) (zU_k (by omega)) (zHv_lo (by omega) h.2.2.2.1)⟩
set_option maxRecDepth 100000 in
theorem wi_X10_setting (M : zM) (ty : Nat) (w : Nat) {n : Nat} (h600 : ty ≤ 600) (htk : zTkP ty M) (h_w : w < 3) (hwi : zWn n M) : zWn n (g_X10_setting M ty w) := by
  obtain ⟨v1, hv1⟩ : ∃ v, v = (g_X10_scan M ty) := ⟨_, rfl⟩
  have ev1 : (d_X10_setting_1 M ty w) = v1 := by unfold d_X10_setting_1; exact hv1.symm
  have tk1 : zTkP ty v1 := by rw [hv1]; exact (tk_X10_scan M ty h600 htk)
  have lw1 : v1 1 = M 1 := by rw [hv1]; exact (fr_X10_scan M ty 1 (by decide))
  obtain ⟨v2, hv2⟩ : ∃ v, v = (g_X10_read v1 ty (g_X10_leastOf (nI w)) (g_X10_mostOf (nI w))) := ⟨_, rfl⟩
  have ev2 : (d_X10_setting_2 M ty w) = v2 := by unfold d_X10_setting_2; (try rw [ev1]); exact hv2.symm
  have tk2 : zTkP ty v2.2 := by rw [hv2]; exact (tk_X10_read v1 ty (g_X10_leastOf (nI w)) (g_X10_mostOf (nI w)) h600 tk1)
  have lw2 : v2.2 1 = M 1 := by rw [hv2]; exact ((fr_X10_read v1 ty (g_X10_leastOf (nI w)) (g_X10_mostOf (nI w)) 1 (by decide)).trans lw1)
  have rd2 : v2.2 0 18 = 0 → v1 0 18 = 0 := by rw [hv2]; exact fun h => (e_X10_read v1 ty (g_X10_leastOf (nI w)) (g_X10_mostOf (nI w)) h600 tk1 h).2.2
  obtain ⟨v3, hv3⟩ : ∃ v, v = (g_X10_ends v2.2 0) := ⟨_, rfl⟩
  have ev3 : (d_X10_setting_3 M ty w) = v3 := by unfold d_X10_setting_3; (try rw [ev2]); exact hv3.symm
  have tk3 : zTkP ty v3.2 := by rw [hv3]; exact (tk_X10_ends v2.2 0 h600 tk2)
  have lw3 : v3.2 1 = M 1 := by rw [hv3]; exact ((fr_X10_ends v2.2 0 1 (by decide)).trans lw2)
  have en3 : ¬ v3.1 = 0 → v2.2 0 18 = 0 ∧ (0 : Int32) = 0 ∧ v3.2 = v2.2 := by rw [hv3]; exact fun h => ⟨(e_X10_ends v2.2 0 h600 tk2 h).1, (e_X10_ends v2.2 0 h600 tk2 h).2.1, (e_X10_ends v2.2 0 h600 tk2 h).2.2.2⟩
  by_cases c1 : v3.1 = 0
  · skip
    unfold g_X10_setting
    (try rw [ev1])
    (try rw [ev2])
    (try rw [ev3])
    rw [if_pos c1]
    exact (zWn.of lw3 hwi)
  · skip
    unfold g_X10_setting
    (try rw [ev1])
    (try rw [ev2])
    (try rw [ev3])
    rw [if_neg c1]
    exact (wi_set h_w (zWn.of lw3 hwi))
set_option maxRecDepth 100000 in
theorem wi_X10_threeNumbers (M : zM) (ty : Nat) (n : Nat) (b : Int32) (h600 : ty ≤ 600) (htk : zTkP ty M) (hn : M 1 0 = nI n) (h9 : n ≤ 9) (hd : zHd M) (hwi : zWn n M) : zWn n (g_X10_threeNumbers M ty n b) := by
  obtain ⟨v1, hv1⟩ : ∃ v, v = (g_X10_replicaHere M ty) := ⟨_, rfl⟩
  have ev1 : (d_X10_threeNumbers_1 M ty n b) = v1 := by unfold d_X10_threeNumbers_1; exact hv1.symm
  have tk1 : zTkP ty v1.2 := by rw [hv1]; exact (tk_X10_replicaHere M ty h600 htk)
  have lw1 : v1.2 1 = M 1 := by rw [hv1]; exact (fr_X10_replicaHere M ty 1 (by decide))
  have rh1 : v1.2 0 18 = 0 → v1.1 = nI v1.1.toNatClampNeg ∧ v1.1.toNatClampNeg < n ∧ M 0 18 = 0 := by rw [hv1]; exact e_X10_replicaHere M ty n h600 htk hn h9
  obtain ⟨v2, hv2⟩ : ∃ v, v = (g_X10_replicaHere v1.2 ty) := ⟨_, rfl⟩
  have ev2 : (d_X10_threeNumbers_2 M ty n b) = v2 := by unfold d_X10_threeNumbers_2; (try rw [ev1]); exact hv2.symm
  have tk2 : zTkP ty v2.2 := by rw [hv2]; exact (tk_X10_replicaHere v1.2 ty h600 tk1)
  have lw2 : v2.2 1 = M 1 := by rw [hv2]; exact ((fr_X10_replicaHere v1.2 ty 1 (by decide)).trans lw1)
  have rh2 : v2.2 0 18 = 0 → v2.1 = nI v2.1.toNatClampNeg ∧ v2.1.toNatClampNeg < n ∧ v1.2 0 18 = 0 := by rw [hv2]; exact e_X10_replicaHere v1.2 ty n h600 tk1 ((congrFun lw1 0).trans hn) h9
  obtain ⟨v3, hv3⟩ : ∃ v, v = (g_X10_read v2.2 ty 0 999) := ⟨_, rfl⟩
  have ev3 : (d_X10_threeNumbers_3 M ty n b) = v3 := by unfold d_X10_threeNumbers_3; (try rw [ev2]); exact hv3.symm
  have tk3 : zTkP ty v3.2 := by rw [hv3]; exact (tk_X10_read v2.2 ty 0 999 h600 tk2)
  have lw3 : v3.2 1 = M 1 := by rw [hv3]; exact ((fr_X10_read v2.2 ty 0 999 1 (by decide)).trans lw2)
  have rd3 : v3.2 0 18 = 0 → v2.2 0 18 = 0 := by rw [hv3]; exact fun h => (e_X10_read v2.2 ty 0 999 h600 tk2 h).2.2
  obtain ⟨v4, hv4⟩ : ∃ v, v = (g_X10_ends v3.2 (if (v3.2 0 18) = 0 then (if b = 0 then (g_X10_noBreak v3.2 v1.1.toNatClampNeg) else (g_X10_noSeal v3.2 v1.1.toNatClampNeg)) else (0 : Int32))) := ⟨_, rfl⟩
  have ev4 : (d_X10_threeNumbers_4 M ty n b) = v4 := by unfold d_X10_threeNumbers_4; (try rw [ev1]); (try rw [ev3]); exact hv4.symm
  have tk4 : zTkP ty v4.2 := by rw [hv4]; exact (tk_X10_ends v3.2 (if (v3.2 0 18) = 0 then (if b = 0 then (g_X10_noBreak v3.2 v1.1.toNatClampNeg) else (g_X10_noSeal v3.2 v1.1.toNatClampNeg)) else (0 : Int32)) h600 tk3)
  have lw4 : v4.2 1 = M 1 := by rw [hv4]; exact ((fr_X10_ends v3.2 (if (v3.2 0 18) = 0 then (if b = 0 then (g_X10_noBreak v3.2 v1.1.toNatClampNeg) else (g_X10_noSeal v3.2 v1.1.toNatClampNeg)) else (0 : Int32)) 1 (by decide)).trans lw3)
  have en4 : ¬ v4.1 = 0 → v3.2 0 18 = 0 ∧ ((if (v3.2 0 18) = 0 then (if b = 0 then (g_X10_noBreak v3.2 v1.1.toNatClampNeg) else (g_X10_noSeal v3.2 v1.1.toNatClampNeg)) else (0 : Int32)) : Int32) = 0 ∧ v4.2 = v3.2 := by rw [hv4]; exact fun h => ⟨(e_X10_ends v3.2 (if (v3.2 0 18) = 0 then (if b = 0 then (g_X10_noBreak v3.2 v1.1.toNatClampNeg) else (g_X10_noSeal v3.2 v1.1.toNatClampNeg)) else (0 : Int32)) h600 tk3 h).1, (e_X10_ends v3.2 (if (v3.2 0 18) = 0 then (if b = 0 then (g_X10_noBreak v3.2 v1.1.toNatClampNeg) else (g_X10_noSeal v3.2 v1.1.toNatClampNeg)) else (0 : Int32)) h600 tk3 h).2.1, (e_X10_ends v3.2 (if (v3.2 0 18) = 0 then (if b = 0 then (g_X10_noBreak v3.2 v1.1.toNatClampNeg) else (g_X10_noSeal v3.2 v1.1.toNatClampNeg)) else (0 : Int32)) h600 tk3 h).2.2.2⟩
  by_cases c3 : v4.1 = 0
  · skip
    unfold g_X10_threeNumbers
    (try rw [ev1])
    (try rw [ev2])
    (try rw [ev3])
    (try rw [ev4])
    rw [if_pos c3]
    exact (zWn.of lw4 hwi)
  · skip
    by_cases c4 : b = 0
    · skip
      obtain ⟨v7, hv7⟩ : ∃ v, v = (g_X10_breakIt v4.2 v1.1.toNatClampNeg v2.1.toNatClampNeg v3.1) := ⟨_, rfl⟩
      have ev7 : (d_X10_threeNumbers_7 M ty n b) = v7 := by unfold d_X10_threeNumbers_7; (try rw [ev1]); (try rw [ev2]); (try rw [ev3]); (try rw [ev4]); exact hv7.symm
      have tk7 : zTkP ty v7.2 := by rw [hv7]; exact zTkP.of (fr_X10_breakIt v4.2 v1.1.toNatClampNeg v2.1.toNatClampNeg v3.1 0 (by decide)) tk4
      unfold g_X10_threeNumbers
      (try rw [ev1])
      (try rw [ev2])
      (try rw [ev3])
      (try rw [ev4])
      (try rw [ev7])
      rw [if_neg c3, if_pos c4]
      rw [hv7]
      exact (wi_X10_breakIt v4.2 v1.1.toNatClampNeg v2.1.toNatClampNeg v3.1 (Nat.lt_of_lt_of_le (rh2 (rd3 (en4 c3).1)).2.1 h9) (zWn.of lw4 hwi))
    · skip
      obtain ⟨v8, hv8⟩ : ∃ v, v = (g_X10_sealIt v4.2 n v1.1.toNatClampNeg (g_X10_sealOf v2.1 v3.1 (v4.2 1 5))) := ⟨_, rfl⟩
      have ev8 : (d_X10_threeNumbers_8 M ty n b) = v8 := by unfold d_X10_threeNumbers_8; (try rw [ev1]); (try rw [ev2]); (try rw [ev3]); (try rw [ev4]); exact hv8.symm
      have tk8 : zTkP ty v8.2 := by rw [hv8]; exact zTkP.of (fr_X10_sealIt v4.2 n v1.1.toNatClampNeg (g_X10_sealOf v2.1 v3.1 (v4.2 1 5)) 0 (by decide)) tk4
      unfold g_X10_threeNumbers
      (try rw [ev1])
      (try rw [ev2])
      (try rw [ev3])
      (try rw [ev4])
      (try rw [ev8])
      rw [if_neg c3, if_neg c4]
      rw [hv8]
      exact (wi_X10_sealIt v4.2 n v1.1.toNatClampNeg (g_X10_sealOf v2.1 v3.1 (v4.2 1 5)) (zWn.of lw4 hwi))
set_option maxRecDepth 100000 in
theorem wi_X10_bareDeed (M : zM) (ty : Nat) (n : Nat) (oz : Nat) (h600 : ty ≤ 600) (htk : zTkP ty M) (hn : M 1 0 = nI n) (h9 : n ≤ 9) (hd : zHd M) (hv : zHv M) (hoz : M 1 9 = nI oz) (h12 : oz ≤ 12) (hP : M 1 4 = 3 → 0 < oz) : zWn n (g_X10_bareDeed M ty n oz) := by
  have hwi : zWn n M := ⟨oz, ⟨hn, h9⟩, ⟨hoz, h12⟩, hd, hv, hP⟩
  by_cases c1 : (g_X10_isWord M ty 6) = 0
  · skip
    by_cases c7 : (g_X10_isWord M ty 8) = 0
    · skip
      by_cases c13 : (g_X10_isWord M ty 10) = 0
      · skip
        obtain ⟨v10, hv10⟩ : ∃ v, v = (g_X10_wrong M 1) := ⟨_, rfl⟩
        have ev10 : (d_X10_bareDeed_10 M ty n oz) = v10 := by unfold d_X10_bareDeed_10; exact hv10.symm
        have tk10 : zTkP ty v10 := by rw [hv10]; exact (tk_X10_wrong M 1 h600 htk)
        have lw10 : v10 1 = M 1 := by rw [hv10]; exact (fr_X10_wrong M 1 1 (by decide))
        obtain ⟨v11, hv11⟩ : ∃ v, v = (g_X10_goOn v10 ty) := ⟨_, rfl⟩
        have ev11 : (d_X10_bareDeed_11 M ty n oz) = v11 := by unfold d_X10_bareDeed_11; (try rw [ev10]); exact hv11.symm
        have tk11 : zTkP ty v11 := by rw [hv11]; exact (tk_X10_goOn v10 ty h600 tk10)
        have lw11 : v11 1 = M 1 := by rw [hv11]; exact ((fr_X10_goOn v10 ty 1 (by decide)).trans lw10)
        have go11 : v11 0 18 = 0 → v10 0 18 = 0 := by rw [hv11, ke_X10_goOn v10 ty 18 (by decide) (by decide) (by decide) (by decide)]; exact fun h => h
        obtain ⟨v12, hv12⟩ : ∃ v, v = (g_X10_ends v11 (if (v11 0 18) = 0 then (if (g_X10_isWord M ty 6) = 0 then (if (g_X10_isWord M ty 8) = 0 then (if (v11 1 4) = 0 then (17 : Int32) else (0 : Int32)) else (g_X10_noCount v11 n)) else (g_X10_noClose v11 n)) else (0 : Int32))) := ⟨_, rfl⟩
        have ev12 : (d_X10_bareDeed_12 M ty n oz) = v12 := by unfold d_X10_bareDeed_12; (try rw [ev11]); exact hv12.symm
        have tk12 : zTkP ty v12.2 := by rw [hv12]; exact (tk_X10_ends v11 (if (v11 0 18) = 0 then (if (g_X10_isWord M ty 6) = 0 then (if (g_X10_isWord M ty 8) = 0 then (if (v11 1 4) = 0 then (17 : Int32) else (0 : Int32)) else (g_X10_noCount v11 n)) else (g_X10_noClose v11 n)) else (0 : Int32)) h600 tk11)
        have lw12 : v12.2 1 = M 1 := by rw [hv12]; exact ((fr_X10_ends v11 (if (v11 0 18) = 0 then (if (g_X10_isWord M ty 6) = 0 then (if (g_X10_isWord M ty 8) = 0 then (if (v11 1 4) = 0 then (17 : Int32) else (0 : Int32)) else (g_X10_noCount v11 n)) else (g_X10_noClose v11 n)) else (0 : Int32)) 1 (by decide)).trans lw11)
        have en12 : ¬ v12.1 = 0 → v11 0 18 = 0 ∧ ((if (v11 0 18) = 0 then (if (g_X10_isWord M ty 6) = 0 then (if (g_X10_isWord M ty 8) = 0 then (if (v11 1 4) = 0 then (17 : Int32) else (0 : Int32)) else (g_X10_noCount v11 n)) else (g_X10_noClose v11 n)) else (0 : Int32)) : Int32) = 0 ∧ v12.2 = v11 := by rw [hv12]; exact fun h => ⟨(e_X10_ends v11 (if (v11 0 18) = 0 then (if (g_X10_isWord M ty 6) = 0 then (if (g_X10_isWord M ty 8) = 0 then (if (v11 1 4) = 0 then (17 : Int32) else (0 : Int32)) else (g_X10_noCount v11 n)) else (g_X10_noClose v11 n)) else (0 : Int32)) h600 tk11 h).1, (e_X10_ends v11 (if (v11 0 18) = 0 then (if (g_X10_isWord M ty 6) = 0 then (if (g_X10_isWord M ty 8) = 0 then (if (v11 1 4) = 0 then (17 : Int32) else (0 : Int32)) else (g_X10_noCount v11 n)) else (g_X10_noClose v11 n)) else (0 : Int32)) h600 tk11 h).2.1, (e_X10_ends v11 (if (v11 0 18) = 0 then (if (g_X10_isWord M ty 6) = 0 then (if (g_X10_isWord M ty 8) = 0 then (if (v11 1 4) = 0 then (17 : Int32) else (0 : Int32)) else (g_X10_noCount v11 n)) else (g_X10_noClose v11 n)) else (0 : Int32)) h600 tk11 h).2.2.2⟩
        by_cases c23 : v12.1 = 0
        · skip
          unfold g_X10_bareDeed
          (try rw [ev10])
          (try rw [ev11])
          (try rw [ev12])
          rw [if_pos c1, if_pos c7, if_pos c13, if_pos c23]
          exact (zWn.of lw12 hwi)
        · skip
          obtain ⟨v13, hv13⟩ : ∃ v, v = (g_X10_giveIt v12.2) := ⟨_, rfl⟩
          have ev13 : (d_X10_bareDeed_13 M ty n oz) = v13 := by unfold d_X10_bareDeed_13; (try rw [ev12]); exact hv13.symm
          have tk13 : zTkP ty v13.2 := by rw [hv13]; exact zTkP.of (fr_X10_giveIt v12.2 0 (by decide)) tk12
          unfold g_X10_bareDeed
          (try rw [ev10])
          (try rw [ev11])
          (try rw [ev12])
          (try rw [ev13])
          rw [if_pos c1, if_pos c7, if_pos c13, if_neg c23]
          rw [hv13]
          exact (wi_X10_giveIt v12.2 (zWn.of lw12 hwi))
      · skip
        obtain ⟨v7, hv7⟩ : ∃ v, v = (g_X10_goOn M ty) := ⟨_, rfl⟩
        have ev7 : (d_X10_bareDeed_7 M ty n oz) = v7 := by unfold d_X10_bareDeed_7; exact hv7.symm
        have tk7 : zTkP ty v7 := by rw [hv7]; exact (tk_X10_goOn M ty h600 htk)
        have lw7 : v7 1 = M 1 := by rw [hv7]; exact (fr_X10_goOn M ty 1 (by decide))
        have go7 : v7 0 18 = 0 → M 0 18 = 0 := by rw [hv7, ke_X10_goOn M ty 18 (by decide) (by decide) (by decide) (by decide)]; exact fun h => h
        obtain ⟨v8, hv8⟩ : ∃ v, v = (g_X10_ends v7 (if (v7 0 18) = 0 then (if (g_X10_isWord M ty 6) = 0 then (if (g_X10_isWord M ty 8) = 0 then (if (v7 1 4) = 0 then (17 : Int32) else (0 : Int32)) else (g_X10_noCount v7 n)) else (g_X10_noClose v7 n)) else (0 : Int32))) := ⟨_, rfl⟩
        have ev8 : (d_X10_bareDeed_8 M ty n oz) = v8 := by unfold d_X10_bareDeed_8; (try rw [ev7]); exact hv8.symm
        have tk8 : zTkP ty v8.2 := by rw [hv8]; exact (tk_X10_ends v7 (if (v7 0 18) = 0 then (if (g_X10_isWord M ty 6) = 0 then (if (g_X10_isWord M ty 8) = 0 then (if (v7 1 4) = 0 then (17 : Int32) else (0 : Int32)) else (g_X10_noCount v7 n)) else (g_X10_noClose v7 n)) else (0 : Int32)) h600 tk7)
        have lw8 : v8.2 1 = M 1 := by rw [hv8]; exact ((fr_X10_ends v7 (if (v7 0 18) = 0 then (if (g_X10_isWord M ty 6) = 0 then (if (g_X10_isWord M ty 8) = 0 then (if (v7 1 4) = 0 then (17 : Int32) else (0 : Int32)) else (g_X10_noCount v7 n)) else (g_X10_noClose v7 n)) else (0 : Int32)) 1 (by decide)).trans lw7)
        have en8 : ¬ v8.1 = 0 → v7 0 18 = 0 ∧ ((if (v7 0 18) = 0 then (if (g_X10_isWord M ty 6) = 0 then (if (g_X10_isWord M ty 8) = 0 then (if (v7 1 4) = 0 then (17 : Int32) else (0 : Int32)) else (g_X10_noCount v7 n)) else (g_X10_noClose v7 n)) else (0 : Int32)) : Int32) = 0 ∧ v8.2 = v7 := by rw [hv8]; exact fun h => ⟨(e_X10_ends v7 (if (v7 0 18) = 0 then (if (g_X10_isWord M ty 6) = 0 then (if (g_X10_isWord M ty 8) = 0 then (if (v7 1 4) = 0 then (17 : Int32) else (0 : Int32)) else (g_X10_noCount v7 n)) else (g_X10_noClose v7 n)) else (0 : Int32)) h600 tk7 h).1, (e_X10_ends v7 (if (v7 0 18) = 0 then (if (g_X10_isWord M ty 6) = 0 then (if (g_X10_isWord M ty 8) = 0 then (if (v7 1 4) = 0 then (17 : Int32) else (0 : Int32)) else (g_X10_noCount v7 n)) else (g_X10_noClose v7 n)) else (0 : Int32)) h600 tk7 h).2.1, (e_X10_ends v7 (if (v7 0 18) = 0 then (if (g_X10_isWord M ty 6) = 0 then (if (g_X10_isWord M ty 8) = 0 then (if (v7 1 4) = 0 then (17 : Int32) else (0 : Int32)) else (g_X10_noCount v7 n)) else (g_X10_noClose v7 n)) else (0 : Int32)) h600 tk7 h).2.2.2⟩
        by_cases c18 : v8.1 = 0
        · skip
          unfold g_X10_bareDeed
          (try rw [ev7])
          (try rw [ev8])
          rw [if_pos c1, if_pos c7, if_neg c13, if_pos c18]
          exact (zWn.of lw8 hwi)
        · skip
          obtain ⟨v9, hv9⟩ : ∃ v, v = (g_X10_giveIt v8.2) := ⟨_, rfl⟩
          have ev9 : (d_X10_bareDeed_9 M ty n oz) = v9 := by unfold d_X10_bareDeed_9; (try rw [ev8]); exact hv9.symm
          have tk9 : zTkP ty v9.2 := by rw [hv9]; exact zTkP.of (fr_X10_giveIt v8.2 0 (by decide)) tk8
          unfold g_X10_bareDeed
          (try rw [ev7])
          (try rw [ev8])
          (try rw [ev9])
          rw [if_pos c1, if_pos c7, if_neg c13, if_neg c18]
          rw [hv9]
          exact (wi_X10_giveIt v8.2 (zWn.of lw8 hwi))
    · skip
      obtain ⟨v4, hv4⟩ : ∃ v, v = (g_X10_goOn M ty) := ⟨_, rfl⟩
      have ev4 : (d_X10_bareDeed_4 M ty n oz) = v4 := by unfold d_X10_bareDeed_4; exact hv4.symm
      have tk4 : zTkP ty v4 := by rw [hv4]; exact (tk_X10_goOn M ty h600 htk)
      have lw4 : v4 1 = M 1 := by rw [hv4]; exact (fr_X10_goOn M ty 1 (by decide))
      have go4 : v4 0 18 = 0 → M 0 18 = 0 := by rw [hv4, ke_X10_goOn M ty 18 (by decide) (by decide) (by decide) (by decide)]; exact fun h => h
      obtain ⟨v5, hv5⟩ : ∃ v, v = (g_X10_ends v4 (if (v4 0 18) = 0 then (if (g_X10_isWord M ty 6) = 0 then (if (g_X10_isWord M ty 8) = 0 then (if (v4 1 4) = 0 then (17 : Int32) else (0 : Int32)) else (g_X10_noCount v4 n)) else (g_X10_noClose v4 n)) else (0 : Int32))) := ⟨_, rfl⟩
      have ev5 : (d_X10_bareDeed_5 M ty n oz) = v5 := by unfold d_X10_bareDeed_5; (try rw [ev4]); exact hv5.symm
      have tk5 : zTkP ty v5.2 := by rw [hv5]; exact (tk_X10_ends v4 (if (v4 0 18) = 0 then (if (g_X10_isWord M ty 6) = 0 then (if (g_X10_isWord M ty 8) = 0 then (if (v4 1 4) = 0 then (17 : Int32) else (0 : Int32)) else (g_X10_noCount v4 n)) else (g_X10_noClose v4 n)) else (0 : Int32)) h600 tk4)
      have lw5 : v5.2 1 = M 1 := by rw [hv5]; exact ((fr_X10_ends v4 (if (v4 0 18) = 0 then (if (g_X10_isWord M ty 6) = 0 then (if (g_X10_isWord M ty 8) = 0 then (if (v4 1 4) = 0 then (17 : Int32) else (0 : Int32)) else (g_X10_noCount v4 n)) else (g_X10_noClose v4 n)) else (0 : Int32)) 1 (by decide)).trans lw4)
      have en5 : ¬ v5.1 = 0 → v4 0 18 = 0 ∧ ((if (v4 0 18) = 0 then (if (g_X10_isWord M ty 6) = 0 then (if (g_X10_isWord M ty 8) = 0 then (if (v4 1 4) = 0 then (17 : Int32) else (0 : Int32)) else (g_X10_noCount v4 n)) else (g_X10_noClose v4 n)) else (0 : Int32)) : Int32) = 0 ∧ v5.2 = v4 := by rw [hv5]; exact fun h => ⟨(e_X10_ends v4 (if (v4 0 18) = 0 then (if (g_X10_isWord M ty 6) = 0 then (if (g_X10_isWord M ty 8) = 0 then (if (v4 1 4) = 0 then (17 : Int32) else (0 : Int32)) else (g_X10_noCount v4 n)) else (g_X10_noClose v4 n)) else (0 : Int32)) h600 tk4 h).1, (e_X10_ends v4 (if (v4 0 18) = 0 then (if (g_X10_isWord M ty 6) = 0 then (if (g_X10_isWord M ty 8) = 0 then (if (v4 1 4) = 0 then (17 : Int32) else (0 : Int32)) else (g_X10_noCount v4 n)) else (g_X10_noClose v4 n)) else (0 : Int32)) h600 tk4 h).2.1, (e_X10_ends v4 (if (v4 0 18) = 0 then (if (g_X10_isWord M ty 6) = 0 then (if (g_X10_isWord M ty 8) = 0 then (if (v4 1 4) = 0 then (17 : Int32) else (0 : Int32)) else (g_X10_noCount v4 n)) else (g_X10_noClose v4 n)) else (0 : Int32)) h600 tk4 h).2.2.2⟩
      by_cases c12 : v5.1 = 0
      · skip
        unfold g_X10_bareDeed
        (try rw [ev4])
        (try rw [ev5])
        rw [if_pos c1, if_neg c7, if_pos c12]
        exact (zWn.of lw5 hwi)
      · skip
        obtain ⟨v6, hv6⟩ : ∃ v, v = (g_X10_countIt v5.2 n oz) := ⟨_, rfl⟩
        have ev6 : (d_X10_bareDeed_6 M ty n oz) = v6 := by unfold d_X10_bareDeed_6; (try rw [ev5]); exact hv6.symm
        have tk6 : zTkP ty v6.2 := by rw [hv6]; exact (tk_X10_countIt v5.2 n oz h600 tk5)
        unfold g_X10_bareDeed
        (try rw [ev4])
        (try rw [ev5])
        (try rw [ev6])
        rw [if_pos c1, if_neg c7, if_neg c12]
        rw [hv6]
        exact (wi_X10_countIt v5.2 n oz ((congrFun lw5 9).trans hoz) h12 (zHk.of (congrFun (by rw [hv5]; exact (fr_X10_ends v4 (if (v4 0 18) = 0 then (if (g_X10_isWord M ty 6) = 0 then (if (g_X10_isWord M ty 8) = 0 then (if (v4 1 4) = 0 then (17 : Int32) else (0 : Int32)) else (g_X10_noCount v4 n)) else (g_X10_noClose v4 n)) else (0 : Int32)) 1 (by decide))) 6) (zHk_count (M := v4) (zHd.of2 (congrFun lw4 4) (congrFun lw4 6) hd) (by have h := (en5 c12).2.1; rw [if_pos (en5 c12).1] at h; (try simp only [if_pos c1, if_neg c7, if_neg c12] at h); exact h))) (zWn.of lw5 hwi))
  · skip
    obtain ⟨v1, hv1⟩ : ∃ v, v = (g_X10_goOn M ty) := ⟨_, rfl⟩
    have ev1 : (d_X10_bareDeed_1 M ty n oz) = v1 := by unfold d_X10_bareDeed_1; exact hv1.symm
    have tk1 : zTkP ty v1 := by rw [hv1]; exact (tk_X10_goOn M ty h600 htk)
    have lw1 : v1 1 = M 1 := by rw [hv1]; exact (fr_X10_goOn M ty 1 (by decide))
    have go1 : v1 0 18 = 0 → M 0 18 = 0 := by rw [hv1, ke_X10_goOn M ty 18 (by decide) (by decide) (by decide) (by decide)]; exact fun h => h
    obtain ⟨v2, hv2⟩ : ∃ v, v = (g_X10_ends v1 (if (v1 0 18) = 0 then (if (g_X10_isWord M ty 6) = 0 then (if (g_X10_isWord M ty 8) = 0 then (if (v1 1 4) = 0 then (17 : Int32) else (0 : Int32)) else (g_X10_noCount v1 n)) else (g_X10_noClose v1 n)) else (0 : Int32))) := ⟨_, rfl⟩
    have ev2 : (d_X10_bareDeed_2 M ty n oz) = v2 := by unfold d_X10_bareDeed_2; (try rw [ev1]); exact hv2.symm
    have tk2 : zTkP ty v2.2 := by rw [hv2]; exact (tk_X10_ends v1 (if (v1 0 18) = 0 then (if (g_X10_isWord M ty 6) = 0 then (if (g_X10_isWord M ty 8) = 0 then (if (v1 1 4) = 0 then (17 : Int32) else (0 : Int32)) else (g_X10_noCount v1 n)) else (g_X10_noClose v1 n)) else (0 : Int32)) h600 tk1)
    have lw2 : v2.2 1 = M 1 := by rw [hv2]; exact ((fr_X10_ends v1 (if (v1 0 18) = 0 then (if (g_X10_isWord M ty 6) = 0 then (if (g_X10_isWord M ty 8) = 0 then (if (v1 1 4) = 0 then (17 : Int32) else (0 : Int32)) else (g_X10_noCount v1 n)) else (g_X10_noClose v1 n)) else (0 : Int32)) 1 (by decide)).trans lw1)
    have en2 : ¬ v2.1 = 0 → v1 0 18 = 0 ∧ ((if (v1 0 18) = 0 then (if (g_X10_isWord M ty 6) = 0 then (if (g_X10_isWord M ty 8) = 0 then (if (v1 1 4) = 0 then (17 : Int32) else (0 : Int32)) else (g_X10_noCount v1 n)) else (g_X10_noClose v1 n)) else (0 : Int32)) : Int32) = 0 ∧ v2.2 = v1 := by rw [hv2]; exact fun h => ⟨(e_X10_ends v1 (if (v1 0 18) = 0 then (if (g_X10_isWord M ty 6) = 0 then (if (g_X10_isWord M ty 8) = 0 then (if (v1 1 4) = 0 then (17 : Int32) else (0 : Int32)) else (g_X10_noCount v1 n)) else (g_X10_noClose v1 n)) else (0 : Int32)) h600 tk1 h).1, (e_X10_ends v1 (if (v1 0 18) = 0 then (if (g_X10_isWord M ty 6) = 0 then (if (g_X10_isWord M ty 8) = 0 then (if (v1 1 4) = 0 then (17 : Int32) else (0 : Int32)) else (g_X10_noCount v1 n)) else (g_X10_noClose v1 n)) else (0 : Int32)) h600 tk1 h).2.1, (e_X10_ends v1 (if (v1 0 18) = 0 then (if (g_X10_isWord M ty 6) = 0 then (if (g_X10_isWord M ty 8) = 0 then (if (v1 1 4) = 0 then (17 : Int32) else (0 : Int32)) else (g_X10_noCount v1 n)) else (g_X10_noClose v1 n)) else (0 : Int32)) h600 tk1 h).2.2.2⟩
    by_cases c6 : v2.1 = 0
    · skip
      unfold g_X10_bareDeed
      (try rw [ev1])
      (try rw [ev2])
      rw [if_neg c1, if_pos c6]
      exact (zWn.of lw2 hwi)
    · skip
      obtain ⟨v3, hv3⟩ : ∃ v, v = (g_X10_closeIt v2.2 n) := ⟨_, rfl⟩
      have ev3 : (d_X10_bareDeed_3 M ty n oz) = v3 := by unfold d_X10_bareDeed_3; (try rw [ev2]); exact hv3.symm
      have tk3 : zTkP ty v3.2 := by rw [hv3]; exact zTkP.of (fr_X10_closeIt v2.2 n 0 (by decide)) tk2
      unfold g_X10_bareDeed
      (try rw [ev1])
      (try rw [ev2])
      (try rw [ev3])
      rw [if_neg c1, if_neg c6]
      rw [hv3]
      exact (wi_X10_closeIt v2.2 n (zHk.of (congrFun (by rw [hv2]; exact (fr_X10_ends v1 (if (v1 0 18) = 0 then (if (g_X10_isWord M ty 6) = 0 then (if (g_X10_isWord M ty 8) = 0 then (if (v1 1 4) = 0 then (17 : Int32) else (0 : Int32)) else (g_X10_noCount v1 n)) else (g_X10_noClose v1 n)) else (0 : Int32)) 1 (by decide))) 6) (zHk_close (M := v1) (zHd.of2 (congrFun lw1 4) (congrFun lw1 6) hd) (by have h := (en2 c6).2.1; rw [if_pos (en2 c6).1] at h; (try simp only [if_neg c1, if_neg c6] at h); exact h))) (zWn.of lw2 hwi))
set_option maxRecDepth 100000 in
theorem wi_X10_deed (M : zM) (ty : Nat) (n : Nat) (oz : Nat) (h600 : ty ≤ 600) (htk : zTkP ty M) (hn : M 1 0 = nI n) (h9 : n ≤ 9) (hd : zHd M) (hv : zHv M) (hoz : M 1 9 = nI oz) (h12 : oz ≤ 12) (hP : M 1 4 = 3 → 0 < oz) : zWn n (g_X10_deed M ty n oz) := by
  have hwi : zWn n M := ⟨oz, ⟨hn, h9⟩, ⟨hoz, h12⟩, hd, hv, hP⟩
  by_cases c1 : (g_X10_isWord M ty 0) = 0
  · skip
    by_cases c2 : (g_X10_isWord M ty 1) = 0
    · skip
      by_cases c3 : (g_X10_isWord M ty 2) = 0
      · skip
        by_cases c4 : (g_X10_isWord M ty 3) = 0
        · skip
          by_cases c5 : (g_X10_isWord M ty 4) = 0
          · skip
            by_cases c6 : (g_X10_isWord M ty 7) = 0
            · skip
              by_cases c7 : (g_X10_isWord M ty 5) = 0
              · skip
                by_cases c8 : (g_X10_isWord M ty 9) = 0
                · skip
                  by_cases c9 : (g_X10_isWord M ty 12) = 0
                  · skip
                    by_cases c13 : (g_X10_isWord M ty 11) = 0
                    · skip
                      by_cases c14 : (g_X10_isWord M ty 14) = 0
                      · skip
                        by_cases c17 : (g_X10_isWord M ty 13) = 0
                        · skip
                          obtain ⟨v16, hv16⟩ : ∃ v, v = (g_X10_bareDeed M ty n oz) := ⟨_, rfl⟩
                          have ev16 : (d_X10_deed_16 M ty n oz) = v16 := by unfold d_X10_deed_16; exact hv16.symm
                          have tk16 : zTkP ty v16 := by rw [hv16]; exact (tk_X10_bareDeed M ty n oz h600 htk)
                          unfold g_X10_deed
                          (try rw [ev16])
                          rw [if_pos c1, if_pos c2, if_pos c3, if_pos c4, if_pos c5, if_pos c6, if_pos c7, if_pos c8, if_pos c9, if_pos c13, if_pos c14, if_pos c17]
                          rw [hv16]
                          exact (wi_X10_bareDeed M ty n oz h600 htk hn h9 hd hv hoz h12 hP)
                        · skip
                          obtain ⟨v17, hv17⟩ : ∃ v, v = (g_X10_scan M ty) := ⟨_, rfl⟩
                          have ev17 : (d_X10_deed_17 M ty n oz) = v17 := by unfold d_X10_deed_17; exact hv17.symm
                          have tk17 : zTkP ty v17 := by rw [hv17]; exact (tk_X10_scan M ty h600 htk)
                          have lw17 : v17 1 = M 1 := by rw [hv17]; exact (fr_X10_scan M ty 1 (by decide))
                          obtain ⟨v18, hv18⟩ : ∃ v, v = (g_X10_replicaHere v17 ty) := ⟨_, rfl⟩
                          have ev18 : (d_X10_deed_18 M ty n oz) = v18 := by unfold d_X10_deed_18; (try rw [ev17]); exact hv18.symm
                          have tk18 : zTkP ty v18.2 := by rw [hv18]; exact (tk_X10_replicaHere v17 ty h600 tk17)
                          have lw18 : v18.2 1 = M 1 := by rw [hv18]; exact ((fr_X10_replicaHere v17 ty 1 (by decide)).trans lw17)
                          have rh18 : v18.2 0 18 = 0 → v18.1 = nI v18.1.toNatClampNeg ∧ v18.1.toNatClampNeg < n ∧ v17 0 18 = 0 := by rw [hv18]; exact e_X10_replicaHere v17 ty n h600 tk17 ((congrFun lw17 0).trans hn) h9
                          obtain ⟨v19, hv19⟩ : ∃ v, v = (g_X10_replicaHere v18.2 ty) := ⟨_, rfl⟩
                          have ev19 : (d_X10_deed_19 M ty n oz) = v19 := by unfold d_X10_deed_19; (try rw [ev18]); exact hv19.symm
                          have tk19 : zTkP ty v19.2 := by rw [hv19]; exact (tk_X10_replicaHere v18.2 ty h600 tk18)
                          have lw19 : v19.2 1 = M 1 := by rw [hv19]; exact ((fr_X10_replicaHere v18.2 ty 1 (by decide)).trans lw18)
                          have rh19 : v19.2 0 18 = 0 → v19.1 = nI v19.1.toNatClampNeg ∧ v19.1.toNatClampNeg < n ∧ v18.2 0 18 = 0 := by rw [hv19]; exact e_X10_replicaHere v18.2 ty n h600 tk18 ((congrFun lw18 0).trans hn) h9
                          obtain ⟨v20, hv20⟩ : ∃ v, v = (g_X10_ends v19.2 (if (v19.2 0 18) = 0 then (g_X10_noLink v19.2 v18.1.toNatClampNeg v19.1 (g_X10_isWord M ty 14)) else (0 : Int32))) := ⟨_, rfl⟩
                          have ev20 : (d_X10_deed_20 M ty n oz) = v20 := by unfold d_X10_deed_20; (try rw [ev18]); (try rw [ev19]); exact hv20.symm
                          have tk20 : zTkP ty v20.2 := by rw [hv20]; exact (tk_X10_ends v19.2 (if (v19.2 0 18) = 0 then (g_X10_noLink v19.2 v18.1.toNatClampNeg v19.1 (g_X10_isWord M ty 14)) else (0 : Int32)) h600 tk19)
                          have lw20 : v20.2 1 = M 1 := by rw [hv20]; exact ((fr_X10_ends v19.2 (if (v19.2 0 18) = 0 then (g_X10_noLink v19.2 v18.1.toNatClampNeg v19.1 (g_X10_isWord M ty 14)) else (0 : Int32)) 1 (by decide)).trans lw19)
                          have en20 : ¬ v20.1 = 0 → v19.2 0 18 = 0 ∧ ((if (v19.2 0 18) = 0 then (g_X10_noLink v19.2 v18.1.toNatClampNeg v19.1 (g_X10_isWord M ty 14)) else (0 : Int32)) : Int32) = 0 ∧ v20.2 = v19.2 := by rw [hv20]; exact fun h => ⟨(e_X10_ends v19.2 (if (v19.2 0 18) = 0 then (g_X10_noLink v19.2 v18.1.toNatClampNeg v19.1 (g_X10_isWord M ty 14)) else (0 : Int32)) h600 tk19 h).1, (e_X10_ends v19.2 (if (v19.2 0 18) = 0 then (g_X10_noLink v19.2 v18.1.toNatClampNeg v19.1 (g_X10_isWord M ty 14)) else (0 : Int32)) h600 tk19 h).2.1, (e_X10_ends v19.2 (if (v19.2 0 18) = 0 then (g_X10_noLink v19.2 v18.1.toNatClampNeg v19.1 (g_X10_isWord M ty 14)) else (0 : Int32)) h600 tk19 h).2.2.2⟩
                          by_cases c19 : v20.1 = 0
                          · skip
                            unfold g_X10_deed
                            (try rw [ev17])
                            (try rw [ev18])
                            (try rw [ev19])
                            (try rw [ev20])
                            rw [if_pos c1, if_pos c2, if_pos c3, if_pos c4, if_pos c5, if_pos c6, if_pos c7, if_pos c8, if_pos c9, if_pos c13, if_pos c14, if_neg c17, if_pos c19]
                            exact (zWn.of lw20 hwi)
                          · skip
                            obtain ⟨v22, hv22⟩ : ∃ v, v = (g_X10_link v20.2 v18.1.toNatClampNeg v19.1.toNatClampNeg (g_X10_isWord M ty 14)) := ⟨_, rfl⟩
                            have ev22 : (d_X10_deed_22 M ty n oz) = v22 := by unfold d_X10_deed_22; (try rw [ev18]); (try rw [ev19]); (try rw [ev20]); exact hv22.symm
                            have tk22 : zTkP ty v22 := by rw [hv22]; exact zTkP.of (fr_X10_link v20.2 v18.1.toNatClampNeg v19.1.toNatClampNeg (g_X10_isWord M ty 14) 0 (by decide)) tk20
                            unfold g_X10_deed
                            (try rw [ev17])
                            (try rw [ev18])
                            (try rw [ev19])
                            (try rw [ev20])
                            (try rw [ev22])
                            rw [if_pos c1, if_pos c2, if_pos c3, if_pos c4, if_pos c5, if_pos c6, if_pos c7, if_pos c8, if_pos c9, if_pos c13, if_pos c14, if_neg c17, if_neg c19]
                            rw [hv22]
                            exact (wi_X10_link v20.2 v18.1.toNatClampNeg v19.1.toNatClampNeg (g_X10_isWord M ty 14) (zWn.of lw20 hwi))
                      · skip
                        obtain ⟨v10, hv10⟩ : ∃ v, v = (g_X10_scan M ty) := ⟨_, rfl⟩
                        have ev10 : (d_X10_deed_10 M ty n oz) = v10 := by unfold d_X10_deed_10; exact hv10.symm
                        have tk10 : zTkP ty v10 := by rw [hv10]; exact (tk_X10_scan M ty h600 htk)
                        have lw10 : v10 1 = M 1 := by rw [hv10]; exact (fr_X10_scan M ty 1 (by decide))
                        obtain ⟨v11, hv11⟩ : ∃ v, v = (g_X10_replicaHere v10 ty) := ⟨_, rfl⟩
                        have ev11 : (d_X10_deed_11 M ty n oz) = v11 := by unfold d_X10_deed_11; (try rw [ev10]); exact hv11.symm
                        have tk11 : zTkP ty v11.2 := by rw [hv11]; exact (tk_X10_replicaHere v10 ty h600 tk10)
                        have lw11 : v11.2 1 = M 1 := by rw [hv11]; exact ((fr_X10_replicaHere v10 ty 1 (by decide)).trans lw10)
                        have rh11 : v11.2 0 18 = 0 → v11.1 = nI v11.1.toNatClampNeg ∧ v11.1.toNatClampNeg < n ∧ v10 0 18 = 0 := by rw [hv11]; exact e_X10_replicaHere v10 ty n h600 tk10 ((congrFun lw10 0).trans hn) h9
                        obtain ⟨v12, hv12⟩ : ∃ v, v = (g_X10_replicaHere v11.2 ty) := ⟨_, rfl⟩
                        have ev12 : (d_X10_deed_12 M ty n oz) = v12 := by unfold d_X10_deed_12; (try rw [ev11]); exact hv12.symm
                        have tk12 : zTkP ty v12.2 := by rw [hv12]; exact (tk_X10_replicaHere v11.2 ty h600 tk11)
                        have lw12 : v12.2 1 = M 1 := by rw [hv12]; exact ((fr_X10_replicaHere v11.2 ty 1 (by decide)).trans lw11)
                        have rh12 : v12.2 0 18 = 0 → v12.1 = nI v12.1.toNatClampNeg ∧ v12.1.toNatClampNeg < n ∧ v11.2 0 18 = 0 := by rw [hv12]; exact e_X10_replicaHere v11.2 ty n h600 tk11 ((congrFun lw11 0).trans hn) h9
                        obtain ⟨v13, hv13⟩ : ∃ v, v = (g_X10_ends v12.2 (if (v12.2 0 18) = 0 then (g_X10_noLink v12.2 v11.1.toNatClampNeg v12.1 (g_X10_isWord M ty 14)) else (0 : Int32))) := ⟨_, rfl⟩
                        have ev13 : (d_X10_deed_13 M ty n oz) = v13 := by unfold d_X10_deed_13; (try rw [ev11]); (try rw [ev12]); exact hv13.symm
                        have tk13 : zTkP ty v13.2 := by rw [hv13]; exact (tk_X10_ends v12.2 (if (v12.2 0 18) = 0 then (g_X10_noLink v12.2 v11.1.toNatClampNeg v12.1 (g_X10_isWord M ty 14)) else (0 : Int32)) h600 tk12)
                        have lw13 : v13.2 1 = M 1 := by rw [hv13]; exact ((fr_X10_ends v12.2 (if (v12.2 0 18) = 0 then (g_X10_noLink v12.2 v11.1.toNatClampNeg v12.1 (g_X10_isWord M ty 14)) else (0 : Int32)) 1 (by decide)).trans lw12)
                        have en13 : ¬ v13.1 = 0 → v12.2 0 18 = 0 ∧ ((if (v12.2 0 18) = 0 then (g_X10_noLink v12.2 v11.1.toNatClampNeg v12.1 (g_X10_isWord M ty 14)) else (0 : Int32)) : Int32) = 0 ∧ v13.2 = v12.2 := by rw [hv13]; exact fun h => ⟨(e_X10_ends v12.2 (if (v12.2 0 18) = 0 then (g_X10_noLink v12.2 v11.1.toNatClampNeg v12.1 (g_X10_isWord M ty 14)) else (0 : Int32)) h600 tk12 h).1, (e_X10_ends v12.2 (if (v12.2 0 18) = 0 then (g_X10_noLink v12.2 v11.1.toNatClampNeg v12.1 (g_X10_isWord M ty 14)) else (0 : Int32)) h600 tk12 h).2.1, (e_X10_ends v12.2 (if (v12.2 0 18) = 0 then (g_X10_noLink v12.2 v11.1.toNatClampNeg v12.1 (g_X10_isWord M ty 14)) else (0 : Int32)) h600 tk12 h).2.2.2⟩
                        by_cases c16 : v13.1 = 0
                        · skip
                          unfold g_X10_deed
                          (try rw [ev10])
                          (try rw [ev11])
                          (try rw [ev12])
                          (try rw [ev13])
                          rw [if_pos c1, if_pos c2, if_pos c3, if_pos c4, if_pos c5, if_pos c6, if_pos c7, if_pos c8, if_pos c9, if_pos c13, if_neg c14, if_pos c16]
                          exact (zWn.of lw13 hwi)
                        · skip
                          obtain ⟨v15, hv15⟩ : ∃ v, v = (g_X10_link v13.2 v11.1.toNatClampNeg v12.1.toNatClampNeg (g_X10_isWord M ty 14)) := ⟨_, rfl⟩
                          have ev15 : (d_X10_deed_15 M ty n oz) = v15 := by unfold d_X10_deed_15; (try rw [ev11]); (try rw [ev12]); (try rw [ev13]); exact hv15.symm
                          have tk15 : zTkP ty v15 := by rw [hv15]; exact zTkP.of (fr_X10_link v13.2 v11.1.toNatClampNeg v12.1.toNatClampNeg (g_X10_isWord M ty 14) 0 (by decide)) tk13
                          unfold g_X10_deed
                          (try rw [ev10])
                          (try rw [ev11])
                          (try rw [ev12])
                          (try rw [ev13])
                          (try rw [ev15])
                          rw [if_pos c1, if_pos c2, if_pos c3, if_pos c4, if_pos c5, if_pos c6, if_pos c7, if_pos c8, if_pos c9, if_pos c13, if_neg c14, if_neg c16]
                          rw [hv15]
                          exact (wi_X10_link v13.2 v11.1.toNatClampNeg v12.1.toNatClampNeg (g_X10_isWord M ty 14) (zWn.of lw13 hwi))
                    · skip
                      obtain ⟨v23, hv23⟩ : ∃ v, v = (g_X10_scan M ty) := ⟨_, rfl⟩
                      have ev23 : (d_X10_deed_23 M ty n oz) = v23 := by unfold d_X10_deed_23; exact hv23.symm
                      have tk23 : zTkP ty v23 := by rw [hv23]; exact (tk_X10_scan M ty h600 htk)
                      have lw23 : v23 1 = M 1 := by rw [hv23]; exact (fr_X10_scan M ty 1 (by decide))
                      obtain ⟨v24, hv24⟩ : ∃ v, v = (g_X10_replicaHere v23 ty) := ⟨_, rfl⟩
                      have ev24 : (d_X10_deed_24 M ty n oz) = v24 := by unfold d_X10_deed_24; (try rw [ev23]); exact hv24.symm
                      have tk24 : zTkP ty v24.2 := by rw [hv24]; exact (tk_X10_replicaHere v23 ty h600 tk23)
                      have lw24 : v24.2 1 = M 1 := by rw [hv24]; exact ((fr_X10_replicaHere v23 ty 1 (by decide)).trans lw23)
                      have rh24 : v24.2 0 18 = 0 → v24.1 = nI v24.1.toNatClampNeg ∧ v24.1.toNatClampNeg < n ∧ v23 0 18 = 0 := by rw [hv24]; exact e_X10_replicaHere v23 ty n h600 tk23 ((congrFun lw23 0).trans hn) h9
                      obtain ⟨v25, hv25⟩ : ∃ v, v = (g_X10_ends v24.2 (if (v24.2 0 18) = 0 then (if (g_X10_isUp v24.2 v24.1.toNatClampNeg) = (g_X10_isWord M ty 12) then (16 : Int32) else (0 : Int32)) else (0 : Int32))) := ⟨_, rfl⟩
                      have ev25 : (d_X10_deed_25 M ty n oz) = v25 := by unfold d_X10_deed_25; (try rw [ev24]); exact hv25.symm
                      have tk25 : zTkP ty v25.2 := by rw [hv25]; exact (tk_X10_ends v24.2 (if (v24.2 0 18) = 0 then (if (g_X10_isUp v24.2 v24.1.toNatClampNeg) = (g_X10_isWord M ty 12) then (16 : Int32) else (0 : Int32)) else (0 : Int32)) h600 tk24)
                      have lw25 : v25.2 1 = M 1 := by rw [hv25]; exact ((fr_X10_ends v24.2 (if (v24.2 0 18) = 0 then (if (g_X10_isUp v24.2 v24.1.toNatClampNeg) = (g_X10_isWord M ty 12) then (16 : Int32) else (0 : Int32)) else (0 : Int32)) 1 (by decide)).trans lw24)
                      have en25 : ¬ v25.1 = 0 → v24.2 0 18 = 0 ∧ ((if (v24.2 0 18) = 0 then (if (g_X10_isUp v24.2 v24.1.toNatClampNeg) = (g_X10_isWord M ty 12) then (16 : Int32) else (0 : Int32)) else (0 : Int32)) : Int32) = 0 ∧ v25.2 = v24.2 := by rw [hv25]; exact fun h => ⟨(e_X10_ends v24.2 (if (v24.2 0 18) = 0 then (if (g_X10_isUp v24.2 v24.1.toNatClampNeg) = (g_X10_isWord M ty 12) then (16 : Int32) else (0 : Int32)) else (0 : Int32)) h600 tk24 h).1, (e_X10_ends v24.2 (if (v24.2 0 18) = 0 then (if (g_X10_isUp v24.2 v24.1.toNatClampNeg) = (g_X10_isWord M ty 12) then (16 : Int32) else (0 : Int32)) else (0 : Int32)) h600 tk24 h).2.1, (e_X10_ends v24.2 (if (v24.2 0 18) = 0 then (if (g_X10_isUp v24.2 v24.1.toNatClampNeg) = (g_X10_isWord M ty 12) then (16 : Int32) else (0 : Int32)) else (0 : Int32)) h600 tk24 h).2.2.2⟩
                      by_cases c22 : v25.1 = 0
                      · skip
                        unfold g_X10_deed
                        (try rw [ev23])
                        (try rw [ev24])
                        (try rw [ev25])
                        rw [if_pos c1, if_pos c2, if_pos c3, if_pos c4, if_pos c5, if_pos c6, if_pos c7, if_pos c8, if_pos c9, if_neg c13, if_pos c22]
                        exact (zWn.of lw25 hwi)
                      · skip
                        obtain ⟨v27, hv27⟩ : ∃ v, v = (g_X10_upIt v25.2 n v24.1.toNatClampNeg (g_X10_isWord M ty 12)) := ⟨_, rfl⟩
                        have ev27 : (d_X10_deed_27 M ty n oz) = v27 := by unfold d_X10_deed_27; (try rw [ev24]); (try rw [ev25]); exact hv27.symm
                        have tk27 : zTkP ty v27.2 := by rw [hv27]; exact zTkP.of (fr_X10_upIt v25.2 n v24.1.toNatClampNeg (g_X10_isWord M ty 12) 0 (by decide)) tk25
                        unfold g_X10_deed
                        (try rw [ev23])
                        (try rw [ev24])
                        (try rw [ev25])
                        (try rw [ev27])
                        rw [if_pos c1, if_pos c2, if_pos c3, if_pos c4, if_pos c5, if_pos c6, if_pos c7, if_pos c8, if_pos c9, if_neg c13, if_neg c22]
                        rw [hv27]
                        exact (wi_X10_upIt v25.2 n v24.1.toNatClampNeg (g_X10_isWord M ty 12) (zWn.of lw25 hwi))
                  · skip
                    obtain ⟨v5, hv5⟩ : ∃ v, v = (g_X10_scan M ty) := ⟨_, rfl⟩
                    have ev5 : (d_X10_deed_5 M ty n oz) = v5 := by unfold d_X10_deed_5; exact hv5.symm
                    have tk5 : zTkP ty v5 := by rw [hv5]; exact (tk_X10_scan M ty h600 htk)
                    have lw5 : v5 1 = M 1 := by rw [hv5]; exact (fr_X10_scan M ty 1 (by decide))
                    obtain ⟨v6, hv6⟩ : ∃ v, v = (g_X10_replicaHere v5 ty) := ⟨_, rfl⟩
                    have ev6 : (d_X10_deed_6 M ty n oz) = v6 := by unfold d_X10_deed_6; (try rw [ev5]); exact hv6.symm
                    have tk6 : zTkP ty v6.2 := by rw [hv6]; exact (tk_X10_replicaHere v5 ty h600 tk5)
                    have lw6 : v6.2 1 = M 1 := by rw [hv6]; exact ((fr_X10_replicaHere v5 ty 1 (by decide)).trans lw5)
                    have rh6 : v6.2 0 18 = 0 → v6.1 = nI v6.1.toNatClampNeg ∧ v6.1.toNatClampNeg < n ∧ v5 0 18 = 0 := by rw [hv6]; exact e_X10_replicaHere v5 ty n h600 tk5 ((congrFun lw5 0).trans hn) h9
                    obtain ⟨v7, hv7⟩ : ∃ v, v = (g_X10_ends v6.2 (if (v6.2 0 18) = 0 then (if (g_X10_isUp v6.2 v6.1.toNatClampNeg) = (g_X10_isWord M ty 12) then (16 : Int32) else (0 : Int32)) else (0 : Int32))) := ⟨_, rfl⟩
                    have ev7 : (d_X10_deed_7 M ty n oz) = v7 := by unfold d_X10_deed_7; (try rw [ev6]); exact hv7.symm
                    have tk7 : zTkP ty v7.2 := by rw [hv7]; exact (tk_X10_ends v6.2 (if (v6.2 0 18) = 0 then (if (g_X10_isUp v6.2 v6.1.toNatClampNeg) = (g_X10_isWord M ty 12) then (16 : Int32) else (0 : Int32)) else (0 : Int32)) h600 tk6)
                    have lw7 : v7.2 1 = M 1 := by rw [hv7]; exact ((fr_X10_ends v6.2 (if (v6.2 0 18) = 0 then (if (g_X10_isUp v6.2 v6.1.toNatClampNeg) = (g_X10_isWord M ty 12) then (16 : Int32) else (0 : Int32)) else (0 : Int32)) 1 (by decide)).trans lw6)
                    have en7 : ¬ v7.1 = 0 → v6.2 0 18 = 0 ∧ ((if (v6.2 0 18) = 0 then (if (g_X10_isUp v6.2 v6.1.toNatClampNeg) = (g_X10_isWord M ty 12) then (16 : Int32) else (0 : Int32)) else (0 : Int32)) : Int32) = 0 ∧ v7.2 = v6.2 := by rw [hv7]; exact fun h => ⟨(e_X10_ends v6.2 (if (v6.2 0 18) = 0 then (if (g_X10_isUp v6.2 v6.1.toNatClampNeg) = (g_X10_isWord M ty 12) then (16 : Int32) else (0 : Int32)) else (0 : Int32)) h600 tk6 h).1, (e_X10_ends v6.2 (if (v6.2 0 18) = 0 then (if (g_X10_isUp v6.2 v6.1.toNatClampNeg) = (g_X10_isWord M ty 12) then (16 : Int32) else (0 : Int32)) else (0 : Int32)) h600 tk6 h).2.1, (e_X10_ends v6.2 (if (v6.2 0 18) = 0 then (if (g_X10_isUp v6.2 v6.1.toNatClampNeg) = (g_X10_isWord M ty 12) then (16 : Int32) else (0 : Int32)) else (0 : Int32)) h600 tk6 h).2.2.2⟩
                    by_cases c12 : v7.1 = 0
                    · skip
                      unfold g_X10_deed
                      (try rw [ev5])
                      (try rw [ev6])
                      (try rw [ev7])
                      rw [if_pos c1, if_pos c2, if_pos c3, if_pos c4, if_pos c5, if_pos c6, if_pos c7, if_pos c8, if_neg c9, if_pos c12]
                      exact (zWn.of lw7 hwi)
                    · skip
                      obtain ⟨v9, hv9⟩ : ∃ v, v = (g_X10_upIt v7.2 n v6.1.toNatClampNeg (g_X10_isWord M ty 12)) := ⟨_, rfl⟩
                      have ev9 : (d_X10_deed_9 M ty n oz) = v9 := by unfold d_X10_deed_9; (try rw [ev6]); (try rw [ev7]); exact hv9.symm
                      have tk9 : zTkP ty v9.2 := by rw [hv9]; exact zTkP.of (fr_X10_upIt v7.2 n v6.1.toNatClampNeg (g_X10_isWord M ty 12) 0 (by decide)) tk7
                      unfold g_X10_deed
                      (try rw [ev5])
                      (try rw [ev6])
                      (try rw [ev7])
                      (try rw [ev9])
                      rw [if_pos c1, if_pos c2, if_pos c3, if_pos c4, if_pos c5, if_pos c6, if_pos c7, if_pos c8, if_neg c9, if_neg c12]
                      rw [hv9]
                      exact (wi_X10_upIt v7.2 n v6.1.toNatClampNeg (g_X10_isWord M ty 12) (zWn.of lw7 hwi))
                · skip
                  obtain ⟨v28, hv28⟩ : ∃ v, v = (g_X10_scan M ty) := ⟨_, rfl⟩
                  have ev28 : (d_X10_deed_28 M ty n oz) = v28 := by unfold d_X10_deed_28; exact hv28.symm
                  have tk28 : zTkP ty v28 := by rw [hv28]; exact (tk_X10_scan M ty h600 htk)
                  have lw28 : v28 1 = M 1 := by rw [hv28]; exact (fr_X10_scan M ty 1 (by decide))
                  obtain ⟨v29, hv29⟩ : ∃ v, v = (g_X10_replicaHere v28 ty) := ⟨_, rfl⟩
                  have ev29 : (d_X10_deed_29 M ty n oz) = v29 := by unfold d_X10_deed_29; (try rw [ev28]); exact hv29.symm
                  have tk29 : zTkP ty v29.2 := by rw [hv29]; exact (tk_X10_replicaHere v28 ty h600 tk28)
                  have lw29 : v29.2 1 = M 1 := by rw [hv29]; exact ((fr_X10_replicaHere v28 ty 1 (by decide)).trans lw28)
                  have rh29 : v29.2 0 18 = 0 → v29.1 = nI v29.1.toNatClampNeg ∧ v29.1.toNatClampNeg < n ∧ v28 0 18 = 0 := by rw [hv29]; exact e_X10_replicaHere v28 ty n h600 tk28 ((congrFun lw28 0).trans hn) h9
                  obtain ⟨v30, hv30⟩ : ∃ v, v = (g_X10_ends v29.2 (if (v29.2 0 18) = 0 then (g_X10_noRecount v29.2 oz v29.1.toNatClampNeg) else (0 : Int32))) := ⟨_, rfl⟩
                  have ev30 : (d_X10_deed_30 M ty n oz) = v30 := by unfold d_X10_deed_30; (try rw [ev29]); exact hv30.symm
                  have tk30 : zTkP ty v30.2 := by rw [hv30]; exact (tk_X10_ends v29.2 (if (v29.2 0 18) = 0 then (g_X10_noRecount v29.2 oz v29.1.toNatClampNeg) else (0 : Int32)) h600 tk29)
                  have lw30 : v30.2 1 = M 1 := by rw [hv30]; exact ((fr_X10_ends v29.2 (if (v29.2 0 18) = 0 then (g_X10_noRecount v29.2 oz v29.1.toNatClampNeg) else (0 : Int32)) 1 (by decide)).trans lw29)
                  have en30 : ¬ v30.1 = 0 → v29.2 0 18 = 0 ∧ ((if (v29.2 0 18) = 0 then (g_X10_noRecount v29.2 oz v29.1.toNatClampNeg) else (0 : Int32)) : Int32) = 0 ∧ v30.2 = v29.2 := by rw [hv30]; exact fun h => ⟨(e_X10_ends v29.2 (if (v29.2 0 18) = 0 then (g_X10_noRecount v29.2 oz v29.1.toNatClampNeg) else (0 : Int32)) h600 tk29 h).1, (e_X10_ends v29.2 (if (v29.2 0 18) = 0 then (g_X10_noRecount v29.2 oz v29.1.toNatClampNeg) else (0 : Int32)) h600 tk29 h).2.1, (e_X10_ends v29.2 (if (v29.2 0 18) = 0 then (g_X10_noRecount v29.2 oz v29.1.toNatClampNeg) else (0 : Int32)) h600 tk29 h).2.2.2⟩
                  by_cases c24 : v30.1 = 0
                  · skip
                    unfold g_X10_deed
                    (try rw [ev28])
                    (try rw [ev29])
                    (try rw [ev30])
                    rw [if_pos c1, if_pos c2, if_pos c3, if_pos c4, if_pos c5, if_pos c6, if_pos c7, if_neg c8, if_pos c24]
                    exact (zWn.of lw30 hwi)
                  · skip
                    obtain ⟨v32, hv32⟩ : ∃ v, v = (g_X10_recountIt v30.2 n oz) := ⟨_, rfl⟩
                    have ev32 : (d_X10_deed_32 M ty n oz) = v32 := by unfold d_X10_deed_32; (try rw [ev30]); exact hv32.symm
                    have tk32 : zTkP ty v32.2 := by rw [hv32]; exact zTkP.of (fr_X10_recountIt v30.2 n oz 0 (by decide)) tk30
                    unfold g_X10_deed
                    (try rw [ev28])
                    (try rw [ev29])
                    (try rw [ev30])
                    (try rw [ev32])
                    rw [if_pos c1, if_pos c2, if_pos c3, if_pos c4, if_pos c5, if_pos c6, if_pos c7, if_neg c8, if_neg c24]
                    rw [hv32]
                    exact (wi_X10_recountIt v30.2 n oz ((congrFun lw30 9).trans hoz) h12 (zHp_rec (M := v29.2) (fun e => hP (((congrFun lw29 4)).symm.trans e)) (by have h := (en30 c24).2.1; rw [if_pos (en30 c24).1] at h; exact h)) (zHk.of (congrFun (by rw [hv30]; exact (fr_X10_ends v29.2 (if (v29.2 0 18) = 0 then (g_X10_noRecount v29.2 oz v29.1.toNatClampNeg) else (0 : Int32)) 1 (by decide))) 6) (zHk_rec (M := v29.2) (zHd.of2 (congrFun lw29 4) (congrFun lw29 6) hd) (by have h := (en30 c24).2.1; rw [if_pos (en30 c24).1] at h; (try simp only [if_pos c1, if_pos c2, if_pos c3, if_pos c4, if_pos c5, if_pos c6, if_pos c7, if_neg c8, if_neg c24] at h); exact h))) (zWn.of lw30 hwi))
              · skip
                obtain ⟨v33, hv33⟩ : ∃ v, v = (g_X10_scan M ty) := ⟨_, rfl⟩
                have ev33 : (d_X10_deed_33 M ty n oz) = v33 := by unfold d_X10_deed_33; exact hv33.symm
                have tk33 : zTkP ty v33 := by rw [hv33]; exact (tk_X10_scan M ty h600 htk)
                have lw33 : v33 1 = M 1 := by rw [hv33]; exact (fr_X10_scan M ty 1 (by decide))
                obtain ⟨v34, hv34⟩ : ∃ v, v = (g_X10_replicaHere v33 ty) := ⟨_, rfl⟩
                have ev34 : (d_X10_deed_34 M ty n oz) = v34 := by unfold d_X10_deed_34; (try rw [ev33]); exact hv34.symm
                have tk34 : zTkP ty v34.2 := by rw [hv34]; exact (tk_X10_replicaHere v33 ty h600 tk33)
                have lw34 : v34.2 1 = M 1 := by rw [hv34]; exact ((fr_X10_replicaHere v33 ty 1 (by decide)).trans lw33)
                have rh34 : v34.2 0 18 = 0 → v34.1 = nI v34.1.toNatClampNeg ∧ v34.1.toNatClampNeg < n ∧ v33 0 18 = 0 := by rw [hv34]; exact e_X10_replicaHere v33 ty n h600 tk33 ((congrFun lw33 0).trans hn) h9
                obtain ⟨v35, hv35⟩ : ∃ v, v = (g_X10_read v34.2 ty 0 65535) := ⟨_, rfl⟩
                have ev35 : (d_X10_deed_35 M ty n oz) = v35 := by unfold d_X10_deed_35; (try rw [ev34]); exact hv35.symm
                have tk35 : zTkP ty v35.2 := by rw [hv35]; exact (tk_X10_read v34.2 ty 0 65535 h600 tk34)
                have lw35 : v35.2 1 = M 1 := by rw [hv35]; exact ((fr_X10_read v34.2 ty 0 65535 1 (by decide)).trans lw34)
                have rd35 : v35.2 0 18 = 0 → v34.2 0 18 = 0 := by rw [hv35]; exact fun h => (e_X10_read v34.2 ty 0 65535 h600 tk34 h).2.2
                obtain ⟨v36, hv36⟩ : ∃ v, v = (g_X10_ends v35.2 (if (v35.2 0 18) = 0 then (g_X10_noSeal v35.2 v34.1.toNatClampNeg) else (0 : Int32))) := ⟨_, rfl⟩
                have ev36 : (d_X10_deed_36 M ty n oz) = v36 := by unfold d_X10_deed_36; (try rw [ev34]); (try rw [ev35]); exact hv36.symm
                have tk36 : zTkP ty v36.2 := by rw [hv36]; exact (tk_X10_ends v35.2 (if (v35.2 0 18) = 0 then (g_X10_noSeal v35.2 v34.1.toNatClampNeg) else (0 : Int32)) h600 tk35)
                have lw36 : v36.2 1 = M 1 := by rw [hv36]; exact ((fr_X10_ends v35.2 (if (v35.2 0 18) = 0 then (g_X10_noSeal v35.2 v34.1.toNatClampNeg) else (0 : Int32)) 1 (by decide)).trans lw35)
                have en36 : ¬ v36.1 = 0 → v35.2 0 18 = 0 ∧ ((if (v35.2 0 18) = 0 then (g_X10_noSeal v35.2 v34.1.toNatClampNeg) else (0 : Int32)) : Int32) = 0 ∧ v36.2 = v35.2 := by rw [hv36]; exact fun h => ⟨(e_X10_ends v35.2 (if (v35.2 0 18) = 0 then (g_X10_noSeal v35.2 v34.1.toNatClampNeg) else (0 : Int32)) h600 tk35 h).1, (e_X10_ends v35.2 (if (v35.2 0 18) = 0 then (g_X10_noSeal v35.2 v34.1.toNatClampNeg) else (0 : Int32)) h600 tk35 h).2.1, (e_X10_ends v35.2 (if (v35.2 0 18) = 0 then (g_X10_noSeal v35.2 v34.1.toNatClampNeg) else (0 : Int32)) h600 tk35 h).2.2.2⟩
                by_cases c26 : v36.1 = 0
                · skip
                  unfold g_X10_deed
                  (try rw [ev33])
                  (try rw [ev34])
                  (try rw [ev35])
                  (try rw [ev36])
                  rw [if_pos c1, if_pos c2, if_pos c3, if_pos c4, if_pos c5, if_pos c6, if_neg c7, if_pos c26]
                  exact (zWn.of lw36 hwi)
                · skip
                  obtain ⟨v38, hv38⟩ : ∃ v, v = (g_X10_sealIt v36.2 n v34.1.toNatClampNeg v35.1) := ⟨_, rfl⟩
                  have ev38 : (d_X10_deed_38 M ty n oz) = v38 := by unfold d_X10_deed_38; (try rw [ev34]); (try rw [ev35]); (try rw [ev36]); exact hv38.symm
                  have tk38 : zTkP ty v38.2 := by rw [hv38]; exact zTkP.of (fr_X10_sealIt v36.2 n v34.1.toNatClampNeg v35.1 0 (by decide)) tk36
                  unfold g_X10_deed
                  (try rw [ev33])
                  (try rw [ev34])
                  (try rw [ev35])
                  (try rw [ev36])
                  (try rw [ev38])
                  rw [if_pos c1, if_pos c2, if_pos c3, if_pos c4, if_pos c5, if_pos c6, if_neg c7, if_neg c26]
                  rw [hv38]
                  exact (wi_X10_sealIt v36.2 n v34.1.toNatClampNeg v35.1 (zWn.of lw36 hwi))
            · skip
              obtain ⟨v39, hv39⟩ : ∃ v, v = (g_X10_scan M ty) := ⟨_, rfl⟩
              have ev39 : (d_X10_deed_39 M ty n oz) = v39 := by unfold d_X10_deed_39; exact hv39.symm
              have tk39 : zTkP ty v39 := by rw [hv39]; exact (tk_X10_scan M ty h600 htk)
              have lw39 : v39 1 = M 1 := by rw [hv39]; exact (fr_X10_scan M ty 1 (by decide))
              obtain ⟨v40, hv40⟩ : ∃ v, v = (g_X10_threeNumbers v39 ty n (g_X10_isWord M ty 4)) := ⟨_, rfl⟩
              have ev40 : (d_X10_deed_40 M ty n oz) = v40 := by unfold d_X10_deed_40; (try rw [ev39]); exact hv40.symm
              have tk40 : zTkP ty v40 := by rw [hv40]; exact (tk_X10_threeNumbers v39 ty n (g_X10_isWord M ty 4) h600 tk39)
              unfold g_X10_deed
              (try rw [ev39])
              (try rw [ev40])
              rw [if_pos c1, if_pos c2, if_pos c3, if_pos c4, if_pos c5, if_neg c6]
              rw [hv40]
              exact (wi_X10_threeNumbers v39 ty n (g_X10_isWord M ty 4) h600 tk39 ((congrFun lw39 0).trans hn) h9 (zHd.of2 (congrFun lw39 4) (congrFun lw39 6) hd) (zWn.of lw39 hwi))
          · skip
            obtain ⟨v3, hv3⟩ : ∃ v, v = (g_X10_scan M ty) := ⟨_, rfl⟩
            have ev3 : (d_X10_deed_3 M ty n oz) = v3 := by unfold d_X10_deed_3; exact hv3.symm
            have tk3 : zTkP ty v3 := by rw [hv3]; exact (tk_X10_scan M ty h600 htk)
            have lw3 : v3 1 = M 1 := by rw [hv3]; exact (fr_X10_scan M ty 1 (by decide))
            obtain ⟨v4, hv4⟩ : ∃ v, v = (g_X10_threeNumbers v3 ty n (g_X10_isWord M ty 4)) := ⟨_, rfl⟩
            have ev4 : (d_X10_deed_4 M ty n oz) = v4 := by unfold d_X10_deed_4; (try rw [ev3]); exact hv4.symm
            have tk4 : zTkP ty v4 := by rw [hv4]; exact (tk_X10_threeNumbers v3 ty n (g_X10_isWord M ty 4) h600 tk3)
            unfold g_X10_deed
            (try rw [ev3])
            (try rw [ev4])
            rw [if_pos c1, if_pos c2, if_pos c3, if_pos c4, if_neg c5]
            rw [hv4]
            exact (wi_X10_threeNumbers v3 ty n (g_X10_isWord M ty 4) h600 tk3 ((congrFun lw3 0).trans hn) h9 (zHd.of2 (congrFun lw3 4) (congrFun lw3 6) hd) (zWn.of lw3 hwi))
        · skip
          obtain ⟨v41, hv41⟩ : ∃ v, v = (g_X10_scan M ty) := ⟨_, rfl⟩
          have ev41 : (d_X10_deed_41 M ty n oz) = v41 := by unfold d_X10_deed_41; exact hv41.symm
          have tk41 : zTkP ty v41 := by rw [hv41]; exact (tk_X10_scan M ty h600 htk)
          have lw41 : v41 1 = M 1 := by rw [hv41]; exact (fr_X10_scan M ty 1 (by decide))
          obtain ⟨v42, hv42⟩ : ∃ v, v = (g_X10_replicaHere v41 ty) := ⟨_, rfl⟩
          have ev42 : (d_X10_deed_42 M ty n oz) = v42 := by unfold d_X10_deed_42; (try rw [ev41]); exact hv42.symm
          have tk42 : zTkP ty v42.2 := by rw [hv42]; exact (tk_X10_replicaHere v41 ty h600 tk41)
          have lw42 : v42.2 1 = M 1 := by rw [hv42]; exact ((fr_X10_replicaHere v41 ty 1 (by decide)).trans lw41)
          have rh42 : v42.2 0 18 = 0 → v42.1 = nI v42.1.toNatClampNeg ∧ v42.1.toNatClampNeg < n ∧ v41 0 18 = 0 := by rw [hv42]; exact e_X10_replicaHere v41 ty n h600 tk41 ((congrFun lw41 0).trans hn) h9
          obtain ⟨v43, hv43⟩ : ∃ v, v = (g_X10_ends v42.2 (if (v42.2 0 18) = 0 then (g_X10_noCall v42.2 n v42.1.toNatClampNeg) else (0 : Int32))) := ⟨_, rfl⟩
          have ev43 : (d_X10_deed_43 M ty n oz) = v43 := by unfold d_X10_deed_43; (try rw [ev42]); exact hv43.symm
          have tk43 : zTkP ty v43.2 := by rw [hv43]; exact (tk_X10_ends v42.2 (if (v42.2 0 18) = 0 then (g_X10_noCall v42.2 n v42.1.toNatClampNeg) else (0 : Int32)) h600 tk42)
          have lw43 : v43.2 1 = M 1 := by rw [hv43]; exact ((fr_X10_ends v42.2 (if (v42.2 0 18) = 0 then (g_X10_noCall v42.2 n v42.1.toNatClampNeg) else (0 : Int32)) 1 (by decide)).trans lw42)
          have en43 : ¬ v43.1 = 0 → v42.2 0 18 = 0 ∧ ((if (v42.2 0 18) = 0 then (g_X10_noCall v42.2 n v42.1.toNatClampNeg) else (0 : Int32)) : Int32) = 0 ∧ v43.2 = v42.2 := by rw [hv43]; exact fun h => ⟨(e_X10_ends v42.2 (if (v42.2 0 18) = 0 then (g_X10_noCall v42.2 n v42.1.toNatClampNeg) else (0 : Int32)) h600 tk42 h).1, (e_X10_ends v42.2 (if (v42.2 0 18) = 0 then (g_X10_noCall v42.2 n v42.1.toNatClampNeg) else (0 : Int32)) h600 tk42 h).2.1, (e_X10_ends v42.2 (if (v42.2 0 18) = 0 then (g_X10_noCall v42.2 n v42.1.toNatClampNeg) else (0 : Int32)) h600 tk42 h).2.2.2⟩
          by_cases c28 : v43.1 = 0
          · skip
            unfold g_X10_deed
            (try rw [ev41])
            (try rw [ev42])
            (try rw [ev43])
            rw [if_pos c1, if_pos c2, if_pos c3, if_neg c4, if_pos c28]
            exact (zWn.of lw43 hwi)
          · skip
            obtain ⟨v45, hv45⟩ : ∃ v, v = (g_X10_callIt v43.2 n v42.1.toNatClampNeg) := ⟨_, rfl⟩
            have ev45 : (d_X10_deed_45 M ty n oz) = v45 := by unfold d_X10_deed_45; (try rw [ev42]); (try rw [ev43]); exact hv45.symm
            have tk45 : zTkP ty v45.2 := by rw [hv45]; exact zTkP.of (fr_X10_callIt v43.2 n v42.1.toNatClampNeg 0 (by decide)) tk43
            unfold g_X10_deed
            (try rw [ev41])
            (try rw [ev42])
            (try rw [ev43])
            (try rw [ev45])
            rw [if_pos c1, if_pos c2, if_pos c3, if_neg c4, if_neg c28]
            rw [hv45]
            exact (wi_X10_callIt v43.2 n v42.1.toNatClampNeg (Nat.lt_of_lt_of_le (rh42 (en43 c28).1).2.1 h9) (zWn.of lw43 hwi))
      · skip
        obtain ⟨v46, hv46⟩ : ∃ v, v = (g_X10_setting M ty 2) := ⟨_, rfl⟩
        have ev46 : (d_X10_deed_46 M ty n oz) = v46 := by unfold d_X10_deed_46; exact hv46.symm
        have tk46 : zTkP ty v46 := by rw [hv46]; exact (tk_X10_setting M ty 2 h600 htk)
        unfold g_X10_deed
        (try rw [ev46])
        rw [if_pos c1, if_pos c2, if_neg c3]
        rw [hv46]
        exact (wi_X10_setting M ty 2 h600 htk (by decide) hwi)
    · skip
      obtain ⟨v2, hv2⟩ : ∃ v, v = (g_X10_setting M ty 1) := ⟨_, rfl⟩
      have ev2 : (d_X10_deed_2 M ty n oz) = v2 := by unfold d_X10_deed_2; exact hv2.symm
      have tk2 : zTkP ty v2 := by rw [hv2]; exact (tk_X10_setting M ty 1 h600 htk)
      unfold g_X10_deed
      (try rw [ev2])
      rw [if_pos c1, if_neg c2]
      rw [hv2]
      exact (wi_X10_setting M ty 1 h600 htk (by decide) hwi)
  · skip
    obtain ⟨v1, hv1⟩ : ∃ v, v = (g_X10_setting M ty 0) := ⟨_, rfl⟩
    have ev1 : (d_X10_deed_1 M ty n oz) = v1 := by unfold d_X10_deed_1; exact hv1.symm
    have tk1 : zTkP ty v1 := by rw [hv1]; exact (tk_X10_setting M ty 0 h600 htk)
    unfold g_X10_deed
    (try rw [ev1])
    rw [if_neg c1]
    rw [hv1]
    exact (wi_X10_setting M ty 0 h600 htk (by decide) hwi)
