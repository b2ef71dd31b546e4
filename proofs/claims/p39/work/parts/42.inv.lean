/-! THE INVARIANT of an office: n replicas, oz outcomes, TERMs of T at most, a TERM of t0 that most have reached -/
def jM (n : Nat) (N : zM) (t : Nat) : Prop := n < 2 * qN n (fun r => decide (nI t ≤ N 4 r))
def jN (n : Nat) (N : zM) : Prop := 2 ≤ n ∧ n ≤ 9 ∧ N 0 0 = nI n
def jS (N : zM) : Prop := ∃ v, 1 ≤ v ∧ v ≤ 9 ∧ N 1 0 = nI v
def jT (n T : Nat) (N : zM) : Prop := ∀ r, r < n → ∃ t, t ≤ T ∧ N 4 r = nI t
def jL (n : Nat) (N : zM) : Prop := ∀ r, r < n → N 5 r = -1 ∨ qB (N 0 1) r = true
def jK (n : Nat) (N : zM) : Prop := ∀ r, r < n → qS n (N 6 r) ∧ qB (N 6 r) r = true ∧ ∀ b, b < n → qB (N 6 b) r = qB (N 6 r) b
def jB (n T t0 : Nat) (N : zM) : Prop := (∃ p, p < 4 ∧ N 7 0 = nI p) ∧ (¬ N 7 0 = 0 → (∃ c, c < n ∧ N 7 2 = nI c) ∧ n < 2 * qN n (qB (N 7 3)) ∧ ∃ t, t ≤ T ∧ t0 ≤ t ∧ 1 ≤ t ∧ N 7 1 = nI t ∧ ∀ r, r < n → qB (N 7 3) r = true → N 4 r = nI t)
def jW (n : Nat) (N : zM) : Prop := ∀ r, r < n → (qB (N 7 6) r = true → ∃ v, v < n ∧ N 9 r = nI v ∧ qB (N 7 3) v = true) ∧ (qB (N 7 7) r = true → ∃ v, 1 ≤ v ∧ v ≤ 4 ∧ N 9 r = nI v)
/-- an outcome -/
def jQ (n T : Nat) (N : zM) (j : Nat) : Prop := (∃ t, t ≤ T ∧ N 11 (j * 8) = nI t ∧ jM n N t) ∧ ∃ va sp, va + sp ≤ n ∧ N 11 (j * 8 + 3) = nI va ∧ N 11 (j * 8 + 4) = nI sp ∧
  ((N 11 (j * 8 + 1) = -1 ∧ N 11 (j * 8 + 2) = 0 ∧ N 11 (j * 8 + 5) = 0) ∨ ∃ c v, c < n ∧ 1 ≤ v ∧ v ≤ va ∧ N 11 (j * 8 + 1) = nI c ∧ N 11 (j * 8 + 2) = nI v)
def jO (n oz T : Nat) (N : zM) : Prop := oz ≤ 12 ∧ N 10 0 = nI oz ∧ (∀ j, j < oz → jQ n T N j) ∧ (∀ i j, i < j → j < oz → N 11 (i * 8) < N 11 (j * 8)) ∧
  (N 7 0 = 1 ∨ N 7 0 = 2 → ∀ j, j < oz → N 11 (j * 8) < N 7 1) ∧ (N 7 0 = 3 → 0 < oz ∧ N 11 ((oz - 1) * 8) = N 7 1)
def J (n oz T t0 : Nat) (N : zM) : Prop := jN n N ∧ qS n (N 0 1) ∧ jS N ∧ jT n T N ∧ jL n N ∧ jK n N ∧ jB n T t0 N ∧ (rl_nv n N ∧ jW n N) ∧ jO n oz T N ∧ (jM n N t0 ∧ t0 ≤ T)
def JJ (n T t0 : Nat) (N : zM) : Prop := ∃ oz, J n oz T t0 N
section JOF
variable {n oz T T' t0 : Nat} {N N' : zM}
theorem jM.of {t : Nat} (h : jM n N t) (e4 : N' 4 = N 4) : jM n N' t := by unfold jM at *; rw [e4]; exact h
theorem jN.of (h : jN n N) (e : N' 0 0 = N 0 0) : jN n N' := ⟨h.1, h.2.1, e.trans h.2.2⟩
theorem jS.of (h : jS N) (e : N' 1 0 = N 1 0) : jS N' := by unfold jS at *; rw [e]; exact h
theorem jT.of (h : jT n T N) (e4 : N' 4 = N 4) : jT n T N' := by unfold jT at *; rw [e4]; exact h
theorem jL.of (h : jL n N) (e5 : N' 5 = N 5) (e0 : N' 0 1 = N 0 1) : jL n N' := by unfold jL at *; rw [e5, e0]; exact h
theorem jK.of (h : jK n N) (e6 : N' 6 = N 6) : jK n N' := by unfold jK at *; rw [e6]; exact h
theorem jB.of (h : jB n T t0 N) (e7 : N' 7 = N 7) (e4 : N' 4 = N 4) : jB n T t0 N' := by unfold jB at *; rw [e7, e4]; exact h
theorem jW.of (h : jW n N) (e7 : N' 7 = N 7) (e9 : N' 9 = N 9) : jW n N' := by unfold jW at *; rw [e7, e9]; exact h
theorem nv_of (h : rl_nv n N) (e7 : N' 7 = N 7) (e9 : N' 9 = N 9) : rl_nv n N' := by unfold rl_nv at *; rw [e7, e9]; exact h
theorem jQ.of {j : Nat} (h : jQ n T N j) (e11 : N' 11 = N 11) (e4 : N' 4 = N 4) : jQ n T N' j := by unfold jQ jM at *; rw [e11, e4]; exact h
theorem jO.of (h : jO n oz T N) (e10 : N' 10 0 = N 10 0) (e11 : N' 11 = N 11) (e7 : N' 7 = N 7) (e4 : N' 4 = N 4) : jO n oz T N' := by
  unfold jO jQ jM at *
  rw [e10, e11, e7, e4]
  exact h
theorem J.of (h : J n oz T t0 N) (e : ∀ o, o ≠ 1 → o ≠ 2 → o ≠ 3 → o ≠ 8 → o < 12 → N' o = N o) (hs : jS N') : J n oz T t0 N' := by
  obtain ⟨a1, a2, a3, a4, a5, a6, a7, a8, a9, b1⟩ := h
  have e0 := e 0 (by decide) (by decide) (by decide) (by decide) (by decide)
  have e4 := e 4 (by decide) (by decide) (by decide) (by decide) (by decide)
  have e5 := e 5 (by decide) (by decide) (by decide) (by decide) (by decide)
  have e6 := e 6 (by decide) (by decide) (by decide) (by decide) (by decide)
  have e7 := e 7 (by decide) (by decide) (by decide) (by decide) (by decide)
  have e9 := e 9 (by decide) (by decide) (by decide) (by decide) (by decide)
  have e10 := e 10 (by decide) (by decide) (by decide) (by decide) (by decide)
  have e11 := e 11 (by decide) (by decide) (by decide) (by decide) (by decide)
  exact ⟨a1.of (congrFun e0 0), by rw [e0]; exact a2, hs, a4.of e4, a5.of e5 (congrFun e0 1), a6.of e6, a7.of e7 e4, ⟨nv_of a8.1 e7 e9, a8.2.of e7 e9⟩, a9.of (congrFun e10 0) e11 e7 e4, b1.1.of e4, b1.2⟩
theorem jM.up {t : Nat} (h : jM n N t) (hle : ∀ r, r < n → N 4 r ≤ N' 4 r) : jM n N' t := by
  unfold jM at *
  have := qN_mono (f := fun r => decide (nI t ≤ N 4 r)) (g := fun r => decide (nI t ≤ N' 4 r)) n (fun r hr q => decide_eq_true (Int32.le_trans (of_decide_eq_true q) (hle r hr)))
  omega
theorem jT.up (h : jT n T N) (hT : T ≤ T') : jT n T' N := fun r hr => by
  obtain ⟨t, h1, h2⟩ := h r hr
  exact ⟨t, Nat.le_trans h1 hT, h2⟩
theorem jB.up (h : jB n T t0 N) (hT : T ≤ T') : jB n T' t0 N := ⟨h.1, fun hp => by
  obtain ⟨g1, g2, t, g3, g4⟩ := h.2 hp
  exact ⟨g1, g2, t, Nat.le_trans g3 hT, g4⟩⟩
theorem jQ.up {j : Nat} (h : jQ n T N j) (hT : T ≤ T') : jQ n T' N j := by
  obtain ⟨⟨t, g1, g2⟩, g3⟩ := h
  exact ⟨⟨t, Nat.le_trans g1 hT, g2⟩, g3⟩
theorem J.up (h : J n oz T t0 N) (hT : T ≤ T') : J n oz T' t0 N := by
  obtain ⟨a1, a2, a3, a4, a5, a6, a7, a8, a9, b1⟩ := h
  exact ⟨a1, a2, a3, a4.up hT, a5, a6, a7.up hT, a8, ⟨a9.1, a9.2.1, fun j hj => (a9.2.2.1 j hj).up hT, a9.2.2.2⟩, b1.1, Nat.le_trans b1.2 hT⟩
theorem JJ.up (h : JJ n T t0 N) (hT : T ≤ T') : JJ n T' t0 N := h.imp fun _ q => q.up hT
/-- the numbers that count -/
theorem J.pt (h : J n oz T t0 N) (e : ∀ o k, qUse o k → N' o k = N o k) : J n oz T t0 N' := by
  obtain ⟨a1, a2, a3, a4, a5, a6, a7, a8, a9, b1⟩ := h
  have h9 : n ≤ 9 := a1.2.1
  have e7 : ∀ k, k < 8 → N' 7 k = N 7 k := fun k hk => e 7 k (qUse_7 hk)
  have e4 : ∀ r, r < n → N' 4 r = N 4 r := fun r hr => e 4 r (qUse_r h9 hr (by decide))
  have e9 : ∀ r, r < n → N' 9 r = N 9 r := fun r hr => e 9 r (qUse_r h9 hr (by decide))
  have eM : ∀ t, jM n N t → jM n N' t := fun t ht => ht.up fun r hr => by rw [e4 r hr]; exact Int32.le_refl _
  have h12 := a9.1
  have e11 : ∀ j w, j < oz → w < 8 → N' 11 (j * 8 + w) = N 11 (j * 8 + w) := fun j w hj hw => e 11 _ (qUse_11 (by omega))
  refine ⟨a1.of (e 0 0 qUse_00), ?_, a3.of (e 1 0 (qUse_1 (by decide))), fun r hr => ?_, fun r hr => ?_, fun r hr => ?_, ?_, ⟨⟨?_, ?_, fun r hr => ?_⟩, fun r hr => ?_⟩, ⟨h12, (e 10 0 qUse_10).trans a9.2.1, fun j hj => ?_, fun i j hij hj => ?_, fun hp j hj => ?_, fun hp => ?_⟩, eM _ b1.1, b1.2⟩
  · rw [e 0 1 qUse_01]; exact a2
  · rw [e4 r hr]; exact a4 r hr
  · rw [e 5 r (qUse_r h9 hr (by decide)), e 0 1 qUse_01]; exact a5 r hr
  · rw [e 6 r (qUse_r h9 hr (by decide))]
    refine ⟨(a6 r hr).1, (a6 r hr).2.1, fun b hb => ?_⟩
    rw [e 6 b (qUse_r h9 hb (by decide))]
    exact (a6 r hr).2.2 b hb
  · unfold jB
    rw [e7 0 (by decide), e7 1 (by decide), e7 2 (by decide), e7 3 (by decide)]
    refine ⟨a7.1, fun hp => ?_⟩
    obtain ⟨g1, g2, t, g3, g4, g5, g6, g7⟩ := a7.2 hp
    exact ⟨g1, g2, t, g3, g4, g5, g6, fun r hr hq => (e4 r hr).trans (g7 r hr hq)⟩
  · rw [e7 0 (by decide), e7 3 (by decide), e7 6 (by decide), e7 7 (by decide)]; exact a8.1.1
  · rw [e7 3 (by decide), e7 5 (by decide), e7 6 (by decide), e7 7 (by decide)]; exact a8.1.2.1
  · rw [e7 3 (by decide), e7 5 (by decide), e7 6 (by decide), e7 7 (by decide), e9 r hr]; exact a8.1.2.2 r hr
  · rw [e7 3 (by decide), e7 6 (by decide), e7 7 (by decide), e9 r hr]; exact a8.2 r hr
  · unfold jQ
    have q0 : N' 11 (j * 8) = N 11 (j * 8) := e11 j 0 hj (by decide)
    rw [q0, e11 j 1 hj (by decide), e11 j 2 hj (by decide), e11 j 3 hj (by decide), e11 j 4 hj (by decide), e11 j 5 hj (by decide)]
    obtain ⟨⟨t, g1, g2, g3⟩, g4⟩ := a9.2.2.1 j hj
    exact ⟨⟨t, g1, g2, eM t g3⟩, g4⟩
  · rw [show N' 11 (i * 8) = N 11 (i * 8) from e11 i 0 (by omega) (by decide), show N' 11 (j * 8) = N 11 (j * 8) from e11 j 0 hj (by decide)]
    exact a9.2.2.2.1 i j hij hj
  · rw [e7 0 (by decide)] at hp
    rw [show N' 11 (j * 8) = N 11 (j * 8) from e11 j 0 hj (by decide), e7 1 (by decide)]
    exact a9.2.2.2.2.1 hp j hj
  · rw [e7 0 (by decide)] at hp
    obtain ⟨g1, g2⟩ := a9.2.2.2.2.2 hp
    exact ⟨g1, by rw [show N' 11 ((oz - 1) * 8) = N 11 ((oz - 1) * 8) from e11 (oz - 1) 0 (by omega) (by decide), e7 1 (by decide)]; exact g2⟩
theorem JJ.pt (h : JJ n T t0 N) (e : ∀ o k, qUse o k → N' o k = N o k) : JJ n T t0 N' := h.imp fun _ q => q.pt e
end JOF
section JRD
variable {n oz T t0 : Nat} {N : zM}
theorem j_major (h0 : jN n N) {S : Int32} (hS : qS 9 S) : g_X4_isMajority N S = bI (decide (n < 2 * qN 9 (qB S))) := by
  unfold g_X4_isMajority
  have := qN_le (f := qB S) 9
  have := h0.2.1
  rw [bc_q hS, h0.2.2, show (2 : Int32) = nI 2 from rfl, show nI 2 * nI (qN 9 (qB S)) = nI (2 * qN 9 (qB S)) from (Int32.ofNat_mul 2 _).symm]
  by_cases h : n < 2 * qN 9 (qB S)
  · rw [if_neg (fun e => absurd ((nI_le9 (by omega) (by omega)).mp e) (by omega)), decide_eq_true h]
    rfl
  · rw [if_pos ((nI_le9 (by omega) (by omega)).mpr (by omega)), decide_eq_false h]
    rfl
/-- who is reached is up -/
theorem j_reach_up {r : Nat} (hq : qB (g_X4_reachedSet N) r = true) : qB (N 0 1) r = true := by
  unfold g_X4_reachedSet at hq
  split at hq
  · rw [qB_0] at hq; cases hq
  · split at hq
    · rw [qB_0] at hq; cases hq
    · rw [qB_and, Bool.and_eq_true] at hq
      exact hq.1
theorem jB.hc (h : jB n T t0 N) (h9 : n ≤ 9) : zHc N := by
  by_cases hp : N 7 0 = 0
  · exact Or.inl hp
  · obtain ⟨c, h1, h2⟩ := (h.2 hp).1
    exact Or.inr ⟨c, by omega, h2⟩
/-- a TERM that most have reached is no greater than the greatest of a majority -/
theorem j_inter {S : Int32} {t u : Nat} (hT : T < 4000) (htt : jT n T N) (hS : n < 2 * qN n (qB S)) (ht : jM n N t) (ht9 : t ≤ T) (hu : ∀ j, j < n → qB S j = true → N 4 j ≤ nI u) (hu9 : u ≤ T) : t ≤ u := by
  obtain ⟨i, h1, h2, h3⟩ := qN_maj hS ht
  have h4 := Int32.le_trans (of_decide_eq_true h3) (hu i h1 h2)
  exact (nI_le9 (by omega) (by omega)).mp h4
end JRD
