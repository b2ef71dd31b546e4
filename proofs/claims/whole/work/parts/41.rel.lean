/-! THE RELATION: an office of the class (N: cells 0 to 11) and a row of the reference (w) say the same -/
def qSt (N : zM) (r : Nat) : Nat := if qB (N 7 5) r = true then 1 else if qB (N 7 6) r = true then 2 else if qB (N 7 7) r = true then 3 else 0
def rl_n (n : Nat) (N : zM) (w : Nat → Int32) : Prop := n ≤ 9 ∧ N 0 0 = nI n ∧ w 0 = nI n
def rl_up (n : Nat) (N : zM) (w : Nat → Int32) : Prop := qS n (N 0 1) ∧ ∀ r, r < n → w (10 + r * 9 + 2) = bI (qB (N 0 1) r)
def rl_st (N : zM) (w : Nat → Int32) : Prop := ∀ k, k < 3 → w (1 + k) = N 1 k ∧ ∃ v, v ≤ 9 ∧ N 1 k = nI v
def rl_ag (n : Nat) (N : zM) (w : Nat → Int32) : Prop := ∀ r, r < n → w (10 + r * 9 + 0) = N 2 r ∧ ∃ a, a ≤ 99 ∧ N 2 r = nI a
def rl_fr (n : Nat) (N : zM) (w : Nat → Int32) : Prop := ∀ r, r < n → w (10 + r * 9 + 1) = N 3 r ∧ ∃ f, f ≤ 999 ∧ N 3 r = nI f
def rl_tm (n : Nat) (N : zM) (w : Nat → Int32) : Prop := ∀ r, r < n → w (10 + r * 9 + 3) = N 4 r
def rl_ld (n : Nat) (N : zM) (w : Nat → Int32) : Prop := ∀ r, r < n → w (10 + r * 9 + 4) = N 5 r
def rl_lk (n : Nat) (N : zM) (w : Nat → Int32) : Prop := ∀ r, r < n → qS n (N 6 r) ∧ qB (N 6 r) r = true ∧ (∀ b, qB (w (10 + r * 9 + 5)) b = (qB (N 6 r) b && !(b == r))) ∧ ∀ b, b < n → qB (N 6 b) r = qB (N 6 r) b
def rl_hd (n : Nat) (N : zM) (w : Nat → Int32) : Prop := w 4 = N 7 0 ∧ (∃ p, p < 4 ∧ N 7 0 = nI p) ∧ (¬ N 7 0 = 0 → w 5 = N 7 1 ∧ (∃ c, c < n ∧ N 7 2 = nI c ∧ w 6 = nI c) ∧ w 7 = N 7 3 ∧ w 8 = N 7 4 ∧ ∃ r, r < n ∧ qB (N 7 3) r = true)
def rl_nv (n : Nat) (N : zM) : Prop := ((N 7 0 = 0 → N 7 3 = 0) ∧ (N 7 0 = 1 → N 7 6 = 0 ∧ N 7 7 = 0)) ∧ (qS n (N 7 3) ∧ qS n (N 7 5) ∧ qS n (N 7 6) ∧ qS n (N 7 7)) ∧
  ∀ r, r < n → (qB (N 7 5) r = true → qB (N 7 3) r = true ∧ qB (N 7 6) r = false ∧ qB (N 7 7) r = false) ∧ (qB (N 7 6) r = true → qB (N 7 3) r = true ∧ qB (N 7 7) r = false ∧ ∃ v, v < n ∧ N 9 r = nI v) ∧ (qB (N 7 7) r = true → qB (N 7 3) r = true) ∧ (qB (N 7 6) r = false → qB (N 7 7) r = false → N 9 r = -1)
def rl_vt (n : Nat) (N : zM) (w : Nat → Int32) : Prop := ¬ N 7 0 = 0 → ∀ r, r < n → w (10 + r * 9 + 6) = nI (qSt N r) ∧ w (10 + r * 9 + 7) = N 9 r ∧ w (10 + r * 9 + 8) = N 8 r
def rl_mv (w : Nat → Int32) : Prop := ∀ r, r < 9 → w (10 + r * 9 + 6) = 2 → ∃ v, v < 9 ∧ w (10 + r * 9 + 7) = nI v
def rl_oc (oz : Nat) (N : zM) (w : Nat → Int32) : Prop := oz ≤ 12 ∧ N 10 0 = nI oz ∧ w 9 = nI oz ∧ ∀ k, k < oz * 8 → w (91 + k) = N 11 k
/-- most replicas have a TERM of t or more -/
def qMj (n : Nat) (N : zM) (t : Nat) : Prop := n < 2 * qN n (fun r => decide (nI t ≤ N 4 r))
def rl_tt (n oz T : Nat) (N : zM) : Prop := (∀ r, r < n → ∃ t, t ≤ T ∧ N 4 r = nI t) ∧ (¬ N 7 0 = 0 → ∃ t, t ≤ T ∧ N 7 1 = nI t ∧ qMj n N t) ∧
  (∀ j, j < oz → ∃ t, t ≤ T ∧ N 11 (j * 8) = nI t ∧ qMj n N t ∧ (N 7 0 = 1 ∨ N 7 0 = 2 → nI t < N 7 1) ∧ (N 7 0 = 3 → j + 1 < oz → nI t < N 7 1)) ∧ (N 7 0 = 3 → 0 < oz ∧ N 11 ((oz - 1) * 8) = N 7 1)
def rl (n oz T : Nat) (N : zM) (w : Nat → Int32) : Prop := rl_n n N w ∧ rl_up n N w ∧ rl_st N w ∧ rl_ag n N w ∧ rl_fr n N w ∧ rl_tm n N w ∧ rl_ld n N w ∧ rl_lk n N w ∧ rl_hd n N w ∧ rl_nv n N ∧ rl_vt n N w ∧ rl_mv w ∧ rl_oc oz N w ∧ rl_tt n oz T N
section RLOF
variable {n oz T : Nat} {N N' : zM} {w w' : Nat → Int32}
theorem rl_n.of (h : rl_n n N w) (e : N' 0 0 = N 0 0) (ew : w' 0 = w 0) : rl_n n N' w' := ⟨h.1, e.trans h.2.1, ew.trans h.2.2⟩
theorem rl_up.of (h : rl_up n N w) (e : N' 0 1 = N 0 1) (ew : ∀ r, r < n → w' (10 + r * 9 + 2) = w (10 + r * 9 + 2)) : rl_up n N' w' := ⟨by rw [e]; exact h.1, fun r hr => by rw [ew r hr, e]; exact h.2 r hr⟩
theorem rl_st.of (h : rl_st N w) (e : N' 1 = N 1) (ew : ∀ k, k < 3 → w' (1 + k) = w (1 + k)) : rl_st N' w' := fun k hk => by rw [ew k hk, e]; exact h k hk
theorem rl_ag.of (h : rl_ag n N w) (e : N' 2 = N 2) (ew : ∀ r, r < n → w' (10 + r * 9 + 0) = w (10 + r * 9 + 0)) : rl_ag n N' w' := fun r hr => by rw [ew r hr, e]; exact h r hr
theorem rl_fr.of (h : rl_fr n N w) (e : N' 3 = N 3) (ew : ∀ r, r < n → w' (10 + r * 9 + 1) = w (10 + r * 9 + 1)) : rl_fr n N' w' := fun r hr => by rw [ew r hr, e]; exact h r hr
theorem rl_tm.of (h : rl_tm n N w) (e : N' 4 = N 4) (ew : ∀ r, r < n → w' (10 + r * 9 + 3) = w (10 + r * 9 + 3)) : rl_tm n N' w' := fun r hr => by rw [ew r hr, e]; exact h r hr
theorem rl_ld.of (h : rl_ld n N w) (e : N' 5 = N 5) (ew : ∀ r, r < n → w' (10 + r * 9 + 4) = w (10 + r * 9 + 4)) : rl_ld n N' w' := fun r hr => by rw [ew r hr, e]; exact h r hr
theorem rl_lk.of (h : rl_lk n N w) (e : N' 6 = N 6) (ew : ∀ r, r < n → w' (10 + r * 9 + 5) = w (10 + r * 9 + 5)) : rl_lk n N' w' := fun r hr => by rw [ew r hr, e]; exact h r hr
theorem rl_hd.of (h : rl_hd n N w) (e : ∀ k, k < 5 → N' 7 k = N 7 k) (ew : ∀ k, 4 ≤ k → k < 9 → w' k = w k) : rl_hd n N' w' := by
  unfold rl_hd
  rw [e 0 (by decide), e 1 (by decide), e 2 (by decide), e 3 (by decide), e 4 (by decide), ew 4 (by decide) (by decide), ew 5 (by decide) (by decide), ew 6 (by decide) (by decide), ew 7 (by decide) (by decide), ew 8 (by decide) (by decide)]
  exact h
theorem rl_nv.of (h : rl_nv n N) (e : N' 7 = N 7) (e9 : ∀ r, r < n → N' 9 r = N 9 r) : rl_nv n N' := by
  unfold rl_nv
  rw [e]
  refine ⟨h.1, h.2.1, fun r hr => ?_⟩
  rw [e9 r hr]
  exact h.2.2 r hr
theorem rl_vt.of (h : rl_vt n N w) (e : N' 7 = N 7) (e8 : ∀ r, r < n → N' 8 r = N 8 r) (e9 : ∀ r, r < n → N' 9 r = N 9 r) (ew : ∀ r k, r < n → 6 ≤ k → k < 9 → w' (10 + r * 9 + k) = w (10 + r * 9 + k)) : rl_vt n N' w' := by
  intro hp r hr
  rw [e] at hp
  have e7 : qSt N' r = qSt N r := by
    unfold qSt
    rw [e]
  rw [ew r 6 hr (by decide) (by decide), ew r 7 hr (by decide) (by decide), ew r 8 hr (by decide) (by decide), e8 r hr, e9 r hr, e7]
  exact h hp r hr
theorem rl_mv.of (h : rl_mv w) (ew : ∀ r k, r < 9 → 6 ≤ k → k < 9 → w' (10 + r * 9 + k) = w (10 + r * 9 + k)) : rl_mv w' := by
  intro r hr
  rw [ew r 6 hr (by decide) (by decide), ew r 7 hr (by decide) (by decide)]
  exact h r hr
theorem rl_oc.of (h : rl_oc oz N w) (e : N' 10 0 = N 10 0) (e11 : N' 11 = N 11) (e9 : w' 9 = w 9) (ew : ∀ k, k < 96 → w' (91 + k) = w (91 + k)) : rl_oc oz N' w' := ⟨h.1, e.trans h.2.1, e9.trans h.2.2.1, fun k hk => by
  have := h.1
  rw [ew k (by omega), e11]
  exact h.2.2.2 k hk⟩
theorem rl_tt.of (h : rl_tt n oz T N) (e4 : N' 4 = N 4) (e0 : N' 7 0 = N 7 0) (e1 : N' 7 1 = N 7 1) (e11 : N' 11 = N 11) : rl_tt n oz T N' := by
  unfold rl_tt qMj
  rw [e4, e0, e1, e11]
  exact h
theorem rl_tt.up {T' : Nat} (h : rl_tt n oz T N) (hT : T ≤ T') : rl_tt n oz T' N := by
  refine ⟨fun r hr => ?_, fun hp => ?_, fun j hj => ?_, h.2.2.2⟩
  · obtain ⟨t, h1, h2⟩ := h.1 r hr
    exact ⟨t, Nat.le_trans h1 hT, h2⟩
  · obtain ⟨t, h1, h2⟩ := h.2.1 hp
    exact ⟨t, Nat.le_trans h1 hT, h2⟩
  · obtain ⟨t, h1, h2⟩ := h.2.2.1 j hj
    exact ⟨t, Nat.le_trans h1 hT, h2⟩
theorem rl.up {T' : Nat} (h : rl n oz T N w) (hT : T ≤ T') : rl n oz T' N w := by
  obtain ⟨a1, a2, a3, a4, a5, a6, a7, a8, a9, b1, b2, b3, b4, b5⟩ := h
  exact ⟨a1, a2, a3, a4, a5, a6, a7, a8, a9, b1, b2, b3, b4, b5.up hT⟩
/-- the relation looks at the cells 0 to 11 alone, and at 187 numbers -/
theorem rl.eq (h : rl n oz T N w) (e : ∀ o, o < 12 → N' o = N o) (ew : ∀ k, k < 187 → w' k = w k) : rl n oz T N' w' := by
  obtain ⟨a1, a2, a3, a4, a5, a6, a7, a8, a9, b1, b2, b3, b4, b5⟩ := h
  have h9 := a1.1
  exact ⟨a1.of (by rw [e 0 (by decide)]) (ew 0 (by decide)), a2.of (by rw [e 0 (by decide)]) (fun r hr => ew _ (by omega)), a3.of (e 1 (by decide)) (fun k hk => ew _ (by omega)), a4.of (e 2 (by decide)) (fun r hr => ew _ (by omega)), a5.of (e 3 (by decide)) (fun r hr => ew _ (by omega)), a6.of (e 4 (by decide)) (fun r hr => ew _ (by omega)), a7.of (e 5 (by decide)) (fun r hr => ew _ (by omega)), a8.of (e 6 (by decide)) (fun r hr => ew _ (by omega)), a9.of (fun k _ => by rw [e 7 (by decide)]) (fun k _ hk => ew _ (by omega)), b1.of (e 7 (by decide)) (fun r _ => by rw [e 9 (by decide)]), b2.of (e 7 (by decide)) (fun r _ => by rw [e 8 (by decide)]) (fun r _ => by rw [e 9 (by decide)]) (fun r k hr _ hk => ew _ (by omega)), b3.of (fun r k hr _ hk => ew _ (by omega)), b4.of (by rw [e 10 (by decide)]) (e 11 (by decide)) (ew 9 (by decide)) (fun k hk => ew _ (by omega)), b5.of (e 4 (by decide)) (by rw [e 7 (by decide)]) (by rw [e 7 (by decide)]) (e 11 (by decide))⟩
end RLOF
/-! WHAT IS READ on both sides -/
theorem bI_1 {b : Bool} : bI b = 1 ↔ b = true := by
  cases b
  · exact ⟨fun h => absurd h (by decide), fun h => by cases h⟩
  · exact ⟨fun _ => rfl, fun _ => rfl⟩
theorem bI_ite1 {α : Type} {b : Bool} {x y : α} : (if bI b = 1 then x else y) = if b = true then x else y := by
  cases b
  · rw [bI_f, if_neg (by decide), if_neg (by decide)]
  · rw [bI_t, if_pos rfl, if_pos rfl]
theorem bI_def (b : Bool) : (if b = true then (1 : Int32) else 0) = bI b := rfl
section READS
variable {n oz T : Nat} {N M : zM}
/-- the caller -/
theorem rl_hd.caller (h : rl_hd n N (M 1)) (hn : n ≤ 9) (hp : ¬ N 7 0 = 0) : (N 7 2).toNatClampNeg < n ∧ N 7 2 = nI (N 7 2).toNatClampNeg ∧ M 1 6 = N 7 2 := by
  obtain ⟨c, h1, h2, h3⟩ := (h.2.2 hp).2.1
  rw [h2, nI_clamp (by omega)]
  exact ⟨h1, rfl, h3⟩
theorem rl_hd.pos (h : rl_hd n N (M 1)) : (M 1 4 ≤ 0) ↔ N 7 0 = 0 := by
  obtain ⟨p, h1, h2⟩ := h.2.1
  rw [h.1, h2, show (0 : Int32) = nI 0 from rfl, nI_le9 (by omega) (by omega), nI_eq9 (by omega) (by omega)]
  omega
theorem m_up (h : rl_up n N (M 1)) {r : Nat} (hr : r < n) : g_X10_isUp M r = bI (qB (N 0 1) r) := by
  unfold g_X10_isUp g_X10_of
  rw [h.2 r hr, bI_ite1]
  rfl
theorem m_link (h : rl_lk n N (M 1)) (h9 : n ≤ 9) {a b : Nat} (ha : a < n) (hb : b < n) : g_X10_areLinked M a (nI b) = bI (qB (N 6 a) b) := by
  unfold g_X10_areLinked g_X10_of
  rw [sh_ite (by omega), (h a ha).2.2.1 b]
  by_cases e : a = b
  · subst e
    rw [if_pos rfl, (h a ha).2.1]
    rfl
  · rw [if_neg (fun q => e ((nI_eq9 (by omega) (by omega)).mp q)), beq_eq_false_iff_ne.mpr (fun q => e q.symm), Bool.not_false, Bool.and_true]
    rfl
theorem m_onRoll (hh : rl_hd n N (M 1)) (hv : rl_nv n N) {r : Nat} (hr : r < 32) : g_X10_isOnRoll M (nI r) = bI (qB (N 7 3) r) := by
  unfold g_X10_isOnRoll
  by_cases hp : N 7 0 = 0
  · rw [if_pos (hh.pos.mpr hp), hv.1.1 hp, qB_0]
    rfl
  · rw [if_neg (fun e => hp (hh.pos.mp e)), sh_ite hr, (hh.2.2 hp).2.2.1]
    rfl
theorem c_onRoll {r : Nat} (hr : r < 32) : g_X1_isOnRoll (zPl N 7) (nI r) = bI (qB (N 7 3) r) := has_q hr _
/-- whether one is reached -/
def qRe (N : zM) (r : Nat) : Bool := !(decide (N 7 0 = 0)) && (qB (N 0 1) (N 7 2).toNatClampNeg && (qB (N 0 1) r && qB (N 6 (N 7 2).toNatClampNeg) r))
theorem c_reach (h9 : n ≤ 9) (hh : rl_hd n N (M 1)) (r : Nat) : qB (g_X4_reachedSet N) r = qRe N r := by
  unfold g_X4_reachedSet qRe
  by_cases hp : N 7 0 = 0
  · rw [if_pos hp, qB_0, decide_eq_true hp]
    rfl
  · obtain ⟨h1, h2, -⟩ := hh.caller h9 hp
    rw [if_neg hp, decide_eq_false hp]
    generalize hc : (N 7 2).toNatClampNeg = c at *
    rw [h2, has_q (by omega), bI_ite]
    cases hq : qB (N 0 1) c
    · rw [if_neg (by decide), qB_0]
      rfl
    · rw [if_pos rfl, qB_and]
      simp
theorem m_reach (h9 : n ≤ 9) (hu : rl_up n N (M 1)) (hl : rl_lk n N (M 1)) (hh : rl_hd n N (M 1)) {r : Nat} (hr : r < n) : g_X10_isReached M r = bI (qRe N r) := by
  unfold g_X10_isReached qRe
  by_cases hp : N 7 0 = 0
  · rw [if_pos (hh.pos.mpr hp), decide_eq_true hp]
    rfl
  · obtain ⟨h1, h2, h3⟩ := hh.caller h9 hp
    rw [if_neg (fun e => hp (hh.pos.mp e)), decide_eq_false hp, h3, m_up hu hr, m_up hu h1, m_link hl h9 h1 hr, bI_ite, bI_ite, bI_ite]
    cases qB (N 0 1) r <;> cases qB (N 0 1) (N 7 2).toNatClampNeg <;> cases qB (N 6 (N 7 2).toNatClampNeg) r <;> rfl
theorem qS.and {m : Nat} {A B : Int32} (h : qS m B) : qS m (A &&& B) := fun r hr => by rw [qB_and, h r hr, Bool.and_false]
theorem m_rollOf (hn : n ≤ 9) (hu : rl_up n N (M 1)) (hl : rl_lk n N (M 1)) {c : Nat} (hc : c < n) : g_X10_rollOf M n c = (N 6 c) &&& (N 0 1) := by
  refine qB_ext fun k => ?_
  unfold g_X10_rollOf
  rw [zIt_set (p := fun i => qB (N 0 1) i && qB (N 6 c) i) (by omega) ?_ k, qB_and]
  · by_cases hk : k < n
    · rw [decide_eq_true hk, Bool.true_and, Bool.and_comm]
    · rw [decide_eq_false hk, hu.1 k (by omega), Bool.and_false, Bool.false_and]
  · intro i hi s
    unfold l_X10_rollOf_4
    rw [m_up hu hi, m_link hl hn hc hi, bI_ite, bI_ite]
    cases qB (N 0 1) i <;> cases qB (N 6 c) i <;> simp
theorem m_enough (h0 : rl_n n N (M 1)) {S : Int32} (hS : qS 9 S) : g_X10_isEnough M S = g_X4_isMajority N S := by
  unfold g_X10_isEnough g_X4_isMajority
  rw [ones_q hS, bc_q hS, h0.2.2, h0.2.1]
theorem c_major (h0 : rl_n n N (M 1)) {S : Int32} (hS : qS 9 S) : g_X4_isMajority N S = bI (decide (n < 2 * qN 9 (qB S))) := by
  unfold g_X4_isMajority
  have := qN_le (f := qB S) 9
  have := h0.1
  rw [bc_q hS, h0.2.1, show (2 : Int32) = nI 2 from rfl, show nI 2 * nI (qN 9 (qB S)) = nI (2 * qN 9 (qB S)) from (Int32.ofNat_mul 2 _).symm]
  by_cases h : n < 2 * qN 9 (qB S)
  · rw [if_neg (fun e => absurd ((nI_le9 (by omega) (by omega)).mp e) (by omega)), decide_eq_true h]
    rfl
  · rw [if_pos ((nI_le9 (by omega) (by omega)).mpr (by omega)), decide_eq_false h]
    rfl
theorem c_state {r : Nat} (hr : r < 32) : g_X1_stateOf (zPl N 7) (nI r) = nI (qSt N r) := by
  have e : g_X1_stateOf (zPl N 7) (nI r) = (if (g_X9_has (N 7 5) (nI r)) = 0 then (if (g_X9_has (N 7 6) (nI r)) = 0 then (if (g_X9_has (N 7 7) (nI r)) = 0 then 0 else 3) else 2) else 1) := rfl
  rw [e, has_q hr, has_q hr, has_q hr, bI_ite, bI_ite, bI_ite]
  unfold qSt
  (repeat' split) <;> rfl
theorem qSt_lt (r : Nat) : qSt N r < 4 := by
  unfold qSt
  (repeat' split) <;> decide
theorem qSt_1 {r : Nat} : (qSt N r == 1) = qB (N 7 5) r := by
  unfold qSt
  cases qB (N 7 5) r <;> cases qB (N 7 6) r <;> cases qB (N 7 7) r <;> rfl
theorem qSt_2 (hv : rl_nv n N) {r : Nat} (hr : r < n) : (qSt N r == 2) = qB (N 7 6) r := by
  have := ((hv.2.2 r hr).1)
  unfold qSt
  cases h5 : qB (N 7 5) r <;> cases h6 : qB (N 7 6) r <;> cases h7 : qB (N 7 7) r <;> first | rfl | (rw [h5, h6] at this; exact absurd (this rfl).2.1 (by decide))
theorem qSt_3 (hv : rl_nv n N) {r : Nat} (hr : r < n) : (qSt N r == 3) = qB (N 7 7) r := by
  have h1 := ((hv.2.2 r hr).1)
  have h2 := ((hv.2.2 r hr).2.1)
  unfold qSt
  cases h5 : qB (N 7 5) r <;> cases h6 : qB (N 7 6) r <;> cases h7 : qB (N 7 7) r <;> first | rfl | (rw [h5, h7] at h1; exact absurd (h1 rfl).2.2 (by decide)) | (rw [h6, h7] at h2; exact absurd (h2 rfl).2.1 (by decide))
theorem m_votesOf (h9 : n ≤ 9) (hh : rl_hd n N (M 1)) (hv : rl_nv n N) (ht : rl_vt n N (M 1)) {k : Nat} (hk : k < 4) : g_X10_votesOf M n (nI k) = nI (qN n (fun i => qB (N 7 3) i && (qSt N i == k))) := by
  unfold g_X10_votesOf
  refine zIt_cnt0 n fun i hi s => ?_
  unfold l_X10_votesOf_4 g_X10_of
  rw [m_onRoll hh hv (by omega), bI_ite]
  congr 1
  cases hq : qB (N 7 3) i
  · rfl
  · have hp : ¬ N 7 0 = 0 := fun e => by rw [hv.1.1 e, qB_0] at hq; cases hq
    rw [if_pos rfl, (ht hp i hi).1, Bool.true_and]
    have := qSt_lt (N := N) i
    by_cases e : qSt N i = k
    · rw [if_pos (by rw [e]), e, beq_self_eq_true]
      rfl
    · rw [if_neg (fun q => e ((nI_eq9 (by omega) (by omega)).mp q)), beq_eq_false_iff_ne.mpr e]
      rfl
theorem bc_n (h9 : n ≤ 9) {S : Int32} (h : qS n S) : g_J6_bitCount_0f7a4 S = nI (qN n (qB S)) := by rw [bc_q (h.mono h9), qN_cut 9 h9 (fun i hi _ => h i hi)]
theorem ones_n (h9 : n ≤ 9) {S : Int32} (h : qS n S) : g_X10_ones S = nI (qN n (qB S)) := by rw [ones_q (h.mono h9), qN_cut 9 h9 (fun i hi _ => h i hi)]
theorem ones_bc {S : Int32} (h : qS 9 S) : g_X10_ones S = g_J6_bitCount_0f7a4 S := by rw [ones_q h, bc_q h]
theorem m_sealed (h9 : n ≤ 9) (hh : rl_hd n N (M 1)) (hv : rl_nv n N) (ht : rl_vt n N (M 1)) : g_X10_votesOf M n 1 = g_J6_bitCount_0f7a4 (N 7 5) := by
  rw [bc_n h9 hv.2.1.2.1]
  refine (m_votesOf h9 hh hv ht (k := 1) (by decide)).trans (congrArg nI (qN_congr n fun i hi => ?_))
  rw [qSt_1]
  have := (hv.2.2 i hi).1
  cases h5 : qB (N 7 5) i
  · rw [Bool.and_false]
  · rw [(this h5).1]
    rfl
theorem m_valid (h9 : n ≤ 9) (hh : rl_hd n N (M 1)) (hv : rl_nv n N) (ht : rl_vt n N (M 1)) : g_X10_votesOf M n 2 = g_J6_bitCount_0f7a4 (N 7 6) := by
  rw [bc_n h9 hv.2.1.2.2.1]
  refine (m_votesOf h9 hh hv ht (k := 2) (by decide)).trans (congrArg nI (qN_congr n fun i hi => ?_))
  rw [qSt_2 hv hi]
  have := (hv.2.2 i hi).2.1
  cases h5 : qB (N 7 6) i
  · rw [Bool.and_false]
  · rw [(this h5).1]
    rfl
theorem m_spoiled (h9 : n ≤ 9) (hh : rl_hd n N (M 1)) (hv : rl_nv n N) (ht : rl_vt n N (M 1)) : g_X10_votesOf M n 3 = g_J6_bitCount_0f7a4 (N 7 7) := by
  rw [bc_n h9 hv.2.1.2.2.2]
  refine (m_votesOf h9 hh hv ht (k := 3) (by decide)).trans (congrArg nI (qN_congr n fun i hi => ?_))
  rw [qSt_3 hv hi]
  have := (hv.2.2 i hi).2.2.1
  cases h5 : qB (N 7 7) i
  · rw [Bool.and_false]
  · rw [this h5]
    rfl
theorem m_spoiling (h9 : n ≤ 9) (hu : rl_up n N (M 1)) (hf : rl_fr n N (M 1)) (hh : rl_hd n N (M 1)) (hv : rl_nv n N) {v c : Nat} (h1 : v < n) (h2 : c < n) : g_X10_spoiling M v c = g_X4_flawOf N v c := by
  unfold g_X10_spoiling g_X4_flawOf g_X10_of
  rw [m_onRoll hh hv (by omega), c_onRoll (by omega), (hf v h1).1, (hf c h2).1, m_up hu h2, has_q (by omega)]
theorem m_need (h9 : n ≤ 9) (hh : rl_hd n N (M 1)) (hv : rl_nv n N) (hp : ¬ N 7 0 = 0) : g_X10_need M = g_X1_need (zPl N 7) := by
  unfold g_X10_need g_X1_need g_X1_rollSize
  rw [(hh.2.2 hp).2.2.1, ones_bc (hv.2.1.1.mono h9)]
  rfl
end READS
