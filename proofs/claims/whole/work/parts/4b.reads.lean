/-! WHAT IS TOLD, on both sides -/
def qM : Nat → (Nat → Nat) → Nat
  | 0, _ => 0
  | n + 1, f => qM n f + f n
theorem qM_congr {f g : Nat → Nat} : ∀ n, (∀ i, i < n → f i = g i) → qM n f = qM n g
  | 0, _ => rfl
  | n + 1, h => by rw [qM, qM, qM_congr n (fun i hi => h i (by omega)), h n (by omega)]
theorem qM_add {f g : Nat → Nat} : ∀ n, qM n (fun i => f i + g i) = qM n f + qM n g
  | 0 => rfl
  | n + 1 => by
    rw [qM, qM, qM, qM_add n]
    omega
theorem qM_qN {p : Nat → Bool} : ∀ n, qM n (fun i => if p i = true then 1 else 0) = qN n p
  | 0 => rfl
  | n + 1 => by rw [qM, qN, qM_qN n]
theorem qM_le {f : Nat → Nat} {c : Nat} : ∀ n, (∀ i, i < n → f i ≤ c) → qM n f ≤ n * c
  | 0, _ => Nat.zero_le _
  | n + 1, h => by
    have h1 := qM_le n (fun i hi => h i (by omega))
    have h2 := h n (by omega)
    rw [qM, Nat.succ_mul]
    omega
theorem zIt_sum {f : Nat → Int32 → Int32} {g : Nat → Nat} : ∀ (n a : Nat), (∀ i, i < n → ∀ s, f i (nI s) = nI (s + g i)) → zIt f n (nI a) = nI (a + qM n g)
  | 0, a, _ => rfl
  | n + 1, a, h => by rw [zIt, zIt_sum n a (fun i hi => h i (by omega)), h n (by omega), qM, Nat.add_assoc]
/-- pairs that are linked are counted from both ends -/
theorem q_pairs {f : Nat → Nat → Bool} {N : Nat} (hf : ∀ i j, i < N → j < N → f i j = f j i) : ∀ m, m ≤ N → qM m (fun i => qN m (fun j => f i j && !(j == i))) + 2 * qM m (fun i => qN i (fun j => !(f i j))) = m * (m - 1)
  | 0, _ => rfl
  | m + 1, hm => by
    have ih := q_pairs hf m (by omega)
    have e1 : qM m (fun i => qN (m + 1) (fun j => f i j && !(j == i))) = qM m (fun i => qN m (fun j => f i j && !(j == i))) + qN m (f m) := by
      rw [← qM_qN, ← qM_add]
      refine qM_congr m fun i hi => ?_
      rw [qN, beq_eq_false_iff_ne.mpr (by omega), hf i m (by omega) (by omega)]
      simp
    have e2 : qN (m + 1) (fun j => f m j && !(j == m)) = qN m (f m) := by
      rw [qN, beq_self_eq_true]
      simp only [Bool.not_true, Bool.and_false, Bool.false_eq_true, if_false, Nat.add_zero]
      refine qN_congr m fun j hj => ?_
      rw [beq_eq_false_iff_ne.mpr (by omega)]
      simp
    have e3 : qN m (f m) + qN m (fun j => !(f m j)) = m := by
      rw [qN_add m (fun j _ q => by cases h : f m j <;> rw [h] at q <;> simp at q)]
      have : qN m (fun i => f m i || !(f m i)) = qN m (fun _ => true) := qN_congr m fun i _ => by cases f m i <;> rfl
      rw [this]
      have : ∀ k, qN k (fun _ => true) = k := fun k => by
        induction k with
        | zero => rfl
        | succ k ih => rw [qN, ih]; rfl
      exact this m
    rw [qM, qM, e1, e2]
    have : (m + 1) * (m + 1 - 1) = m * (m - 1) + 2 * m := by
      cases m with
      | zero => rfl
      | succ k =>
        simp only [Nat.add_sub_cancel]
        rw [Nat.succ_mul, Nat.mul_succ (k + 1) k, Nat.succ_mul (k) , Nat.mul_succ]
        simp only [Nat.succ_mul, Nat.mul_succ]
        omega
    omega
section TELL
variable {n oz T : Nat} {N M : zM}
theorem e_great0 (h9 : n ≤ 9) (h0 : rl_n n N (M 1)) (htm : rl_tm n N (M 1)) : g_X4_greatestTermOf N n ((1 <<< ((N 0 0) &&& 31)) - 1) = g_X10_greatestTerm M n := by
  have hb : ∀ n, n ≤ 9 → ∀ i, i < n → qB ((1 <<< (nI n &&& 31)) - 1) i = true := by decide +kernel
  unfold g_X4_greatestTermOf g_X10_greatestTerm
  refine zIt_congr n 0 fun i hi s => ?_
  unfold l_X4_greatestTermOf_4 l_X10_greatestTerm_4
  rw [h0.2.1, has_q (by omega), hb n h9 i hi, bI_ite, if_pos rfl, show g_X10_of M i 3 = N 4 i from htm i hi]
  by_cases c : N 4 i ≤ s
  · rw [if_pos c, if_neg (Int32.not_lt.mpr c)]
  · rw [if_neg c, if_pos (Int32.not_le.mp c)]
theorem e_cut (h9 : n ≤ 9) (h0 : rl_n n N (M 1)) (hl : rl_lk n N (M 1)) : g_X4_linksCut N n = g_X10_cuts M n := by
  have c1 : g_X4_linksCut N n = nI (qM n (fun i => qN i (fun j => !(qB (N 6 i) j)))) := by
    unfold g_X4_linksCut
    have := zIt_sum (f := l_X4_linksCut_4 N n) (g := fun i => qN i (fun j => !(qB (N 6 i) j))) n 0 ?_
    · rw [Nat.zero_add] at this
      exact this
    · intro i hi s
      unfold l_X4_linksCut_4
      refine zIt_cnt i s fun j hj s' => ?_
      unfold l_X4_linksCut_14
      rw [has_q (by omega), bI_ite]
      cases qB (N 6 i) j <;> rfl
  have c2 : zIt (l_X10_cuts_4 M n) n 0 = nI (qM n (fun i => qN n (fun j => qB (N 6 i) j && !(j == i)))) := by
    have := zIt_sum (f := l_X10_cuts_4 M n) (g := fun i => qN n (fun j => qB (N 6 i) j && !(j == i))) n 0 ?_
    · rw [Nat.zero_add] at this
      exact this
    · intro i hi s
      unfold l_X10_cuts_4
      have hs : qS n (M 1 (10 + i * 9 + 5)) := fun k hk => by rw [(hl i hi).2.2.1 k, (hl i hi).1 k hk]; rfl
      rw [show g_X10_of M i 5 = M 1 (10 + i * 9 + 5) from rfl, ones_n h9 hs, nI_add]
      congr 2
      exact qN_congr n fun j hj => (hl i hi).2.2.1 j
  have hp := q_pairs (f := fun i j => qB (N 6 i) j) (N := n) (fun i j hi hj => (hl j hj).2.2.2 i hi) n (Nat.le_refl n)
  rw [c1]
  unfold g_X10_cuts
  rw [c2, h0.2.2]
  generalize qM n (fun i => qN n (fun j => qB (N 6 i) j && !(j == i))) = a at *
  generalize qM n (fun i => qN i (fun j => !(qB (N 6 i) j))) = b at *
  have hn : nI n * (nI n - 1) = nI (n * (n - 1)) := by
    cases n with
    | zero => rfl
    | succ k => rw [nI_pred, pk_mul]; rfl
  have hm : n * (n - 1) ≤ 72 := by
    have : n * (n - 1) ≤ 9 * 8 := Nat.mul_le_mul h9 (by omega)
    exact this
  rw [hn, pk_sub (by omega), show (2 : Int32) = nI 2 from rfl, pk_div (by omega) (by decide) (by decide)]
  congr 1
  omega
theorem e_btell (h : rl n oz T N (M 1)) {w : Int32} (hw : ∃ j, 6 ≤ j ∧ j < 14 ∧ w = nI j) : g_X1_tell (zPl N 7) w = g_X10_ofBallot M n w := by
  obtain ⟨a1, a2, a3, a4, a5, a6, a7, a8, a9, b1, b2, b3, b4, b5⟩ := id h
  have h9 : n ≤ 9 := a1.1
  have e : g_X1_tell (zPl N 7) w = (if (N 7 0) = 0 then (if 9 < w then 0 else (-1)) else (if w = 6 then (N 7 1) else (if w = 7 then (N 7 2) else (if w = 8 then (N 7 3) else (if w = 9 then (g_X1_need (zPl N 7)) else (if w = 10 then (g_J6_bitCount_0f7a4 (N 7 5)) else (if w = 11 then (g_J6_bitCount_0f7a4 (N 7 6)) else (if w = 12 then (g_J6_bitCount_0f7a4 (N 7 7)) else (N 7 4))))))))) := rfl
  rw [e]
  unfold g_X10_ofBallot
  rw [a9.1]
  by_cases hp : N 7 0 = 0
  · rw [if_pos hp, if_pos hp]
    obtain ⟨j, j1, j2, rfl⟩ := hw
    by_cases c : 10 ≤ j
    · rw [if_pos (show (9 : Int32) < nI j from (nI_lt9 (a := 9) (by decide) (by omega)).mpr (by omega)), if_pos (show (10 : Int32) ≤ nI j from (nI_le9 (a := 10) (by decide) (by omega)).mpr (by omega))]
    · rw [if_neg (show ¬ (9 : Int32) < nI j from fun q => absurd ((nI_lt9 (a := 9) (by decide) (by omega)).mp q) (by omega)), if_neg (show ¬ (10 : Int32) ≤ nI j from fun q => absurd ((nI_le9 (a := 10) (by decide) (by omega)).mp q) (by omega))]
  · rw [if_neg hp, if_neg hp]
    obtain ⟨w1, w2, w3, w4, -⟩ := a9.2.2 hp
    obtain ⟨c, c1, c2, c3⟩ := w2
    rw [w1, c2, c3, w3, w4, m_need h9 a9 b1 hp, m_sealed h9 a9 b1 b2, m_valid h9 a9 b1 b2, m_spoiled h9 a9 b1 b2]
theorem nv_off (hv : rl_nv n N) {r : Nat} (hr : r < n) (hq : qB (N 7 3) r = false) : N 9 r = -1 := by
  obtain ⟨v1, v2, v3, v4⟩ := hv.2.2 r hr
  refine v4 ?_ ?_
  · cases h : qB (N 7 6) r
    · rfl
    · rw [(v2 h).1] at hq; cases hq
  · cases h : qB (N 7 7) r
    · rfl
    · rw [v3 h] at hq; cases hq
theorem e_others (h : rl_lk n N (M 1)) (h9 : n ≤ 9) {r : Nat} (hr : r < n) : g_X4_othersLinked N r = M 1 (10 + r * 9 + 5) := by
  refine qB_ext fun k => ?_
  unfold g_X4_othersLinked
  rw [qB_del (by omega), (h r hr).2.2.1 k]
theorem e_state (h : rl n oz T N (M 1)) {r : Nat} (hr : r < n) : (if (g_X1_isOnRoll (zPl N 7) (nI r)) = 0 then (-1) else (g_X1_stateOf (zPl N 7) (nI r))) = if (g_X10_isOnRoll M (nI r)) = 0 then (-1) else (g_X10_of M r 6) := by
  obtain ⟨a1, a2, a3, a4, a5, a6, a7, a8, a9, b1, b2, b3, b4, b5⟩ := id h
  have h9 : n ≤ 9 := a1.1
  rw [m_onRoll a9 b1 (by omega), c_onRoll (by omega), c_state (by omega), bI_ite, bI_ite]
  cases hq : qB (N 7 3) r
  · rfl
  · have hp : ¬ N 7 0 = 0 := fun e => by rw [b1.1.1 e, qB_0] at hq; cases hq
    rw [if_pos rfl, if_pos rfl]
    exact (b2 hp r hr).1.symm
theorem e_found (h : rl n oz T N (M 1)) {r : Nat} (hr : r < n) : N 9 r = if (g_X10_isOnRoll M (nI r)) = 0 then (-1) else (if (g_X10_of M r 6) < 2 then (-1) else (g_X10_of M r 7)) := by
  obtain ⟨a1, a2, a3, a4, a5, a6, a7, a8, a9, b1, b2, b3, b4, b5⟩ := id h
  have h9 : n ≤ 9 := a1.1
  rw [m_onRoll a9 b1 (by omega), bI_ite]
  cases hq : qB (N 7 3) r
  · rw [if_neg Bool.false_ne_true]
    exact nv_off b1 hr hq
  · have hp : ¬ N 7 0 = 0 := fun e => by rw [b1.1.1 e, qB_0] at hq; cases hq
    have e6 : g_X10_of M r 6 = nI (qSt N r) := (b2 hp r hr).1
    have e7 : g_X10_of M r 7 = N 9 r := (b2 hp r hr).2.1
    rw [if_pos rfl, e6, e7]
    have h4 := qSt_lt (N := N) r
    by_cases c : qSt N r < 2
    · rw [if_pos (show nI (qSt N r) < 2 from (nI_lt9 (b := 2) (by omega) (by decide)).mpr c)]
      have h2 := qSt_2 b1 hr
      have h3 := qSt_3 b1 hr
      refine (b1.2.2 r hr).2.2.2 ?_ ?_
      · rw [← h2]
        exact beq_eq_false_iff_ne.mpr (by omega)
      · rw [← h3]
        exact beq_eq_false_iff_ne.mpr (by omega)
    · rw [if_neg (show ¬ nI (qSt N r) < 2 from fun q => c ((nI_lt9 (b := 2) (by omega) (by decide)).mp q))]
/-- all that a replica tells -/
theorem e_replica (h : rl n oz T N (M 1)) {r : Nat} (hr : r < n) (gq : Nat → Nat) (pc : Nat) {w : Int32} (hw : ∃ j, j < 10 ∧ w = nI j) : g_X4_tellOf N r w = (g_X10_replica M gq pc n r w).1 := by
  have h0 : rl n oz T N ((zU M 0 0 0) 1) := h
  generalize hM0 : zU M 0 0 0 = M0 at *
  obtain ⟨a1, a2, a3, a4, a5, a6, a7, a8, a9, b1, b2, b3, b4, b5⟩ := id h0
  have h9 : n ≤ 9 := a1.1
  have hF := m_findVotes h9 a9 b1 b2
  have hF1 := hF.1 1 (by decide)
  have hR := h0
  rw [← hF1] at hR
  unfold g_X10_replica
  rw [hM0]
  generalize g_X10_findVotes M0 n = F at *
  obtain ⟨a1, a2, a3, a4, a5, a6, a7, a8, a9, b1, b2, b3, b4, b5⟩ := id hR
  obtain ⟨j, hj, rfl⟩ := hw
  rcases (show j = 0 ∨ j = 1 ∨ j = 2 ∨ j = 3 ∨ j = 4 ∨ j = 5 ∨ j = 6 ∨ j = 7 ∨ j = 8 ∨ j = 9 by omega) with rfl | rfl | rfl | rfl | rfl | rfl | rfl | rfl | rfl | rfl
  · unfold g_X4_tellOf
    rw [if_pos (show nI 0 = 0 from rfl), if_neg (show ¬ nI 0 = 6 by decide), if_neg (show ¬ nI 0 = 7 by decide), if_neg (show ¬ nI 0 = 8 by decide), if_neg (show ¬ nI 0 = 9 by decide)]
    rw [nI_clamp (show 0 < 2 ^ 31 by decide)]
    exact (a4 r hr).1.symm
  · unfold g_X4_tellOf
    rw [if_neg (show ¬ nI 1 = 0 by decide), if_pos (show nI 1 = 1 from rfl), if_neg (show ¬ nI 1 = 6 by decide), if_neg (show ¬ nI 1 = 7 by decide), if_neg (show ¬ nI 1 = 8 by decide), if_neg (show ¬ nI 1 = 9 by decide)]
    rw [nI_clamp (show 1 < 2 ^ 31 by decide)]
    exact (a5 r hr).1.symm
  · unfold g_X4_tellOf
    rw [if_neg (show ¬ nI 2 = 0 by decide), if_neg (show ¬ nI 2 = 1 by decide), if_pos (show nI 2 = 2 from rfl), if_neg (show ¬ nI 2 = 6 by decide), if_neg (show ¬ nI 2 = 7 by decide), if_neg (show ¬ nI 2 = 8 by decide), if_neg (show ¬ nI 2 = 9 by decide)]
    rw [nI_clamp (show 2 < 2 ^ 31 by decide)]
    rw [has_q (by omega), bI_ite]
    exact (a2.2 r hr).symm
  · unfold g_X4_tellOf
    rw [if_neg (show ¬ nI 3 = 0 by decide), if_neg (show ¬ nI 3 = 1 by decide), if_neg (show ¬ nI 3 = 2 by decide), if_pos (show nI 3 = 3 from rfl), if_neg (show ¬ nI 3 = 6 by decide), if_neg (show ¬ nI 3 = 7 by decide), if_neg (show ¬ nI 3 = 8 by decide), if_neg (show ¬ nI 3 = 9 by decide)]
    rw [nI_clamp (show 3 < 2 ^ 31 by decide)]
    exact (a6 r hr).symm
  · unfold g_X4_tellOf
    rw [if_neg (show ¬ nI 4 = 0 by decide), if_neg (show ¬ nI 4 = 1 by decide), if_neg (show ¬ nI 4 = 2 by decide), if_neg (show ¬ nI 4 = 3 by decide), if_pos (show nI 4 = 4 from rfl), if_neg (show ¬ nI 4 = 6 by decide), if_neg (show ¬ nI 4 = 7 by decide), if_neg (show ¬ nI 4 = 8 by decide), if_neg (show ¬ nI 4 = 9 by decide)]
    rw [nI_clamp (show 4 < 2 ^ 31 by decide)]
    exact (a7 r hr).symm
  · unfold g_X4_tellOf
    rw [if_neg (show ¬ nI 5 = 0 by decide), if_neg (show ¬ nI 5 = 1 by decide), if_neg (show ¬ nI 5 = 2 by decide), if_neg (show ¬ nI 5 = 3 by decide), if_neg (show ¬ nI 5 = 4 by decide), if_pos (show nI 5 = 5 from rfl), if_neg (show ¬ nI 5 = 6 by decide), if_neg (show ¬ nI 5 = 7 by decide), if_neg (show ¬ nI 5 = 8 by decide), if_neg (show ¬ nI 5 = 9 by decide)]
    rw [nI_clamp (show 5 < 2 ^ 31 by decide)]
    exact e_others a8 h9 hr
  · unfold g_X4_tellOf
    rw [if_neg (show ¬ nI 6 = 0 by decide), if_neg (show ¬ nI 6 = 1 by decide), if_neg (show ¬ nI 6 = 2 by decide), if_neg (show ¬ nI 6 = 3 by decide), if_neg (show ¬ nI 6 = 4 by decide), if_neg (show ¬ nI 6 = 5 by decide), if_pos (show nI 6 = 6 from rfl), if_pos (show nI 6 = 6 from rfl)]
    rw [e_state hR hr]
    split <;> rfl
  · unfold g_X4_tellOf
    rw [if_neg (show ¬ nI 7 = 0 by decide), if_neg (show ¬ nI 7 = 1 by decide), if_neg (show ¬ nI 7 = 2 by decide), if_neg (show ¬ nI 7 = 3 by decide), if_neg (show ¬ nI 7 = 4 by decide), if_neg (show ¬ nI 7 = 5 by decide), if_neg (show ¬ nI 7 = 6 by decide), if_pos (show nI 7 = 7 from rfl), if_neg (show ¬ nI 7 = 6 by decide), if_pos (show nI 7 = 7 from rfl)]
    rw [e_found hR hr]
    split
    · rfl
    · split <;> rfl
  · unfold g_X4_tellOf
    rw [if_neg (show ¬ nI 8 = 0 by decide), if_neg (show ¬ nI 8 = 1 by decide), if_neg (show ¬ nI 8 = 2 by decide), if_neg (show ¬ nI 8 = 3 by decide), if_neg (show ¬ nI 8 = 4 by decide), if_neg (show ¬ nI 8 = 5 by decide), if_neg (show ¬ nI 8 = 6 by decide), if_neg (show ¬ nI 8 = 7 by decide), if_pos (show nI 8 = 8 from rfl), if_neg (show ¬ nI 8 = 6 by decide), if_neg (show ¬ nI 8 = 7 by decide), if_pos (show nI 8 = 8 from rfl)]
    exact (c_votesFor h9 b1 r).trans (hF.2 r hr).symm
  · unfold g_X4_tellOf
    rw [if_neg (show ¬ nI 9 = 0 by decide), if_neg (show ¬ nI 9 = 1 by decide), if_neg (show ¬ nI 9 = 2 by decide), if_neg (show ¬ nI 9 = 3 by decide), if_neg (show ¬ nI 9 = 4 by decide), if_neg (show ¬ nI 9 = 5 by decide), if_neg (show ¬ nI 9 = 6 by decide), if_neg (show ¬ nI 9 = 7 by decide), if_neg (show ¬ nI 9 = 8 by decide), if_neg (show ¬ nI 9 = 6 by decide), if_neg (show ¬ nI 9 = 7 by decide), if_neg (show ¬ nI 9 = 8 by decide), if_pos (show nI 9 = 9 from rfl)]
    rw [has_q (by omega), c_reach h9 a9, m_reach h9 a2 a8 a9 hr, bI_ite, bI_ite]
    split <;> rfl
theorem e_outcome (h : rl n oz T N (M 1)) (gq : Nat → Nat) (pc : Nat) (bk : Int32) {w : Nat} (hw : w < 8) : g_X6_tell (zPl N 10) oz bk w = (g_X10_outcome M gq pc oz bk (nI w)).1 := by
  obtain ⟨a1, a2, a3, a4, a5, a6, a7, a8, a9, b1, b2, b3, b4, b5⟩ := id h
  have h12 := b4.1
  unfold g_X6_tell g_X10_outcome
  rw [show zPl N 10 0 0 = N 10 0 from rfl, b4.2.1, b4.2.2.1]
  by_cases c1 : bk < 0
  · rw [if_pos c1, if_pos c1]
  · rw [if_neg c1, if_neg c1]
    by_cases c2 : bk < nI oz
    · rw [if_pos c2, if_pos c2]
      obtain ⟨k, hk, rfl⟩ := nI_of c1
      have hk2 : k < oz := (nI_ltI hk (by omega)).mp c2
      unfold g_X10_outcomeOf
      rw [nI_clamp hk, nI_clamp (show w < 2 ^ 31 by omega)]
      show N 11 ((oz - 1 - k) * 8 + w) = M 1 (91 + (oz - 1 - k) * 8 + w)
      rw [Nat.add_assoc]
      exact (b4.2.2.2 _ (by omega)).symm
    · rw [if_neg c2, if_neg c2]
theorem e_wouldSpoil (h : rl n oz T N (M 1)) (gq : Nat → Nat) (pc : Nat) {v c : Nat} (hv : v < n) (hc : c < n) : (if (g_X1_isOnRoll (zPl N 7) (nI v)) = 0 then (-1) else (g_X4_flawOf N v c)) = (g_X10_wouldSpoil M gq pc n v c).1 := by
  obtain ⟨a1, a2, a3, a4, a5, a6, a7, a8, a9, b1, b2, b3, b4, b5⟩ := id h
  have h9 : n ≤ 9 := a1.1
  unfold g_X10_wouldSpoil
  rw [m_onRoll (M := zU M 0 0 0) a9 b1 (by omega), c_onRoll (by omega), m_spoiling (M := zU M 0 0 0) h9 a2 a5 a9 b1 hv hc]
  split <;> rfl
theorem e_nonceFor (h : rl n oz T N (M 1)) (hT : T < 2 ^ 30) (gq : Nat → Nat) (pc : Nat) {v c : Nat} (hv : v < n) (hc : c < n) : g_X1_fittingNonce (zPl N 7) v (nI c) = (g_X10_nonceFor M gq pc n v c).1 := by
  obtain ⟨a1, a2, a3, a4, a5, a6, a7, a8, a9, b1, b2, b3, b4, b5⟩ := id h
  have h9 : n ≤ 9 := a1.1
  unfold g_X1_fittingNonce g_X10_nonceFor
  rw [show zPl N 7 0 5 = N 7 5 from rfl, has_q (by omega), bI_ite, m_onRoll (M := zU M 0 0 0) a9 b1 (by omega), bI_ite]
  cases hs : qB (N 7 5) v
  · rw [if_neg Bool.false_ne_true]
    cases hq : qB (N 7 3) v
    · rfl
    · have hp : ¬ N 7 0 = 0 := fun e => by rw [b1.1.1 e, qB_0] at hq; cases hq
      have e6 : g_X10_of (zU M 0 0 0) v 6 = nI (qSt N v) := (b2 hp v hv).1
      have e1 := qSt_1 (N := N) (r := v)
      rw [hs] at e1
      have e4 := qSt_lt (N := N) v
      have n1 : ¬ nI (qSt N v) = 1 := fun q => absurd ((nI_eq9 (a := qSt N v) (b := 1) (by omega) (by decide)).mp q) (by simpa using e1)
      rw [if_pos rfl, e6, if_neg n1]
  · have hq := ((b1.2.2 v hv).1 hs).1
    have hp : ¬ N 7 0 = 0 := fun e => by rw [b1.1.1 e, qB_0] at hq; cases hq
    have e6 : g_X10_of (zU M 0 0 0) v 6 = nI (qSt N v) := (b2 hp v hv).1
    have e8 : g_X10_of (zU M 0 0 0) v 8 = N 8 v := (b2 hp v hv).2.2
    have e1 := qSt_1 (N := N) (r := v)
    rw [hs] at e1
    have n1 : nI (qSt N v) = 1 := by rw [show qSt N v = 1 by simpa using e1]; rfl
    rw [if_pos rfl, hq, if_pos rfl, e6, if_pos n1]
    refine zFst_congr 1000 0 fun j _ hj => ?_
    obtain ⟨t, ht, et, -⟩ := b5.2.1 hp
    unfold f_X1_fittingNonce_19 f_X10_nonceFor_46
    rw [e8, (a9.2.2 hp).1, et, seal_eq (by omega) (by omega) (by omega)]
    have e : g_X1_sealFits (zPl N 7) v (nI c) (nI j) = if g_X9_sealNumber (nI c) (nI j) (N 7 1) = N 8 v then 1 else 0 := rfl
    rw [e, et]
    by_cases q : g_X9_sealNumber (nI c) (nI j) (nI t) = N 8 v
    · rw [if_pos q, if_pos q, if_neg (by decide)]
    · rw [if_neg q, if_neg q, if_pos rfl]
theorem e_ahead (h : rl n oz T N (M 1)) (gq : Nat → Nat) (pc : Nat) : (g_X4_chosenNow N (N 1 0) (N 1 1)).1 = (g_X10_ahead M gq pc n).1 := by
  obtain ⟨a1, a2, a3, a4, a5, a6, a7, a8, a9, b1, b2, b3, b4, b5⟩ := id h
  have h9 : n ≤ 9 := a1.1
  unfold g_X4_chosenNow g_X10_ahead
  have hF := m_findVotes (M := zU M 0 0 0) h9 a9 b1 b2
  have key : g_X7_chosenBy (g_X7_take N (-1) 0) (N 1 0) (N 1 1) = (g_X10_chosenNow (zU M 0 0 0) n).1 := by
    rw [chosen_0 (M := zU M 0 0 0) h9 a4 a9 b1 b2]
    unfold g_X10_chosenNow
    have e1 : g_X10_findVotes (zU M 0 0 0) n 1 1 = N 1 0 := by rw [hF.1 1 (by decide)]; exact (a3 0 (by decide)).1
    have e2 : g_X10_findVotes (zU M 0 0 0) n 1 2 = N 1 1 := by rw [hF.1 1 (by decide)]; exact (a3 1 (by decide)).1
    rw [e1, e2]
  obtain ⟨p, p4, ep⟩ := a9.2.1
  rw [a9.1, ep]
  rcases (show p = 0 ∨ p = 1 ∨ p = 2 ∨ p = 3 by omega) with rfl | rfl | rfl | rfl
  · rfl
  · rfl
  · rw [if_pos (show nI 2 = 2 from rfl), if_pos (show (2 : Int32) ≤ nI 2 by decide)]
    exact key
  · rw [if_neg (show ¬ nI 3 = 2 by decide), if_pos (show nI 3 = 3 from rfl), if_pos (show (2 : Int32) ≤ nI 3 by decide)]
    exact key
theorem e_aheadIf (h : rl n oz T N (M 1)) (gq : Nat → Nat) (pc : Nat) (le ti : Int32) : (g_X4_chosenNow N le ti).1 = (g_X10_aheadIf M gq pc n le ti).1 := by
  obtain ⟨a1, a2, a3, a4, a5, a6, a7, a8, a9, b1, b2, b3, b4, b5⟩ := id h
  have h9 : n ≤ 9 := a1.1
  unfold g_X4_chosenNow g_X10_aheadIf
  have hF := m_findVotes (M := zU M 0 0 0) h9 a9 b1 b2
  have key : g_X7_chosenBy (g_X7_take N (-1) 0) le ti = (g_X10_chosenBy (g_X10_findVotes (zU M 0 0 0) n) n le ti).1 := chosen_0 (M := zU M 0 0 0) h9 a4 a9 b1 b2 le ti
  have e4 : g_X10_findVotes (zU M 0 0 0) n 1 4 = N 7 0 := by rw [hF.1 1 (by decide)]; exact a9.1
  obtain ⟨p, p4, ep⟩ := a9.2.1
  rw [e4, ep]
  rcases (show p = 0 ∨ p = 1 ∨ p = 2 ∨ p = 3 by omega) with rfl | rfl | rfl | rfl
  · rfl
  · rfl
  · rw [if_pos (show nI 2 = 2 from rfl), if_pos (show (2 : Int32) ≤ nI 2 by decide)]
    exact key
  · rw [if_neg (show ¬ nI 3 = 2 by decide), if_pos (show nI 3 = 3 from rfl), if_pos (show (2 : Int32) ≤ nI 3 by decide)]
    exact key
end TELL
