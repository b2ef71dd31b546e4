/-! WHAT IS SOUND: what isSound() reads, under the invariant -/
def jSm : Nat → (Nat → Nat) → Nat
  | 0, _ => 0
  | n + 1, f => jSm n f + f n
theorem jSm_add {f g : Nat → Nat} : ∀ n, jSm n (fun c => f c + g c) = jSm n f + jSm n g
  | 0 => rfl
  | n + 1 => by
    rw [jSm, jSm, jSm, jSm_add n]
    omega
theorem jSm_congr {f g : Nat → Nat} : ∀ n, (∀ i, i < n → f i = g i) → jSm n f = jSm n g
  | 0, _ => rfl
  | n + 1, h => by rw [jSm, jSm, jSm_congr n (fun i hi => h i (by omega)), h n (by omega)]
theorem jSm_0 : ∀ n, jSm n (fun _ => 0) = 0
  | 0 => rfl
  | n + 1 => by rw [jSm, jSm_0 n]
theorem jSm_one {v : Nat} : ∀ n, jSm n (fun c => if c = v then 1 else 0) = if v < n then 1 else 0
  | 0 => rfl
  | n + 1 => by
    rw [jSm, jSm_one n]
    by_cases e : n = v
    · rw [if_pos e, if_neg (by omega), if_pos (by omega)]
    · rw [if_neg e]
      by_cases q : v < n
      · rw [if_pos q, if_pos (by omega)]
      · rw [if_neg q, if_neg (by omega)]
theorem qN_step (f : Nat → Bool) (r : Nat) : nI (qN r f) + bI (f r) = nI (qN (r + 1) f) := by rw [bI_nI, nI_add]; rfl
theorem ne_iff {b : Bool} : ¬ b = true ↔ b = false := by cases b <;> simp
theorem te_2 (N : zM) (r : Nat) : g_X4_tellOf N r 2 = (if (g_X9_has (N 0 1) (nI r)) = 0 then 0 else 1) := by
  unfold g_X4_tellOf
  rw [if_neg (show ¬ (2 : Int32) = 0 by decide), if_neg (show ¬ (2 : Int32) = 1 by decide), if_pos rfl]
theorem te_3 (N : zM) (r : Nat) : g_X4_tellOf N r 3 = N 4 r := by
  unfold g_X4_tellOf
  rw [if_neg (show ¬ (3 : Int32) = 0 by decide), if_neg (show ¬ (3 : Int32) = 1 by decide), if_neg (show ¬ (3 : Int32) = 2 by decide), if_pos rfl]
theorem te_4 (N : zM) (r : Nat) : g_X4_tellOf N r 4 = N 5 r := by
  unfold g_X4_tellOf
  rw [if_neg (show ¬ (4 : Int32) = 0 by decide), if_neg (show ¬ (4 : Int32) = 1 by decide), if_neg (show ¬ (4 : Int32) = 2 by decide), if_neg (show ¬ (4 : Int32) = 3 by decide), if_pos rfl]
theorem te_5 (N : zM) (r : Nat) : g_X4_tellOf N r 5 = g_X4_othersLinked N r := by
  unfold g_X4_tellOf
  rw [if_neg (show ¬ (5 : Int32) = 0 by decide), if_neg (show ¬ (5 : Int32) = 1 by decide), if_neg (show ¬ (5 : Int32) = 2 by decide), if_neg (show ¬ (5 : Int32) = 3 by decide), if_neg (show ¬ (5 : Int32) = 4 by decide), if_pos rfl]
theorem te_6 (N : zM) (r : Nat) : g_X4_tellOf N r 6 = (if (g_X1_isOnRoll (zPl N 7) (nI r)) = 0 then (-1) else (g_X1_stateOf (zPl N 7) (nI r))) := by
  unfold g_X4_tellOf
  rw [if_neg (show ¬ (6 : Int32) = 0 by decide), if_neg (show ¬ (6 : Int32) = 1 by decide), if_neg (show ¬ (6 : Int32) = 2 by decide), if_neg (show ¬ (6 : Int32) = 3 by decide), if_neg (show ¬ (6 : Int32) = 4 by decide), if_neg (show ¬ (6 : Int32) = 5 by decide), if_pos rfl]
theorem te_7 (N : zM) (r : Nat) : g_X4_tellOf N r 7 = N 9 r := by
  unfold g_X4_tellOf
  rw [if_neg (show ¬ (7 : Int32) = 0 by decide), if_neg (show ¬ (7 : Int32) = 1 by decide), if_neg (show ¬ (7 : Int32) = 2 by decide), if_neg (show ¬ (7 : Int32) = 3 by decide), if_neg (show ¬ (7 : Int32) = 4 by decide), if_neg (show ¬ (7 : Int32) = 5 by decide), if_neg (show ¬ (7 : Int32) = 6 by decide), if_pos rfl]
theorem te_8 (N : zM) (r : Nat) : g_X4_tellOf N r 8 = g_X1_validVotesFor (zPl N 7) (nI r) := by
  unfold g_X4_tellOf
  rw [if_neg (show ¬ (8 : Int32) = 0 by decide), if_neg (show ¬ (8 : Int32) = 1 by decide), if_neg (show ¬ (8 : Int32) = 2 by decide), if_neg (show ¬ (8 : Int32) = 3 by decide), if_neg (show ¬ (8 : Int32) = 4 by decide), if_neg (show ¬ (8 : Int32) = 5 by decide), if_neg (show ¬ (8 : Int32) = 6 by decide), if_neg (show ¬ (8 : Int32) = 7 by decide), if_pos rfl]
section SOUND
variable {n oz T t0 : Nat} {x : zM}
theorem pl_12 (x : zM) : zPl x 12 = zPl (zPl x 5) 7 := by
  funext k
  show x (12 + k) = x (5 + (7 + k))
  rw [show 12 + k = 5 + (7 + k) by omega]
theorem so_tell (h : J n oz T t0 (zPl x 5)) {i : Nat} (hi : i < oz) (w : Nat) : g_X6_tell (zPl x 15) oz (nI i) w = x 16 ((oz - 1 - i) * 8 + w) := by
  have h12 := h.2.2.2.2.2.2.2.2.1.1
  have e0 : zPl x 15 0 0 = nI oz := h.2.2.2.2.2.2.2.2.1.2.1
  unfold g_X6_tell
  rw [if_neg (nI_pos (by omega)), e0, if_pos (nI_lt hi (by omega)), nI_clamp (by omega)]
  rfl
theorem so_order (h : J n oz T t0 (zPl x 5)) : g_X6_outOfOrder (zPl x 15) oz = 0 := by
  unfold g_X6_outOfOrder
  refine zIt_inv (P := fun _ (s : Int32) => s = 0) (oz - 1) 0 rfl ?_
  intro i hi s hs
  unfold l_X6_outOfOrder_4
  rw [hs, nI_pred, so_tell h (i := i + 1) (by omega), so_tell h (i := i) (by omega)]
  have hlt : x 16 ((oz - 1 - (i + 1)) * 8 + 0) < x 16 ((oz - 1 - i) * 8 + 0) := h.2.2.2.2.2.2.2.2.1.2.2.2.1 (oz - 1 - (i + 1)) (oz - 1 - i) (by omega) (by omega)
  rw [if_pos hlt]
  rfl
theorem so_gap (h : J n oz T t0 (zPl x 5)) : g_X9_gap x n oz = 0 := by
  obtain ⟨a1, a2, a3, a4, a5, a6, a7, a8, a9, b1⟩ := id h
  have h9 := a1.2.1
  unfold g_X9_gap
  rw [so_order h, pl_12, e_stray h9 a8.1, e_astray h9 a8.1]
  have e1 : qN n (qPv (zPl x 5)) = 0 := qN_0 n fun i hi => by
    unfold qPv
    cases h6 : qB (zPl x 5 7 6) i
    · rfl
    · obtain ⟨v, v1, v2, v3⟩ := (a8.2 i hi).1 h6
      rw [v2, nI_clamp (by omega), v3]
      rfl
  have e2 : qN n (qPt (zPl x 5)) = 0 := qN_0 n fun i hi => by
    unfold qPt
    cases h3 : qB (zPl x 5 7 3) i
    · rfl
    · have hp : ¬ zPl x 5 7 0 = 0 := fun e => by
        rw [a8.1.1.1 e, qB_0] at h3
        cases h3
      obtain ⟨-, -, t, -, -, -, t4, t5⟩ := a7.2 hp
      rw [t5 i hi h3, t4, decide_eq_true rfl]
      rfl
  have e3 : g_X4_oneWayLinks (zPl x 5) n = 0 := by
    unfold g_X4_oneWayLinks
    refine zIt_inv (P := fun _ (s : Int32) => s = 0) n 0 rfl ?_
    intro i hi s hs
    unfold l_X4_oneWayLinks_4
    refine (zIt_cut (n := 0) i s (Nat.zero_le i) fun j _ hj s' => ?_).trans hs
    unfold l_X4_oneWayLinks_14
    rw [has_q (by omega), has_q (by omega), (a6 i hi).2.2 j (by omega), if_pos rfl, Int32.add_zero]
  rw [e1, e2, e3]
  rfl
theorem so_1 (h : J n oz T t0 (zPl x 5)) : g_X9_office x n 1 = nI (qN n (qB (x 5 1))) := bc_n h.1.2.1 h.2.1
theorem so_votes (h : J n oz T t0 (zPl x 5)) : g_X9_office x n 10 = nI (qN n (qB (x 12 5))) ∧ g_X9_office x n 11 = nI (qN n (qB (x 12 6))) ∧ g_X9_office x n 12 = nI (qN n (qB (x 12 7))) := by
  obtain ⟨a1, a2, a3, a4, a5, a6, a7, a8, a9, b1⟩ := h
  have h9 := a1.2.1
  have e : ∀ w : Int32, (w = 10 ∨ w = 11 ∨ w = 12) → g_X9_office x n w = if x 12 0 = 0 then 0 else g_J6_bitCount_0f7a4 (if w = 10 then x 12 5 else if w = 11 then x 12 6 else x 12 7) := by
    intro w hw
    rcases hw with rfl | rfl | rfl <;> rfl
  have z : ∀ S : Int32, (∀ r, r < n → qB S r = true → qB (x 12 3) r = true) → x 12 0 = 0 → qN n (qB S) = 0 := fun S hS hp => qN_0 n fun i hi => by
    cases hq : qB S i
    · rfl
    · have := hS i hi hq
      rw [show x 12 3 = 0 from a8.1.1.1 hp, qB_0] at this
      cases this
  refine ⟨?_, ?_, ?_⟩
  · rw [e 10 (Or.inl rfl)]
    by_cases hp : x 12 0 = 0
    · rw [if_pos hp, z (x 12 5) (fun r hr q => ((a8.1.2.2 r hr).1 q).1) hp]
      rfl
    · rw [if_neg hp, if_pos rfl]
      exact bc_n h9 a8.1.2.1.2.1
  · rw [e 11 (Or.inr (Or.inl rfl))]
    by_cases hp : x 12 0 = 0
    · rw [if_pos hp, z (x 12 6) (fun r hr q => ((a8.1.2.2 r hr).2.1 q).1) hp]
      rfl
    · rw [if_neg hp, if_neg (by decide), if_pos rfl]
      exact bc_n h9 a8.1.2.1.2.2.1
  · rw [e 12 (Or.inr (Or.inr rfl))]
    by_cases hp : x 12 0 = 0
    · rw [if_pos hp, z (x 12 7) (fun r hr q => (a8.1.2.2 r hr).2.2.1 q) hp]
      rfl
    · rw [if_neg hp, if_neg (by decide), if_neg (by decide)]
      exact bc_n h9 a8.1.2.1.2.2.2
theorem so_15 (h : J n oz T t0 (zPl x 5)) {r : Nat} (hr : r < n) : x 9 r ≤ g_X9_office x n 15 := by
  obtain ⟨a1, a2, a3, a4, -⟩ := h
  have h9 := a1.2.1
  obtain ⟨t, -, e, hg⟩ := e_great h9 ((1 <<< ((x 5 0) &&& 31)) - 1) a4
  have e1 : g_X9_office x n 15 = nI t := e
  rw [e1]
  refine hg r hr ?_
  rw [show x 5 0 = nI n from a1.2.2]
  have : ∀ n, n ≤ 9 → ∀ r, r < n → qB ((1 <<< ((nI n) &&& 31)) - 1) r = true := by decide +kernel
  exact this n h9 r hr
theorem so_vote (h : J n oz T t0 (zPl x 5)) {r : Nat} (hr : r < n) :
    (g_X4_tellOf (zPl x 5) r 6 = -1 ↔ qB (x 12 3) r = false) ∧ (g_X4_tellOf (zPl x 5) r 6 = 1 ↔ qB (x 12 5) r = true) ∧ (g_X4_tellOf (zPl x 5) r 6 = 2 ↔ qB (x 12 6) r = true) ∧ (g_X4_tellOf (zPl x 5) r 6 = 3 ↔ qB (x 12 7) r = true) ∧ (g_X4_tellOf (zPl x 5) r 6 < 2 ↔ x 14 r = -1) := by
  obtain ⟨a1, a2, a3, a4, a5, a6, a7, a8, a9, b1⟩ := h
  have h9 := a1.2.1
  have e := te_6 (zPl x 5) r
  have eS : qSt (zPl x 5) r = if qB (x 12 5) r = true then 1 else if qB (x 12 6) r = true then 2 else if qB (x 12 7) r = true then 3 else 0 := rfl
  have eR : g_X1_isOnRoll (zPl (zPl x 5) 7) (nI r) = bI (qB (x 12 3) r) := c_onRoll (by omega)
  rw [e, eR, bI_ite, c_state (by omega), eS]
  clear e eR eS
  obtain ⟨v1, v2, v3, v4⟩ : (qB (x 12 5) r = true → qB (x 12 3) r = true ∧ qB (x 12 6) r = false ∧ qB (x 12 7) r = false) ∧ (qB (x 12 6) r = true → qB (x 12 3) r = true ∧ qB (x 12 7) r = false ∧ ∃ v, v < n ∧ x 14 r = nI v) ∧ (qB (x 12 7) r = true → qB (x 12 3) r = true) ∧ (qB (x 12 6) r = false → qB (x 12 7) r = false → x 14 r = -1) := a8.1.2.2 r hr
  obtain ⟨w1, w2⟩ : (qB (x 12 6) r = true → ∃ v, v < n ∧ x 14 r = nI v ∧ qB (x 12 3) v = true) ∧ (qB (x 12 7) r = true → ∃ v, 1 ≤ v ∧ v ≤ 4 ∧ x 14 r = nI v) := a8.2 r hr
  have nn : ∀ v, v < n → ¬ nI v = -1 := fun v hv => m1_ne (by omega)
  cases h3 : qB (x 12 3) r
  · have n5 : qB (x 12 5) r = false := by
      cases q : qB (x 12 5) r
      · rfl
      · have := (v1 q).1
        rw [h3] at this
        cases this
    have n6 : qB (x 12 6) r = false := by
      cases q : qB (x 12 6) r
      · rfl
      · have := (v2 q).1
        rw [h3] at this
        cases this
    have n7 : qB (x 12 7) r = false := by
      cases q : qB (x 12 7) r
      · rfl
      · have := v3 q
        rw [h3] at this
        cases this
    rw [n5, n6, n7, if_neg Bool.false_ne_true]
    refine ⟨⟨fun _ => rfl, fun _ => rfl⟩, ⟨fun q => absurd q (by decide), fun q => absurd q (by decide)⟩, ⟨fun q => absurd q (by decide), fun q => absurd q (by decide)⟩, ⟨fun q => absurd q (by decide), fun q => absurd q (by decide)⟩, ⟨fun _ => v4 n6 n7, fun _ => by decide⟩⟩
  · rw [if_pos rfl]
    cases h5 : qB (x 12 5) r
    · cases h6 : qB (x 12 6) r
      · cases h7 : qB (x 12 7) r
        · refine ⟨⟨fun q => absurd q (by decide), fun q => absurd q (by decide)⟩, ⟨fun q => absurd q (by decide), fun q => absurd q (by decide)⟩, ⟨fun q => absurd q (by decide), fun q => absurd q (by decide)⟩, ⟨fun q => absurd q (by decide), fun q => absurd q (by decide)⟩, ⟨fun _ => v4 h6 h7, fun _ => by decide⟩⟩
        · obtain ⟨v, q1, q2, q3⟩ := w2 h7
          refine ⟨⟨fun q => absurd q (by decide), fun q => absurd q (by decide)⟩, ⟨fun q => absurd q (by decide), fun q => absurd q (by decide)⟩, ⟨fun q => absurd q (by decide), fun q => absurd q (by decide)⟩, ⟨fun _ => rfl, fun _ => rfl⟩, ⟨fun q => absurd q (by decide), fun q => ?_⟩⟩
          rw [q3] at q
          exact absurd q (m1_ne (by omega))
      · obtain ⟨v, q1, q2, -⟩ := w1 h6
        have n7 := (v2 h6).2.1
        rw [n7]
        refine ⟨⟨fun q => absurd q (by decide), fun q => absurd q (by decide)⟩, ⟨fun q => absurd q (by decide), fun q => absurd q (by decide)⟩, ⟨fun _ => rfl, fun _ => rfl⟩, ⟨fun q => absurd q (by decide), fun q => absurd q (by decide)⟩, ⟨fun q => absurd q (by decide), fun q => ?_⟩⟩
        rw [q2] at q
        exact absurd q (nn v q1)
    · obtain ⟨-, n6, n7⟩ := v1 h5
      rw [n6, n7]
      refine ⟨⟨fun q => absurd q (by decide), fun q => absurd q (by decide)⟩, ⟨fun _ => rfl, fun _ => rfl⟩, ⟨fun q => absurd q (by decide), fun q => absurd q (by decide)⟩, ⟨fun q => absurd q (by decide), fun q => absurd q (by decide)⟩, ⟨fun _ => v4 n6 n7, fun _ => by decide⟩⟩
theorem so_8 (h : J n oz T t0 (zPl x 5)) (r : Nat) : g_X4_tellOf (zPl x 5) r 8 = nI (qV n (zPl x 5) r) := (te_8 _ r).trans (c_votesFor h.1.2.1 h.2.2.2.2.2.2.2.1.1 r)
theorem so_2 {r : Nat} (hr : r < 32) : g_X4_tellOf (zPl x 5) r 2 = bI (qB (x 5 1) r) := by
  have e : g_X4_tellOf (zPl x 5) r 2 = if (g_X9_has (x 5 1) (nI r)) = 0 then 0 else 1 := te_2 _ r
  rw [e, has_q hr, bI_ite]
  rfl
theorem so_sum (h : J n oz T t0 (zPl x 5)) : jSm n (qV n (zPl x 5)) = qN n (qB (x 12 6)) := by
  obtain ⟨a1, a2, a3, a4, a5, a6, a7, a8, a9, b1⟩ := h
  have h9 := a1.2.1
  have : ∀ m, m ≤ n → jSm n (fun c => qN m (fun i => qB (zPl x 5 7 6) i && decide (zPl x 5 9 i = nI c))) = qN m (qB (zPl x 5 7 6)) := by
    intro m
    induction m with
    | zero => intro _; exact jSm_0 n
    | succ m ih =>
      intro hm
      have e1 : jSm n (fun c => qN (m + 1) (fun i => qB (zPl x 5 7 6) i && decide (zPl x 5 9 i = nI c))) = jSm n (fun c => qN m (fun i => qB (zPl x 5 7 6) i && decide (zPl x 5 9 i = nI c))) + jSm n (fun c => if (qB (zPl x 5 7 6) m && decide (zPl x 5 9 m = nI c)) = true then 1 else 0) := jSm_add n
      rw [e1, ih (by omega), qN]
      congr 1
      cases h6 : qB (zPl x 5 7 6) m
      · exact jSm_0 n
      · obtain ⟨v, v1, v2, -⟩ := (a8.2 m (by omega)).1 h6
        rw [jSm_congr (g := fun c => if c = v then 1 else 0) n fun c hc => ?_, jSm_one, if_pos v1, if_pos rfl]
        rw [v2, Bool.true_and]
        by_cases e : c = v
        · rw [if_pos e, e, if_pos (decide_eq_true rfl)]
        · rw [if_neg e, if_neg (fun q => e ((nI_eq9 (by omega) (by omega)).mp (of_decide_eq_true q)).symm)]
  exact this n (Nat.le_refl n)
theorem so_link {r k : Nat} (hk : k < 32) : g_X9_isLinked x n r k = bI (qB (x 11 r) k) := has_q hk _
theorem so_5 {r k : Nat} (hr : r < 32) (hk : k < 32) (e : ¬ r = k) : ((g_X4_tellOf (zPl x 5) r 5) >>> ((nI k) &&& 31)) &&& 1 = 1 ↔ qB (x 11 r) k = true := by
  have e5 : g_X4_tellOf (zPl x 5) r 5 = (x 11 r) &&& ((1 <<< ((nI r) &&& 31)) ^^^ (-1)) := te_5 _ r
  rw [qB_sh hk, e5, qB_del hr, beq_eq_false_iff_ne.mpr (fun q => e q.symm), Bool.not_false, Bool.and_true]
/-- the roll, as it is put together -/
def jRl (S : Int32) : Nat → Int32
  | 0 => 0
  | r + 1 => jRl S r ||| (if qB S r = true then 1 <<< ((nI r) &&& 31) else 0)
theorem jRl_q (S : Int32) : ∀ r, r ≤ 32 → ∀ k, qB (jRl S r) k = (decide (k < r) && qB S k)
  | 0, _, k => by rw [jRl, qB_0, decide_eq_false (Nat.not_lt_zero k)]; rfl
  | r + 1, hr, k => by
    rw [jRl, qB_or, jRl_q S r (by omega)]
    cases hq : qB S r
    · rw [if_neg Bool.false_ne_true, qB_0, Bool.or_false]
      by_cases e : k = r
      · rw [e, hq, Bool.and_false, Bool.and_false]
      · congr 1
        exact decide_eq_decide.mpr (by omega)
    · rw [if_pos rfl, qB_bit (by omega)]
      by_cases e : k = r
      · rw [e, hq, beq_self_eq_true, decide_eq_true (Nat.lt_succ_self r), Bool.or_true]
        rfl
      · rw [beq_eq_false_iff_ne.mpr e, Bool.or_false]
        congr 1
        exact decide_eq_decide.mpr (by omega)
theorem jRl_all {S : Int32} (h9 : n ≤ 9) (hS : qS n S) : jRl S n = S := qB_ext fun k => by
  rw [jRl_q S n (by omega)]
  by_cases e : k < n
  · rw [decide_eq_true e, Bool.true_and]
  · rw [decide_eq_false e, hS k (by omega)]
    rfl
end SOUND
