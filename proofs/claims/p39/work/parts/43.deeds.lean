/-! DEEDS keep the invariant: settings, freshness, closing, giving up, seals -/
section DEEDS
variable {n oz T t0 : Nat} {N : zM}
theorem d_fresh (h : JJ n T t0 N) (r : Nat) (x : Int32) : JJ n T t0 (g_X4_changeFresh N r x).2 := by
  obtain ⟨oz, h⟩ := h
  exact ⟨oz, h.of (fun o _ _ h3 _ _ => fr_X4_changeFresh N r x o h3) (h.2.2.1.of (congrFun (fr_X4_changeFresh N r x 1 (by decide)) 0))⟩
theorem d_set (h : JJ n T t0 N) (w : Nat) (x : Int32) (hx : w = 0 → ∃ v, 1 ≤ v ∧ v ≤ 9 ∧ x = nI v) : JJ n T t0 (g_X4_changeSetting N w x).2 := by
  obtain ⟨oz, h⟩ := h
  refine ⟨oz, h.of (fun o h1 _ _ _ _ => zU_ne h1) ?_⟩
  show ∃ v, 1 ≤ v ∧ v ≤ 9 ∧ zU N 1 w x 1 0 = nI v
  rw [zU_c]
  by_cases e : 0 = w
  · rw [if_pos e]
    exact hx e.symm
  · rw [if_neg e]
    exact h.2.2.1
/-- only the phase changes, and the leaders, and what the tally has -/
theorem d_close (h : JJ n T t0 N) : JJ n T t0 (g_X4_closeSealing N).2 := by
  unfold g_X4_closeSealing
  by_cases p1 : N 7 0 = 1
  · rw [if_pos p1]
    split
    · obtain ⟨oz, a1, a2, a3, a4, a5, a6, a7, a8, a9, b1⟩ := h
      have eo : ∀ o, o ≠ 7 → zU N 7 0 2 o = N o := fun o ho => zU_ne ho
      have e7 : ∀ k, k ≠ 0 → zU N 7 0 2 7 k = N 7 k := fun k hk => zU_k hk
      have e70 : zU N 7 0 2 7 0 = nI 2 := zU_s
      have hp : ¬ N 7 0 = 0 := by rw [p1]; decide
      refine ⟨oz, a1.of (congrFun (eo 0 (by decide)) 0), ?_, a3.of (congrFun (eo 1 (by decide)) 0), a4.of (eo 4 (by decide)), a5.of (eo 5 (by decide)) (congrFun (eo 0 (by decide)) 1), a6.of (eo 6 (by decide)), ⟨⟨2, by decide, e70⟩, fun _ => ?_⟩, ⟨nv_ph a8.1 2 (by decide) (by decide) e70 (fun k h3 _ => e7 k (by omega)) (fun r _ => congrFun (eo 9 (by decide)) r), fun r hr => ?_⟩, ⟨a9.1, a9.2.1, fun j hj => (a9.2.2.1 j hj).of (eo 11 (by decide)) (eo 4 (by decide)), a9.2.2.2.1, fun _ j hj => ?_, fun q => ?_⟩, b1.1.of (eo 4 (by decide)), b1.2⟩
      · show qS n (zU N 7 0 2 0 1)
        rw [eo 0 (by decide)]; exact a2
      · show (∃ c, c < n ∧ zU N 7 0 2 7 2 = nI c) ∧ n < 2 * qN n (qB (zU N 7 0 2 7 3)) ∧ ∃ t, t ≤ T ∧ t0 ≤ t ∧ 1 ≤ t ∧ zU N 7 0 2 7 1 = nI t ∧ ∀ r, r < n → qB (zU N 7 0 2 7 3) r = true → zU N 7 0 2 4 r = nI t
        rw [e7 2 (by decide), e7 3 (by decide), e7 1 (by decide), eo 4 (by decide)]
        exact a7.2 hp
      · show (qB (zU N 7 0 2 7 6) r = true → ∃ v, v < n ∧ zU N 7 0 2 9 r = nI v ∧ qB (zU N 7 0 2 7 3) v = true) ∧ (qB (zU N 7 0 2 7 7) r = true → ∃ v, 1 ≤ v ∧ v ≤ 4 ∧ zU N 7 0 2 9 r = nI v)
        rw [e7 6 (by decide), e7 3 (by decide), e7 7 (by decide), eo 9 (by decide)]
        exact a8.2 r hr
      · show zU N 7 0 2 11 (j * 8) < zU N 7 0 2 7 1
        rw [eo 11 (by decide), e7 1 (by decide)]
        exact a9.2.2.2.2.1 (Or.inl p1) j hj
      · have q' : zU N 7 0 2 7 0 = 3 := q
        rw [e70] at q'
        exact absurd q' (by decide)
    · exact h
  · rw [if_neg p1]
    exact h
theorem d_give (h : JJ n T t0 N) : JJ n T t0 (g_X4_giveBallotUp N).2 := by
  unfold g_X4_giveBallotUp
  by_cases hp : N 7 0 = 0
  · rw [if_pos hp]
    exact h
  · rw [if_neg hp]
    obtain ⟨oz, a1, a2, a3, a4, a5, a6, a7, a8, a9, b1⟩ := h
    have h9 := a1.2.1
    obtain ⟨c1, c2, c3⟩ := e_begin (zPl N 7) (-1) (-1) 0
    show JJ n T t0 (zPs N 7 3 (g_X1_clear (zPl N 7)))
    generalize hX : zPs N 7 3 (g_X1_clear (zPl N 7)) = X
    have eo : ∀ o, o < 7 ∨ 10 ≤ o → X o = N o := fun o ho => by rw [← hX]; exact zPs_out (by omega)
    have e7 : ∀ k, X 7 k = if k = 0 then 0 else g_X1_begin (zPl N 7) (-1) (-1) 0 0 k := fun k => by
      rw [← hX, zPs_in (by decide) (by decide)]
      exact zU_c
    have e9 : ∀ k, k < 9 → X 9 k = -1 := fun k hk => by
      rw [← hX, zPs_in (by decide) (by decide)]
      show zU _ 0 0 0 2 k = -1
      rw [zU_ne (by decide)]
      exact c3 k hk
    have e70 : X 7 0 = 0 := by rw [e7]; rfl
    have e73 : X 7 3 = 0 := by rw [e7, if_neg (by decide), c1]; rfl
    have e75 : X 7 5 = 0 := by rw [e7, if_neg (by decide), c1]; rfl
    have e76 : X 7 6 = 0 := by rw [e7, if_neg (by decide), c1]; rfl
    have e77 : X 7 7 = 0 := by rw [e7, if_neg (by decide), c1]; rfl
    refine ⟨oz, a1.of (congrFun (eo 0 (by decide)) 0), by rw [eo 0 (by decide)]; exact a2, a3.of (congrFun (eo 1 (by decide)) 0), a4.of (eo 4 (by decide)), a5.of (eo 5 (by decide)) (congrFun (eo 0 (by decide)) 1), a6.of (eo 6 (by decide)), ⟨⟨0, by decide, e70⟩, fun q => absurd e70 q⟩, ⟨⟨⟨fun _ => e73, fun _ => ⟨e76, e77⟩⟩, ⟨by rw [e73]; exact qS_0 n, by rw [e75]; exact qS_0 n, by rw [e76]; exact qS_0 n, by rw [e77]; exact qS_0 n⟩, fun r hr => ?_⟩, fun r hr => ?_⟩, ⟨a9.1, (congrFun (eo 10 (by decide)) 0).trans a9.2.1, fun j hj => (a9.2.2.1 j hj).of (eo 11 (by decide)) (eo 4 (by decide)), fun i j hij hj => by rw [eo 11 (by decide)]; exact a9.2.2.2.1 i j hij hj, fun q => ?_, fun q => ?_⟩, b1.1.of (eo 4 (by decide)), b1.2⟩
    · rw [e73, e75, e76, e77, qB_0]
      exact ⟨fun q => (Bool.false_ne_true q).elim, fun q => (Bool.false_ne_true q).elim, fun q => (Bool.false_ne_true q).elim, fun _ _ => e9 r (by omega)⟩
    · rw [e76, e77, qB_0]
      exact ⟨fun q => (Bool.false_ne_true q).elim, fun q => (Bool.false_ne_true q).elim⟩
    · rw [e70] at q
      exact absurd q (by decide)
    · rw [e70] at q
      exact absurd q (by decide)
theorem d_seal (h : JJ n T t0 N) {r : Nat} (hr : r < n) (x : Int32) : JJ n T t0 (g_X4_sealWith N r x).2 := by
  unfold g_X4_sealWith
  by_cases p1 : N 7 0 = 1
  case neg => rw [if_neg p1]; exact h
  rw [if_pos p1]
  have h9 : r < 32 := by obtain ⟨oz, a1, -⟩ := h; have := a1.2.1; omega
  rw [c_onRoll h9, has_q h9, bI_ite, bI_ite]
  cases hon : qB (N 7 3) r
  · rw [if_neg Bool.false_ne_true]; exact h
  rw [if_pos rfl]
  cases hse : qB (N 7 5) r
  case true => rw [if_pos rfl]; exact h
  rw [if_neg Bool.false_ne_true]
  split
  · exact h
  obtain ⟨oz, a1, a2, a3, a4, a5, a6, a7, a8, a9, b1⟩ := h
  show JJ n T t0 (zPs N 7 3 (g_X1_putSeal (zPl N 7) r x))
  generalize hX : zPs N 7 3 (g_X1_putSeal (zPl N 7) r x) = X
  have eo : ∀ o, o < 7 ∨ 9 ≤ o → X o = N o := fun o ho => by
    rw [← hX]
    by_cases q : o = 9
    · subst q
      rw [zPs_in (by decide) (by decide)]
      exact fr_X1_putSeal (zPl N 7) r x 2 (by decide)
    · exact zPs_out (by omega)
  have e7 : ∀ k, X 7 k = if k = 5 then (N 7 5) ||| (1 <<< ((nI r) &&& 31)) else N 7 k := fun k => by
    rw [← hX, zPs_in (by decide) (by decide)]
    show zU (zU (zPl N 7) 0 5 _) 1 r x 0 k = _
    rw [zU_ne (by decide), zU_c]
    rfl
  have n7 : ∀ k, k ≠ 5 → X 7 k = N 7 k := fun k hk => by rw [e7, if_neg hk]
  have q5 : ∀ k, qB (X 7 5) k = (qB (N 7 5) k || k == r) := fun k => by rw [e7, if_pos rfl, qB_add h9]
  have hp : ¬ N 7 0 = 0 := by rw [p1]; decide
  refine ⟨oz, a1.of (congrFun (eo 0 (by decide)) 0), by rw [eo 0 (by decide)]; exact a2, a3.of (congrFun (eo 1 (by decide)) 0), a4.of (eo 4 (by decide)), a5.of (eo 5 (by decide)) (congrFun (eo 0 (by decide)) 1), a6.of (eo 6 (by decide)), ?_, ⟨⟨?_, ⟨?_, ?_, ?_, ?_⟩, fun r' hr' => ?_⟩, fun r' hr' => ?_⟩, ⟨a9.1, (congrFun (eo 10 (by decide)) 0).trans a9.2.1, fun j hj => (a9.2.2.1 j hj).of (eo 11 (by decide)) (eo 4 (by decide)), fun i j hij hj => by rw [eo 11 (by decide)]; exact a9.2.2.2.1 i j hij hj, fun q j hj => ?_, fun q => ?_⟩, b1.1.of (eo 4 (by decide)), b1.2⟩
  · unfold jB
    rw [n7 0 (by decide), n7 2 (by decide), n7 3 (by decide), n7 1 (by decide), eo 4 (by decide)]
    exact a7
  · rw [n7 0 (by decide), n7 3 (by decide), n7 6 (by decide), n7 7 (by decide)]
    exact a8.1.1
  · rw [n7 3 (by decide)]; exact a8.1.2.1.1
  · intro k hk
    rw [q5, a8.1.2.1.2.1 k hk, Bool.false_or]
    exact beq_eq_false_iff_ne.mpr (by omega)
  · rw [n7 6 (by decide)]; exact a8.1.2.1.2.2.1
  · rw [n7 7 (by decide)]; exact a8.1.2.1.2.2.2
  · rw [q5, n7 3 (by decide), n7 6 (by decide), n7 7 (by decide), eo 9 (by decide)]
    refine ⟨fun q => ?_, (a8.1.2.2 r' hr').2⟩
    by_cases e : r' = r
    · subst e
      obtain ⟨z6, z7⟩ := a8.1.1.2 p1
      exact ⟨hon, by rw [z6, qB_0], by rw [z7, qB_0]⟩
    · rw [beq_eq_false_iff_ne.mpr e, Bool.or_false] at q
      exact (a8.1.2.2 r' hr').1 q
  · rw [n7 3 (by decide), n7 6 (by decide), n7 7 (by decide), eo 9 (by decide)]
    exact a8.2 r' hr'
  · rw [n7 1 (by decide), eo 11 (by decide)]
    exact a9.2.2.2.2.1 (Or.inl p1) j hj
  · rw [n7 0 (by decide), p1] at q
    exact absurd q (by decide)
theorem d_vote (h : JJ n T t0 N) {r : Nat} (hr : r < n) (c x : Int32) : JJ n T t0 (g_X4_sealVote N r c x).2 := d_seal h hr _
/-- who is not up, or not on the roll, or less fresh -/
theorem flaw_in {v cd : Nat} : g_X4_flawOf N v cd = 0 ∧ ¬ g_X1_isOnRoll (zPl N 7) (nI cd) = 0 ∨ ∃ w, 1 ≤ w ∧ w ≤ 4 ∧ g_X4_flawOf N v cd = nI w := by
  unfold g_X4_flawOf
  split
  · exact Or.inr ⟨2, by decide, by decide, rfl⟩
  · rename_i h1
    split
    · split
      · exact Or.inr ⟨4, by decide, by decide, rfl⟩
      · exact Or.inl ⟨rfl, h1⟩
    · exact Or.inr ⟨3, by decide, by decide, rfl⟩
theorem d_break (h : JJ n T t0 N) {v cd : Nat} (hv : v < n) (hcd : cd < n) (x : Int32) : JJ n T t0 (g_X4_breakVote N v cd x).2 := by
  unfold g_X4_breakVote
  by_cases p2 : N 7 0 = 2
  case neg => rw [if_neg p2]; exact h
  rw [if_pos p2]
  have h9 : n ≤ 9 := by obtain ⟨oz, a1, -⟩ := h; exact a1.2.1
  have h32 : v < 32 := by omega
  rw [c_onRoll h32, has_q h32, bI_ite, bI_ite]
  cases hon : qB (N 7 3) v
  · rw [if_neg Bool.false_ne_true]; exact h
  rw [if_pos rfl]
  cases hse : qB (N 7 5) v
  · rw [if_neg Bool.false_ne_true]; exact h
  rw [if_pos rfl]
  split
  · exact h
  obtain ⟨oz, a1, a2, a3, a4, a5, a6, a7, a8, a9, b1⟩ := h
  generalize hf : (if g_X1_sealFits (zPl N 7) v (nI cd) x = 0 then 1 else (g_X4_flawOf N v cd)) = f
  have fin : (f = 0 ∧ qB (N 7 3) cd = true) ∨ ∃ w, 1 ≤ w ∧ w ≤ 4 ∧ f = nI w := by
    rw [← hf]
    split
    · exact Or.inr ⟨1, by decide, by decide, rfl⟩
    · rcases flaw_in (N := N) (v := v) (cd := cd) with ⟨q1, q2⟩ | q
      · rw [c_onRoll (by omega), bI_0] at q2
        exact Or.inl ⟨q1, by cases hq : qB (N 7 3) cd <;> first | rfl | exact absurd hq q2⟩
      · exact Or.inr q
  show JJ n T t0 (zPs N 7 3 (g_X1_putBroken (zPl N 7) v (nI cd) f))
  generalize hX : zPs N 7 3 (g_X1_putBroken (zPl N 7) v (nI cd) f) = X
  have eo : ∀ o, o < 7 ∨ o = 8 ∨ 10 ≤ o → X o = N o := fun o ho => by
    rw [← hX]
    by_cases q : o = 8
    · subst q
      rw [zPs_in (by decide) (by decide)]
      exact fr_X1_putBroken (zPl N 7) v (nI cd) f 1 (by decide)
    · exact zPs_out (by omega)
  obtain ⟨v1, v2, v3, v4⟩ := a8.1.2.2 v hv
  obtain ⟨s1, s2, s3⟩ := v1 hse
  -- what is new, in both cases
  have key : (∀ k, k ≠ 5 → k ≠ 6 → k ≠ 7 → X 7 k = N 7 k) ∧ (∀ k, qB (X 7 5) k = (qB (N 7 5) k && !(k == v))) ∧ (∀ k, X 9 k = if k = v then X 9 v else N 9 k) ∧
      ((∀ k, qB (X 7 6) k = (qB (N 7 6) k || k == v)) ∧ X 7 7 = N 7 7 ∧ X 9 v = nI cd ∧ qB (N 7 3) cd = true ∨
       X 7 6 = N 7 6 ∧ (∀ k, qB (X 7 7) k = (qB (N 7 7) k || k == v)) ∧ ∃ w, 1 ≤ w ∧ w ≤ 4 ∧ X 9 v = nI w) := by
    rcases fin with ⟨f0, fr⟩ | ⟨w, w1, w4, fw⟩
    · have eX : X = zPs N 7 3 (zU (zU (zU (zPl N 7) 0 5 ((zPl N 7 0 5) &&& ((1 <<< ((nI v) &&& 31)) ^^^ (-1)))) 0 6 ((zPl N 7 0 6) ||| (1 <<< ((nI v) &&& 31)))) 2 v (nI cd)) := by
        rw [← hX]
        unfold g_X1_putBroken
        rw [if_pos f0]
      have e7 : ∀ k, X 7 k = if k = 6 then (N 7 6) ||| (1 <<< ((nI v) &&& 31)) else if k = 5 then (N 7 5) &&& ((1 <<< ((nI v) &&& 31)) ^^^ (-1)) else N 7 k := fun k => by
        rw [eX, zPs_in (by decide) (by decide), zU_ne (by decide), zU_c, zU_c]
        rfl
      have e9 : ∀ k, X 9 k = if k = v then nI cd else N 9 k := fun k => by
        rw [eX, zPs_in (by decide) (by decide), zU_c]
        rfl
      refine ⟨fun k h5 h6 _ => by rw [e7, if_neg h6, if_neg h5], fun k => by rw [e7, if_neg (by decide), if_pos rfl, qB_del h32], fun k => ?_, Or.inl ⟨fun k => by rw [e7, if_pos rfl, qB_add h32], by rw [e7, if_neg (by decide), if_neg (by decide)], by rw [e9, if_pos rfl], fr⟩⟩
      rw [e9, e9, if_pos rfl]
    · have f0 : ¬ f = 0 := by rw [fw]; exact nI_ne0 (by omega) (by omega)
      have eX : X = zPs N 7 3 (zU (zU (zU (zPl N 7) 0 5 ((zPl N 7 0 5) &&& ((1 <<< ((nI v) &&& 31)) ^^^ (-1)))) 0 7 ((zPl N 7 0 7) ||| (1 <<< ((nI v) &&& 31)))) 2 v f) := by
        rw [← hX]
        unfold g_X1_putBroken
        rw [if_neg f0]
      have e7 : ∀ k, X 7 k = if k = 7 then (N 7 7) ||| (1 <<< ((nI v) &&& 31)) else if k = 5 then (N 7 5) &&& ((1 <<< ((nI v) &&& 31)) ^^^ (-1)) else N 7 k := fun k => by
        rw [eX, zPs_in (by decide) (by decide), zU_ne (by decide), zU_c, zU_c]
        rfl
      have e9 : ∀ k, X 9 k = if k = v then f else N 9 k := fun k => by
        rw [eX, zPs_in (by decide) (by decide), zU_c]
        rfl
      refine ⟨fun k h5 _ h7 => by rw [e7, if_neg h7, if_neg h5], fun k => by rw [e7, if_neg (by decide), if_pos rfl, qB_del h32], fun k => ?_, Or.inr ⟨by rw [e7, if_neg (by decide), if_neg (by decide)], fun k => by rw [e7, if_pos rfl, qB_add h32], w, w1, w4, by rw [e9, if_pos rfl]; exact fw⟩⟩
      rw [e9, e9, if_pos rfl]
  obtain ⟨k1, k2, k3, k4⟩ := key
  clear hX hf fin
  have n0 := k1 0 (by decide) (by decide) (by decide)
  have n1 := k1 1 (by decide) (by decide) (by decide)
  have n2 := k1 2 (by decide) (by decide) (by decide)
  have n3 := k1 3 (by decide) (by decide) (by decide)
  have k5 : ∀ k, k ≠ v → X 9 k = N 9 k := fun k hk => by rw [k3, if_neg hk]
  have bn : ∀ {k : Nat}, k ≠ v → (k == v) = false := fun hk => beq_eq_false_iff_ne.mpr hk
  have q56 : ∀ k, k ≠ v → qB (X 7 5) k = qB (N 7 5) k ∧ qB (X 7 6) k = qB (N 7 6) k ∧ qB (X 7 7) k = qB (N 7 7) k := fun k hk => by
    rw [k2, bn hk]
    rcases k4 with ⟨g1, g2, -⟩ | ⟨g1, g2, -⟩
    · rw [g1, g2, bn hk]; simp
    · rw [g1, g2, bn hk]; simp
  have v5 : qB (X 7 5) v = false := by rw [k2]; simp
  refine ⟨oz, a1.of (congrFun (eo 0 (by decide)) 0), by rw [eo 0 (by decide)]; exact a2, a3.of (congrFun (eo 1 (by decide)) 0), a4.of (eo 4 (by decide)), a5.of (eo 5 (by decide)) (congrFun (eo 0 (by decide)) 1), a6.of (eo 6 (by decide)), ?_, ⟨⟨?_, ⟨?_, ?_, ?_, ?_⟩, fun r' hr' => ?_⟩, fun r' hr' => ?_⟩, ⟨a9.1, (congrFun (eo 10 (by decide)) 0).trans a9.2.1, fun j hj => (a9.2.2.1 j hj).of (eo 11 (by decide)) (eo 4 (by decide)), fun i j hij hj => by rw [eo 11 (by decide)]; exact a9.2.2.2.1 i j hij hj, fun q j hj => ?_, fun q => ?_⟩, b1.1.of (eo 4 (by decide)), b1.2⟩
  · unfold jB
    rw [n0, n2, n3, n1, eo 4 (by decide)]
    exact a7
  · rw [n0, n3, p2]
    exact ⟨fun q => absurd q (by decide), fun q => absurd q (by decide)⟩
  · rw [n3]; exact a8.1.2.1.1
  · intro k hk
    rw [(q56 k (by omega)).1]; exact a8.1.2.1.2.1 k hk
  · intro k hk
    rw [(q56 k (by omega)).2.1]; exact a8.1.2.1.2.2.1 k hk
  · intro k hk
    rw [(q56 k (by omega)).2.2]; exact a8.1.2.1.2.2.2 k hk
  · by_cases e : r' = v
    · subst e
      rw [n3, v5]
      refine ⟨fun q => (Bool.false_ne_true q).elim, ?_⟩
      rcases k4 with ⟨g1, g2, g3, g4⟩ | ⟨g1, g2, w, g3, g4, g5⟩
      · rw [g2, s3]
        refine ⟨fun _ => ⟨hon, rfl, cd, hcd, g3⟩, fun q => (Bool.false_ne_true q).elim, fun q => ?_⟩
        rw [g1] at q; simp at q
      · rw [g1, s2]
        refine ⟨fun q => (Bool.false_ne_true q).elim, fun _ => hon, fun _ q => ?_⟩
        rw [g2] at q; simp at q
    · obtain ⟨g1, g2, g3⟩ := q56 r' e
      rw [g1, g2, g3, n3, k5 r' e]
      exact a8.1.2.2 r' hr'
  · by_cases e : r' = v
    · subst e
      rw [n3]
      rcases k4 with ⟨g1, g2, g3, g4⟩ | ⟨g1, g2, w, g3, g4, g5⟩
      · rw [g2, s3]
        exact ⟨fun _ => ⟨cd, hcd, g3, g4⟩, fun q => (Bool.false_ne_true q).elim⟩
      · rw [g1, s2]
        exact ⟨fun q => (Bool.false_ne_true q).elim, fun _ => ⟨w, g3, g4, g5⟩⟩
    · obtain ⟨g1, g2, g3⟩ := q56 r' e
      rw [g2, g3, n3, k5 r' e]
      exact a8.2 r' hr'
  · rw [n1, eo 11 (by decide)]
    exact a9.2.2.2.2.1 (Or.inr p2) j hj
  · rw [n0, p2] at q
    exact absurd q (by decide)
end DEEDS
