/-! DEEDS keep the invariant: up and down, links, a call -/
section DEEDS2
variable {n oz T t0 : Nat} {N : zM}
/-- the rest of the invariant, where only leaders, TERMs and who is up may differ -/
theorem d_up (h : JJ n T t0 N) {r : Nat} (hr : r < n) (b : Bool) : JJ n T t0 (g_X4_changeUp N n r (bI b)).2 := by
  obtain ⟨oz, h⟩ := h
  have h9 : n ≤ 9 := h.1.2.1
  unfold g_X4_changeUp
  rw [has_q (by omega)]
  by_cases hb : bI (qB (N 0 1) r) = bI b
  · rw [if_pos hb]; exact ⟨oz, h⟩
  rw [if_neg hb]
  have hb' : qB (N 0 1) r = !b := by
    cases hq : qB (N 0 1) r <;> cases b <;> first | rfl | exact absurd (by rw [hq]) hb
  have key : ∀ X : zM, X 0 1 = (N 0 1 ^^^ (1 <<< (nI r &&& 31))) → X 0 0 = N 0 0 → (∀ o, o ≠ 0 → o ≠ 5 → X o = N o) → jL n X → JJ n T t0 X := by
    intro X x1 x0 eo hl
    obtain ⟨a1, a2, a3, a4, a5, a6, a7, a8, a9, b1⟩ := h
    refine ⟨oz, a1.of x0, fun k hk => ?_, a3.of (congrFun (eo 1 (by decide) (by decide)) 0), a4.of (eo 4 (by decide) (by decide)), hl, a6.of (eo 6 (by decide) (by decide)), a7.of (eo 7 (by decide) (by decide)) (eo 4 (by decide) (by decide)), ⟨nv_of a8.1 (eo 7 (by decide) (by decide)) (eo 9 (by decide) (by decide)), a8.2.of (eo 7 (by decide) (by decide)) (eo 9 (by decide) (by decide))⟩, a9.of (congrFun (eo 10 (by decide) (by decide)) 0) (eo 11 (by decide) (by decide)) (eo 7 (by decide) (by decide)) (eo 4 (by decide) (by decide)), b1.1.of (eo 4 (by decide) (by decide)), b1.2⟩
    rw [x1, qB_flip (by omega), a2 k hk]
    simp
    omega
  have h5 := h.2.2.2.2.1
  cases b
  · rw [if_pos (show bI false = 0 from rfl)]
    obtain ⟨f1, f2⟩ := e_forget (n := n) (zU (zU N 0 1 ((N 0 1) ^^^ (1 <<< ((nI r) &&& 31)))) 5 r (-1)) (N 6 r) (nI r) h9
    refine key _ ?_ ?_ ?_ ?_
    · show g_X4_forgetLeader _ n (N 6 r) (nI r) 0 1 = _
      rw [f1 0 (by decide), zU_ne (by decide), zU_s]
    · show g_X4_forgetLeader _ n (N 6 r) (nI r) 0 0 = _
      rw [f1 0 (by decide), zU_ne (by decide), zU_k (by decide)]
    · intro o h0 ho5
      show g_X4_forgetLeader _ n (N 6 r) (nI r) o = _
      rw [f1 o ho5, zU_ne ho5, zU_ne h0]
    · intro k hk
      show g_X4_forgetLeader _ n (N 6 r) (nI r) 5 k = -1 ∨ qB (g_X4_forgetLeader _ n (N 6 r) (nI r) 0 1) k = true
      have ek : zU (zU N 0 1 ((N 0 1) ^^^ (1 <<< ((nI r) &&& 31)))) 5 r (-1) 5 k = if k = r then -1 else N 5 k := by
        rw [zU_c, zU_ne (show (5 : Nat) ≠ 0 by decide)]
      rw [f2 k, f1 0 (by decide), zU_ne (show (0 : Nat) ≠ 5 by decide), zU_s, qB_flip (by omega), ek]
      by_cases e : k = r
      · rw [if_pos e]
        exact Or.inl (by split <;> rfl)
      · rw [if_neg e, beq_eq_false_iff_ne.mpr e, Bool.xor_false]
        split
        · exact Or.inl rfl
        · exact h5 k hk
  · rw [if_neg (show ¬ bI true = 0 by decide)]
    refine key (zU N 0 1 ((N 0 1) ^^^ (1 <<< ((nI r) &&& 31)))) zU_s (zU_k (show (0 : Nat) ≠ 1 by decide)) (fun o h0 _ => zU_ne h0) ?_
    intro k hk
    show zU N 0 1 _ 5 k = -1 ∨ qB (zU N 0 1 _ 0 1) k = true
    rw [zU_ne (show (5 : Nat) ≠ 0 by decide), zU_s, qB_flip (by omega)]
    rcases h5 k hk with q | q
    · exact Or.inl q
    · refine Or.inr ?_
      by_cases e : k = r
      · rw [e] at q; rw [hb'] at q; cases q
      · rw [q, beq_eq_false_iff_ne.mpr e]; rfl
theorem d_link (h : JJ n T t0 N) {r o : Nat} (hr : r < n) (ho : o < n) (x : Int32) : JJ n T t0 (g_X4_changeLink N r o x).2 := by
  unfold g_X4_changeLink
  by_cases e : (nI r) = (nI o)
  · rw [if_pos e]; exact h
  rw [if_neg e]
  split
  · exact h
  obtain ⟨oz, a1, a2, a3, a4, a5, a6, a7, a8, a9, b1⟩ := h
  have h9 := a1.2.1
  have hro : r ≠ o := fun q => e (by rw [q])
  show JJ n T t0 (zU (zU N 6 r ((N 6 r) ^^^ (1 <<< ((nI o) &&& 31)))) 6 o (((zU N 6 r ((N 6 r) ^^^ (1 <<< ((nI o) &&& 31)))) 6 o) ^^^ (1 <<< ((nI r) &&& 31))))
  rw [show (zU N 6 r ((N 6 r) ^^^ (1 <<< ((nI o) &&& 31)))) 6 o = N 6 o from zU_k (fun q => hro q.symm)]
  generalize hX : zU (zU N 6 r ((N 6 r) ^^^ (1 <<< ((nI o) &&& 31)))) 6 o ((N 6 o) ^^^ (1 <<< ((nI r) &&& 31))) = X
  have eo : ∀ k, k ≠ 6 → X k = N k := fun k hk => by rw [← hX, zU_ne hk, zU_ne hk]
  have q6 : ∀ a k, qB (X 6 a) k = (if a = o then (qB (N 6 o) k ^^ (k == r)) else if a = r then (qB (N 6 r) k ^^ (k == o)) else qB (N 6 a) k) := fun a k => by
    rw [← hX, zU_c, zU_c]
    split
    · rw [qB_flip (by omega)]
    · split
      · rw [qB_flip (by omega)]
      · rfl
  refine ⟨oz, a1.of (congrFun (eo 0 (by decide)) 0), by rw [eo 0 (by decide)]; exact a2, a3.of (congrFun (eo 1 (by decide)) 0), a4.of (eo 4 (by decide)), a5.of (eo 5 (by decide)) (congrFun (eo 0 (by decide)) 1), fun a ha => ⟨fun k hk => ?_, ?_, fun b hb => ?_⟩, a7.of (eo 7 (by decide)) (eo 4 (by decide)), ⟨nv_of a8.1 (eo 7 (by decide)) (eo 9 (by decide)), a8.2.of (eo 7 (by decide)) (eo 9 (by decide))⟩, a9.of (congrFun (eo 10 (by decide)) 0) (eo 11 (by decide)) (eo 7 (by decide)) (eo 4 (by decide)), b1.1.of (eo 4 (by decide)), b1.2⟩
  · rw [q6, (a6 o ho).1 k hk, (a6 r hr).1 k hk, (a6 a ha).1 k hk, beq_eq_false_iff_ne.mpr (show k ≠ r by omega), beq_eq_false_iff_ne.mpr (show k ≠ o by omega)]
    simp
  · rw [q6]
    by_cases e1 : a = o
    · rw [if_pos e1, e1, (a6 o ho).2.1, beq_eq_false_iff_ne.mpr (fun q => hro q.symm)]; rfl
    · rw [if_neg e1]
      by_cases e2 : a = r
      · rw [if_pos e2, e2, (a6 r hr).2.1, beq_eq_false_iff_ne.mpr hro]; rfl
      · rw [if_neg e2]; exact (a6 a ha).2.1
  · rw [q6, q6]
    have s1 : qB (N 6 r) o = qB (N 6 o) r := (a6 o ho).2.2 r hr
    by_cases c1 : a = o <;> by_cases c2 : a = r <;> by_cases c3 : b = o <;> by_cases c4 : b = r
    all_goals first
      | (exfalso; omega)
      | (simp only [c1, c2, c3, c4, if_true, if_false]; done)
      | skip
    all_goals first
      | (subst c1; subst c4; rw [if_neg (by omega), if_pos rfl, if_pos rfl, s1]; simp; done)
      | (subst c2; subst c3; rw [if_pos rfl, if_neg (by omega), if_pos rfl, s1]; simp; done)
      | (rw [if_neg c3, if_neg c4, if_pos c1, c1, (a6 o ho).2.2 b hb, beq_eq_false_iff_ne.mpr c4, Bool.xor_false]; done)
      | (rw [if_neg c3, if_neg c4, if_neg c1, if_pos c2, c2, (a6 r hr).2.2 b hb, beq_eq_false_iff_ne.mpr c3, Bool.xor_false]; done)
      | (rw [if_pos c3, c3, if_neg c1, if_neg c2, ← (a6 a ha).2.2 o ho, beq_eq_false_iff_ne.mpr c2, Bool.xor_false]; done)
      | (rw [if_neg c3, if_pos c4, c4, if_neg c1, if_neg c2, ← (a6 a ha).2.2 r hr, beq_eq_false_iff_ne.mpr c1, Bool.xor_false]; done)
      | (rw [if_neg c3, if_neg c4, if_neg c1, if_neg c2]; exact (a6 a ha).2.2 b hb)
      | (subst c1; subst c3; rw [if_pos rfl])
      | (subst c2; subst c4; rw [if_neg (by omega), if_pos rfl])
theorem d_call (h : JJ n T t0 N) (hT : T < 3000) {r : Nat} (hr : r < n) : JJ n (T + 1) t0 (g_X4_callBallot N n r).2 := by
  have hup : JJ n (T + 1) t0 N := h.up (Nat.le_succ T)
  obtain ⟨oz, a1, a2, a3, a4, a5, a6, a7, a8, a9, b1⟩ := h
  have h9 := a1.2.1
  have hSn : qS n ((N 6 r) &&& (N 0 1)) := qS.and a2
  unfold g_X4_callBallot
  by_cases p1 : N 7 0 = 1
  · rw [if_pos p1]; exact hup
  by_cases p2 : N 7 0 = 2
  · rw [if_neg p1, if_pos p2]; exact hup
  rw [if_neg p1, if_neg p2, has_q (by omega), j_major a1 (hSn.mono h9), bI_ite, bI_ite]
  cases hu : qB (N 0 1) r
  · rw [if_neg Bool.false_ne_true]; exact hup
  rw [if_pos rfl]
  by_cases hm : n < 2 * qN 9 (qB ((N 6 r) &&& (N 0 1)))
  case neg => rw [decide_eq_false hm, if_neg Bool.false_ne_true]; exact hup
  rw [decide_eq_true hm, if_pos rfl]
  rw [qN_cut 9 h9 (fun i hi _ => hSn i hi)] at hm
  obtain ⟨t, ht, eg, hg⟩ := e_great h9 ((N 6 r) &&& (N 0 1)) a4
  obtain ⟨d1, d2, d3⟩ := e_call73 (N := N) h9 r
  show JJ n (T + 1) t0 (m_X4_callBallot_1 N n r)
  unfold m_X4_callBallot_1
  generalize zIt (l_X4_callBallot_73 N n r) n N = Z at *
  rw [eg] at d2 ⊢
  rw [show nI t + 1 = nI (t + 1) from nI_1 t] at d2 ⊢
  generalize hS : (N 6 r) &&& (N 0 1) = S at *
  obtain ⟨c1, c2, c3⟩ := e_begin (zPl Z 7) (nI (t + 1)) (nI r) S
  generalize hX : zPs Z 7 3 (g_X1_begin (zPl Z 7) (nI (t + 1)) (nI r) S) = X
  have eo : ∀ o, o ≠ 4 → o ≠ 5 → (o < 7 ∨ 10 ≤ o) → X o = N o := fun o h4 h5 ho => by rw [← hX, zPs_out (by omega)]; exact d1 o ⟨h4, h5⟩
  have e7 : ∀ k, X 7 k = g_X1_begin (zPl Z 7) (nI (t + 1)) (nI r) S 0 k := fun k => by rw [← hX, zPs_in (by decide) (by decide)]
  have e9 : ∀ k, k < 9 → X 9 k = -1 := fun k hk => by rw [← hX, zPs_in (by decide) (by decide)]; exact c3 k hk
  have e4 : ∀ k, X 4 k = if k < n ∧ qB S k = true then nI (t + 1) else N 4 k := fun k => by rw [← hX, zPs_out (by decide)]; exact d2 k
  have e5 : ∀ k, X 5 k = if k < n ∧ qB S k = true then -1 else N 5 k := fun k => by rw [← hX, zPs_out (by decide)]; exact d3 k
  have e70 : X 7 0 = 1 := by rw [e7, c1]; rfl
  have e71 : X 7 1 = nI (t + 1) := by rw [e7, c1]; rfl
  have e72 : X 7 2 = nI r := by rw [e7, c1]; rfl
  have e73 : X 7 3 = S := by rw [e7, c1]; rfl
  have e75 : X 7 5 = 0 := by rw [e7, c1]; rfl
  have e76 : X 7 6 = 0 := by rw [e7, c1]; rfl
  have e77 : X 7 7 = 0 := by rw [e7, c1]; rfl
  have gr : ∀ k, k < n → N 4 k ≤ X 4 k := fun k hk => by
    rw [e4]
    by_cases q : k < n ∧ qB S k = true
    · rw [if_pos q]
      exact Int32.le_trans (hg k hk q.2) (nI_le (by omega) (by omega))
    · rw [if_neg q]
      exact Int32.le_refl _
  have lt : ∀ u, u ≤ T → jM n N u → u ≤ t := fun u hu hq => j_inter (by omega) a4 hm hq hu hg ht
  clear hX d1 d2 d3 c1 c2 c3
  have hup1 : ∀ k, (X 0) k = N 0 k := fun k => congrFun (eo 0 (by decide) (by decide) (by decide)) k
  refine ⟨oz, a1.of (hup1 0), by rw [hup1]; exact a2, a3.of (congrFun (eo 1 (by decide) (by decide) (by decide)) 0), fun k hk => ?_, fun k hk => ?_, a6.of (eo 6 (by decide) (by decide) (by decide)), ⟨⟨1, by decide, e70⟩, fun _ => ⟨⟨r, hr, e72⟩, by rw [e73]; exact hm, t + 1, by omega, by have := lt t0 b1.2 b1.1; omega, by omega, e71, fun k hk q => ?_⟩⟩, ⟨⟨⟨fun q => ?_, fun _ => ⟨e76, e77⟩⟩, ⟨by rw [e73]; exact hSn, by rw [e75]; exact qS_0 n, by rw [e76]; exact qS_0 n, by rw [e77]; exact qS_0 n⟩, fun k hk => ?_⟩, fun k hk => ?_⟩, ⟨a9.1, (congrFun (eo 10 (by decide) (by decide) (by decide)) 0).trans a9.2.1, fun j hj => ?_, fun i j hij hj => ?_, fun _ j hj => ?_, fun q => ?_⟩, b1.1.up gr, by omega⟩
  · rw [e4]
    split
    · exact ⟨t + 1, by omega, rfl⟩
    · obtain ⟨u, h1, h2⟩ := a4 k hk
      exact ⟨u, by omega, h2⟩
  · rw [e5, hup1]
    split
    · exact Or.inl rfl
    · exact a5 k hk
  · rw [e73] at q
    rw [e4, if_pos ⟨hk, q⟩]
  · rw [e70] at q
    exact absurd q (by decide)
  · rw [e73, e75, e76, e77, qB_0]
    exact ⟨fun q => (Bool.false_ne_true q).elim, fun q => (Bool.false_ne_true q).elim, fun q => (Bool.false_ne_true q).elim, fun _ _ => e9 k (by omega)⟩
  · rw [e76, e77, qB_0]
    exact ⟨fun q => (Bool.false_ne_true q).elim, fun q => (Bool.false_ne_true q).elim⟩
  · obtain ⟨⟨u, g1, g2, g3⟩, g4⟩ := a9.2.2.1 j hj
    unfold jQ
    rw [eo 11 (by decide) (by decide) (by decide)]
    exact ⟨⟨u, by omega, g2, g3.up gr⟩, g4⟩
  · rw [eo 11 (by decide) (by decide) (by decide)]
    exact a9.2.2.2.1 i j hij hj
  · obtain ⟨⟨u, g1, g2, g3⟩, -⟩ := a9.2.2.1 j hj
    rw [eo 11 (by decide) (by decide) (by decide), g2, e71]
    have := lt u g1 g3
    exact nI_lt (by omega) (by omega)
  · rw [e70] at q
    exact absurd q (by decide)
end DEEDS2
