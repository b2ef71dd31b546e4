/-! WHY, on both sides -/
section WHY
variable {n oz T : Nat} {N M : zM}
theorem c_tell0 (h : rl n oz T N (M 1)) (h0 : 0 < oz) (C : zM) (e10 : C 10 = N 10) (e11 : C 11 = N 11) {k : Nat} (hk : k < 8) : g_X6_tell (zPl C 10) oz 0 k = N 11 ((oz - 1) * 8 + k) := by
  obtain ⟨a1, a2, a3, a4, a5, a6, a7, a8, a9, b1, b2, b3, b4, b5⟩ := id h
  have h12 := b4.1
  unfold g_X6_tell
  rw [if_neg (by decide), show zPl C 10 0 0 = C 10 0 from rfl, e10, b4.2.1, if_pos (show (0 : Int32) < nI oz from nI_lt (a := 0) h0 (by omega)), show zPl C 10 1 = C 11 from rfl, e11]
  rfl
theorem m_tell0 (h : rl n oz T N (M 1)) (h0 : 0 < oz) (F : zM) (e1 : F 1 = M 1) {k : Nat} (hk : k < 8) : g_X10_outcomeOf F oz 0 k = N 11 ((oz - 1) * 8 + k) := by
  obtain ⟨a1, a2, a3, a4, a5, a6, a7, a8, a9, b1, b2, b3, b4, b5⟩ := id h
  have h12 := b4.1
  unfold g_X10_outcomeOf
  rw [e1, ← b4.2.2.2 _ (by omega), Nat.sub_zero, Nat.add_assoc]
theorem e_why1 (h : rl n oz T N (M 1)) {r : Nat} (hr : r < n) : (∃ k, k < 4 ∧ g_X4_whyNotChosen N oz r = (nI k, N) ∧ g_X10_reasonOf M n oz r = (nI k, M)) ∨
    (0 < oz ∧ qB (N 7 3) r = true ∧ ∃ k, (k = 4 ∨ k = 5 ∧ ¬ g_X7_aheadBy (g_X7_take N (-1) 0) (N 11 ((oz - 1) * 8 + 7)) = -1 ∨ k = 6 ∨ k = 7) ∧ g_X4_whyNotChosen N oz r = (nI k, g_X7_take N (-1) 0) ∧ g_X10_reasonOf M n oz r = (nI k, (r_X10_leading_14 (g_X10_findVotes M n) n (N 11 ((oz - 1) * 8 + 7))).2)) := by
  obtain ⟨a1, a2, a3, a4, a5, a6, a7, a8, a9, b1, b2, b3, b4, b5⟩ := id h
  have h9 : n ≤ 9 := a1.1
  have h12 := b4.1
  have hF := m_findVotes h9 a9 b1 b2
  unfold g_X4_whyNotChosen g_X10_reasonOf
  rw [b4.2.1, b4.2.2.1]
  by_cases hz : oz = 0
  · refine Or.inl ⟨1, by decide, ?_, ?_⟩
    · rw [if_pos (by rw [hz]; rfl)]
      rfl
    · rw [if_pos (by rw [hz]; rfl)]
      rfl
  have h0 : 0 < oz := by omega
  rw [if_neg (nI_ne0 h0 (by omega)), if_neg (nI_ne0 h0 (by omega))]
  have t1 := c_tell0 h h0 N rfl rfl (k := 1) (by decide)
  have t0 := c_tell0 h h0 N rfl rfl (k := 0) (by decide)
  have u1 := m_tell0 h h0 M rfl (k := 1) (by decide)
  have u0 := m_tell0 h h0 M rfl (k := 0) (by decide)
  have t7 := c_tell0 h h0 (g_X7_take N (-1) 0) (fr_X7_take _ _ _ 10 ⟨by decide, by decide⟩) (fr_X7_take _ _ _ 11 ⟨by decide, by decide⟩) (k := 7) (by decide)
  have u7 := m_tell0 h h0 (g_X10_findVotes M n) (hF.1 1 (by decide)) (k := 7) (by decide)
  rw [t1, t0, u1, u0, t7, u7]
  by_cases hc : N 11 ((oz - 1) * 8 + 1) = nI r
  · exact Or.inl ⟨0, by decide, by rw [if_pos hc]; rfl, by rw [if_pos hc]; rfl⟩
  rw [if_neg hc, if_neg hc, a9.1]
  obtain ⟨p, p4, ep⟩ := a9.2.1
  by_cases hp3 : N 7 0 = 3
  case neg =>
    rw [if_neg hp3]
    refine Or.inl ⟨2, by decide, ?_, rfl⟩
    by_cases hp : N 7 0 = 0
    · rw [if_pos hp]
      rfl
    · rw [if_neg hp]
      obtain ⟨u, _, u2, _, u4, _⟩ := b5.2.2.1 (oz - 1) (by omega)
      have hlt : nI u < N 7 1 := u4 (by
        rw [ep] at hp hp3 ⊢
        rcases (show p = 0 ∨ p = 1 ∨ p = 2 ∨ p = 3 by omega) with rfl | rfl | rfl | rfl
        · exact absurd rfl hp
        · exact Or.inl rfl
        · exact Or.inr rfl
        · exact absurd rfl hp3)
      have hne : ¬ N 7 1 = N 11 ((oz - 1) * 8 + 0) := fun q => by
        rw [Nat.add_zero, u2] at q
        rw [q] at hlt
        exact Int32.lt_irrefl hlt
      rw [if_neg hne]
      rfl
  have hp0 : ¬ N 7 0 = 0 := by rw [hp3]; decide
  rw [if_neg hp0, if_pos hp3, (a9.2.2 hp0).1]
  by_cases ht : N 7 1 = N 11 ((oz - 1) * 8 + 0)
  case neg =>
    rw [if_neg ht, if_neg ht]
    exact Or.inl ⟨2, by decide, rfl, rfl⟩
  rw [if_pos ht, if_pos ht, m_onRoll a9 b1 (by omega), c_onRoll (by omega)]
  simp only [bI_ite]
  cases hq : qB (N 7 3) r
  · refine Or.inl ⟨3, by decide, ?_, ?_⟩
    · rw [if_neg Bool.false_ne_true]; rfl
    · rw [if_neg Bool.false_ne_true]; rfl
  rw [if_pos rfl, if_pos rfl]
  have hTy := tally_0 h9 a4 a9 b1 b2 (N 11 ((oz - 1) * 8 + 7))
  obtain ⟨e1, e2⟩ := ahead_eq (Nat.le_refl 9) _ hTy rfl
  rw [← e1, e2]
  obtain ⟨g1, g2, g3, g4⟩ := hTy
  have m1 : (g_X7_take N (-1) 0) 12 1 = (r_X10_leading_14 (g_X10_findVotes M n) n (N 11 ((oz - 1) * 8 + 7))).2 0 12 := by
    rcases g4 with ⟨c1, _⟩ | ⟨e', a', f', _, _, _, _, _, _, _, x8, x9, _⟩
    · rw [c1 r (by omega)] at hq; cases hq
    · rw [x8, x9]
  have m2 : (g_X7_take N (-1) 0) 13 r = (r_X10_leading_14 (g_X10_findVotes M n) n (N 11 ((oz - 1) * 8 + 7))).2 20 r := by
    rw [g2 r (by omega), g3 20 (by decide), hF.2 r hr]
  rw [m1, m2]
  refine Or.inr ⟨h0, rfl, ?_⟩
  generalize (r_X10_leading_14 (g_X10_findVotes M n) n (N 11 ((oz - 1) * 8 + 7))).2 = L2
  generalize g_X7_take N (-1) 0 = C
  by_cases c : L2 0 12 ≤ L2 20 r
  case neg =>
    rw [if_neg c, if_neg c]
    exact ⟨4, Or.inl rfl, rfl, rfl⟩
  rw [if_pos c, if_pos c]
  by_cases ha : g_X7_aheadBy C (N 11 ((oz - 1) * 8 + 7)) = -1
  · rw [if_pos ha, if_pos ha]
    exact ⟨6, Or.inr (Or.inr (Or.inl rfl)), rfl, rfl⟩
  rw [if_neg ha, if_neg ha]
  by_cases hb : g_X7_aheadBy C (N 11 ((oz - 1) * 8 + 7)) = nI r
  · rw [if_pos hb, if_pos hb]
    exact ⟨7, Or.inr (Or.inr (Or.inr rfl)), rfl, rfl⟩
  · rw [if_neg hb, if_neg hb]
    exact ⟨5, Or.inr (Or.inl ⟨rfl, ha⟩), rfl, rfl⟩
theorem zFst_hit {β : Type} {f : Nat → Option β} {d b : β} {q : Nat} (hq : f q = some b) : ∀ (k i : Nat), i ≤ q → q < i + k → (∀ j, i ≤ j → j < q → f j = none) → zFst f d k i = b
  | 0, i, h1, h2, _ => by omega
  | k + 1, i, h1, h2, h3 => by
    rw [zFst]
    by_cases e : i = q
    · rw [e, hq]
    · rw [h3 i (Nat.le_refl i) (by omega)]
      exact zFst_hit hq k (i + 1) (by omega) (by omega) fun j a b => h3 j (by omega) b
noncomputable def qWk (n oz r : Nat) (R : Int32) (K : Int32 × zM) : Int32 := if 4 ≤ R then (if R = 6 then K.2 0 13 else (if R = 7 then (g_X10_outcomeOf K.2 oz 0 6) - (K.2 20 r) else (if K.1 = -1 then g_X10_firstOfMost K.2 n else K.1))) else -1
noncomputable def qWy (n oz r : Nat) (R : Int32 × zM) : Int32 := qWk n oz r R.1 (g_X10_leading R.2 n (g_X10_outcomeOf R.2 oz 0 7))
theorem e_whyD (M : zM) (gq : Nat → Nat) (pc n oz r : Nat) (d : Int32) : (g_X10_why M gq pc n oz r d).1 = if d = 0 then (g_X10_reasonOf (zU M 0 0 0) n oz r).1 else qWy n oz r (g_X10_reasonOf (zU M 0 0 0) n oz r) := by
  unfold g_X10_why qWy qWk
  generalize g_X10_reasonOf (zU M 0 0 0) n oz r = R
  generalize g_X10_leading R.2 n (g_X10_outcomeOf R.2 oz 0 7) = K
  by_cases hd : d = 0
  · rw [if_pos hd, if_pos hd]
  · rw [if_neg hd, if_neg hd]
    split
    · split
      · rfl
      · split
        · rfl
        · split <;> rfl
    · rfl
noncomputable def qCk (oz r : Nat) (c : Int32) (W : zM) : Int32 := if c = 4 then (if g_X7_aheadBy W (g_X6_tell (zPl W 10) oz 0 7) = -1 then W 12 3 else g_X7_aheadBy W (g_X6_tell (zPl W 10) oz 0 7)) else (if c = 5 then W 12 4 else (if c = 6 then W 12 2 else (if c = 7 then g_X6_tell (zPl W 10) oz 0 6 - W 13 r else -1)))
theorem e_causeD (N : zM) (oz r : Nat) : (g_X4_causeFor N oz r).1 = qCk oz r (g_X4_whyNotChosen N oz r).1 (g_X4_whyNotChosen N oz r).2 := by
  unfold g_X4_causeFor qCk
  generalize g_X4_whyNotChosen N oz r = R
  split
  · split <;> rfl
  · split
    · rfl
    · split
      · rfl
      · split <;> rfl
theorem e_why0 (h : rl n oz T N (M 1)) {r : Nat} (hr : r < n) : (g_X4_whyNotChosen N oz r).1 = (g_X10_reasonOf M n oz r).1 ∧ (g_X4_causeFor N oz r).1 = qWy n oz r (g_X10_reasonOf M n oz r) := by
  obtain ⟨a1, a2, a3, a4, a5, a6, a7, a8, a9, b1, b2, b3, b4, b5⟩ := id h
  have h9 : n ≤ 9 := a1.1
  have h12 := b4.1
  have hF := m_findVotes h9 a9 b1 b2
  rw [e_causeD]
  rcases e_why1 h hr with ⟨k, k4, e1, e2⟩ | ⟨h0, hq, k, hk, e1, e2⟩
  · rw [e1, e2]
    refine ⟨rfl, ?_⟩
    have n1 : ¬ (4 : Int32) ≤ nI k := fun q => absurd ((nI_le9 (a := 4) (by decide) (by omega)).mp q) (by omega)
    have q4 : ¬ nI k = 4 := fun q => absurd ((nI_eq9 (b := 4) (by omega) (by decide)).mp q) (by omega)
    have q5 : ¬ nI k = 5 := fun q => absurd ((nI_eq9 (b := 5) (by omega) (by decide)).mp q) (by omega)
    have q6 : ¬ nI k = 6 := fun q => absurd ((nI_eq9 (b := 6) (by omega) (by decide)).mp q) (by omega)
    have q7 : ¬ nI k = 7 := fun q => absurd ((nI_eq9 (b := 7) (by omega) (by decide)).mp q) (by omega)
    show qCk oz r (nI k) N = qWk n oz r (nI k) _
    unfold qCk qWk
    rw [if_neg n1, if_neg q4, if_neg q5, if_neg q6, if_neg q7]
  have f10 : g_X7_take N (-1) 0 10 = N 10 := fr_X7_take _ _ _ 10 ⟨by decide, by decide⟩
  have f11 : g_X7_take N (-1) 0 11 = N 11 := fr_X7_take _ _ _ 11 ⟨by decide, by decide⟩
  have hTy0 := tally_0 h9 a4 a9 b1 b2 (N 11 ((oz - 1) * 8 + 7))
  obtain ⟨L, hL⟩ : ∃ L, L = r_X10_leading_14 (g_X10_findVotes M n) n (N 11 ((oz - 1) * 8 + 7)) := ⟨_, rfl⟩
  rw [← hL] at hTy0 e2
  have l1 : L.2 1 = M 1 := (hTy0.2.2.1 1 (by decide)).trans (hF.1 1 (by decide))
  have l20 : ∀ j, j < n → L.2 20 j = nI (qV n N j) := fun j hj => by
    rw [hTy0.2.2.1 20 (by decide)]
    exact hF.2 j hj
  have hu : ∀ j, qV n N j < 4096 := fun j => by
    have := qV_le (n := n) (N := N) (r := j)
    omega
  have hTy : qTy n N L.2 (qV n N) 9 (g_X7_take N (-1) 0) (r_X10_leading_14 L.2 n (N 11 ((oz - 1) * 8 + 7))) := by
    refine tally_rel h9 (fun i hi => (of_1 l1 i 0).trans (a4 i hi).1) (fun i hi => (onRoll_1 l1 _).trans (m_onRoll a9 b1 (by omega))) b1 l20 hu (-1) 0 _ (fun i hi => ?_)
    rw [if_neg (m1_ne (by omega))]
    exact Int32.add_zero _
  have t7 := c_tell0 h h0 _ f10 f11 (k := 7) (by decide)
  have t6 := c_tell0 h h0 _ f10 f11 (k := 6) (by decide)
  rw [e1, e2]
  refine ⟨rfl, ?_⟩
  show qCk oz r (nI k) (g_X7_take N (-1) 0) = qWk n oz r (nI k) (g_X10_leading L.2 n (g_X10_outcomeOf L.2 oz 0 7))
  have u7 := m_tell0 h h0 L.2 l1 (k := 7) (by decide)
  rw [u7]
  unfold qCk
  rw [t7, t6]
  obtain ⟨x1, x2⟩ := ahead_eq (Nat.le_refl 9) _ hTy rfl
  have hL1 : (r_X10_leading_14 L.2 n (N 11 ((oz - 1) * 8 + 7))).2 1 = M 1 := (hTy.2.2.1 1 (by decide)).trans l1
  unfold qWk
  rw [← x1, x2, m_tell0 h h0 _ hL1 (k := 6) (by decide)]
  obtain ⟨L', hL'⟩ : ∃ L', L' = r_X10_leading_14 L.2 n (N 11 ((oz - 1) * 8 + 7)) := ⟨_, rfl⟩
  rw [← hL'] at hTy hL1 ⊢
  have hA : ∀ t, g_X7_aheadBy (g_X7_take N (-1) 0) t = -1 ∨ g_X7_aheadBy (g_X7_take N (-1) 0) t = (g_X7_take N (-1) 0) 12 4 := fun t => by
    unfold g_X7_aheadBy
    (repeat' split) <;> first | exact Or.inr rfl | exact Or.inl rfl
  generalize g_X7_take N (-1) 0 = C at *
  obtain ⟨g1, g2, g3, g4⟩ := hTy
  have r1 : C 13 r = L'.2 20 r := by rw [g2 r (by omega), g3 20 (by decide), l20 r hr]
  rcases g4 with ⟨c1, _⟩ | ⟨e, a, f, c1, c2, c3, c4, c5, c6, c7, c8, c9, d1, d2, d3, d4, d5, d6⟩
  · rw [c1 r (by omega)] at hq
    cases hq
  have hfn : f < n := by
    rcases Nat.lt_or_ge f n with q | q
    · exact q
    · rw [b1.2.1.1 f q] at d3; cases d3
  have hfirst : g_X10_firstOfMost L'.2 n = C 12 3 := by
    rw [d1]
    unfold g_X10_firstOfMost
    have hf : ∀ j, j < n → f_X10_firstOfMost_2 L'.2 n j = if qB (N 7 3) j = true then (if nI (qV n N e) ≤ nI (qV n N j) then some (nI j) else none) else none := fun j hj => by
      unfold f_X10_firstOfMost_2
      rw [onRoll_1 hL1, m_onRoll a9 b1 (by omega), bI_ite, c9, g3 20 (by decide), l20 j hj]
    refine zFst_hit (q := f) ?_ n 0 (Nat.zero_le f) (by omega) (fun j _ hj => ?_)
    · rw [hf f hfn, d3, if_pos rfl, d4, if_pos (Int32.le_refl _)]
    · rw [hf j (by omega)]
      by_cases hj3 : qB (N 7 3) j = true
      · have := d5 j hj hj3
        rw [if_pos hj3, if_neg (fun q => absurd ((nI_le9 (hu e) (hu j)).mp q) (by omega))]
      · rw [if_neg hj3]
  rcases hk with rfl | ⟨rfl, hne⟩ | rfl | rfl
  · rw [if_pos (show nI 4 = 4 from rfl), if_pos (show (4 : Int32) ≤ nI 4 by decide), if_neg (show ¬ nI 4 = 6 by decide), if_neg (show ¬ nI 4 = 7 by decide), hfirst]
  · rw [if_neg (show ¬ nI 5 = 4 by decide), if_pos (show nI 5 = 5 from rfl), if_pos (show (4 : Int32) ≤ nI 5 by decide), if_neg (show ¬ nI 5 = 6 by decide), if_neg (show ¬ nI 5 = 7 by decide), if_neg hne]
    rcases hA (N 11 ((oz - 1) * 8 + 7)) with q | q
    · exact absurd q hne
    · exact q.symm
  · rw [if_neg (show ¬ nI 6 = 4 by decide), if_neg (show ¬ nI 6 = 5 by decide), if_pos (show nI 6 = 6 from rfl), if_pos (show (4 : Int32) ≤ nI 6 by decide), if_pos (show nI 6 = 6 from rfl)]
    show C 12 2 = L'.2 0 13
    rw [c6, c7]
  · rw [if_neg (show ¬ nI 7 = 4 by decide), if_neg (show ¬ nI 7 = 5 by decide), if_neg (show ¬ nI 7 = 6 by decide), if_pos (show nI 7 = 7 from rfl), if_pos (show (4 : Int32) ≤ nI 7 by decide), if_neg (show ¬ nI 7 = 6 by decide), if_pos (show nI 7 = 7 from rfl)]
    show N 11 ((oz - 1) * 8 + 6) - C 13 r = N 11 ((oz - 1) * 8 + 6) - L'.2 20 r
    rw [r1]
theorem e_why (h : rl n oz T N (M 1)) (gq : Nat → Nat) (pc : Nat) {r : Nat} (hr : r < n) (d : Int32) : (if d = 0 then (g_X4_whyNotChosen N oz r).1 else (g_X4_causeFor N oz r).1) = (g_X10_why M gq pc n oz r d).1 := by
  obtain ⟨h1, h2⟩ := e_why0 (M := zU M 0 0 0) h hr
  rw [e_whyD]
  by_cases hd : d = 0
  · rw [if_pos hd, if_pos hd]
    exact h1
  · rw [if_neg hd, if_neg hd]
    exact h2
end WHY
