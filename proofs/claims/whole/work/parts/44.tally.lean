/-! THE TALLY, on both sides -/
theorem zIt_rel2 {α β : Type} {f : Nat → α → α} {g : Nat → β → β} {R : Nat → α → β → Prop} {n : Nat} (s : α) (t : β) (h0 : R 0 s t) (hs : ∀ i, i < n → ∀ s t, R i s t → R (i + 1) (f i s) (g i t)) : ∀ m, n ≤ m → (∀ i, n ≤ i → i < m → ∀ s t, R i s t → R (i + 1) (f i s) t) → R m (zIt f m s) (zIt g n t)
  | 0, h, _ => by
    obtain rfl : n = 0 := by omega
    exact h0
  | m + 1, h, h2 => by
    rcases Nat.lt_or_ge m n with h1 | h1
    · obtain rfl : n = m + 1 := by omega
      exact zIt_rel (m + 1) s t h0 hs
    · exact h2 m h1 (Nat.lt_succ_self m) _ _ (zIt_rel2 s t h0 hs m h1 fun i hi hm => h2 i hi (by omega))
/-- the valid votes for one -/
def qV (n : Nat) (N : zM) (r : Nat) : Nat := qN n (fun i => qB (N 7 6) i && decide (N 9 i = nI r))
theorem qV_le {n : Nat} {N : zM} {r : Nat} : qV n N r ≤ n := qN_le n
section TALLY
variable {n oz T : Nat} {N M : zM}
theorem c_votesFor (h9 : n ≤ 9) (hv : rl_nv n N) (r : Nat) : g_X1_validVotesFor (zPl N 7) (nI r) = nI (qV n N r) := by
  unfold g_X1_validVotesFor qV
  rw [zIt_cnt0 (p := fun i => qB (N 7 6) i && decide (N 9 i = nI r)) 9 ?_]
  · rw [qN_cut 9 h9]
    intro i hi _
    rw [hv.2.1.2.2.1 i hi]
    rfl
  · intro i hi s
    unfold l_X1_validVotesFor_4
    rw [show zPl N 7 0 6 = N 7 6 from rfl, show zPl N 7 2 i = N 9 i from rfl, has_q (by omega), bI_ite]
    congr 1
    cases qB (N 7 6) i
    · rfl
    · rw [if_pos rfl, Bool.true_and]
      by_cases e : N 9 i = nI r
      · rw [if_pos e, decide_eq_true e]
        rfl
      · rw [if_neg e, decide_eq_false e]
        rfl
theorem onRoll_1 {s M : zM} (h : s 1 = M 1) (x : Int32) : g_X10_isOnRoll s x = g_X10_isOnRoll M x := by
  unfold g_X10_isOnRoll
  rw [h]
theorem of_1 {s M : zM} (h : s 1 = M 1) (r k : Nat) : g_X10_of s r k = g_X10_of M r k := by
  unfold g_X10_of
  rw [h]
theorem m_findVotes (h9 : n ≤ 9) (hh : rl_hd n N (M 1)) (hv : rl_nv n N) (ht : rl_vt n N (M 1)) : (∀ o, o ≠ 20 → g_X10_findVotes M n o = M o) ∧ ∀ r, r < n → g_X10_findVotes M n 20 r = nI (qV n N r) := by
  refine ⟨fun o ho => fr_X10_findVotes M n o ho, ?_⟩
  have h1 : ∀ k, k < n → zIt (l_X10_findVotes_2 M n) n M 20 k = 0 := by
    refine zIt_inv (P := fun i (s : zM) => ∀ k, k < i → s 20 k = 0) n M (fun k hk => absurd hk (Nat.not_lt_zero k)) ?_
    intro i _ s hs k hk
    unfold l_X10_findVotes_2
    rw [zU_c]
    by_cases e : k = i
    · rw [if_pos e]
    · rw [if_neg e]
      exact hs k (by omega)
  have h2 : ∀ o, o ≠ 20 → zIt (l_X10_findVotes_2 M n) n M o = M o := fun o ho => fr_l_X10_findVotes_2 M n o ho n M
  have := zIt_inv (f := l_X10_findVotes_27 M n) (P := fun i (s : zM) => s 1 = M 1 ∧ ∀ r, r < n → s 20 r = nI (qN i (fun j => qB (N 7 6) j && decide (N 9 j = nI r)))) n (zIt (l_X10_findVotes_2 M n) n M) ⟨h2 1 (by decide), fun r hr => h1 r hr⟩ ?_
  · exact this.2
  · intro i hi s hs
    unfold l_X10_findVotes_27
    rw [onRoll_1 hs.1, of_1 hs.1, of_1 hs.1, m_onRoll hh hv (by omega), bI_ite]
    have hno : qB (N 7 6) i = false → ∀ r, r < n → s 20 r = nI (qN (i + 1) (fun j => qB (N 7 6) j && decide (N 9 j = nI r))) := by
      intro e r hr
      rw [qN, e, Bool.false_and, if_neg Bool.false_ne_true, Nat.add_zero]
      exact hs.2 r hr
    cases hq : qB (N 7 3) i
    · rw [if_neg Bool.false_ne_true]
      refine ⟨hs.1, hno ?_⟩
      cases h6 : qB (N 7 6) i
      · rfl
      · rw [((hv.2.2 i hi).2.1 h6).1] at hq
        cases hq
    · rw [if_pos rfl]
      have hp : ¬ N 7 0 = 0 := fun e => by rw [hv.1.1 e, qB_0] at hq; cases hq
      have e6 : g_X10_of M i 6 = nI (qSt N i) := (ht hp i hi).1
      have e7 : g_X10_of M i 7 = N 9 i := (ht hp i hi).2.1
      have e2 := qSt_2 hv hi
      have e4 := qSt_lt (N := N) i
      rw [e6, e7]
      cases h6 : qB (N 7 6) i
      · rw [h6] at e2
        have n2 : ¬ nI (qSt N i) = 2 := fun q => absurd ((nI_eq9 (a := qSt N i) (b := 2) (by omega) (by decide)).mp q) (by simpa using e2)
        rw [if_neg n2]
        exact ⟨hs.1, hno h6⟩
      · rw [h6] at e2
        rw [if_pos (show nI (qSt N i) = 2 by rw [show qSt N i = 2 by simpa using e2]; rfl)]
        obtain ⟨v, hv1, hv2⟩ := ((hv.2.2 i hi).2.1 h6).2.2
        rw [hv2, nI_clamp (by omega)]
        refine ⟨(zU_ne (by decide)).trans hs.1, fun r hr => ?_⟩
        rw [zU_c, qN, h6, hv2, Bool.true_and]
        by_cases e : r = v
        · subst e
          rw [if_pos rfl, hs.2 r hr, decide_eq_true rfl, if_pos rfl, nI_1]
        · rw [if_neg e, hs.2 r hr, decide_eq_false (fun q => e ((nI_eq9 (by omega) (by omega)).mp q).symm), if_neg Bool.false_ne_true, Nat.add_zero]
/-- the tally of the class (s) and that of the reference (t) after i replicas, with votes u -/
def qTy (n : Nat) (N B : zM) (u : Nat → Nat) (i : Nat) (s : zM) (t : Int32 × zM) : Prop :=
  (∀ o, o ≠ 12 → o ≠ 13 → s o = N o) ∧ (∀ k, k < i → s 13 k = nI (u k)) ∧ (∀ o, o ≠ 0 → t.2 o = B o) ∧
  (((∀ j, j < i → qB (N 7 3) j = false) ∧ s 12 1 = 0 ∧ s 12 2 = 0 ∧ s 12 3 = -1 ∧ s 12 4 = -1 ∧ t.1 = -1 ∧ t.2 0 12 = -1 ∧ t.2 0 13 = 0) ∨
   ∃ e a f : Nat, e < i ∧ f < i ∧ a ≤ i ∧ s 12 4 = nI e ∧ t.1 = nI e ∧ s 12 2 = nI a ∧ t.2 0 13 = nI a ∧ s 12 1 = nI (u e) ∧ t.2 0 12 = nI (u e) ∧ s 12 3 = nI f ∧ qB (N 7 3) e = true ∧ qB (N 7 3) f = true ∧ u f = u e ∧ (∀ j, j < f → qB (N 7 3) j = true → u j < u e) ∧ ∀ j, j < i → qB (N 7 3) j = true → u j ≤ u e)
theorem m1_lt {k : Nat} (h : k < 4096) : (-1 : Int32) < nI k := by
  rw [Int32.lt_iff_toInt_lt, nI_toInt (by omega)]
  exact Int.lt_of_lt_of_le (by decide) (Int.natCast_nonneg k)
theorem m1_ne {k : Nat} (h : k < 4096) : ¬ nI k = -1 := fun e => by
  have := m1_lt h
  rw [e] at this
  exact Int32.lt_irrefl this
theorem m1_nle {k : Nat} (h : k < 4096) : ¬ nI k ≤ -1 := Int32.not_le.mpr (m1_lt h)
set_option maxHeartbeats 2000000 in
theorem tally_step {B : zM} {u : Nat → Nat} (h9 : n ≤ 9) (hag : ∀ i, i < n → g_X10_of B i 0 = N 2 i) (hon : ∀ i, i < n → g_X10_isOnRoll B (nI i) = bI (qB (N 7 3) i)) (hv : rl_nv n N) (hB : ∀ r, r < n → B 20 r = nI (u r)) (hu : ∀ r, u r < 4096) (f m ti : Int32) (hx : ∀ i, i < 9 → nI (qV n N i) + (if nI i = f then m else 0) = nI (u i)) {i : Nat} (hi : i < n) {s : zM} {t : Int32 × zM} (h : qTy n N B u i s t) : qTy n N B u (i + 1) (l_X7_take_23 N f m i s) (l_X10_leading_14 B n ti i t) := by
  obtain ⟨h1, h2, h3, h4⟩ := h
  have e1 : t.2 1 = B 1 := h3 1 (by decide)
  have eV : g_X1_validVotesFor (zPl s 7) (nI i) = nI (qV n N i) := by
    rw [← c_votesFor h9 hv i]
    unfold g_X1_validVotesFor
    refine zIt_congr 9 0 fun j _ s' => ?_
    unfold l_X1_validVotesFor_4
    rw [show zPl s 7 0 6 = s 7 6 from rfl, show zPl s 7 2 j = s 9 j from rfl, h1 7 (by decide) (by decide), h1 9 (by decide) (by decide)]
    rfl
  unfold l_X7_take_23 l_X10_leading_14
  rw [h1 7 (by decide) (by decide), has_q (by omega), bI_ite, onRoll_1 e1, hon i hi, bI_ite, eV, hx i (by omega)]
  generalize hS : zU s 13 i (nI (u i)) = S
  have s0 : ∀ o, o ≠ 12 → o ≠ 13 → S o = N o := fun o a b => by rw [← hS, zU_ne b]; exact h1 o a b
  have s13 : ∀ k, k < i + 1 → S 13 k = nI (u k) := fun k hk => by
    rw [← hS, zU_c]
    by_cases e : k = i
    · rw [if_pos e, e]
    · rw [if_neg e]
      exact h2 k (by omega)
  have s12 : S 12 = s 12 := by rw [← hS, zU_ne (by decide)]
  rw [← s12] at h4
  cases hq : qB (N 7 3) i
  · rw [if_neg Bool.false_ne_true, if_neg Bool.false_ne_true]
    refine ⟨s0, s13, h3, ?_⟩
    rcases h4 with ⟨c1, c2⟩ | ⟨e, a, f, c1, c2, c3, c4, c5, c6, c7, c8, c9, d1, d2, d3, d4, d5, d6⟩
    · refine Or.inl ⟨fun j hj => ?_, c2⟩
      by_cases e : j = i
      · rw [e]; exact hq
      · exact c1 j (by omega)
    · refine Or.inr ⟨e, a, f, by omega, by omega, by omega, c4, c5, c6, c7, c8, c9, d1, d2, d3, d4, d5, fun j hj hj2 => ?_⟩
      by_cases e' : j = i
      · rw [e', hq] at hj2
        cases hj2
      · exact d6 j (by omega) hj2
  · rw [if_pos rfl, if_pos rfl]
    have u20 : t.2 20 i = nI (u i) := by rw [h3 20 (by decide)]; exact hB i hi
    have ui := hu i
    have hf0 : ∀ o, o ≠ 12 → g_X7_rank S i o = S o := fun o ho => fr_X7_rank S i o ho
    refine ⟨fun o a b => (hf0 o a).trans (s0 o a b), fun k hk => by rw [hf0 13 (by decide)]; exact s13 k hk, fun o ho => ?_, Or.inr ?_⟩
    · show zU (zU t.2 0 13 _) 0 12 _ o = B o
      rw [zU_ne ho, zU_ne ho]
      exact h3 o ho
    unfold g_X7_rank
    rw [s13 i (Nat.lt_succ_self i), u20]
    rcases h4 with ⟨c1, c2, c3, c4, c5, c6, c7, c8⟩ | ⟨e, a, f, c1, c2, c3, c4, c5, c6, c7, c8, c9, d1, d2, d3, d4, d5, d6⟩
    · rw [if_pos c5, c7, if_pos (m1_lt ui), if_neg (m1_nle ui), if_neg (m1_nle ui)]
      refine ⟨i, 1, i, Nat.lt_succ_self i, Nat.lt_succ_self i, by omega, zU_s, rfl, ?_, ?_, ?_, ?_, ?_, hq, hq, rfl, fun j hj hj2 => ?_, fun j hj hj2 => ?_⟩
      · rw [zU_k (by decide), zU_k (by decide), zU_s]; rfl
      · dsimp only
        rw [zU_k (by decide), zU_s]; rfl
      · rw [zU_k (by decide), zU_k (by decide), zU_k (by decide), zU_s]
      · dsimp only; exact zU_s
      · rw [zU_k (by decide), zU_s]
      · rw [c1 j hj] at hj2; cases hj2
      · by_cases e' : j = i
        · rw [e']
          exact Nat.le_refl _
        · rw [c1 j (by omega)] at hj2; cases hj2
    · have ue := hu e
      have hen : e < n := by
        rcases Nat.lt_or_ge e n with q | q
        · exact q
        · rw [hv.2.1.1 e q] at d2; cases d2
      rw [c4, if_neg (m1_ne (by omega)), c5, c6, c7, c8, c9, nI_clamp (by omega)]
      have ea : g_X10_of t.2 i 0 = S 2 i := by rw [of_1 e1, s0 2 (by decide) (by decide)]; exact hag i hi
      have ee : g_X10_of t.2 e 0 = S 2 e := by rw [of_1 e1, s0 2 (by decide) (by decide)]; exact hag e hen
      rw [ea, ee]
      rcases Nat.lt_trichotomy (u i) (u e) with hlt | heq | hgt
      · have l1 : nI (u i) ≤ nI (u e) := (nI_le9 ui ue).mpr (by omega)
        have l2 : ¬ nI (u i) = nI (u e) := fun q => absurd ((nI_eq9 ui ue).mp q) (by omega)
        have l3 : ¬ nI (u e) < nI (u i) := fun q => absurd ((nI_lt9 ue ui).mp q) (by omega)
        rw [if_pos l1, if_neg l2, if_neg l3, if_neg l2, if_pos l1, if_neg l2, if_pos l1]
        refine ⟨e, a, f, by omega, by omega, by omega, c4, rfl, c6, ?_, c8, (by dsimp only; exact zU_s), d1, d2, d3, d4, d5, fun j hj hj2 => ?_⟩
        · dsimp only
          rw [zU_k (by decide), zU_s]
        · by_cases e' : j = i
          · rw [e']; omega
          · exact d6 j (by omega) hj2
      · have l1 : nI (u i) ≤ nI (u e) := (nI_le9 ui ue).mpr (by omega)
        have l2 : nI (u i) = nI (u e) := by rw [heq]
        have l3 : ¬ nI (u e) < nI (u i) := fun q => absurd ((nI_lt9 ue ui).mp q) (by omega)
        rw [if_pos l1, if_pos l2, if_neg l3, if_pos l2, if_pos l1, if_pos l2, if_pos l1, nI_1]
        by_cases ha : S 2 i ≤ S 2 e
        · rw [if_pos ha, if_pos ha]
          refine ⟨e, a + 1, f, by omega, by omega, by omega, ?_, rfl, zU_s, ?_, ?_, (by dsimp only; exact zU_s), ?_, d2, d3, d4, d5, fun j hj hj2 => ?_⟩
          · rw [zU_k (by decide)]; exact c4
          · dsimp only
            rw [zU_k (by decide), zU_s]
          · rw [zU_k (by decide)]; exact c8
          · rw [zU_k (by decide)]; exact d1
          · by_cases e' : j = i
            · rw [e']; omega
            · exact d6 j (by omega) hj2
        · rw [if_neg ha, if_neg ha]
          refine ⟨i, a + 1, f, by omega, by omega, by omega, zU_s, rfl, ?_, ?_, ?_, ?_, ?_, hq, d3, by rw [d4, heq], fun j hj hj2 => ?_, fun j hj hj2 => ?_⟩
          · rw [zU_k (by decide), zU_s]
          · dsimp only
            rw [zU_k (by decide), zU_s]
          · rw [zU_k (by decide), zU_k (by decide), heq]; exact c8
          · dsimp only; rw [heq]; exact zU_s
          · rw [zU_k (by decide), zU_k (by decide)]; exact d1
          · rw [heq]; exact d5 j hj hj2
          · by_cases e' : j = i
            · rw [e']; exact Nat.le_refl _
            · rw [heq]; exact d6 j (by omega) hj2
      · have l1 : ¬ nI (u i) ≤ nI (u e) := fun q => absurd ((nI_le9 ui ue).mp q) (by omega)
        have l3 : nI (u e) < nI (u i) := (nI_lt9 ue ui).mpr hgt
        rw [if_neg l1, if_pos l3, if_neg l1, if_neg l1]
        refine ⟨i, 1, i, by omega, by omega, by omega, zU_s, rfl, ?_, ?_, ?_, (by dsimp only; exact zU_s), ?_, hq, hq, rfl, fun j hj hj2 => ?_, fun j hj hj2 => ?_⟩
        · rw [zU_k (by decide), zU_k (by decide), zU_s]; rfl
        · dsimp only
          rw [zU_k (by decide), zU_s]; rfl
        · rw [zU_k (by decide), zU_k (by decide), zU_k (by decide), zU_s]
        · rw [zU_k (by decide), zU_s]
        · exact Nat.lt_of_le_of_lt (d6 j hj hj2) hgt
        · by_cases e' : j = i
          · rw [e']; exact Nat.le_refl _
          · exact Nat.le_trans (d6 j (by omega) hj2) (Nat.le_of_lt hgt)
theorem tally_rel {B : zM} {u : Nat → Nat} (h9 : n ≤ 9) (hag : ∀ i, i < n → g_X10_of B i 0 = N 2 i) (hon : ∀ i, i < n → g_X10_isOnRoll B (nI i) = bI (qB (N 7 3) i)) (hv : rl_nv n N) (hB : ∀ r, r < n → B 20 r = nI (u r)) (hu : ∀ r, u r < 4096) (f m ti : Int32) (hx : ∀ i, i < 9 → nI (qV n N i) + (if nI i = f then m else 0) = nI (u i)) : qTy n N B u 9 (g_X7_take N f m) (r_X10_leading_14 B n ti) := by
  unfold g_X7_take r_X10_leading_14
  refine zIt_rel2 (R := qTy n N B u) _ _ ?_ (fun i hi s t h => tally_step h9 hag hon hv hB hu f m ti hx hi h) 9 h9 ?_
  · refine ⟨fun o a b => ?_, fun k hk => absurd hk (Nat.not_lt_zero k), fun o ho => ?_, Or.inl ⟨fun j hj => absurd hj (Nat.not_lt_zero j), ?_, ?_, ?_, ?_, rfl, ?_, ?_⟩⟩
    · rw [zU_ne a, zU_ne a, zU_ne a, zU_ne a]
    · dsimp only
      rw [zU_ne ho, zU_ne ho]
    · rw [zU_k (by decide), zU_k (by decide), zU_k (by decide), zU_s]
    · rw [zU_k (by decide), zU_k (by decide), zU_s]
    · rw [zU_k (by decide), zU_s]
    · exact zU_s
    · dsimp only
      rw [zU_k (by decide), zU_s]
    · dsimp only
      exact zU_s
  · intro i h1 h2 s t h
    have hq : qB (N 7 3) i = false := hv.2.1.1 i h1
    obtain ⟨g1, g2, g3, g4⟩ := h
    have eV : g_X1_validVotesFor (zPl s 7) (nI i) = nI (qV n N i) := by
      rw [← c_votesFor h9 hv i]
      unfold g_X1_validVotesFor
      refine zIt_congr 9 0 fun j _ s' => ?_
      unfold l_X1_validVotesFor_4
      rw [show zPl s 7 0 6 = s 7 6 from rfl, show zPl s 7 2 j = s 9 j from rfl, g1 7 (by decide) (by decide), g1 9 (by decide) (by decide)]
      rfl
    unfold l_X7_take_23
    rw [g1 7 (by decide) (by decide), has_q (by omega), bI_ite, hq, if_neg Bool.false_ne_true, eV, hx i (by omega)]
    refine ⟨fun o a b => (zU_ne b).trans (g1 o a b), fun k hk => ?_, g3, ?_⟩
    · rw [zU_c]
      by_cases e : k = i
      · rw [if_pos e, e]
      · rw [if_neg e]
        exact g2 k (by omega)
    · rw [zU_ne (by decide)]
      rcases g4 with ⟨c1, c2⟩ | ⟨e, a, f, c1, c2, c3, c4, c5, c6, c7, c8, c9, d1, d2, d3, d4, d5, d6⟩
      · refine Or.inl ⟨fun j hj => ?_, c2⟩
        by_cases e : j = i
        · rw [e]; exact hq
        · exact c1 j (by omega)
      · refine Or.inr ⟨e, a, f, by omega, by omega, by omega, c4, c5, c6, c7, c8, c9, d1, d2, d3, d4, d5, fun j hj hj2 => ?_⟩
        by_cases e' : j = i
        · rw [e', hq] at hj2
          cases hj2
        · exact d6 j (by omega) hj2
theorem ahead_eq {B C : zM} {L : Int32 × zM} {u : Nat → Nat} {i : Nat} (hi : i ≤ 9) (ti : Int32) (h : qTy n N B u i C L) (hL : r_X10_leading_14 B n ti = L) : g_X7_aheadBy C ti = (g_X10_leading B n ti).1 ∧ (g_X10_leading B n ti).2 = L.2 := by
  unfold g_X7_aheadBy g_X10_leading
  rw [hL]
  obtain ⟨g1, g2, g3, g4⟩ := h
  rcases g4 with ⟨c1, c2, c3, c4, c5, c6, c7, c8⟩ | ⟨e, a, f, c1, c2, c3, c4, c5, c6, c7, c8, c9, d1, d2, d3, d4, d5, d6⟩
  · rw [c3, c5, c8, if_pos (show (0 : Int32) ≤ 1 by decide), if_pos (show (0 : Int32) ≤ 1 by decide), c6]
    exact ⟨by split <;> rfl, rfl⟩
  · rw [c4, c6, c7, c5]
    by_cases ha : nI a ≤ 1
    · rw [if_pos ha, if_pos ha]
      exact ⟨by split <;> rfl, rfl⟩
    · rw [if_neg ha, if_neg ha]
      by_cases ht : ti = 0
      · rw [if_pos ht, if_pos ht]
        exact ⟨rfl, rfl⟩
      · rw [if_neg ht, if_neg ht]
        exact ⟨rfl, rfl⟩
theorem chosen_eq {B C : zM} {u : Nat → Nat} (h9 : n ≤ 9) (hv : rl_nv n N) (hB : ∀ r, r < n → B 20 r = nI (u r)) (hu : ∀ r, u r < 4096) (le ti : Int32) (h : qTy n N B u 9 C (r_X10_leading_14 B n ti)) : g_X7_chosenBy C le ti = (g_X10_chosenBy B n le ti).1 := by
  obtain ⟨e1, e2⟩ := ahead_eq (Nat.le_refl 9) ti h rfl
  unfold g_X7_chosenBy g_X10_chosenBy
  rw [e1, e2]
  have e3 : (g_X10_leading B n ti).1 = (r_X10_leading_14 B n ti).1 ∨ (g_X10_leading B n ti).1 = -1 := by
    unfold g_X10_leading
    (repeat' split) <;> first | exact Or.inl rfl | exact Or.inr rfl
  generalize (g_X10_leading B n ti).1 = A at *
  generalize r_X10_leading_14 B n ti = L at *
  obtain ⟨g1, g2, g3, g4⟩ := h
  rcases g4 with ⟨c1, c2, c3, c4, c5, c6, c7, c8⟩ | ⟨e, a, f, c1, c2, c3, c4, c5, c6, c7, c8, c9, d1, d2, d3, d4, d5, d6⟩
  · have eA : A = -1 := by
      rcases e3 with q | q
      · exact q.trans c6
      · exact q
    rw [eA, if_pos rfl]
    split <;> rfl
  · by_cases hA : A = -1
    · rw [hA, if_pos rfl]
      split <;> rfl
    · have eA : A = nI e := by
        rcases e3 with q | q
        · exact q.trans c5
        · exact absurd q hA
      have hen : e < n := by
        rcases Nat.lt_or_ge e n with q | q
        · exact q
        · rw [hv.2.1.1 e q] at d2; cases d2
      rw [if_neg hA, eA, nI_clamp (by omega), g3 20 (by decide), hB e hen, c8]
      by_cases hl : le ≤ nI (u e)
      · rw [if_pos hl, if_neg (Int32.not_lt.mpr hl)]
      · rw [if_neg hl, if_pos (Int32.not_le.mp hl)]
/-- nobody favoured -/
theorem tally_0 (h9 : n ≤ 9) (hag : rl_ag n N (M 1)) (hh : rl_hd n N (M 1)) (hv : rl_nv n N) (ht : rl_vt n N (M 1)) (ti : Int32) : qTy n N (g_X10_findVotes M n) (qV n N) 9 (g_X7_take N (-1) 0) (r_X10_leading_14 (g_X10_findVotes M n) n ti) := by
  have hF := m_findVotes h9 hh hv ht
  refine tally_rel h9 (fun i hi => (of_1 (hF.1 1 (by decide)) i 0).trans (hag i hi).1) (fun i hi => (onRoll_1 (hF.1 1 (by decide)) _).trans (m_onRoll hh hv (by omega))) hv hF.2 (fun r => ?_) (-1) 0 ti (fun i hi => ?_)
  · have := qV_le (n := n) (N := N) (r := r)
    omega
  · rw [if_neg (m1_ne (by omega))]
    exact Int32.add_zero _
theorem chosen_0 (h9 : n ≤ 9) (hag : rl_ag n N (M 1)) (hh : rl_hd n N (M 1)) (hv : rl_nv n N) (ht : rl_vt n N (M 1)) (le ti : Int32) : g_X7_chosenBy (g_X7_take N (-1) 0) le ti = (g_X10_chosenBy (g_X10_findVotes M n) n le ti).1 := by
  refine chosen_eq h9 hv (m_findVotes h9 hh hv ht).2 (fun r => ?_) le ti (tally_0 h9 hag hh hv ht ti)
  have := qV_le (n := n) (N := N) (r := r)
  omega
end TALLY
