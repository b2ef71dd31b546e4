/-! THE DEEDS, on both sides: call -/
section CALL
variable {n oz T : Nat} {N M : zM}
theorem e_great (h9 : n ≤ 9) (S : Int32) (h : ∀ r, r < n → ∃ t, t ≤ T ∧ N 4 r = nI t) : ∃ t, t ≤ T ∧ g_X4_greatestTermOf N n S = nI t ∧ ∀ j, j < n → qB S j = true → N 4 j ≤ nI t := by
  unfold g_X4_greatestTermOf
  refine zIt_inv (P := fun i (s : Int32) => ∃ t, t ≤ T ∧ s = nI t ∧ ∀ j, j < i → qB S j = true → N 4 j ≤ nI t) n 0 ⟨0, Nat.zero_le T, rfl, fun j hj => absurd hj (Nat.not_lt_zero j)⟩ ?_
  intro i hi s hs
  obtain ⟨t, h1, h2, h3⟩ := hs
  obtain ⟨t', h4, h5⟩ := h i hi
  unfold l_X4_greatestTermOf_4
  rw [has_q (by omega), bI_ite, h5, h2]
  cases hq : qB S i
  · rw [if_neg Bool.false_ne_true]
    refine ⟨t, h1, rfl, fun j hj hj2 => ?_⟩
    by_cases e : j = i
    · rw [e, hq] at hj2
      cases hj2
    · exact h3 j (by omega) hj2
  · rw [if_pos rfl]
    by_cases c : nI t < nI t'
    · rw [if_pos c]
      refine ⟨t', h4, rfl, fun j hj hj2 => ?_⟩
      by_cases e : j = i
      · rw [e, h5]
        exact Int32.le_refl _
      · exact Int32.le_trans (h3 j (by omega) hj2) (Int32.le_of_lt c)
    · rw [if_neg c]
      refine ⟨t, h1, rfl, fun j hj hj2 => ?_⟩
      by_cases e : j = i
      · rw [e, h5]
        exact Int32.not_lt.mp c
      · exact h3 j (by omega) hj2
theorem e_callIt11 (h9 : n ≤ 9) (htm : rl_tm n N (M 1)) (cl : Nat) : (zIt (l_X10_callIt_11 M n cl) n (0, M)).1 = g_X4_greatestTermOf N n (g_X10_rollOf M n cl) ∧ qFl M (fun _ c => decide (6 ≤ c)) (fun _ c => if c = 7 then -1 else 0) n (zIt (l_X10_callIt_11 M n cl) n (0, M)).2 := by
  unfold g_X4_greatestTermOf
  refine zIt_rel (f := l_X4_greatestTermOf_4 N n (g_X10_rollOf M n cl)) (R := fun i (s : Int32) (t : Int32 × zM) => t.1 = s ∧ qFl M (fun _ c => decide (6 ≤ c)) (fun _ c => if c = 7 then -1 else 0) i t.2) n 0 (0, M) ⟨rfl, fun j c _ _ => (if_neg fun q => Nat.not_lt_zero j q.1).symm, fun _ _ => rfl⟩ ?_
  intro i hi s t ht
  obtain ⟨h1, h2⟩ := ht
  have e3 : g_X10_of t.2 i 3 = N 4 i := by
    show t.2 1 (10 + i * 9 + 3) = N 4 i
    rw [h2.1 i 3 (by omega) (by decide), if_neg (fun q => absurd q.2 (by simp))]
    exact htm i hi
  unfold l_X10_callIt_11 l_X4_greatestTermOf_4
  rw [sh_ite (by omega), bI_def, bI_ite, has_q (by omega), bI_ite, e3, h1]
  refine ⟨?_, fun j c hj hc => ?_, fun k hk => ?_⟩
  · dsimp only
    cases qB (g_X10_rollOf M n cl) i
    · rw [if_neg Bool.false_ne_true, if_neg Bool.false_ne_true]
    · rw [if_pos rfl, if_pos rfl]
      by_cases c : N 4 i ≤ s
      · rw [if_pos c, if_neg (Int32.not_lt.mpr c)]
      · rw [if_neg c, if_pos (Int32.not_le.mp c)]
  · dsimp only
    rw [put_c, put_c, put_c, h2.1 j c hj hc]
    by_cases e : j = i
    · subst e
      rcases (show c < 6 ∨ c = 6 ∨ c = 7 ∨ c = 8 by omega) with e | e | e | e
      · rw [if_neg (by omega), if_neg (by omega), if_neg (by omega), if_neg (fun q => absurd (of_decide_eq_true q.2) (by omega)), if_neg (fun q => absurd (of_decide_eq_true q.2) (by omega))]
      · subst e
        rw [if_neg (by omega), if_neg (by omega), if_pos rfl, if_pos ⟨by omega, rfl⟩]
        rfl
      · subst e
        rw [if_neg (by omega), if_pos rfl, if_pos ⟨by omega, rfl⟩]
        rfl
      · subst e
        rw [if_pos rfl, if_pos ⟨by omega, rfl⟩]
        rfl
    · rw [if_neg (by omega), if_neg (by omega), if_neg (by omega)]
      by_cases q : j < i ∧ decide (6 ≤ c) = true
      · rw [if_pos q, if_pos ⟨by omega, q.2⟩]
      · rw [if_neg q, if_neg (fun p => q ⟨by omega, p.2⟩)]
  · dsimp only
    rw [put_n (by omega), put_n (by omega), put_n (by omega)]
    exact h2.2 k hk
theorem e_call73 (h9 : n ≤ 9) (r : Nat) : (∀ o, o ≠ 4 ∧ o ≠ 5 → zIt (l_X4_callBallot_73 N n r) n N o = N o) ∧ (∀ k, zIt (l_X4_callBallot_73 N n r) n N 4 k = if k < n ∧ qB ((N 6 r) &&& (N 0 1)) k = true then g_X4_greatestTermOf N n ((N 6 r) &&& (N 0 1)) + 1 else N 4 k) ∧ ∀ k, zIt (l_X4_callBallot_73 N n r) n N 5 k = if k < n ∧ qB ((N 6 r) &&& (N 0 1)) k = true then -1 else N 5 k := by
  refine ⟨fun o ho => fr_l_X4_callBallot_73 N n r o ho n N, ?_⟩
  refine zIt_inv (P := fun i (s : zM) => (∀ k, s 4 k = if k < i ∧ qB ((N 6 r) &&& (N 0 1)) k = true then g_X4_greatestTermOf N n ((N 6 r) &&& (N 0 1)) + 1 else N 4 k) ∧ ∀ k, s 5 k = if k < i ∧ qB ((N 6 r) &&& (N 0 1)) k = true then -1 else N 5 k) n N ⟨fun k => (if_neg fun q => Nat.not_lt_zero k q.1).symm, fun k => (if_neg fun q => Nat.not_lt_zero k q.1).symm⟩ ?_
  intro i hi s hs
  unfold l_X4_callBallot_73
  rw [has_q (by omega), bI_ite]
  generalize g_X4_greatestTermOf N n ((N 6 r) &&& (N 0 1)) + 1 = g at *
  generalize (N 6 r) &&& (N 0 1) = S at *
  have nx : ∀ k, k ≠ i → ((k < i ∧ qB S k = true) ↔ (k < i + 1 ∧ qB S k = true)) := fun k hk => ⟨fun q => ⟨by omega, q.2⟩, fun q => ⟨by omega, q.2⟩⟩
  cases hq : qB S i
  · rw [if_neg Bool.false_ne_true]
    refine ⟨fun k => ?_, fun k => ?_⟩
    · rw [hs.1 k]
      by_cases e : k = i
      · subst e
        rw [if_neg (fun q => Nat.lt_irrefl k q.1), if_neg (fun q => by rw [hq] at q; cases q.2)]
      · by_cases q : k < i ∧ qB S k = true
        · rw [if_pos q, if_pos ((nx k e).mp q)]
        · rw [if_neg q, if_neg (fun p => q ((nx k e).mpr p))]
    · rw [hs.2 k]
      by_cases e : k = i
      · subst e
        rw [if_neg (fun q => Nat.lt_irrefl k q.1), if_neg (fun q => by rw [hq] at q; cases q.2)]
      · by_cases q : k < i ∧ qB S k = true
        · rw [if_pos q, if_pos ((nx k e).mp q)]
        · rw [if_neg q, if_neg (fun p => q ((nx k e).mpr p))]
  · rw [if_pos rfl]
    refine ⟨fun k => ?_, fun k => ?_⟩
    · rw [zU_ne (show (4 : Nat) ≠ 5 by decide), zU_c]
      by_cases e : k = i
      · subst e
        rw [if_pos rfl, if_pos ⟨Nat.lt_succ_self k, hq⟩]
      · rw [if_neg e, hs.1 k]
        by_cases q : k < i ∧ qB S k = true
        · rw [if_pos q, if_pos ((nx k e).mp q)]
        · rw [if_neg q, if_neg (fun p => q ((nx k e).mpr p))]
    · rw [zU_c]
      by_cases e : k = i
      · subst e
        rw [if_pos rfl, if_pos ⟨Nat.lt_succ_self k, hq⟩]
      · rw [if_neg e, zU_ne (show (5 : Nat) ≠ 4 by decide), hs.2 k]
        by_cases q : k < i ∧ qB S k = true
        · rw [if_pos q, if_pos ((nx k e).mp q)]
        · rw [if_neg q, if_neg (fun p => q ((nx k e).mpr p))]
theorem st_call (h : rl n oz T N (M 1)) (hT : T < 2 ^ 29) {r : Nat} (hr : r < n) : qStep n (T + 1) N (g_X4_callBallot N n r) (g_X10_noCall M n r) (g_X10_callIt M n r) := by
  obtain ⟨a1, a2, a3, a4, a5, a6, a7, a8, a9, b1, b2, b3, b4, b5⟩ := id h
  have h9 : n ≤ 9 := a1.1
  have hSn : qS n ((N 6 r) &&& (N 0 1)) := qS.and a2.1
  unfold g_X4_callBallot g_X10_noCall
  rw [a9.1]
  by_cases p1 : N 7 0 = 1
  · rw [if_pos p1, if_pos p1]
    exact qStep.no 2 (by decide) (by decide)
  by_cases p2 : N 7 0 = 2
  · rw [if_neg p1, if_pos p2, if_neg p1, if_pos p2]
    exact qStep.no 2 (by decide) (by decide)
  rw [if_neg p1, if_neg p2, if_neg p1, if_neg p2, has_q (by omega), m_up a2 hr, m_rollOf h9 a2 a8 hr, m_enough a1 (hSn.mono h9), c_major a1 (hSn.mono h9)]
  simp only [bI_ite]
  cases hu : qB (N 0 1) r
  · exact qStep.no 3 (by decide) (by decide)
  rw [if_pos rfl, if_pos rfl]
  by_cases hm : n < 2 * qN 9 (qB ((N 6 r) &&& (N 0 1)))
  case neg =>
    rw [decide_eq_false hm]
    exact qStep.no 4 (by decide) (by decide)
  rw [decide_eq_true hm, if_pos rfl, if_pos rfl]
  rw [qN_cut 9 h9 (fun i hi _ => hSn i hi)] at hm
  obtain ⟨t, ht, eg, hg⟩ := e_great h9 ((N 6 r) &&& (N 0 1)) b5.1
  obtain ⟨c1, c2⟩ := e_callIt11 h9 a6 r
  obtain ⟨d1, d2, d3⟩ := e_call73 (N := N) h9 r
  have eR : g_X10_rollOf M n r = (N 6 r) &&& (N 0 1) := m_rollOf h9 a2 a8 hr
  rw [eR, eg] at c1
  have eF : (zIt (l_X10_callIt_11 M n r) n (0, M)).1 + 1 = nI (t + 1) := by rw [c1, nI_1]
  have hU := zIt_fld (f := l_X10_callIt_103 M n r) (B := (zIt (l_X10_callIt_11 M n r) n (0, M)).2) (p := fun j c => (c == 3 || c == 4) && qB ((N 6 r) &&& (N 0 1)) j) (v := fun _ c => if c = 3 then nI (t + 1) else -1) n ?_
  case refine_1 =>
    intro i hi s hs
    have hL : l_X10_callIt_103 M n r i s = if qB ((N 6 r) &&& (N 0 1)) i = true then g_X10_put (g_X10_put s i 3 (nI (t + 1))) i 4 (-1) else s := by
      unfold l_X10_callIt_103
      rw [sh_ite (by omega), eR, eF]
    rw [hL]
    cases hq : qB ((N 6 r) &&& (N 0 1)) i
    · rw [if_neg Bool.false_ne_true]
      exact ⟨fun j c _ _ => (if_neg fun q => by have := q.2; rw [Bool.and_false] at this; cases this).symm, fun _ _ => rfl⟩
    · rw [if_pos rfl]
      refine ⟨fun j c hj hc => ?_, fun k hk => ?_⟩
      · rw [put_c, put_c, Bool.and_true]
        by_cases e : j = i
        · subst e
          by_cases e4 : c = 4
          · subst e4
            rw [if_pos rfl, if_pos ⟨rfl, rfl⟩]
            rfl
          · by_cases e3 : c = 3
            · subst e3
              rw [if_neg (by omega), if_pos rfl, if_pos ⟨rfl, rfl⟩]
              rfl
            · rw [if_neg (by omega), if_neg (by omega), if_neg (fun q => by have := q.2; rw [beq_eq_false_iff_ne.mpr e3, beq_eq_false_iff_ne.mpr e4] at this; cases this)]
        · rw [if_neg (by omega), if_neg (by omega), if_neg (fun q => e q.1)]
      · rw [put_n (by omega), put_n (by omega)]
  have eD : g_X10_callIt M n r = (nI (t + 1), (zU (zU (zU (zU (zU (zIt (l_X10_callIt_103 M n r) n (zIt (l_X10_callIt_11 M n r) n (0, M)).2) 1 4 1) 1 5 (nI (t + 1))) 1 6 (nI r)) 1 7 ((N 6 r) &&& (N 0 1))) 1 8 0)) := by
    unfold g_X10_callIt r_X10_callIt_103
    rw [eF, eR]
  rw [eD]
  have eX0 : m_X4_callBallot_1 N n r = zPs (zIt (l_X4_callBallot_73 N n r) n N) 7 3 (g_X1_begin (zPl (zIt (l_X4_callBallot_73 N n r) n N) 7) (nI (t + 1)) (nI r) ((N 6 r) &&& (N 0 1))) := by
    unfold m_X4_callBallot_1
    rw [eg, nI_1]
  rw [eX0]
  generalize zIt (l_X10_callIt_103 M n r) n (zIt (l_X10_callIt_11 M n r) n (0, M)).2 = R at *
  generalize (zIt (l_X10_callIt_11 M n r) n (0, M)).2 = R0 at *
  rw [eg] at d2 ⊢
  rw [nI_1] at d2 ⊢
  generalize (N 6 r) &&& (N 0 1) = S at *
  generalize zIt (l_X4_callBallot_73 N n r) n N = K at *
  have hB := e_begin (zPl K 7) (nI (t + 1)) (nI r) S
  generalize g_X1_begin (zPl K 7) (nI (t + 1)) (nI r) S = B at *
  generalize hX : zPs K 7 3 B = X
  generalize hY : zU (zU (zU (zU (zU R 1 4 1) 1 5 (nI (t + 1))) 1 6 (nI r)) 1 7 S) 1 8 0 = Y
  have x7 : ∀ k, X 7 k = B 0 k := fun k => by rw [← hX, zPs_in (by decide) (by decide)]
  have x8 : ∀ k, k < 9 → X 8 k = 0 := fun k hk => by rw [← hX, zPs_in (by decide) (by decide)]; exact hB.2.1 k hk
  have x9 : ∀ k, k < 9 → X 9 k = -1 := fun k hk => by rw [← hX, zPs_in (by decide) (by decide)]; exact hB.2.2 k hk
  have xo : ∀ o, o < 7 ∨ 10 ≤ o → X o = K o := fun o ho => by rw [← hX]; exact zPs_out (by omega)
  have eN : ∀ o, (o < 4 ∨ o = 6 ∨ 10 ≤ o) → X o = N o := fun o ho => (xo o (by omega)).trans (d1 o (by omega))
  have x4 : ∀ k, X 4 k = if k < n ∧ qB S k = true then nI (t + 1) else N 4 k := fun k => by rw [xo 4 (by omega)]; exact d2 k
  have x5 : ∀ k, X 5 k = if k < n ∧ qB S k = true then -1 else N 5 k := fun k => by rw [xo 5 (by omega)]; exact d3 k
  have x70 : X 7 0 = 1 := by rw [x7, hB.1]; rfl
  have x71 : X 7 1 = nI (t + 1) := by rw [x7, hB.1]; rfl
  have x72 : X 7 2 = nI r := by rw [x7, hB.1]; rfl
  have x73 : X 7 3 = S := by rw [x7, hB.1]; rfl
  have x74 : X 7 4 = 0 := by rw [x7, hB.1]; rfl
  have x75 : X 7 5 = 0 := by rw [x7, hB.1]; rfl
  have x76 : X 7 6 = 0 := by rw [x7, hB.1]; rfl
  have x77 : X 7 7 = 0 := by rw [x7, hB.1]; rfl
  have yR : ∀ k, k < 4 ∨ 9 ≤ k → Y 1 k = R 1 k := fun k hk => by
    rw [← hY, zU_k (show k ≠ 8 by omega), zU_k (show k ≠ 7 by omega), zU_k (show k ≠ 6 by omega), zU_k (show k ≠ 5 by omega), zU_k (show k ≠ 4 by omega)]
  have y4 : Y 1 4 = 1 := by rw [← hY, zU_k (show (4 : Nat) ≠ 8 by decide), zU_k (show (4 : Nat) ≠ 7 by decide), zU_k (show (4 : Nat) ≠ 6 by decide), zU_k (show (4 : Nat) ≠ 5 by decide), zU_s]
  have y5 : Y 1 5 = nI (t + 1) := by rw [← hY, zU_k (show (5 : Nat) ≠ 8 by decide), zU_k (show (5 : Nat) ≠ 7 by decide), zU_k (show (5 : Nat) ≠ 6 by decide), zU_s]
  have y6 : Y 1 6 = nI r := by rw [← hY, zU_k (show (6 : Nat) ≠ 8 by decide), zU_k (show (6 : Nat) ≠ 7 by decide), zU_s]
  have y7 : Y 1 7 = S := by rw [← hY, zU_k (show (7 : Nat) ≠ 8 by decide), zU_s]
  have y8 : Y 1 8 = 0 := by rw [← hY, zU_s]
  have eW : ∀ k, (k < 4 ∨ k = 9 ∨ 91 ≤ k ∨ (10 ≤ k ∧ ((k - 10) % 9 < 3 ∨ (k - 10) % 9 = 5))) → Y 1 k = M 1 k := fun k hk => by
    rw [yR k (by omega), hU.out (fun c => c = 3 ∨ c = 4) (fun j c q => by
      have := (Bool.and_eq_true_iff.mp q).1
      rcases Bool.or_eq_true_iff.mp this with q | q
      · exact Or.inl (by simpa using q)
      · exact Or.inr (by simpa using q)) k (by omega)]
    exact c2.out (fun c => 6 ≤ c) (fun j c q => of_decide_eq_true q) k (by omega)
  have yf : ∀ j c, j < 9 → c < 9 → Y 1 (10 + j * 9 + c) = if j < n ∧ ((c = 3 ∨ c = 4) ∧ qB S j = true) then (if c = 3 then nI (t + 1) else -1) else if j < n ∧ 6 ≤ c then (if c = 7 then -1 else 0) else M 1 (10 + j * 9 + c) := fun j c hj hc => by
    rw [yR _ (by omega), hU.1 j c hj hc, c2.1 j c hj hc]
    have e1 : ((c == 3 || c == 4) && qB S j) = true ↔ ((c = 3 ∨ c = 4) ∧ qB S j = true) := by simp
    have e2 : decide (6 ≤ c) = true ↔ 6 ≤ c := decide_eq_true_iff
    simp only [e1, e2]
  have f6 : ∀ j c, j < 9 → 6 ≤ c → c < 9 → Y 1 (10 + j * 9 + c) = if j < n then (if c = 7 then -1 else 0) else M 1 (10 + j * 9 + c) := fun j c hj h6 hc => by
    rw [yf j c hj hc, if_neg (fun p => by have := p.2.1; omega)]
    by_cases q : j < n
    · rw [if_pos ⟨q, h6⟩, if_pos q]
    · rw [if_neg (fun p => q p.1), if_neg q]
  have hR : rl n oz (T + 1) X (Y 1) := by
    refine ⟨a1.of (congrFun (eN 0 (by omega)) 0) (eW 0 (by omega)), a2.of (congrFun (eN 0 (by omega)) 1) (fun r1 hr1 => eW _ (by omega)), a3.of (eN 1 (by omega)) (fun k1 hk1 => eW _ (by omega)), a4.of (eN 2 (by omega)) (fun r1 hr1 => eW _ (by omega)), a5.of (eN 3 (by omega)) (fun r1 hr1 => eW _ (by omega)), ?_, ?_, a8.of (eN 6 (by omega)) (fun r1 hr1 => eW _ (by omega)), ?_, ?_, ?_, ?_, b4.of (congrFun (eN 10 (by omega)) 0) (eN 11 (by omega)) (eW 9 (by omega)) (fun k1 hk1 => eW _ (by omega)), ?_⟩
    · intro j hj
      rw [yf j 3 (by omega) (by decide), x4]
      by_cases q : j < n ∧ qB S j = true
      · rw [if_pos ⟨hj, Or.inl rfl, q.2⟩, if_pos q, if_pos rfl]
      · rw [if_neg (fun p => q ⟨hj, p.2.2⟩), if_neg (fun p => absurd p.2 (by decide)), if_neg q]
        exact a6 j hj
    · intro j hj
      rw [yf j 4 (by omega) (by decide), x5]
      by_cases q : j < n ∧ qB S j = true
      · rw [if_pos ⟨hj, Or.inr rfl, q.2⟩, if_pos q, if_neg (by decide)]
      · rw [if_neg (fun p => q ⟨hj, p.2.2⟩), if_neg (fun p => absurd p.2 (by decide)), if_neg q]
        exact a7 j hj
    · exact ⟨y4.trans x70.symm, ⟨1, by decide, x70⟩, fun _ => ⟨y5.trans x71.symm, ⟨r, hr, x72, y6⟩, y7.trans x73.symm, y8.trans x74.symm, by rw [x73]; exact qN_pos n (by omega)⟩⟩
    · refine ⟨⟨fun q => absurd (x70.symm.trans q) (by decide), fun _ => ⟨x76, x77⟩⟩, ?_, fun j hj => ?_⟩
      · rw [x73, x75, x76, x77]
        exact ⟨hSn, qS_0 n, qS_0 n, qS_0 n⟩
      · rw [x75, x76, x77, qB_0]
        exact ⟨fun q => (by cases q), fun q => (by cases q), fun q => (by cases q), fun _ _ => x9 j (by omega)⟩
    · intro _ j hj
      have e0 : qSt X j = 0 := by
        unfold qSt
        rw [x75, x76, x77, qB_0]
        rfl
      rw [f6 j 6 (by omega) (by decide) (by decide), f6 j 7 (by omega) (by decide) (by decide), f6 j 8 (by omega) (by decide) (by decide), e0, x8 j (by omega), x9 j (by omega), if_pos hj, if_pos hj, if_pos hj]
      exact ⟨rfl, rfl, rfl⟩
    · intro j hj
      rw [f6 j 6 hj (by decide) (by decide), f6 j 7 hj (by decide) (by decide)]
      by_cases q : j < n
      · rw [if_pos q, if_pos q]
        exact fun p => absurd p (by decide)
      · rw [if_neg q, if_neg q]
        exact b3 j hj
    · have up : ∀ u, qMj n N u → qMj n X u := fun u hu => by
        unfold qMj at hu ⊢
        refine Nat.lt_of_lt_of_le hu (Nat.mul_le_mul_left 2 (qN_mono n fun j hj q => ?_))
        have q := of_decide_eq_true q
        refine decide_eq_true ?_
        rw [x4]
        by_cases p : j < n ∧ qB S j = true
        · rw [if_pos p]
          exact Int32.le_trans q (Int32.le_trans (hg j hj p.2) (nI_le (by omega) (by omega)))
        · rw [if_neg p]
          exact q
      refine ⟨fun j hj => ?_, fun _ => ⟨t + 1, by omega, x71, ?_⟩, fun j hj => ?_, fun q => absurd (x70.symm.trans q) (by decide)⟩
      · rw [x4]
        by_cases p : j < n ∧ qB S j = true
        · rw [if_pos p]
          exact ⟨t + 1, by omega, rfl⟩
        · rw [if_neg p]
          obtain ⟨u, h1, h2⟩ := b5.1 j hj
          exact ⟨u, by omega, h2⟩
      · unfold qMj
        refine Nat.lt_of_lt_of_le hm (Nat.mul_le_mul_left 2 (qN_mono n fun j hj q => ?_))
        refine decide_eq_true ?_
        rw [x4, if_pos ⟨hj, q⟩]
        exact Int32.le_refl _
      · obtain ⟨u, h1, h2, h3, -⟩ := b5.2.2.1 j hj
        refine ⟨u, by omega, by rw [eN 11 (by omega)]; exact h2, up u h3, fun _ => ?_, fun q => absurd (x70.symm.trans q) (by decide)⟩
        obtain ⟨k, k1, k2, k3⟩ := qN_maj hm h3
        rw [x71]
        have l1 := Int32.le_trans (of_decide_eq_true k3) (hg k k1 k2)
        have l2 := (nI_leI (a := u) (b := t) (by omega) (by omega)).mp l1
        exact nI_lt (by omega) (by omega)
  exact Or.inr ⟨rfl, nI_pos (by omega), rfl, oz, hR⟩
end CALL
