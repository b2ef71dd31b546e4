/-! THE DEEDS, on both sides: recount, joined -/
section RECOUNT2
variable {n oz T : Nat} {N M : zM}
theorem st_recount (h : rl n oz T N (M 1)) {r : Nat} (hr : r < n) : qStep n T N (g_X4_askRecount N n oz r) (g_X10_noRecount M oz r) (g_X10_recountIt M n oz) := by
  obtain ⟨a1, a2, a3, a4, a5, a6, a7, a8, a9, b1, b2, b3, b4, b5⟩ := id h
  have h9 : n ≤ 9 := a1.1
  unfold g_X4_askRecount g_X10_noRecount
  rw [a9.1]
  by_cases hp : N 7 0 = 3
  case neg =>
    rw [if_neg hp, if_neg hp]
    exact qStep.no 13 (by decide) (by decide)
  have hp0 : ¬ N 7 0 = 0 := by rw [hp]; decide
  have h0z := (b5.2.2.2 hp).1
  have h12 := b4.1
  have eC : g_X6_tell (zPl N 10) oz 0 1 = N 11 ((oz - 1) * 8 + 1) := by
    unfold g_X6_tell
    rw [if_neg (by decide), show zPl N 10 0 0 = N 10 0 from rfl, b4.2.1, if_pos (show (0 : Int32) < nI oz from nI_lt (a := 0) h0z (by omega))]
    rfl
  have eM : g_X10_outcomeOf M oz 0 1 = N 11 ((oz - 1) * 8 + 1) := by
    rw [← b4.2.2.2 _ (by omega)]
    unfold g_X10_outcomeOf
    rw [Nat.sub_zero, Nat.add_assoc]
  have hL := e_recountLoop (oz := oz) h9 a7 a9 b1 b2 hp0 _ eM
  rw [if_pos hp, if_pos hp, m_onRoll a9 b1 (by omega), c_onRoll (by omega), m_up a2 hr, has_q (by omega), eC, eM, (a9.2.2 hp0).2.2.2.1, (a3 2 (by decide)).1]
  simp only [bI_ite]
  cases hq : qB (N 7 3) r
  · exact qStep.no 6 (by decide) (by decide)
  rw [if_pos rfl, if_pos rfl]
  cases hu : qB (N 0 1) r
  · exact qStep.no 3 (by decide) (by decide)
  rw [if_pos rfl, if_pos rfl]
  by_cases hc : N 11 ((oz - 1) * 8 + 1) = nI r
  · rw [if_pos hc, if_pos hc]
    exact qStep.no 15 (by decide) (by decide)
  rw [if_neg hc, if_neg hc]
  by_cases ha : N 7 4 < N 1 2
  case neg =>
    rw [if_neg ha, if_neg ha]
    exact qStep.no 14 (by decide) (by decide)
  rw [if_pos ha, if_pos ha]
  -- the class's side
  have hm : m_X4_askRecount_1 N n oz r = g_X4_forgetLeader (zPs (zU (zU N 7 4 ((N 7 4) + 1)) 7 0 2) 10 2 (g_X6_dropLatest (zPl (zU (zU N 7 4 ((N 7 4) + 1)) 7 0 2) 10))) n (N 7 3) (N 11 ((oz - 1) * 8 + 1)) := by
    unfold m_X4_askRecount_1
    rw [eC]
  rw [hm]
  have eY0 : g_X10_recountIt M n oz = ((r_X10_recountIt_11 M n oz).1, (zU (zU (zU (r_X10_recountIt_11 M n oz).2 1 9 (((r_X10_recountIt_11 M n oz).2 1 9) - 1)) 1 4 2) 1 8 (((r_X10_recountIt_11 M n oz).2 1 8) + 1))) := rfl
  rw [eY0]
  generalize hch : N 11 ((oz - 1) * 8 + 1) = ch at *
  have hF : ∀ o, o ≠ 7 → o ≠ 10 → zPs (zU (zU N 7 4 ((N 7 4) + 1)) 7 0 2) 10 2 (g_X6_dropLatest (zPl (zU (zU N 7 4 ((N 7 4) + 1)) 7 0 2) 10)) o = N o := fun o h7 h10 => by
    refine (zPs_fr fun j hj e => ?_).trans ?_
    · rw [fr_X6_dropLatest _ j (by omega)]
      rfl
    · rw [zU_ne h7, zU_ne h7]
  have hF7 : ∀ k, zPs (zU (zU N 7 4 ((N 7 4) + 1)) 7 0 2) 10 2 (g_X6_dropLatest (zPl (zU (zU N 7 4 ((N 7 4) + 1)) 7 0 2) 10)) 7 k = if k = 0 then 2 else if k = 4 then N 7 4 + 1 else N 7 k := fun k => by
    rw [zPs_out (by decide), zU_c, zU_c]
  have hF10 : zPs (zU (zU N 7 4 ((N 7 4) + 1)) 7 0 2) 10 2 (g_X6_dropLatest (zPl (zU (zU N 7 4 ((N 7 4) + 1)) 7 0 2) 10)) 10 0 = nI (oz - 1) := by
    rw [zPs_in (by decide) (by decide)]
    have e0 : zPl (zU (zU N 7 4 ((N 7 4) + 1)) 7 0 2) 10 0 0 = nI oz := by
      show zU (zU N 7 4 ((N 7 4) + 1)) 7 0 2 10 0 = nI oz
      rw [zU_ne (show (10 : Nat) ≠ 7 by decide), zU_ne (show (10 : Nat) ≠ 7 by decide)]
      exact b4.2.1
    unfold g_X6_dropLatest
    rw [e0, if_neg (nI_nle h0z (by omega))]
    rw [show (10 - 10 : Nat) = 0 from rfl, zU_s, show (1 : Int32) = nI 1 from rfl, pk_sub h0z]
  generalize zPs (zU (zU N 7 4 ((N 7 4) + 1)) 7 0 2) 10 2 (g_X6_dropLatest (zPl (zU (zU N 7 4 ((N 7 4) + 1)) 7 0 2) 10)) = F at *
  obtain ⟨f1, f2⟩ := e_forget (n := n) F (N 7 3) ch h9
  generalize g_X4_forgetLeader F n (N 7 3) ch = A at *
  have hA7 : ∀ k, A 7 k = if k = 0 then 2 else if k = 4 then N 7 4 + 1 else N 7 k := fun k => by rw [f1 7 (by decide)]; exact hF7 k
  have hA9 : A 9 = N 9 := (f1 9 (by decide)).trans (hF 9 (by decide) (by decide))
  have hA8 : A 8 = N 8 := (f1 8 (by decide)).trans (hF 8 (by decide) (by decide))
  obtain ⟨m1, m2, m3, m4, m5, m6⟩ := e_misfits (zPl A 7)
  have z7 : zPl A 7 0 7 = N 7 7 := hA7 7
  have z5 : zPl A 7 0 5 = N 7 5 := hA7 5
  have z2 : zPl A 7 2 = N 9 := hA9
  rw [z7, z2] at m1 m3 m4 m6
  rw [z5] at m4
  generalize hG : g_X1_sealMisfitsAgain (zPl A 7) = G at *
  have hX7 : ∀ k, zPs A 7 3 G.2 7 k = G.2 0 k := fun k => by rw [zPs_in (by decide) (by decide)]
  have hX8 : zPs A 7 3 G.2 8 = N 8 := by
    rw [zPs_in (by decide) (by decide)]
    exact m5.trans hA8
  have hX9 : ∀ k, zPs A 7 3 G.2 9 k = if k < 9 ∧ qPr (N 7 7) (N 9) k = true then -1 else N 9 k := fun k => by
    rw [zPs_in (by decide) (by decide)]
    exact m6 k
  have hXo : ∀ o, o < 7 ∨ 10 ≤ o → zPs A 7 3 G.2 o = A o := fun o ho => zPs_out (by omega)
  generalize zPs A 7 3 G.2 = X at *
  generalize r_X10_recountIt_11 M n oz = R at *
  obtain ⟨r1, r2⟩ := hL
  have hpr : ∀ k, qPr (N 7 7) (N 9) k = true → k < n ∧ qB (N 7 7) k = true := fun k hk => by
    have h7 := (Bool.and_eq_true_iff.mp hk).1
    refine ⟨?_, h7⟩
    rcases Nat.lt_or_ge k n with q | q
    · exact q
    · rw [b1.2.1.2.2.2 k q] at h7; cases h7
  have p9 : ∀ k, (decide (k < 9) && qPr (N 7 7) (N 9) k) = qPr (N 7 7) (N 9) k := fun k => by
    cases hk : qPr (N 7 7) (N 9) k
    · rw [Bool.and_false]
    · rw [decide_eq_true (show k < 9 by have := (hpr k hk).1; omega)]
      rfl
  simp only [p9] at m3 m4
  have x70 : X 7 0 = 2 := by rw [hX7, m2 0 (by decide) (by decide)]; exact hA7 0
  have x7k : ∀ k, k ≠ 0 → k ≠ 4 → k ≠ 5 → k ≠ 7 → X 7 k = N 7 k := fun k k0 k4 k5 k7 => by
    rw [hX7, m2 k k5 k7]
    refine (hA7 k).trans ?_
    rw [if_neg k0, if_neg k4]
  have x74 : X 7 4 = N 7 4 + 1 := by rw [hX7, m2 4 (by decide) (by decide)]; exact hA7 4
  have q5 : ∀ k, qB (X 7 5) k = (qB (N 7 5) k || qPr (N 7 7) (N 9) k) := fun k => by rw [hX7]; exact m4 k
  have q7 : ∀ k, qB (X 7 7) k = (qB (N 7 7) k && !(qPr (N 7 7) (N 9) k)) := fun k => by rw [hX7]; exact m3 k
  have x6 : X 7 6 = N 7 6 := x7k 6 (by decide) (by decide) (by decide) (by decide)
  have x3 : X 7 3 = N 7 3 := x7k 3 (by decide) (by decide) (by decide) (by decide)
  have x9 : ∀ k, k < n → X 9 k = if qPr (N 7 7) (N 9) k = true then -1 else N 9 k := fun k hk => by
    rw [hX9]
    by_cases q : qPr (N 7 7) (N 9) k = true
    · rw [if_pos ⟨by omega, q⟩, if_pos q]
    · rw [if_neg (fun p => q p.2), if_neg q]
  have eN : ∀ o, (o < 5 ∨ o = 6 ∨ o = 11) → X o = N o := fun o ho => (hXo o (by omega)).trans ((f1 o (by omega)).trans (hF o (by omega) (by omega)))
  have x5 : ∀ k, X 5 k = if k < n ∧ qB (N 7 3) k = true ∧ N 5 k = ch then -1 else N 5 k := fun k => by
    rw [hXo 5 (by omega), f2 k, hF 5 (by decide) (by decide)]
  have x10 : X 10 0 = nI (oz - 1) := by rw [hXo 10 (by omega), f1 10 (by decide)]; exact hF10
  generalize hY : zU (zU (zU R.2 1 9 (R.2 1 9 - 1)) 1 4 2) 1 8 (R.2 1 8 + 1) = Y
  have y0 : ∀ k, Y 1 k = if k = 8 then R.2 1 8 + 1 else if k = 4 then 2 else if k = 9 then R.2 1 9 - 1 else R.2 1 k := fun k => by
    rw [← hY, zU_c, zU_c, zU_c]
  have rh : ∀ k, k < 10 ∨ 91 ≤ k → R.2 1 k = M 1 k := r2.2
  have y4 : Y 1 4 = 2 := y0 4
  have y8 : Y 1 8 = N 7 4 + 1 := by
    refine (y0 8).trans ?_
    rw [if_pos rfl, rh 8 (by decide), (a9.2.2 hp0).2.2.2.1]
  have y9 : Y 1 9 = nI (oz - 1) := by
    refine (y0 9).trans ?_
    rw [if_neg (by decide), if_neg (by decide), if_pos rfl, rh 9 (by decide), b4.2.2.1, show (1 : Int32) = nI 1 from rfl, pk_sub h0z]
  have eW : ∀ k, (k < 4 ∨ 5 ≤ k ∧ k < 8 ∨ 91 ≤ k ∨ 10 ≤ k ∧ ((k - 10) % 9 < 4 ∨ (k - 10) % 9 = 5 ∨ (k - 10) % 9 = 8)) → Y 1 k = M 1 k := fun k hk => by
    rw [y0, if_neg (by omega), if_neg (by omega), if_neg (by omega)]
    refine r2.out (fun c => c = 4 ∨ c = 6 ∨ c = 7) (fun j c q => ?_) k (by omega)
    rcases Bool.or_eq_true_iff.mp q with q | q
    · rcases Bool.or_eq_true_iff.mp (Bool.and_eq_true_iff.mp q).1 with q | q
      · exact Or.inr (Or.inl (by simpa using q))
      · exact Or.inr (Or.inr (by simpa using q))
    · exact Or.inl (by simpa using (Bool.and_eq_true_iff.mp q).1)
  have yf : ∀ j c, j < 9 → c < 9 → Y 1 (10 + j * 9 + c) = if j < n ∧ (((c == 6 || c == 7) && qPr (N 7 7) (N 9) j) || (c == 4 && qPl N ch j)) = true then (if c = 6 then 1 else -1) else M 1 (10 + j * 9 + c) := fun j c hj hc => by
    rw [y0, if_neg (by omega), if_neg (by omega), if_neg (by omega)]
    exact r2.1 j c hj hc
  have yf6 : ∀ j, j < 9 → Y 1 (10 + j * 9 + 6) = if qPr (N 7 7) (N 9) j = true then 1 else M 1 (10 + j * 9 + 6) := fun j hj => by
    rw [yf j 6 hj (by decide)]
    by_cases q : qPr (N 7 7) (N 9) j = true
    · rw [if_pos q, if_pos (show j < n ∧ (((6 == 6 || 6 == 7) && qPr (N 7 7) (N 9) j) || (6 == 4 && qPl N ch j)) = true from ⟨(hpr j q).1, by rw [q]; rfl⟩)]
      rfl
    · rw [if_neg q, if_neg (fun p => q (by simpa using p.2))]
  have yf7 : ∀ j, j < 9 → Y 1 (10 + j * 9 + 7) = if qPr (N 7 7) (N 9) j = true then -1 else M 1 (10 + j * 9 + 7) := fun j hj => by
    rw [yf j 7 hj (by decide)]
    by_cases q : qPr (N 7 7) (N 9) j = true
    · rw [if_pos q, if_pos (show j < n ∧ (((7 == 6 || 7 == 7) && qPr (N 7 7) (N 9) j) || (7 == 4 && qPl N ch j)) = true from ⟨(hpr j q).1, by rw [q]; rfl⟩)]
      rfl
    · rw [if_neg q, if_neg (fun p => q (by simpa using p.2))]
  have hR : rl n (oz - 1) T X (Y 1) := by
    refine ⟨a1.of (congrFun (eN 0 (by omega)) 0) (eW 0 (by omega)), a2.of (congrFun (eN 0 (by omega)) 1) (fun r1 hr1 => eW _ (by omega)), a3.of (eN 1 (by omega)) (fun k1 hk1 => eW _ (by omega)), a4.of (eN 2 (by omega)) (fun r1 hr1 => eW _ (by omega)), a5.of (eN 3 (by omega)) (fun r1 hr1 => eW _ (by omega)), a6.of (eN 4 (by omega)) (fun r1 hr1 => eW _ (by omega)), ?_, a8.of (eN 6 (by omega)) (fun r1 hr1 => eW _ (by omega)), ?_, ?_, ?_, ?_, ?_, ?_⟩
    · intro j hj
      rw [yf j 4 (by omega) (by decide), x5, a7 j hj]
      have e4 : ((((4 == 6 || 4 == 7) && qPr (N 7 7) (N 9) j) || (4 == 4 && qPl N ch j)) = true) ↔ (qB (N 7 3) j = true ∧ N 5 j = ch ∧ ¬ ch = -1) := by
        unfold qPl
        simp
      simp only [e4]
      by_cases q : qB (N 7 3) j = true ∧ N 5 j = ch
      · have p2 : j < n ∧ qB (N 7 3) j = true ∧ N 5 j = ch := ⟨hj, q.1, q.2⟩
        by_cases hm1 : ch = -1
        · have p1 : ¬ (j < n ∧ qB (N 7 3) j = true ∧ N 5 j = ch ∧ ¬ ch = -1) := fun p => p.2.2.2 hm1
          rw [if_neg p1, if_pos p2, q.2, hm1]
        · have p1 : j < n ∧ qB (N 7 3) j = true ∧ N 5 j = ch ∧ ¬ ch = -1 := ⟨hj, q.1, q.2, hm1⟩
          rw [if_pos p1, if_pos p2]
          rfl
      · have p1 : ¬ (j < n ∧ qB (N 7 3) j = true ∧ N 5 j = ch ∧ ¬ ch = -1) := fun p => q ⟨p.2.1, p.2.2.1⟩
        have p2 : ¬ (j < n ∧ qB (N 7 3) j = true ∧ N 5 j = ch) := fun p => q p.2
        rw [if_neg p1, if_neg p2]
    · refine ⟨y4.trans x70.symm, ⟨2, by decide, x70⟩, fun _ => ?_⟩
      rw [x7k 1 (by decide) (by decide) (by decide) (by decide), x7k 2 (by decide) (by decide) (by decide) (by decide), x3, x74, eW 5 (by decide), eW 6 (by decide), eW 7 (by decide), y8]
      obtain ⟨w1, w2, w3, -, w5⟩ := a9.2.2 hp0
      exact ⟨w1, w2, w3, rfl, w5⟩
    · refine ⟨⟨fun q => absurd (x70.symm.trans q) (by decide), fun q => absurd (x70.symm.trans q) (by decide)⟩, ⟨?_, ?_, ?_, ?_⟩, fun k hk => ?_⟩
      · rw [x3]; exact b1.2.1.1
      · intro k hk
        rw [q5, b1.2.1.2.1 k hk]
        cases hz : qPr (N 7 7) (N 9) k
        · rfl
        · exact absurd (hpr k hz).1 (by omega)
      · rw [x6]; exact b1.2.1.2.2.1
      · intro k hk
        rw [q7, b1.2.1.2.2.2 k hk]
        rfl
      · obtain ⟨v1, v2, v3, v4⟩ := b1.2.2 k hk
        rw [x3, x6, x9 k hk, q5, q7]
        cases hz : qPr (N 7 7) (N 9) k
        · rw [Bool.or_false, Bool.not_false, Bool.and_true, if_neg Bool.false_ne_true]
          exact ⟨v1, v2, v3, v4⟩
        · have h7 := (hpr k hz).2
          rw [h7, if_pos rfl]
          refine ⟨fun _ => ⟨v3 h7, ?_, rfl⟩, fun q => ?_, fun q => (by cases q), fun _ _ => rfl⟩
          · cases h6 : qB (N 7 6) k
            · rfl
            · have := (v2 h6).2.1
              rw [h7] at this
              cases this
          · have := (v2 q).2.1
            rw [h7] at this
            cases this
    · intro _ k hk
      rw [yf6 k (by omega), yf7 k (by omega), eW _ (by omega), hX8, x9 k hk]
      have e : qSt X k = if qPr (N 7 7) (N 9) k = true then 1 else qSt N k := by
        unfold qSt
        rw [q5, x6, q7]
        cases hz : qPr (N 7 7) (N 9) k
        · rw [Bool.or_false, Bool.not_false, Bool.and_true, if_neg Bool.false_ne_true]
        · rw [Bool.or_true, if_pos rfl, if_pos rfl]
      rw [e]
      obtain ⟨w1, w2, w3⟩ := b2 hp0 k hk
      by_cases hz : qPr (N 7 7) (N 9) k = true
      · rw [if_pos hz, if_pos hz, if_pos hz]
        simp only [if_pos hz]
        exact ⟨rfl, trivial, w3⟩
      · rw [if_neg hz, if_neg hz, if_neg hz, if_neg hz]
        exact ⟨w1, w2, w3⟩
    · intro k hk
      rw [yf6 k hk, yf7 k hk]
      by_cases hz : qPr (N 7 7) (N 9) k = true
      · rw [if_pos hz]
        exact fun q => absurd q (by decide)
      · rw [if_neg hz, if_neg hz]
        exact b3 k hk
    · refine ⟨by omega, x10, y9, fun k hk => ?_⟩
      rw [eW _ (by omega), eN 11 (by omega)]
      exact b4.2.2.2 k (by omega)
    · have hq : ∀ u, qMj n N u → qMj n X u := fun u hu => by
        unfold qMj
        rw [eN 4 (by omega)]
        exact hu
      obtain ⟨t, t1, t2, t3⟩ := b5.2.1 hp0
      refine ⟨?_, fun _ => ⟨t, t1, by rw [x7k 1 (by decide) (by decide) (by decide) (by decide)]; exact t2, hq t t3⟩, fun j hj => ?_, fun q => absurd (x70.symm.trans q) (by decide)⟩
      · rw [eN 4 (by omega)]
        exact b5.1
      · obtain ⟨u, u1, u2, u3, -, u5⟩ := b5.2.2.1 j (by omega)
        refine ⟨u, u1, by rw [eN 11 (by omega)]; exact u2, hq u u3, fun _ => ?_, fun q => absurd (x70.symm.trans q) (by decide)⟩
        rw [x7k 1 (by decide) (by decide) (by decide) (by decide)]
        exact u5 hp (by omega)
  refine Or.inr ⟨rfl, ?_, ?_, oz - 1, hR⟩
  · show ¬ G.1 < 0
    rw [m1]
    have := qN_le (f := qPr (N 7 7) (N 9)) 9
    exact nI_pos (by omega)
  · show G.1 = R.1
    rw [m1, r1, qN_cut 9 h9]
    intro i hi _
    cases hz : qPr (N 7 7) (N 9) i
    · rfl
    · exact absurd (hpr i hz).1 (by omega)
end RECOUNT2
