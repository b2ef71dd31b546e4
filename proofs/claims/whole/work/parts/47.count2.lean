/-! THE DEEDS, on both sides: count, joined -/
section COUNT2
variable {n oz T : Nat} {N M : zM}
theorem chosenBy_2 (B : zM) (le ti : Int32) : (g_X10_chosenBy B n le ti).2 = (r_X10_leading_14 B n ti).2 ∧ ((g_X10_chosenBy B n le ti).1 = -1 ∨ (g_X10_chosenBy B n le ti).1 = (r_X10_leading_14 B n ti).1) := by
  have e2 : (g_X10_leading B n ti).2 = (r_X10_leading_14 B n ti).2 := by
    unfold g_X10_leading
    (repeat' split) <;> rfl
  have e1 : (g_X10_leading B n ti).1 = -1 ∨ (g_X10_leading B n ti).1 = (r_X10_leading_14 B n ti).1 := by
    unfold g_X10_leading
    (repeat' split) <;> first | exact Or.inr rfl | exact Or.inl rfl
  unfold g_X10_chosenBy
  split
  · exact ⟨e2, Or.inl rfl⟩
  · split
    · exact ⟨e2, Or.inl rfl⟩
    · exact ⟨e2, e1⟩
theorem nv_ph {X : zM} (hv : rl_nv n N) (p : Nat) (h2 : 2 ≤ p) (hp4 : p < 4) (e0 : X 7 0 = nI p) (e7 : ∀ k, 3 ≤ k → k < 8 → X 7 k = N 7 k) (e9 : ∀ r, r < n → X 9 r = N 9 r) : rl_nv n X := by
  refine ⟨⟨fun q => absurd ((nI_eq9 (a := p) (b := 0) (by omega) (by decide)).mp (e0.symm.trans q)) (by omega), fun q => absurd ((nI_eq9 (a := p) (b := 1) (by omega) (by decide)).mp (e0.symm.trans q)) (by omega)⟩, ?_, fun r hr => ?_⟩
  · rw [e7 3 (by decide) (by decide), e7 5 (by decide) (by decide), e7 6 (by decide) (by decide), e7 7 (by decide) (by decide)]
    exact hv.2.1
  · rw [e7 3 (by decide) (by decide), e7 5 (by decide) (by decide), e7 6 (by decide) (by decide), e7 7 (by decide) (by decide), e9 r hr]
    exact hv.2.2 r hr
theorem st_count (h : rl n oz T N (M 1)) : qStep n T N (g_X4_countVotes N n oz) (g_X10_noCount M n) (g_X10_countIt M n oz) := by
  obtain ⟨a1, a2, a3, a4, a5, a6, a7, a8, a9, b1, b2, b3, b4, b5⟩ := id h
  have h9 : n ≤ 9 := a1.1
  unfold g_X4_countVotes
  by_cases hp : N 7 0 = 2
  case neg =>
    rw [if_neg hp]
    unfold g_X10_noCount
    rw [a9.1, if_neg hp]
    exact qStep.no 10 (by decide) (by decide)
  rw [m_noCount h hp, if_pos hp]
  by_cases hs : ((N 7 5) &&& (g_X4_reachedSet N)) = 0
  case neg =>
    rw [if_neg hs, if_neg hs]
    exact qStep.no 12 (by decide) (by decide)
  rw [if_pos hs, if_pos hs]
  have hp0 : ¬ N 7 0 = 0 := by rw [hp]; decide
  have hz11 : zOn2 oz ≤ 11 := by
    have := b4.1
    unfold zOn2
    split <;> omega
  have e70 : zU N 7 0 3 7 0 = 3 := zU_s
  have e7 : ∀ k, k ≠ 0 → zU N 7 0 3 7 k = N 7 k := fun k hk => zU_k hk
  have en : ∀ o, o ≠ 7 → zU N 7 0 3 o = N o := fun o ho => zU_ne ho
  have nv3 : rl_nv n (zU N 7 0 3) := nv_ph b1 3 (by decide) (by decide) e70 (fun k h3 _ => e7 k (by omega)) (fun r _ => congrFun (en 9 (by decide)) r)
  have hF := m_findVotes h9 a9 b1 b2
  have hV : ∀ r, qV n (zU N 7 0 3) r = qV n N r := fun r => by
    unfold qV
    rw [e7 6 (by decide), en 9 (by decide)]
  have hu : ∀ r, qV n N r < 4096 := fun r => by
    have := qV_le (n := n) (N := N) (r := r)
    omega
  have hTy : ∀ ti, qTy n (zU N 7 0 3) (g_X10_findVotes M n) (qV n N) 9 (g_X7_take (zU N 7 0 3) (-1) 0) (r_X10_leading_14 (g_X10_findVotes M n) n ti) := fun ti => by
    refine tally_rel h9 (fun i hi => ?_) (fun i hi => ?_) nv3 hF.2 hu (-1) 0 ti (fun i hi => ?_)
    · rw [of_1 (hF.1 1 (by decide)), en 2 (by decide)]
      exact (a4 i hi).1
    · rw [onRoll_1 (hF.1 1 (by decide)), e7 3 (by decide)]
      exact m_onRoll a9 b1 (by omega)
    · rw [if_neg (m1_ne (by omega)), hV]
      exact Int32.add_zero _
  have fT : ∀ o, o ≠ 12 → o ≠ 13 → g_X7_take (zU N 7 0 3) (-1) 0 o = zU N 7 0 3 o := fun o x y => fr_X7_take _ _ _ o ⟨x, y⟩
  have hc : g_X7_chosenBy (g_X7_take (zU N 7 0 3) (-1) 0) ((g_X7_take (zU N 7 0 3) (-1) 0) 1 0) ((g_X7_take (zU N 7 0 3) (-1) 0) 1 1) = (g_X10_chosenNow M n).1 := by
    rw [chosen_eq h9 nv3 hF.2 hu _ _ (hTy _)]
    unfold g_X10_chosenNow
    rw [fT 1 (by decide) (by decide), en 1 (by decide), hF.1 1 (by decide), (a3 0 (by decide)).1, (a3 1 (by decide)).1]
  obtain ⟨c2, c1⟩ := chosenBy_2 (n := n) (g_X10_findVotes M n) ((g_X10_findVotes M n) 1 1) ((g_X10_findVotes M n) 1 2)
  have hTy1 := hTy ((g_X10_findVotes M n) 1 2)
  have hbs := e_X10_chosenNow M n
  have hQ : ∀ o, o ≠ 0 ∧ o ≠ 20 → (g_X10_chosenNow M n).2 o = M o := fun o ho => fr_X10_chosenNow M n o ho
  have hcn : g_X10_chosenNow M n = g_X10_chosenBy (g_X10_findVotes M n) n ((g_X10_findVotes M n) 1 1) ((g_X10_findVotes M n) 1 2) := rfl
  rw [← hcn] at c1 c2
  -- what was chosen, its votes, whether by age
  have hch : (g_X10_chosenNow M n).1 = -1 ∨ ∃ e, e < n ∧ (g_X10_chosenNow M n).1 = nI e ∧ (g_X7_take (zU N 7 0 3) (-1) 0) 12 1 = (g_X10_chosenNow M n).2 20 e ∧ (g_X7_take (zU N 7 0 3) (-1) 0) 12 2 = (g_X10_chosenNow M n).2 0 13 := by
    rcases hbs with q | ⟨e, he, q⟩
    · exact Or.inl q
    · rcases c1 with q1 | q1
      · exact Or.inl q1
      · obtain ⟨g1, g2, g3, g4⟩ := hTy1
        rcases g4 with ⟨_, _, _, _, _, x6, _⟩ | ⟨e', a', f', _, _, _, _, x5, x6, x7, x8, _⟩
        · exact Or.inl (q1.trans x6)
        · have ee : e = e' := (nI_eq9 (by omega) (by omega)).mp (q.symm.trans (q1.trans x5))
          subst ee
          refine Or.inr ⟨e, he, q, ?_, ?_⟩
          · rw [x8, c2, g3 20 (by decide), hF.2 e he]
          · rw [x6, c2, x7]
  have hm1 : m_X4_countVotes_1 N n oz = g_X4_keepOutcome (zIt (l_X4_countVotes_81 N n oz) n (g_X7_take (zU N 7 0 3) (-1) 0)) oz (g_X10_chosenNow M n).1 := by
    unfold m_X4_countVotes_1
    rw [hc]
  have hX1 := e_count81 h9 a9 oz (g_X7_take (zU N 7 0 3) (-1) 0) (by rw [fT 7 (by decide) (by decide), e7 3 (by decide)]) _ hc
  have hY1 := zIt_fld (f := l_X10_countIt_14 M n oz) (B := zU (g_X10_chosenNow M n).2 1 4 3) (p := fun j c => c == 4 && (qB (N 7 3) j && qRe N j)) (v := fun _ _ => (g_X10_chosenNow M n).1) n ?hstep
  have hg : g_X10_countIt M n oz = (if (g_X10_chosenNow M n).1 = (-1) then (100, (g_X10_addOutcome (zIt (l_X10_countIt_14 M n oz) n (zU (g_X10_chosenNow M n).2 1 4 3)) n oz (g_X10_chosenNow M n).1)) else ((g_X10_chosenNow M n).1, (g_X10_addOutcome (zIt (l_X10_countIt_14 M n oz) n (zU (g_X10_chosenNow M n).2 1 4 3)) n oz (g_X10_chosenNow M n).1))) := rfl
  have hYo : ∀ o, o ≠ 1 → zIt (l_X10_countIt_14 M n oz) n (zU (g_X10_chosenNow M n).2 1 4 3) o = (g_X10_chosenNow M n).2 o := fun o ho => (fr_l_X10_countIt_14 M n oz o ho n _).trans (zU_ne ho)
  rw [hg, hc, hm1]
  have hrow : ∀ k, zU (g_X10_chosenNow M n).2 1 4 3 1 k = if k = 4 then 3 else M 1 k := fun k => by
    rw [zU_c, hQ 1 ⟨by decide, by decide⟩]
  generalize hGQ : g_X10_chosenNow M n = Q at *
  generalize hGT : g_X7_take (zU N 7 0 3) (-1) 0 = TK at *
  generalize zIt (l_X4_countVotes_81 N n oz) n TK = X1 at *
  have hre : ∀ X : zM, X 7 0 = 3 → X 7 2 = N 7 2 → X 0 = N 0 → X 6 = N 6 → ∀ r, qRe X r = qRe N r := fun X x0 x2 x3 x4 r => by
    unfold qRe
    rw [x0, x2, x3, x4, hp]
    rfl
  have hd3 : ∀ (X : zM) (w : Nat → Int32), X 7 0 = 3 → (∀ k, 1 ≤ k → k < 5 → X 7 k = N 7 k) → w 4 = 3 → (∀ k, 5 ≤ k → k < 9 → w k = M 1 k) → rl_hd n X w := by
    intro X w x0 x1 w4 w1
    refine ⟨w4.trans x0.symm, ⟨3, by decide, x0⟩, fun _ => ?_⟩
    rw [x1 1 (by decide) (by decide), x1 2 (by decide) (by decide), x1 3 (by decide) (by decide), x1 4 (by decide) (by decide), w1 5 (by decide) (by decide), w1 6 (by decide) (by decide), w1 7 (by decide) (by decide), w1 8 (by decide) (by decide)]
    exact a9.2.2 hp0
  case hstep =>
    intro i hi s hs
    have so : ∀ k, k < 10 ∨ 91 ≤ k ∨ ¬ (k - 10) % 9 = 4 → s 1 k = if k = 4 then 3 else M 1 k := fun k hk => by
      rw [hs.out (fun c => c = 4) (fun j c q => by simpa using (Bool.and_eq_true_iff.mp q).1) k hk, zU_c, hQ 1 ⟨by decide, by decide⟩]
    have s1 : ∀ k, k ≠ 4 → (k < 10 ∨ 91 ≤ k ∨ ¬ (k - 10) % 9 = 4) → s 1 k = M 1 k := fun k h4 hk => by rw [so k hk, if_neg h4]
    have hre : ∀ X : zM, X 7 0 = 3 → X 7 2 = N 7 2 → X 0 = N 0 → X 6 = N 6 → ∀ r, qRe X r = qRe N r := fun X x0 x2 x3 x4 r => by
      unfold qRe
      rw [x0, x2, x3, x4, hp]
      rfl
    have sh : rl_hd n (zU N 7 0 3) (s 1) := by
      refine ⟨(so 4 (by decide)).trans e70.symm, ⟨3, by decide, e70⟩, fun _ => ?_⟩
      rw [e7 1 (by decide), e7 2 (by decide), e7 3 (by decide), e7 4 (by decide), s1 5 (by decide) (by decide), s1 6 (by decide) (by decide), s1 7 (by decide) (by decide), s1 8 (by decide) (by decide)]
      exact a9.2.2 hp0
    have su : rl_up n (zU N 7 0 3) (s 1) := a2.of (congrFun (en 0 (by decide)) 1) (fun r hr => s1 _ (by omega) (by omega))
    have sl : rl_lk n (zU N 7 0 3) (s 1) := a8.of (en 6 (by decide)) (fun r hr => s1 _ (by omega) (by omega))
    have hL : l_X10_countIt_14 M n oz i s = if (qB (N 7 3) i && qRe N i) = true then g_X10_put s i 4 (g_X10_chosenNow M n).1 else s := by
      unfold l_X10_countIt_14
      rw [m_onRoll sh nv3 (by omega), m_reach h9 su sl sh hi, bI_ite, bI_ite, e7 3 (by decide), hre _ e70 (e7 2 (by decide)) (en 0 (by decide)) (en 6 (by decide))]
      cases qB (N 7 3) i <;> cases qRe N i <;> rfl
    rw [hL]
    cases hq : (qB (N 7 3) i && qRe N i)
    · rw [if_neg Bool.false_ne_true]
      exact ⟨fun j c _ _ => (if_neg fun q => by have := q.2; rw [Bool.and_false] at this; cases this).symm, fun _ _ => rfl⟩
    · rw [if_pos rfl]
      refine ⟨fun j c hj hc => ?_, fun k hk => put_n (by omega)⟩
      rw [put_c, Bool.and_true]
      by_cases e : j = i ∧ c = 4
      · rw [if_pos (by omega), if_pos ⟨e.1, by rw [e.2]; rfl⟩]
      · rw [if_neg (by omega), if_neg (fun p => e ⟨p.1, by simpa using p.2⟩)]
  generalize zIt (l_X10_countIt_14 M n oz) n (zU Q.2 1 4 3) = Y1 at *
  have y1 : ∀ k, k < 10 ∨ 91 ≤ k ∨ ¬ (k - 10) % 9 = 4 → Y1 1 k = if k = 4 then 3 else M 1 k := fun k hk => by
    rw [hY1.out (fun c => c = 4) (fun j c q => by simpa using (Bool.and_eq_true_iff.mp q).1) k hk, hrow]
  have x1 : ∀ o, o ≠ 5 → o ≠ 12 → o ≠ 13 → X1 o = zU N 7 0 3 o := fun o q1 q2 q3 => (hX1.1 o q1).trans (fT o q2 q3)
  have x12 : X1 12 = TK 12 := hX1.1 12 (by decide)
  have x10 : X1 10 0 = nI oz := by rw [x1 10 (by decide) (by decide) (by decide), en 10 (by decide)]; exact b4.2.1
  have y9 : Y1 1 9 = nI oz := (y1 9 (by decide)).trans b4.2.2.1
  have KO := e_keepOut X1 Q.1 x10 b4.1
  have AO := e_addOut Y1 h9 Q.1 y9 b4.1
  have KF : ∀ o, o ≠ 10 ∧ o ≠ 11 → g_X4_keepOutcome X1 oz Q.1 o = X1 o := fun o ho => fr_X4_keepOutcome X1 oz Q.1 o ho
  generalize hGX : g_X4_keepOutcome X1 oz Q.1 = X at *
  generalize hGY : g_X10_addOutcome Y1 n oz Q.1 = Y at *
  have eN : ∀ o, o < 5 ∨ o = 6 ∨ o = 8 ∨ o = 9 → X o = N o := fun o ho => (KF o ⟨by omega, by omega⟩).trans ((x1 o (by omega) (by omega) (by omega)).trans (en o (by omega)))
  have x7 : X 7 = zU N 7 0 3 7 := (KF 7 ⟨by decide, by decide⟩).trans (x1 7 (by decide) (by decide) (by decide))
  have x5 : ∀ k, X 5 k = if k < n ∧ (qB (N 7 3) k && qRe N k) = true then Q.1 else N 5 k := fun k => by
    rw [KF 5 ⟨by decide, by decide⟩, hX1.2 k, fT 5 (by decide) (by decide), en 5 (by decide)]
  have eW : ∀ k, (k < 4 ∨ 4 < k ∧ k < 9 ∨ (10 ≤ k ∧ k < 91 ∧ ¬ (k - 10) % 9 = 4)) → Y 1 k = M 1 k := fun k hk => by
    rw [AO.2.1 k (by omega) (by omega), y1 k (by omega), if_neg (by omega)]
  have yy4 : Y 1 4 = 3 := by rw [AO.2.1 4 (by decide) (by decide), y1 4 (by decide)]; rfl
  have x70 : X 7 0 = 3 := by rw [x7]; exact e70
  have x7k : ∀ k, k ≠ 0 → X 7 k = N 7 k := fun k hk => by rw [x7]; exact e7 k hk
  have hdX : rl_hd n X (Y 1) := hd3 X (Y 1) x70 (fun k h1 _ => x7k k (by omega)) yy4 (fun k h5 h9 => eW k (by omega))
  have hS : ∀ (Z : zM), (∀ k, k ≠ 0 → Z 7 k = N 7 k) → ∀ r, qSt Z r = qSt N r := fun Z z r => by
    unfold qSt
    rw [z 5 (by decide), z 6 (by decide), z 7 (by decide)]
  have nvX : rl_nv n X := nv_ph b1 3 (by decide) (by decide) x70 (fun k h3 _ => x7k k (by omega)) (fun r _ => congrFun (eN 9 (by omega)) r)
  have vtX : rl_vt n X (Y 1) := by
    intro _ r hr
    rw [eW _ (by omega), eW _ (by omega), eW _ (by omega), eN 8 (by omega), eN 9 (by omega), hS X x7k]
    exact b2 hp0 r hr
  have vt1 : rl_vt n (zU N 7 0 3) (Y1 1) := by
    intro _ r hr
    rw [y1 _ (by omega), y1 _ (by omega), y1 _ (by omega), if_neg (by omega), if_neg (by omega), if_neg (by omega), en 8 (by decide), en 9 (by decide), hS _ e7]
    exact b2 hp0 r hr
  have hd1 : rl_hd n (zU N 7 0 3) (Y1 1) := hd3 _ _ e70 (fun k h1 _ => e7 k (by omega)) ((y1 4 (by decide)).trans rfl) (fun k h5 h9 => by rw [y1 k (by omega), if_neg (by omega)])
  have v2 : g_X10_votesOf Y1 n 2 = g_J6_bitCount_0f7a4 (X1 7 6) := by rw [m_valid h9 hd1 nv3 vt1, x1 7 (by decide) (by decide) (by decide)]
  have v3 : g_X10_votesOf Y1 n 3 = g_J6_bitCount_0f7a4 (X1 7 7) := by rw [m_spoiled h9 hd1 nv3 vt1, x1 7 (by decide) (by decide) (by decide)]
  have hY20 : Y1 20 = Q.2 20 := hYo 20 (by decide)
  have hY0 : Y1 0 = Q.2 0 := hYo 0 (by decide)
  have ocX : rl_oc (zOn2 oz + 1) X (Y 1) := by
    refine ⟨by omega, KO.1, AO.1, fun k hk => ?_⟩
    obtain ⟨-, k0, k1, k2, k3, k4, k5, k6, k7, kr⟩ := KO
    obtain ⟨-, -, m0, m1, m2, m3, m4, m5, m6, m7, mr⟩ := AO
    rcases Nat.lt_or_ge k (zOn2 oz * 8) with q | q
    · rw [mr k q, kr k q, x1 11 (by decide) (by decide) (by decide), en 11 (by decide)]
      by_cases e : oz = 12
      · rw [if_pos e, if_pos e, y1 _ (by omega), if_neg (by omega)]
        exact b4.2.2.2 _ (by unfold zOn2 at q; rw [if_pos e] at q; omega)
      · rw [if_neg e, if_neg e, y1 _ (by omega), if_neg (by omega)]
        exact b4.2.2.2 _ (by unfold zOn2 at q; rw [if_neg e] at q; omega)
    · have hv : Y1 1 5 = X1 7 1 := by
        rw [x1 7 (by decide) (by decide) (by decide), e7 1 (by decide), y1 5 (by decide), if_neg (by decide)]
        exact (a9.2.2 hp0).1
      have hv1 : Y1 1 1 = X1 1 0 := by
        rw [x1 1 (by decide) (by decide) (by decide), en 1 (by decide), y1 1 (by decide), if_neg (by decide)]
        exact (a3 0 (by decide)).1
      have hv2 : Y1 1 2 = X1 1 1 := by
        rw [x1 1 (by decide) (by decide) (by decide), en 1 (by decide), y1 2 (by decide), if_neg (by decide)]
        exact (a3 1 (by decide)).1
      rcases (show k = zOn2 oz * 8 + 0 ∨ k = zOn2 oz * 8 + 1 ∨ k = zOn2 oz * 8 + 2 ∨ k = zOn2 oz * 8 + 3 ∨ k = zOn2 oz * 8 + 4 ∨ k = zOn2 oz * 8 + 5 ∨ k = zOn2 oz * 8 + 6 ∨ k = zOn2 oz * 8 + 7 by omega) with e | e | e | e | e | e | e | e
      · rw [e, m0, k0, hv]
      · rw [e, m1, k1]
      · rw [e, m2, k2, x12]
        rcases hch with q | ⟨c, hc1, hc2, hc3, hc4⟩
        · rw [if_pos q, if_pos q]
        · rw [hc2, if_neg (m1_ne (by omega)), if_neg (m1_ne (by omega)), nI_clamp (by omega), hY20, hc3]
      · rw [e, m3, k3, v2]
      · rw [e, m4, k4, v3]
      · rw [e, m5, k5, x12]
        rcases hch with q | ⟨c, hc1, hc2, hc3, hc4⟩
        · rw [if_pos q, if_pos q]
        · rw [hc2, if_neg (m1_ne (by omega)), if_neg (m1_ne (by omega)), hY0, hc4]
      · rw [e, m6, k6, hv1]
      · rw [e, m7, k7, hv2]
  have ttX : rl_tt n (zOn2 oz + 1) T X := by
    have hq : ∀ u, qMj n N u → qMj n X u := fun u hu => by
      unfold qMj
      rw [eN 4 (by omega)]
      exact hu
    obtain ⟨-, k0, -, -, -, -, -, -, -, kr⟩ := KO
    obtain ⟨t, t1, t2, t3⟩ := b5.2.1 hp0
    have k0' : X 11 (zOn2 oz * 8) = N 7 1 := by
      refine k0.trans ?_
      rw [x1 7 (by decide) (by decide) (by decide), e7 1 (by decide)]
    refine ⟨?_, fun _ => ⟨t, t1, by rw [x7k 1 (by decide)]; exact t2, hq t t3⟩, fun j hj => ?_, fun _ => ⟨Nat.succ_pos _, by rw [Nat.add_sub_cancel, k0', x7k 1 (by decide)]⟩⟩
    · rw [eN 4 (by omega)]
      exact b5.1
    · by_cases e : j = zOn2 oz
      · subst e
        exact ⟨t, t1, by rw [k0', t2], hq t t3, fun q => by rcases q with q | q <;> exact absurd (x70.symm.trans q) (by decide), fun _ q => absurd q (Nat.lt_irrefl _)⟩
      · have hk := kr (j * 8) (by omega)
        rw [x1 11 (by decide) (by decide) (by decide), en 11 (by decide)] at hk
        have : ∃ j', j' < oz ∧ X 11 (j * 8) = N 11 (j' * 8) := by
          by_cases e12 : oz = 12
          · refine ⟨j + 1, ?_, ?_⟩
            · have : zOn2 oz = 11 := by unfold zOn2; rw [if_pos e12]
              omega
            · rw [hk, if_pos e12]
              congr 1
              omega
          · refine ⟨j, ?_, by rw [hk, if_neg e12]⟩
            have : zOn2 oz = oz := by unfold zOn2; rw [if_neg e12]
            omega
        obtain ⟨j', j1, j2⟩ := this
        obtain ⟨u, u1, u2, u3, u4, -⟩ := b5.2.2.1 j' j1
        refine ⟨u, u1, j2.trans u2, hq u u3, fun q => by rcases q with q | q <;> exact absurd (x70.symm.trans q) (by decide), fun _ _ => ?_⟩
        rw [x7k 1 (by decide)]
        exact u4 (Or.inr hp)
  have ldX : rl_ld n X (Y 1) := by
    intro r hr
    have hy := hY1.1 r 4 (by omega) (by decide)
    rw [AO.2.1 _ (by omega) (by omega), hy, x5 r, hrow, if_neg (show ¬ 10 + r * 9 + 4 = 4 by omega), a7 r hr]
    have e4 : ((4 == 4 && (qB (N 7 3) r && qRe N r)) = true) ↔ ((qB (N 7 3) r && qRe N r) = true) := by rw [show (4 == 4) = true from rfl, Bool.true_and]
    show (if r < n ∧ (4 == 4 && (qB (N 7 3) r && qRe N r)) = true then Q.1 else N 5 r) = _
    simp only [e4]
  have hR : rl n (zOn2 oz + 1) T X (Y 1) := by
    exact ⟨a1.of (congrFun (eN 0 (by omega)) 0) (eW 0 (by omega)), a2.of (congrFun (eN 0 (by omega)) 1) (fun r1 hr1 => eW _ (by omega)), a3.of (eN 1 (by omega)) (fun k1 hk1 => eW _ (by omega)), a4.of (eN 2 (by omega)) (fun r1 hr1 => eW _ (by omega)), a5.of (eN 3 (by omega)) (fun r1 hr1 => eW _ (by omega)), a6.of (eN 4 (by omega)) (fun r1 hr1 => eW _ (by omega)), ldX, a8.of (eN 6 (by omega)) (fun r1 hr1 => eW _ (by omega)), hdX, nvX, vtX, b3.of (fun r1 k1 hr1 hk1 hk2 => eW _ (by omega)), ocX, ttX⟩
  by_cases hq : Q.1 = -1
  · rw [if_pos hq, if_pos hq]
    exact Or.inr ⟨rfl, (show ¬ (100 : Int32) < 0 by decide), rfl, _, hR⟩
  · rw [if_neg hq, if_neg hq]
    refine Or.inr ⟨rfl, ?_, rfl, _, hR⟩
    rcases hch with q | ⟨c, hc1, hc2, -⟩
    · exact absurd q hq
    · show ¬ Q.1 < 0
      rw [hc2]
      exact nI_pos (by omega)
end COUNT2
