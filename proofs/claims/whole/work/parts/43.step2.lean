/-! THE DEEDS, on both sides: close, break, links, ups -/
/-- a row of the reference after a loop over its replicas: fields (j, c) with p are v -/
def qFl (B : zM) (p : Nat → Nat → Bool) (v : Nat → Nat → Int32) (i : Nat) (s : zM) : Prop := (∀ j c, j < 9 → c < 9 → s 1 (10 + j * 9 + c) = if j < i ∧ p j c = true then v j c else B 1 (10 + j * 9 + c)) ∧ ∀ k, k < 10 ∨ 91 ≤ k → s 1 k = B 1 k
theorem zIt_fld {f : Nat → zM → zM} {B : zM} {p : Nat → Nat → Bool} {v : Nat → Nat → Int32} (n : Nat)
    (hs : ∀ i, i < n → ∀ s : zM, qFl B p v i s → (∀ j c, j < 9 → c < 9 → (f i s) 1 (10 + j * 9 + c) = if j = i ∧ p i c = true then v i c else s 1 (10 + j * 9 + c)) ∧ ∀ k, k < 10 ∨ 91 ≤ k → (f i s) 1 k = s 1 k) : qFl B p v n (zIt f n B) := by
  refine zIt_inv (P := fun i (s : zM) => qFl B p v i s) n B ⟨fun j c _ _ => (if_neg fun q => Nat.not_lt_zero j q.1).symm, fun _ _ => rfl⟩ ?_
  intro i hi s h
  obtain ⟨h1, h2⟩ := hs i hi s h
  refine ⟨fun j c hj hc => ?_, fun k hk => (h2 k hk).trans (h.2 k hk)⟩
  rw [h1 j c hj hc, h.1 j c hj hc]
  by_cases e : j = i
  · subst e
    by_cases hp : p j c = true
    · rw [if_pos ⟨rfl, hp⟩, if_pos ⟨Nat.lt_succ_self j, hp⟩]
    · rw [if_neg (fun q => hp q.2), if_neg (fun q => hp q.2), if_neg (fun q => hp q.2)]
  · rw [if_neg (fun q => e q.1)]
    by_cases hp : j < i ∧ p j c = true
    · rw [if_pos hp, if_pos ⟨by omega, hp.2⟩]
    · rw [if_neg hp, if_neg (fun q => hp ⟨by omega, q.2⟩)]
/-- it is as it was outside the fields c with p -/
theorem qFl.out {B : zM} {p : Nat → Nat → Bool} {v : Nat → Nat → Int32} {i : Nat} {s : zM} (h : qFl B p v i s) (c0 : Nat → Prop) (hp : ∀ j c, p j c = true → c0 c) (k : Nat) (hk : k < 10 ∨ 91 ≤ k ∨ ¬ c0 ((k - 10) % 9)) : s 1 k = B 1 k := by
  by_cases h1 : k < 10 ∨ 91 ≤ k
  · exact h.2 k h1
  · have h2 : ¬ c0 ((k - 10) % 9) := by
      rcases hk with q | q | q
      · exact absurd (Or.inl q) h1
      · exact absurd (Or.inr q) h1
      · exact q
    have e : k = 10 + (k - 10) / 9 * 9 + (k - 10) % 9 := by omega
    rw [e, h.1 _ _ (by omega) (by omega), if_neg]
    intro q
    exact h2 (hp _ _ q.2)
section STEPS2
variable {n oz T : Nat} {N M : zM}
theorem m_ups (h9 : n ≤ 9) (hu : rl_up n N (M 1)) : g_X10_ups M n = g_J6_bitCount_0f7a4 (N 0 1) := by
  rw [bc_n h9 hu.1]
  unfold g_X10_ups
  refine zIt_cnt0 n fun i hi s => ?_
  unfold l_X10_ups_4 g_X10_of
  rw [hu.2 i hi]
theorem st_close (h : rl n oz T N (M 1)) : qStep n T N (g_X4_closeSealing N) (g_X10_noClose M n) (g_X10_closeIt M n) := by
  obtain ⟨a1, a2, a3, a4, a5, a6, a7, a8, a9, b1, b2, b3, b4, b5⟩ := id h
  have h9 : n ≤ 9 := a1.1
  unfold g_X4_closeSealing g_X10_noClose
  rw [a9.1]
  by_cases hp : N 7 0 = 1
  · have hp0 : ¬ N 7 0 = 0 := by rw [hp]; decide
    rw [if_pos hp, if_pos hp, m_need h9 a9 b1 hp0, m_sealed h9 a9 b1 b2]
    by_cases hn : g_X1_need (zPl N 7) ≤ g_J6_bitCount_0f7a4 (N 7 5)
    · rw [if_pos hn, if_pos hn]
      have eN : ∀ o, o ≠ 7 → zU N 7 0 2 o = N o := fun o ho => zU_ne ho
      have eW : ∀ k, k ≠ 4 → (g_X10_closeIt M n).2 1 k = M 1 k := fun k hk => zU_k hk
      have e7 : ∀ k, k ≠ 0 → zU N 7 0 2 7 k = N 7 k := fun k hk => zU_k hk
      have e70 : zU N 7 0 2 7 0 = 2 := zU_s
      have eS : ∀ r, qSt (zU N 7 0 2) r = qSt N r := fun r => by
        unfold qSt
        rw [e7 5 (by decide), e7 6 (by decide), e7 7 (by decide)]
      have hR : rl n oz T (zU N 7 0 2) ((g_X10_closeIt M n).2 1) := by
        refine ⟨a1.of (congrFun (eN 0 (by omega)) 0) (eW 0 (by omega)), a2.of (congrFun (eN 0 (by omega)) 1) (fun r1 hr1 => eW _ (by omega)), a3.of (eN 1 (by omega)) (fun k1 hk1 => eW _ (by omega)), a4.of (eN 2 (by omega)) (fun r1 hr1 => eW _ (by omega)), a5.of (eN 3 (by omega)) (fun r1 hr1 => eW _ (by omega)), a6.of (eN 4 (by omega)) (fun r1 hr1 => eW _ (by omega)), a7.of (eN 5 (by omega)) (fun r1 hr1 => eW _ (by omega)), a8.of (eN 6 (by omega)) (fun r1 hr1 => eW _ (by omega)), ?_, ?_, ?_, b3.of (fun r1 k1 hr1 hk1 hk2 => eW _ (by omega)), b4.of (congrFun (eN 10 (by omega)) 0) (eN 11 (by omega)) (eW 9 (by omega)) (fun k1 hk1 => eW _ (by omega)), ?_⟩
        · refine ⟨(show zU M 1 4 2 1 4 = 2 from zU_s).trans e70.symm, ⟨2, by decide, e70⟩, fun _ => ?_⟩
          rw [e7 1 (by decide), e7 2 (by decide), e7 3 (by decide), e7 4 (by decide), eW 5 (by decide), eW 6 (by decide), eW 7 (by decide), eW 8 (by decide)]
          exact a9.2.2 hp0
        · refine ⟨⟨fun q => absurd (e70.symm.trans q) (by decide), fun q => absurd (e70.symm.trans q) (by decide)⟩, ?_, fun r hr => ?_⟩
          · rw [e7 3 (by decide), e7 5 (by decide), e7 6 (by decide), e7 7 (by decide)]
            exact b1.2.1
          · rw [e7 3 (by decide), e7 5 (by decide), e7 6 (by decide), e7 7 (by decide), eN 9 (by decide)]
            exact b1.2.2 r hr
        · intro _ r hr
          rw [eW _ (by omega), eW _ (by omega), eW _ (by omega), eN 8 (by decide), eN 9 (by decide), eS]
          exact b2 hp0 r hr
        · refine ⟨?_, fun _ => ?_, fun j hj => ?_, fun q => absurd (e70.symm.trans q) (by decide)⟩
          · rw [eN 4 (by decide)]
            exact b5.1
          · unfold qMj
            rw [eN 4 (by decide), e7 1 (by decide)]
            exact b5.2.1 hp0
          · obtain ⟨t, h1, h2, h3, h4, -⟩ := b5.2.2.1 j hj
            unfold qMj
            rw [eN 4 (by decide), eN 11 (by decide), e7 1 (by decide)]
            exact ⟨t, h1, h2, h3, fun _ => h4 (Or.inl hp), fun q => absurd (e70.symm.trans q) (by decide)⟩
      obtain ⟨a1', a2', a3', a4', a5', a6', a7', a8', a9', b1', b2', b3', b4', b5'⟩ := id hR
      refine Or.inr ⟨rfl, bc_pos h9 b1.2.1.2.1, ?_, oz, hR⟩
      show g_J6_bitCount_0f7a4 (N 7 5) = g_X10_votesOf (g_X10_closeIt M n).2 n 1
      rw [m_sealed h9 a9' b1' b2', e7 5 (by decide)]
    · rw [if_neg hn, if_neg hn]
      exact qStep.no 9 (by decide) (by decide)
  · rw [if_neg hp, if_neg hp]
    exact qStep.no 5 (by decide) (by decide)
theorem st_break (h : rl n oz T N (M 1)) (hT : T < 2 ^ 30) {r cd b : Nat} (hr : r < n) (hcd : cd < n) (hb : b ≤ 999) : qStep n T N (g_X4_breakVote N r cd (nI b)) (g_X10_noBreak M r) (g_X10_breakIt M r cd (nI b)) := by
  obtain ⟨a1, a2, a3, a4, a5, a6, a7, a8, a9, b1, b2, b3, b4, b5⟩ := id h
  have h9 : n ≤ 9 := a1.1
  unfold g_X4_breakVote g_X10_noBreak
  rw [a9.1]
  by_cases hp : N 7 0 = 2
  · have hp0 : ¬ N 7 0 = 0 := by rw [hp]; decide
    have ev : g_X10_of M r 6 = nI (qSt N r) := (b2 hp0 r hr).1
    rw [if_pos hp, if_pos hp, m_onRoll a9 b1 (by omega), c_onRoll (by omega), has_q (by omega), has_q (by omega), c_reach h9 a9, m_reach h9 a2 a8 a9 hr, ev]
    simp only [bI_ite]
    cases hq : qB (N 7 3) r
    · exact qStep.no 6 (by decide) (by decide)
    · rw [if_pos rfl, if_pos rfl]
      cases hs : qB (N 7 5) r
      · have e0 : ¬ nI (qSt N r) = 1 := by
          have h1 := qSt_1 (N := N) (r := r)
          rw [hs] at h1
          have h2 := qSt_lt (N := N) r
          exact fun q => absurd ((nI_eq9 (a := qSt N r) (b := 1) (by omega) (by decide)).mp q) (by simpa using h1)
        rw [if_neg Bool.false_ne_true, if_neg e0]
        exact qStep.no 11 (by decide) (by decide)
      · have e0 : nI (qSt N r) = 1 := by
          unfold qSt
          rw [hs]
          rfl
        rw [if_pos rfl, if_pos e0]
        cases hre : qRe N r
        · exact qStep.no 8 (by decide) (by decide)
        · rw [if_pos rfl, if_pos rfl]
          obtain ⟨t, ht, et, -⟩ := b5.2.1 hp0
          obtain ⟨v5, v6, v8⟩ := b2 hp0 r hr
          have ef : (if g_X1_sealFits (zPl N 7) r (nI cd) (nI b) = 0 then 1 else g_X4_flawOf N r cd) = (if g_X10_sealOf (nI cd) (nI b) (M 1 5) = g_X10_of M r 8 then g_X10_spoiling M r cd else 1) := by
            rw [m_spoiling h9 a2 a5 a9 b1 hr hcd, (a9.2.2 hp0).1, show g_X10_of M r 8 = N 8 r from v8]
            have e1 : g_X1_sealFits (zPl N 7) r (nI cd) (nI b) = if g_X9_sealNumber (nI cd) (nI b) (N 7 1) = N 8 r then 1 else 0 := rfl
            rw [e1, et, seal_eq (by omega) hb (by omega)]
            by_cases e : g_X9_sealNumber (nI cd) (nI b) (nI t) = N 8 r
            · rw [if_pos e, if_pos e, if_neg (by decide)]
            · rw [if_neg e, if_neg e, if_pos rfl]
          rw [ef]
          have hfl : (if g_X10_sealOf (nI cd) (nI b) (M 1 5) = g_X10_of M r 8 then g_X10_spoiling M r cd else 1) = (g_X10_breakIt M r cd (nI b)).1 := rfl
          have hfl4 : ∃ f, f < 5 ∧ (g_X10_breakIt M r cd (nI b)).1 = nI f := by
            show ∃ f, f < 5 ∧ (if g_X10_sealOf (nI cd) (nI b) (M 1 5) = g_X10_of M r 8 then g_X10_spoiling M r cd else 1) = nI f
            unfold g_X10_spoiling
            (repeat' split) <;> first | exact ⟨0, by decide, rfl⟩ | exact ⟨1, by decide, rfl⟩ | exact ⟨2, by decide, rfl⟩ | exact ⟨3, by decide, rfl⟩ | exact ⟨4, by decide, rfl⟩
          have hM : ∀ k, (g_X10_breakIt M r cd (nI b)).2 1 k = if k = 10 + r * 9 + 7 then (if (g_X10_breakIt M r cd (nI b)).1 = 0 then nI cd else (g_X10_breakIt M r cd (nI b)).1) else if k = 10 + r * 9 + 6 then (if (g_X10_breakIt M r cd (nI b)).1 = 0 then 2 else 3) else M 1 k := by
            intro k
            show g_X10_put (g_X10_put M r 6 _) r 7 _ 1 k = _
            rw [put_c, put_c]
            rfl
          rw [hfl]
          generalize hB : g_X10_breakIt M r cd (nI b) = B at *
          obtain ⟨f, hf, ef⟩ := hfl4
          generalize hX : zPs N 7 3 (g_X1_putBroken (zPl N 7) r (nI cd) B.1) = X
          have eN : ∀ o, o ≠ 7 ∧ o ≠ 9 → X o = N o := fun o ho => by
            rw [← hX]
            refine zPs_fr fun j hj e => ?_
            unfold g_X1_putBroken
            split <;> (rw [zU_ne (by omega), zU_ne (by omega), zU_ne (by omega)]; rfl)
          have eB : zPl N 7 0 = N 7 := rfl
          have e7n : ∀ k, k ≠ 5 → k ≠ 6 → k ≠ 7 → X 7 k = N 7 k := fun k h5 h6 h7 => by
            rw [← hX, zPs_in (by decide) (by decide)]
            unfold g_X1_putBroken
            split <;> (rw [zU_ne (by decide), zU_c, zU_c]; first | (rw [if_neg h6, if_neg h5]; rfl) | (rw [if_neg h7, if_neg h5]; rfl))
          have e75 : X 7 5 = (N 7 5 &&& ((1 <<< (nI r &&& 31)) ^^^ (-1))) := by
            rw [← hX, zPs_in (by decide) (by decide)]
            unfold g_X1_putBroken
            split <;> (rw [zU_ne (by decide), zU_c, zU_c]; rfl)
          have e76 : X 7 6 = if B.1 = 0 then (N 7 6 ||| (1 <<< (nI r &&& 31))) else N 7 6 := by
            rw [← hX, zPs_in (by decide) (by decide)]
            unfold g_X1_putBroken
            split <;> (rw [zU_ne (by decide), zU_c]; rfl)
          have e77 : X 7 7 = if B.1 = 0 then N 7 7 else (N 7 7 ||| (1 <<< (nI r &&& 31))) := by
            rw [← hX, zPs_in (by decide) (by decide)]
            unfold g_X1_putBroken
            split <;> (rw [zU_ne (by decide), zU_c]; rfl)
          have e9 : ∀ k, X 9 k = if k = r then (if B.1 = 0 then nI cd else B.1) else N 9 k := fun k => by
            rw [← hX, zPs_in (by decide) (by decide)]
            unfold g_X1_putBroken
            split <;> (rw [zU_c]; rfl)
          have eW : ∀ k, k ≠ 10 + r * 9 + 6 ∧ k ≠ 10 + r * 9 + 7 → B.2 1 k = M 1 k := fun k hk => by rw [hM, if_neg hk.2, if_neg hk.1]
          have w7 : B.2 1 (10 + r * 9 + 7) = if B.1 = 0 then nI cd else B.1 := by rw [hM, if_pos rfl]
          have w6 : B.2 1 (10 + r * 9 + 6) = if B.1 = 0 then 2 else 3 := by rw [hM, if_neg (by omega), if_pos rfl]
          have d5 := (b1.2.2 r hr).1 hs
          have q5 : ∀ k, qB (X 7 5) k = (qB (N 7 5) k && !(k == r)) := fun k => by rw [e75, qB_del (by omega)]
          have q6 : ∀ k, qB (X 7 6) k = (qB (N 7 6) k || (decide (B.1 = 0) && k == r)) := fun k => by
            rw [e76]
            by_cases e : B.1 = 0
            · rw [if_pos e, qB_add (by omega), decide_eq_true e, Bool.true_and]
            · rw [if_neg e, decide_eq_false e, Bool.false_and, Bool.or_false]
          have q7 : ∀ k, qB (X 7 7) k = (qB (N 7 7) k || (!(decide (B.1 = 0)) && k == r)) := fun k => by
            rw [e77]
            by_cases e : B.1 = 0
            · rw [if_pos e, decide_eq_true e, Bool.not_true, Bool.false_and, Bool.or_false]
            · rw [if_neg e, qB_add (by omega), decide_eq_false e, Bool.not_false, Bool.true_and]
          have hne : ∀ k, k ≠ r → qB (X 7 5) k = qB (N 7 5) k ∧ qB (X 7 6) k = qB (N 7 6) k ∧ qB (X 7 7) k = qB (N 7 7) k := fun k hk => by
            rw [q5, q6, q7, beq_eq_false_iff_ne.mpr hk, Bool.and_false, Bool.or_false, Bool.and_false, Bool.or_false, Bool.not_false, Bool.and_true]
            exact ⟨rfl, rfl, rfl⟩
          have hr5 : qB (X 7 5) r = false := by rw [q5, beq_self_eq_true, Bool.not_true, Bool.and_false]
          have hr6 : qB (X 7 6) r = decide (B.1 = 0) := by rw [q6, d5.2.1, beq_self_eq_true, Bool.and_true, Bool.false_or]
          have hr7 : qB (X 7 7) r = !(decide (B.1 = 0)) := by rw [q7, d5.2.2, beq_self_eq_true, Bool.and_true, Bool.false_or]
          have hR : rl n oz T X (B.2 1) := by
            refine ⟨a1.of (congrFun (eN 0 (by omega)) 0) (eW 0 (by omega)), a2.of (congrFun (eN 0 (by omega)) 1) (fun r1 hr1 => eW _ (by omega)), a3.of (eN 1 (by omega)) (fun k1 hk1 => eW _ (by omega)), a4.of (eN 2 (by omega)) (fun r1 hr1 => eW _ (by omega)), a5.of (eN 3 (by omega)) (fun r1 hr1 => eW _ (by omega)), a6.of (eN 4 (by omega)) (fun r1 hr1 => eW _ (by omega)), a7.of (eN 5 (by omega)) (fun r1 hr1 => eW _ (by omega)), a8.of (eN 6 (by omega)) (fun r1 hr1 => eW _ (by omega)), a9.of (fun k1 hk1 => e7n k1 (by omega) (by omega) (by omega)) (fun k1 hk1 hk2 => eW _ (by omega)), ?_, ?_, ?_, b4.of (congrFun (eN 10 (by omega)) 0) (eN 11 (by omega)) (eW 9 (by omega)) (fun k1 hk1 => eW _ (by omega)), b5.of (eN 4 (by omega)) (e7n 0 (by decide) (by decide) (by decide)) (e7n 1 (by decide) (by decide) (by decide)) (eN 11 (by omega))⟩
            · refine ⟨?_, ⟨?_, ?_, ?_, ?_⟩, fun k hk => ?_⟩
              · rw [e7n 0 (by decide) (by decide) (by decide), hp]
                exact ⟨fun q => absurd q (by decide), fun q => absurd q (by decide)⟩
              · rw [e7n 3 (by decide) (by decide) (by decide)]
                exact b1.2.1.1
              · intro k hk
                rw [(hne k (by omega)).1]
                exact b1.2.1.2.1 k hk
              · intro k hk
                rw [(hne k (by omega)).2.1]
                exact b1.2.1.2.2.1 k hk
              · intro k hk
                rw [(hne k (by omega)).2.2]
                exact b1.2.1.2.2.2 k hk
              · rw [e7n 3 (by decide) (by decide) (by decide), e9]
                by_cases e : k = r
                · subst e
                  rw [hr5, hr6, hr7, hq, if_pos rfl]
                  by_cases e0 : B.1 = 0
                  · rw [decide_eq_true e0, if_pos e0]
                    exact ⟨fun q => (by cases q), fun _ => ⟨rfl, rfl, cd, hcd, rfl⟩, fun _ => rfl, fun q => (by cases q)⟩
                  · rw [decide_eq_false e0, if_neg e0]
                    exact ⟨fun q => (by cases q), fun q => (by cases q), fun _ => rfl, fun _ q => (by cases q)⟩
                · rw [(hne k e).1, (hne k e).2.1, (hne k e).2.2, if_neg e]
                  exact b1.2.2 k hk
            · intro _ k hk
              by_cases e : k = r
              · subst e
                rw [w6, w7, eW _ (by omega), eN 8 (by omega), e9, if_pos rfl]
                refine ⟨?_, rfl, v8⟩
                unfold qSt
                rw [hr5, hr6, hr7]
                by_cases e0 : B.1 = 0
                · rw [decide_eq_true e0, if_pos e0]
                  rfl
                · rw [decide_eq_false e0, if_neg e0]
                  rfl
              · rw [eW _ (by omega), eW _ (by omega), eW _ (by omega), eN 8 (by omega), e9, if_neg e]
                refine ⟨?_, (b2 hp0 k hk).2⟩
                rw [(b2 hp0 k hk).1]
                unfold qSt
                rw [(hne k e).1, (hne k e).2.1, (hne k e).2.2]
            · intro k hk q
              by_cases e : k = r
              · subst e
                rw [w6] at q
                rw [w7]
                by_cases e0 : B.1 = 0
                · rw [if_pos e0]
                  exact ⟨cd, by omega, rfl⟩
                · rw [if_neg e0] at q
                  exact absurd q (by decide)
              · rw [eW _ (by omega)] at q ⊢
                exact b3 k hk q
          refine Or.inr ⟨rfl, ?_, rfl, oz, hR⟩
          show ¬ B.1 < 0
          rw [ef]
          exact nI_pos (by omega)
  · rw [if_neg hp, if_neg hp]
    exact qStep.no 10 (by decide) (by decide)
theorem st_link (h : rl n oz T N (M 1)) {r o : Nat} (hr : r < n) (ho : o < n) (b : Bool) : qStep n T N (g_X4_changeLink N r o (bI b)) (g_X10_noLink M r (nI o) (bI b)) (g_X10_ones (g_X10_of (g_X10_link M r o (bI b)) r 5), g_X10_link M r o (bI b)) := by
  obtain ⟨a1, a2, a3, a4, a5, a6, a7, a8, a9, b1, b2, b3, b4, b5⟩ := id h
  have h9 : n ≤ 9 := a1.1
  unfold g_X4_changeLink g_X10_noLink
  by_cases hro : r = o
  · rw [if_pos (by rw [hro]), if_pos (by rw [hro])]
    exact qStep.no 16 (by decide) (by decide)
  · have hro' : ¬ nI r = nI o := fun q => hro ((nI_eq9 (by omega) (by omega)).mp q)
    rw [if_neg hro', if_neg hro', has_q (by omega), m_link a8 h9 hr ho]
    by_cases hb : bI (qB (N 6 r) o) = bI b
    · rw [if_pos hb, if_pos hb]
      exact qStep.no 16 (by decide) (by decide)
    · rw [if_neg hb, if_neg hb]
      have hb' : qB (N 6 r) o = !b := by
        cases hq : qB (N 6 r) o <;> cases b <;> first | rfl | exact absurd (by rw [hq]) hb
      have hb2 : qB (N 6 o) r = !b := by rw [(a8 r hr).2.2.2 o ho, hb']
      generalize hX : zU (zU N 6 r (N 6 r ^^^ (1 <<< (nI o &&& 31)))) 6 o ((zU N 6 r (N 6 r ^^^ (1 <<< (nI o &&& 31)))) 6 o ^^^ (1 <<< (nI r &&& 31))) = X
      generalize hY : g_X10_link M r o (bI b) = Y
      have eN : ∀ q, q ≠ 6 → X q = N q := fun q hq => by rw [← hX, zU_ne hq, zU_ne hq]
      have eW : ∀ k, k ≠ 10 + r * 9 + 5 ∧ k ≠ 10 + o * 9 + 5 → Y 1 k = M 1 k := fun k hk => by
        rw [← hY]
        show g_X10_put (g_X10_put M r 5 _) o 5 _ 1 k = M 1 k
        rw [put_n hk.2, put_n hk.1]
      have xo : ∀ k, qB (X 6 o) k = (qB (N 6 o) k ^^ (k == r)) := fun k => by
        rw [← hX, zU_s, zU_k (fun q => hro q.symm), qB_flip (by omega)]
      have xr : ∀ k, qB (X 6 r) k = (qB (N 6 r) k ^^ (k == o)) := fun k => by
        rw [← hX, zU_k hro, zU_s, qB_flip (by omega)]
      have xn : ∀ q, q ≠ r → q ≠ o → X 6 q = N 6 q := fun q h1 h2 => by rw [← hX, zU_k h2, zU_k h1]
      have yr : ∀ k, qB (Y 1 (10 + r * 9 + 5)) k = if b = true then (qB (M 1 (10 + r * 9 + 5)) k || k == o) else (qB (M 1 (10 + r * 9 + 5)) k && !(k == o)) := fun k => by
        rw [← hY]
        show qB (g_X10_put (g_X10_put M r 5 _) o 5 _ 1 _) k = _
        rw [put_n (by omega), put_c, if_pos rfl]
        cases b
        · rw [bI_f, if_pos rfl, if_neg Bool.false_ne_true, qB_del (by omega)]
          rfl
        · rw [bI_t, if_neg (by decide), if_pos rfl, qB_add (by omega)]
          rfl
      have yo : ∀ k, qB (Y 1 (10 + o * 9 + 5)) k = if b = true then (qB (M 1 (10 + o * 9 + 5)) k || k == r) else (qB (M 1 (10 + o * 9 + 5)) k && !(k == r)) := fun k => by
        rw [← hY]
        show qB (g_X10_put (g_X10_put M r 5 _) o 5 _ 1 _) k = _
        rw [put_c, if_pos rfl]
        have e5 : ∀ v, g_X10_of (g_X10_put M r 5 v) o 5 = M 1 (10 + o * 9 + 5) := fun v => put_n (by omega)
        rw [e5]
        cases b
        · rw [bI_f, if_pos rfl, if_neg Bool.false_ne_true, qB_del (by omega)]
        · rw [bI_t, if_neg (by decide), if_pos rfl, qB_add (by omega)]
      have hL : rl_lk n X (Y 1) := by
        intro q hq
        by_cases e1 : q = r
        · subst e1
          refine ⟨fun k hk => ?_, ?_, fun k => ?_, fun k hk => ?_⟩
          · rw [xr, (a8 q hr).1 k hk, beq_eq_false_iff_ne.mpr (by omega)]
            rfl
          · rw [xr, (a8 q hr).2.1, beq_eq_false_iff_ne.mpr hro]
            rfl
          · rw [yr, xr, (a8 q hr).2.2.1 k]
            by_cases e : k = o
            · subst e
              rw [hb', beq_self_eq_true, beq_eq_false_iff_ne.mpr (fun p => hro p.symm)]
              cases b <;> rfl
            · rw [beq_eq_false_iff_ne.mpr e]
              cases b <;> simp
          · rw [xr]
            by_cases e2 : k = o
            · subst e2
              rw [xo, beq_self_eq_true, beq_self_eq_true, (a8 q hr).2.2.2 k ho]
            · rw [beq_eq_false_iff_ne.mpr e2, Bool.xor_false]
              by_cases e3 : k = q
              · subst e3
                rw [xr, beq_eq_false_iff_ne.mpr hro, Bool.xor_false]
              · rw [xn k e3 e2]
                exact (a8 q hr).2.2.2 k hk
        · by_cases e2 : q = o
          · subst e2
            refine ⟨fun k hk => ?_, ?_, fun k => ?_, fun k hk => ?_⟩
            · rw [xo, (a8 q ho).1 k hk, beq_eq_false_iff_ne.mpr (by omega)]
              rfl
            · rw [xo, (a8 q ho).2.1, beq_eq_false_iff_ne.mpr e1]
              rfl
            · rw [yo, xo, (a8 q ho).2.2.1 k]
              by_cases e : k = r
              · subst e
                rw [hb2, beq_self_eq_true, beq_eq_false_iff_ne.mpr hro]
                cases b <;> rfl
              · rw [beq_eq_false_iff_ne.mpr e]
                cases b <;> simp
            · rw [xo]
              by_cases e3 : k = r
              · subst e3
                rw [xr, beq_self_eq_true, beq_self_eq_true, (a8 q ho).2.2.2 k hr]
              · rw [beq_eq_false_iff_ne.mpr e3, Bool.xor_false]
                by_cases e4 : k = q
                · subst e4
                  rw [xo, beq_eq_false_iff_ne.mpr e1, Bool.xor_false]
                · rw [xn k e3 e4]
                  exact (a8 q ho).2.2.2 k hk
          · refine ⟨?_, ?_, fun k => ?_, fun k hk => ?_⟩
            · rw [xn q e1 e2]
              exact (a8 q hq).1
            · rw [xn q e1 e2]
              exact (a8 q hq).2.1
            · rw [xn q e1 e2, eW _ (by omega)]
              exact (a8 q hq).2.2.1 k
            · rw [xn q e1 e2]
              by_cases e3 : k = r
              · subst e3
                rw [xr, beq_eq_false_iff_ne.mpr e2, Bool.xor_false]
                exact (a8 q hq).2.2.2 k hk
              · by_cases e4 : k = o
                · subst e4
                  rw [xo, beq_eq_false_iff_ne.mpr e1, Bool.xor_false]
                  exact (a8 q hq).2.2.2 k hk
                · rw [xn k e3 e4]
                  exact (a8 q hq).2.2.2 k hk
      have hR : rl n oz T X (Y 1) := by
        exact ⟨a1.of (congrFun (eN 0 (by omega)) 0) (eW 0 (by omega)), a2.of (congrFun (eN 0 (by omega)) 1) (fun r1 hr1 => eW _ (by omega)), a3.of (eN 1 (by omega)) (fun k1 hk1 => eW _ (by omega)), a4.of (eN 2 (by omega)) (fun r1 hr1 => eW _ (by omega)), a5.of (eN 3 (by omega)) (fun r1 hr1 => eW _ (by omega)), a6.of (eN 4 (by omega)) (fun r1 hr1 => eW _ (by omega)), a7.of (eN 5 (by omega)) (fun r1 hr1 => eW _ (by omega)), hL, a9.of (fun k1 _ => congrFun (eN 7 (by omega)) k1) (fun k1 hk1 hk2 => eW _ (by omega)), b1.of (eN 7 (by omega)) (fun r1 _ => congrFun (eN 9 (by omega)) r1), b2.of (eN 7 (by omega)) (fun r1 _ => congrFun (eN 8 (by omega)) r1) (fun r1 _ => congrFun (eN 9 (by omega)) r1) (fun r1 k1 hr1 hk1 hk2 => eW _ (by omega)), b3.of (fun r1 k1 hr1 hk1 hk2 => eW _ (by omega)), b4.of (congrFun (eN 10 (by omega)) 0) (eN 11 (by omega)) (eW 9 (by omega)) (fun k1 hk1 => eW _ (by omega)), b5.of (eN 4 (by omega)) (congrFun (eN 7 (by omega)) 0) (congrFun (eN 7 (by omega)) 1) (eN 11 (by omega))⟩
      have eA : g_X4_othersLinked X r = Y 1 (10 + r * 9 + 5) := by
        refine qB_ext fun k => ?_
        unfold g_X4_othersLinked
        rw [qB_del (by omega), (hL r hr).2.2.1 k]
      have hY5 : qS n (Y 1 (10 + r * 9 + 5)) := fun k hk => by rw [(hL r hr).2.2.1 k, (hL r hr).1 k hk]; rfl
      refine Or.inr ⟨rfl, ?_, ?_, oz, hR⟩
      · show ¬ g_J6_bitCount_0f7a4 (g_X4_othersLinked X r) < 0
        rw [eA]
        exact bc_pos h9 hY5
      · show g_J6_bitCount_0f7a4 (g_X4_othersLinked X r) = g_X10_ones (Y 1 (10 + r * 9 + 5))
        rw [eA, ones_bc (hY5.mono h9)]
theorem e_forget (A : zM) (S ld : Int32) (h9 : n ≤ 9) : (∀ o, o ≠ 5 → g_X4_forgetLeader A n S ld o = A o) ∧ ∀ k, g_X4_forgetLeader A n S ld 5 k = if k < n ∧ qB S k = true ∧ A 5 k = ld then -1 else A 5 k := by
  refine ⟨fun o ho => fr_X4_forgetLeader A n S ld o ho, ?_⟩
  unfold g_X4_forgetLeader
  refine zIt_inv (P := fun i (s : zM) => ∀ k, s 5 k = if k < i ∧ qB S k = true ∧ A 5 k = ld then -1 else A 5 k) n A (fun k => (if_neg fun q => Nat.not_lt_zero k q.1).symm) ?_
  intro i hi s hs k
  unfold l_X4_forgetLeader_2
  rw [has_q (by omega), bI_ite]
  have hi5 : s 5 i = A 5 i := by rw [hs i, if_neg (fun q => Nat.lt_irrefl i q.1)]
  by_cases e : k = i
  · subst e
    cases hq : qB S k
    · rw [if_neg Bool.false_ne_true, hi5, if_neg (fun q => Bool.false_ne_true q.2.1)]
    · rw [if_pos rfl, hi5]
      by_cases hl : A 5 k = ld
      · rw [if_pos hl, zU_s, if_pos ⟨Nat.lt_succ_self k, rfl, hl⟩]
      · rw [if_neg hl, hi5, if_neg (fun q => hl q.2.2)]
  · have e2 : (if qB S i = true then (if s 5 i = ld then zU s 5 i (-1) else s) else s) 5 k = s 5 k := by
      split
      · split
        · exact zU_k e
        · rfl
      · rfl
    rw [e2, hs k]
    by_cases hp : k < i ∧ qB S k = true ∧ A 5 k = ld
    · rw [if_pos hp, if_pos ⟨by omega, hp.2⟩]
    · rw [if_neg hp, if_neg (fun q => hp ⟨by omega, q.2⟩)]
theorem st_up (h : rl n oz T N (M 1)) {r : Nat} (hr : r < n) (b : Bool) : qStep n T N (g_X4_changeUp N n r (bI b)) (if g_X10_isUp M r = bI b then 16 else 0) (g_X10_upIt M n r (bI b)) := by
  obtain ⟨a1, a2, a3, a4, a5, a6, a7, a8, a9, b1, b2, b3, b4, b5⟩ := id h
  have h9 : n ≤ 9 := a1.1
  unfold g_X4_changeUp
  rw [has_q (by omega), m_up a2 hr]
  by_cases hb : bI (qB (N 0 1) r) = bI b
  · rw [if_pos hb, if_pos hb]
    exact qStep.no 16 (by decide) (by decide)
  · rw [if_neg hb, if_neg hb]
    have hb' : qB (N 0 1) r = !b := by
      cases hq : qB (N 0 1) r <;> cases b <;> first | rfl | exact absurd (by rw [hq]) hb
    have key : ∀ X Y : zM, X 0 1 = (N 0 1 ^^^ (1 <<< (nI r &&& 31))) → X 0 0 = N 0 0 → (∀ o, o ≠ 0 ∧ o ≠ 5 → X o = N o) → (∀ k, k < 10 ∨ 91 ≤ k ∨ (k - 10) % 9 ≠ 2 ∧ (k - 10) % 9 ≠ 4 → Y 1 k = M 1 k) → (∀ q, q < n → Y 1 (10 + q * 9 + 2) = if q = r then bI b else M 1 (10 + q * 9 + 2)) → rl_ld n X (Y 1) → rl n oz T X (Y 1) := by
      intro X Y x1 x0 eN eW y2 hl
      have q1 : ∀ k, qB (X 0 1) k = if k = r then b else qB (N 0 1) k := fun k => by
        rw [x1, qB_flip (by omega)]
        by_cases e : k = r
        · subst e
          rw [hb', beq_self_eq_true, if_pos rfl]
          cases b <;> rfl
        · rw [beq_eq_false_iff_ne.mpr e, Bool.xor_false, if_neg e]
      refine ⟨a1.of x0 (eW 0 (by omega)), ?_, a3.of (eN 1 (by omega)) (fun k1 hk1 => eW _ (by omega)), a4.of (eN 2 (by omega)) (fun r1 hr1 => eW _ (by omega)), a5.of (eN 3 (by omega)) (fun r1 hr1 => eW _ (by omega)), a6.of (eN 4 (by omega)) (fun r1 hr1 => eW _ (by omega)), hl, a8.of (eN 6 (by omega)) (fun r1 hr1 => eW _ (by omega)), a9.of (fun k1 _ => congrFun (eN 7 (by omega)) k1) (fun k1 hk1 hk2 => eW _ (by omega)), b1.of (eN 7 (by omega)) (fun r1 _ => congrFun (eN 9 (by omega)) r1), b2.of (eN 7 (by omega)) (fun r1 _ => congrFun (eN 8 (by omega)) r1) (fun r1 _ => congrFun (eN 9 (by omega)) r1) (fun r1 k1 hr1 hk1 hk2 => eW _ (by omega)), b3.of (fun r1 k1 hr1 hk1 hk2 => eW _ (by omega)), b4.of (congrFun (eN 10 (by omega)) 0) (eN 11 (by omega)) (eW 9 (by omega)) (fun k1 hk1 => eW _ (by omega)), b5.of (eN 4 (by omega)) (congrFun (eN 7 (by omega)) 0) (congrFun (eN 7 (by omega)) 1) (eN 11 (by omega))⟩
      refine ⟨fun k hk => ?_, fun q hq => ?_⟩
      · rw [q1, if_neg (by omega)]
        exact a2.1 k hk
      · rw [y2 q hq, q1]
        by_cases e : q = r
        · rw [if_pos e, if_pos e]
        · rw [if_neg e, if_neg e]
          exact a2.2 q hq
    have fin : ∀ (X Y : zM) (a : Int32), a = g_J6_bitCount_0f7a4 (X 0 1) → rl n oz T X (Y 1) → qStep n T N (a, X) 0 (g_X10_ups Y n, Y) := fun X Y a ha hR => by
      subst ha
      exact Or.inr ⟨rfl, bc_pos h9 hR.2.1.1, (m_ups h9 hR.2.1).symm, oz, hR⟩
    unfold g_X10_upIt
    cases b
    · rw [bI_f, if_pos rfl, if_pos rfl]
      refine fin _ _ _ rfl ?_
      have hF := e_forget (n := n) (zU (zU N 0 1 ((N 0 1) ^^^ (1 <<< ((nI r) &&& 31)))) 5 r (-1)) (N 6 r) (nI r) h9
      generalize g_X4_forgetLeader (zU (zU N 0 1 ((N 0 1) ^^^ (1 <<< ((nI r) &&& 31)))) 5 r (-1)) n (N 6 r) (nI r) = X at *
      have hB : ∀ k, (g_X10_put (g_X10_put M r 2 (if (0 : Int32) = 0 then (0 : Int32) else (1 : Int32))) r 4 (-1)) 1 k = if k = 10 + r * 9 + 4 then -1 else if k = 10 + r * 9 + 2 then 0 else M 1 k := fun k => by
        rw [put_c, put_c]
        rfl
      have hU := zIt_fld (f := l_X10_upIt_28 M n r 0) (B := g_X10_put (g_X10_put M r 2 (if (0 : Int32) = 0 then (0 : Int32) else (1 : Int32))) r 4 (-1)) (p := fun j c => c == 4 && (qB (N 6 j) r && decide (M 1 (10 + j * 9 + 4) = nI r) && !(j == r))) (v := fun _ _ => -1) n ?_
      · have e5 : ∀ k, (zU (zU N 0 1 ((N 0 1) ^^^ (1 <<< ((nI r) &&& 31)))) 5 r (-1)) 5 k = if k = r then -1 else N 5 k := fun k => zU_c
        have eU : r_X10_upIt_28 M n r 0 = zIt (l_X10_upIt_28 M n r 0) n (g_X10_put (g_X10_put M r 2 (if (0 : Int32) = 0 then (0 : Int32) else (1 : Int32))) r 4 (-1)) := rfl
        rw [← eU] at hU
        generalize r_X10_upIt_28 M n r 0 = Y at *
        refine key X Y ?_ ?_ ?_ ?_ ?_ ?_
        · rw [hF.1 0 (by decide), zU_ne (show (0 : Nat) ≠ 5 by decide), zU_s]
        · rw [hF.1 0 (by decide), zU_ne (show (0 : Nat) ≠ 5 by decide), zU_k (show (0 : Nat) ≠ 1 by decide)]
        · intro o ho
          rw [hF.1 o ho.2, zU_ne ho.2, zU_ne ho.1]
        · intro k hk
          rw [hU.out (fun c => c = 4) (fun j c q => by simpa using (Bool.and_eq_true_iff.mp q).1) k (by omega), hB, if_neg (by omega), if_neg (by omega)]
        · intro q hq
          rw [hU.1 q 2 (by omega) (by decide), if_neg (fun p => absurd p.2 (by simp)), hB, if_neg (by omega)]
          by_cases e : q = r
          · rw [if_pos (by omega), if_pos e]
            rfl
          · rw [if_neg (by omega), if_neg e]
        · intro q hq
          rw [hU.1 q 4 (by omega) (by decide), hF.2 q, e5, hB]
          by_cases e : q = r
          · subst e
            rw [if_neg (by simp), if_pos rfl, if_pos rfl]
            split <;> rfl
          · have n1 : ¬ 10 + q * 9 + 4 = 10 + r * 9 + 4 := by omega
            have n2 : ¬ 10 + q * 9 + 4 = 10 + r * 9 + 2 := by omega
            rw [if_neg n1, if_neg n2, if_neg e]
            show (if q < n ∧ (4 == 4 && (qB (N 6 q) r && decide (M 1 (10 + q * 9 + 4) = nI r) && !(q == r))) = true then (-1 : Int32) else M 1 (10 + q * 9 + 4)) = _
            rw [a7 q hq, (a8 r hr).2.2.2 q hq]
            by_cases hc : qB (N 6 r) q = true ∧ N 5 q = nI r
            · rw [if_pos ⟨hq, by rw [hc.1, hc.2, beq_eq_false_iff_ne.mpr e, decide_eq_true rfl]; rfl⟩, if_pos ⟨hq, hc.1, hc.2⟩]
            · rw [if_neg (fun p => hc ?_), if_neg (fun p => hc p.2)]
              have := p.2
              simp only [Bool.and_eq_true, decide_eq_true_eq] at this
              exact this.2.1
      · intro i hi s hs
        have h5 : ∀ x, g_X10_areLinked s i x = g_X10_areLinked M i x := fun x => by
          have : g_X10_of s i 5 = g_X10_of M i 5 := by
            show s 1 (10 + i * 9 + 5) = M 1 (10 + i * 9 + 5)
            rw [hs.1 i 5 (by omega) (by decide), if_neg (fun p => absurd p.2 (by simp)), hB, if_neg (by omega), if_neg (by omega)]
          unfold g_X10_areLinked
          rw [this]
        have h4 : g_X10_of s i 4 = if i = r then -1 else M 1 (10 + i * 9 + 4) := by
          show s 1 (10 + i * 9 + 4) = _
          rw [hs.1 i 4 (by omega) (by decide), if_neg (fun p => Nat.lt_irrefl i p.1), hB]
          by_cases e : i = r
          · rw [if_pos (by omega), if_pos e]
          · rw [if_neg (by omega), if_neg (by omega), if_neg e]
        have hL : l_X10_upIt_28 M n r 0 i s = if (qB (N 6 i) r && decide (M 1 (10 + i * 9 + 4) = nI r) && !(i == r)) = true then g_X10_put s i 4 (-1) else s := by
          unfold l_X10_upIt_28
          rw [h5, h4, m_link a8 h9 hi hr, bI_ite]
          by_cases e : i = r
          · subst e
            rw [if_pos rfl, if_neg (by rw [show (-1 : Int32) = nI 4294967295 from by decide]; exact fun q => absurd q (by
              have : ∀ k, k < 9 → ¬ nI 4294967295 = nI k := by decide +kernel
              exact this i (by omega))), if_neg (by simp)]
          · rw [if_neg e]
            by_cases hc : M 1 (10 + i * 9 + 4) = nI r
            · rw [if_pos hc, decide_eq_true hc, beq_eq_false_iff_ne.mpr e, Bool.and_true, Bool.not_false, Bool.and_true]
            · rw [if_neg hc, decide_eq_false hc, Bool.and_false, Bool.false_and, if_neg Bool.false_ne_true]
        rw [hL]
        refine ⟨fun j c hj hc => ?_, fun k hk => ?_⟩
        · by_cases hq : (qB (N 6 i) r && decide (M 1 (10 + i * 9 + 4) = nI r) && !(i == r)) = true
          · rw [if_pos hq, put_c, hq, Bool.and_true]
            by_cases e : j = i ∧ c = 4
            · rw [if_pos (by omega), if_pos ⟨e.1, by rw [e.2]; rfl⟩]
            · rw [if_neg (by omega), if_neg (fun p => e ⟨p.1, by simpa using p.2⟩)]
          · rw [if_neg hq, if_neg (fun p => hq (Bool.and_eq_true_iff.mp p.2).2)]
        · by_cases hq : (qB (N 6 i) r && decide (M 1 (10 + i * 9 + 4) = nI r) && !(i == r)) = true
          · rw [if_pos hq, put_n (by omega)]
          · rw [if_neg hq]
    · rw [bI_t, if_neg (by decide), if_neg (by decide)]
      refine fin (zU N 0 1 (N 0 1 ^^^ (1 <<< (nI r &&& 31)))) (g_X10_put M r 2 (if (1 : Int32) = 0 then (0 : Int32) else (1 : Int32))) _ (by rw [zU_s]) (key _ _ zU_s (zU_k (show (0 : Nat) ≠ 1 by decide)) (fun o ho => zU_ne ho.1) (fun k hk => put_n (by omega)) (fun q hq => ?_) ?_)
      · rw [put_c]
        by_cases e : q = r
        · rw [if_pos (by omega), if_pos e]
          rfl
        · rw [if_neg (by omega), if_neg e]
      · intro q hq
        show g_X10_put M r 2 _ 1 (10 + q * 9 + 4) = zU N 0 1 _ 5 q
        rw [put_n (by omega), zU_ne (by decide)]
        exact a7 q hq
end STEPS2
