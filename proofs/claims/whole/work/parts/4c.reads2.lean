/-! WHAT IS TOLD, on both sides, II -/
section TELL2
variable {n oz T : Nat} {N M : zM}
theorem e_canWin2 (h : rl n oz T N (M 1)) (gq : Nat → Nat) (pc : Nat) {r : Nat} (hr : r < n) : (g_X4_couldBeChosen N n r).1 = (g_X10_canWin M gq pc n r).1 := by
  have h0 : rl n oz T N ((zU M 0 0 0) 1) := h
  unfold g_X10_canWin
  obtain ⟨a1, a2, a3, a4, a5, a6, a7, a8, a9, b1, b2, b3, b4, b5⟩ := id h0
  have h9 : n ≤ 9 := a1.1
  have a9' : rl_hd n N (M 1) := a9
  rw [a9'.1]
  unfold g_X4_couldBeChosen
  by_cases hp : N 7 0 = 2
  case neg => rw [if_neg hp, if_neg hp]
  rw [if_pos hp, if_pos hp]
  have hp0 : ¬ N 7 0 = 0 := by rw [hp]; decide
  have hF := m_findVotes h9 a9 b1 b2
  have eR0 : r_X10_canWin_31 M gq pc n r = zIt (l_X10_canWin_31 M gq pc n r) n (g_X10_findVotes (zU M 0 0 0) n) := rfl
  rw [eR0]
  generalize zU M 0 0 0 = M0 at *
  generalize g_X10_findVotes M0 n = F at *
  let q : Nat → Bool := fun i => qB (N 7 5) i && (qRe N i && decide (g_X4_flawOf N i r = 0))
  have hk : zIt (l_X4_couldBeChosen_31 N n r) n 0 = nI (qN n q) := by
    refine zIt_cnt0 n fun i hi s => ?_
    unfold l_X4_couldBeChosen_31
    rw [has_q (by omega), bI_ite, qB_and, c_reach h9 a9]
    congr 1
    show _ = bI (qB (N 7 5) i && (qRe N i && decide (g_X4_flawOf N i r = 0)))
    cases qB (N 7 5) i
    · rfl
    · cases qRe N i
      · rfl
      · by_cases e : g_X4_flawOf N i r = 0
        · rw [if_pos (show (true && true) = true from rfl), if_pos e, decide_eq_true e]
          rfl
        · rw [if_pos (show (true && true) = true from rfl), if_neg e, decide_eq_false e]
          rfl
  have hL := zIt_inv (f := l_X10_canWin_31 M gq pc n r) (P := fun i (s : zM) => (∀ o, o ≠ 20 → s o = F o) ∧ ∀ j, j < n → s 20 j = nI (qV n N j + if j = r then qN i q else 0)) n F ⟨fun _ _ => rfl, fun j hj => ?_⟩ ?_
  case refine_1 =>
    rw [hF.2 j hj]
    split <;> rfl
  case refine_2 =>
    intro i hi s hs
    have s1 : s 1 = M0 1 := (hs.1 1 (by decide)).trans (hF.1 1 (by decide))
    have hsR : rl n oz T N (s 1) := by rw [s1]; exact h0
    obtain ⟨a1, a2, a3, a4, a5, a6, a7, a8, a9, b1, b2, b3, b4, b5⟩ := id hsR
    have e6 : g_X10_of s i 6 = nI (qSt N i) := (b2 hp0 i hi).1
    have e1 := qSt_1 (N := N) (r := i)
    have e4 := qSt_lt (N := N) i
    have hl : l_X10_canWin_31 M gq pc n r i s = zU s 20 r (s 20 r + bI (q i)) := by
      unfold l_X10_canWin_31
      rw [m_onRoll a9 b1 (by omega), bI_ite, m_reach h9 a2 a8 a9 hi, bI_ite, e6, m_spoiling h9 a2 a5 a9 b1 hi hr]
      congr 2
      show _ = bI (qB (N 7 5) i && (qRe N i && decide (g_X4_flawOf N i r = 0)))
      cases hs5 : qB (N 7 5) i
      · rw [hs5] at e1
        have n1 : ¬ nI (qSt N i) = 1 := fun q => absurd ((nI_eq9 (a := qSt N i) (b := 1) (by omega) (by decide)).mp q) (by simpa using e1)
        rw [if_neg n1, Bool.false_and]
        split <;> rfl
      · rw [hs5] at e1
        have n1 : nI (qSt N i) = 1 := by rw [show qSt N i = 1 by simpa using e1]; rfl
        rw [if_pos n1, ((b1.2.2 i hi).1 hs5).1, if_pos rfl, Bool.true_and]
        cases qRe N i
        · rfl
        · rw [if_pos rfl, if_neg (show ¬ (1 : Int32) = 0 by decide), Bool.true_and]
          by_cases e : g_X4_flawOf N i r = 0
          · rw [if_pos e, decide_eq_true e]
            rfl
          · rw [if_neg e, decide_eq_false e]
            rfl
    rw [hl]
    refine ⟨fun o ho => (zU_ne ho).trans (hs.1 o ho), fun j hj => ?_⟩
    rw [zU_c]
    by_cases e : j = r
    · rw [if_pos e, hs.2 r hr, if_pos rfl, if_pos e, e, bI_nI, nI_add, qN, Nat.add_assoc]
    · rw [if_neg e, hs.2 j hj, if_neg e, if_neg e]
  generalize zIt (l_X10_canWin_31 M gq pc n r) n F = R at *
  have hR1 : R 1 = M0 1 := (hL.1 1 (by decide)).trans (hF.1 1 (by decide))
  have hu : ∀ j, qV n N j + (if j = r then qN n q else 0) < 4096 := fun j => by
    have h1 := qV_le (n := n) (N := N) (r := j)
    have h2 := qN_le (f := q) n
    split <;> omega
  rw [hk]
  have hTy : ∀ ti, qTy n N R (fun j => qV n N j + if j = r then qN n q else 0) 9 (g_X7_take N (nI r) (nI (qN n q))) (r_X10_leading_14 R n ti) := fun ti => by
    refine tally_rel h9 (fun i hi => ?_) (fun i hi => ?_) b1 hL.2 hu _ _ ti (fun i hi => ?_)
    · rw [of_1 hR1]
      exact (a4 i hi).1
    · rw [onRoll_1 hR1]
      exact m_onRoll a9 b1 (by omega)
    · by_cases e : i = r
      · rw [if_pos (by rw [e]), if_pos e, nI_add]
      · rw [if_neg (fun q => e ((nI_eq9 (by omega) (by omega)).mp q)), if_neg e, Nat.add_zero]
        exact Int32.add_zero _
  have fT : g_X7_take N (nI r) (nI (qN n q)) 1 = N 1 := fr_X7_take _ _ _ 1 ⟨by decide, by decide⟩
  have e1 : R 1 1 = N 1 0 := by rw [hR1]; exact (a3 0 (by decide)).1
  have e2 : R 1 2 = N 1 1 := by rw [hR1]; exact (a3 1 (by decide)).1
  have hc := chosen_eq h9 b1 hL.2 hu (N 1 0) (N 1 1) (hTy (N 1 1))
  rw [fT, e1, e2, hc]
  split <;> rfl
theorem e_callers (h0 : rl_n n N (M 1)) (h2 : rl_up n N (M 1)) (h8 : rl_lk n N (M 1)) : g_X4_callersIf N n (N 0 1) = g_X10_callersNow M n := by
  have h9 := h0.1
  unfold g_X4_callersIf g_X10_callersNow
  refine zIt_congr n 0 fun i hi s => ?_
  unfold l_X4_callersIf_4 l_X10_callersNow_4
  have hS : qS n ((N 6 i) &&& (N 0 1)) := qS.and h2.1
  rw [has_q (by omega), m_up h2 hi, m_rollOf h9 h2 h8 hi, m_enough h0 (hS.mono h9), bI_ite, bI_ite]
  cases qB (N 0 1) i
  · rw [if_neg Bool.false_ne_true, if_neg Bool.false_ne_true, Int32.or_zero]
  · rw [if_pos rfl, if_pos rfl]
    split
    · rw [Int32.or_zero]
    · rfl
theorem callersIf_eq {N' : zM} (U : Int32) (e0 : N' 0 0 = N 0 0) (e6 : N' 6 = N 6) : g_X4_callersIf N' n U = g_X4_callersIf N n U := by
  unfold g_X4_callersIf
  refine zIt_congr n 0 fun i _ s => ?_
  unfold l_X4_callersIf_4 g_X4_isMajority
  rw [e0, e6]
theorem e_vital (h : rl n oz T N (M 1)) (gq : Nat → Nat) (pc : Nat) : g_X4_vitalSet N n = (g_X10_vital M gq pc n).1 ∧ (g_X10_vital M gq pc n).2 1 = M 1 ∧ ∀ o, o ≠ 0 → o ≠ 1 → (g_X10_vital M gq pc n).2 o = M o := by
  have h0 : rl n oz T N ((zU M 0 0 0) 1) := h
  obtain ⟨a1, a2, a3, a4, a5, a6, a7, a8, a9, b1, b2, b3, b4, b5⟩ := id h0
  have h9 : n ≤ 9 := a1.1
  have hc := e_callers a1 a2 a8
  have key := zIt_rel (f := fun i (s : Int32) => if g_X4_callersIf N n (N 0 1) = 0 then s else l_X4_vitalSet_17 N n i s) (g := l_X10_vital_22 M gq pc n) (R := fun _ (s : Int32) (t : Int32 × zM) => t.1 = s ∧ t.2 1 = M 1) n 0 (0, zU M 0 0 0) ⟨rfl, (zU_ne (M := M) (o := 0) (k := 0) (x := 0) (show (1 : Nat) ≠ 0 by decide))⟩ ?_
  · have e1 : g_X4_vitalSet N n = zIt (fun i (s : Int32) => if g_X4_callersIf N n (N 0 1) = 0 then s else l_X4_vitalSet_17 N n i s) n 0 := by
      unfold g_X4_vitalSet
      by_cases c : g_X4_callersIf N n (N 0 1) = 0
      · rw [if_pos c]
        symm
        exact zIt_cut (n := 0) n 0 (Nat.zero_le n) fun i _ _ s => if_pos c
      · rw [if_neg c]
        exact zIt_congr n 0 fun i _ s => (if_neg c).symm
    rw [e1]
    exact ⟨key.1.symm, key.2, fun o ho0 ho1 => (fr_l_X10_vital_22 M gq pc n o ho1 n (0, zU M 0 0 0)).trans (zU_ne ho0)⟩
  · intro i hi s t ht
    obtain ⟨t1, t2⟩ := ht
    unfold l_X10_vital_22 l_X4_vitalSet_17
    rw [← hc]
    have hu : g_X10_isUp t.2 i = bI (qB (N 0 1) i) := by
      have : rl_up n N (t.2 1) := by rw [t2]; exact a2
      exact m_up this hi
    rw [hu, bI_ite, has_q (by omega), bI_ite]
    by_cases c : g_X4_callersIf N n (N 0 1) = 0
    · rw [if_pos c, if_pos c, if_pos rfl]
      exact ⟨t1, t2⟩
    · rw [if_neg c, if_neg c, if_neg (show ¬ (1 : Int32) = 0 by decide)]
      cases hq : qB (N 0 1) i
      · rw [if_neg Bool.false_ne_true, if_neg Bool.false_ne_true]
        exact ⟨t1, t2⟩
      · rw [if_pos rfl, if_pos rfl]
        have e5 : g_X10_callersNow (g_X10_put t.2 i 2 0) n = g_X4_callersIf N n ((N 0 1) &&& ((1 <<< ((nI i) &&& 31)) ^^^ (-1))) := by
          have x0 : (zU N 0 1 ((N 0 1) &&& ((1 <<< ((nI i) &&& 31)) ^^^ (-1)))) 0 1 = ((N 0 1) &&& ((1 <<< ((nI i) &&& 31)) ^^^ (-1))) := zU_s
          rw [← callersIf_eq (N' := zU N 0 1 ((N 0 1) &&& ((1 <<< ((nI i) &&& 31)) ^^^ (-1)))) _ (zU_k (by decide)) (zU_ne (by decide))]
          rw [← x0]
          symm
          rw [x0]
          have := e_callers (n := n) (N := zU N 0 1 ((N 0 1) &&& ((1 <<< ((nI i) &&& 31)) ^^^ (-1)))) (M := g_X10_put t.2 i 2 0) ?_ ?_ ?_
          · rw [x0] at this
            exact this
          · refine ⟨h9, (zU_k (by decide)).trans a1.2.1, ?_⟩
            rw [put_n (by omega), t2]
            exact a1.2.2
          · rw [rl_up, x0]
            refine ⟨qS_delB a2.1 (by omega), fun r hr => ?_⟩
            rw [put_c, qB_del (by omega)]
            by_cases e : r = i
            · subst e
              rw [if_pos rfl, beq_self_eq_true, Bool.not_true, Bool.and_false]
              rfl
            · rw [if_neg (by omega), beq_eq_false_iff_ne.mpr e, Bool.not_false, Bool.and_true, t2]
              exact a2.2 r hr
          · refine a8.of (zU_ne (by decide)) (fun r hr => ?_)
            rw [put_n (by omega), t2]
            rfl
        rw [e5]
        refine ⟨?_, ?_⟩
        · dsimp only
          rw [t1]
          by_cases c2 : g_X4_callersIf N n ((N 0 1) &&& ((1 <<< ((nI i) &&& 31)) ^^^ (-1))) = 0
          · rw [if_pos c2, if_pos c2]
          · rw [if_neg c2, if_neg c2, Int32.or_zero]
        · dsimp only
          funext k
          rw [put_c]
          by_cases e : k = 10 + i * 9 + 2
          · have hb : M 1 (10 + i * 9 + 2) = 1 := (a2.2 i hi).trans (by rw [hq]; rfl)
            rw [if_pos e, e, hb]
          · rw [if_neg e, put_n e, t2]
theorem e_turnout (h : rl n oz T N (M 1)) (gq : Nat → Nat) (pc : Nat) : (if (g_X1_rollSize (zPl N 7)) = 0 then FP.fconst0 else (FP.fdiv (FP.i2f (g_J6_bitCount_0f7a4 (N 7 6))) (FP.i2f (g_X1_rollSize (zPl N 7))))) = (g_X10_turnout M gq pc n).1 ∧ (¬ g_X1_rollSize (zPl N 7) = 0 → ∃ a b, a < 10 ∧ b < 10 ∧ b ≠ 0 ∧ g_J6_bitCount_0f7a4 (N 7 6) = nI a ∧ g_X1_rollSize (zPl N 7) = nI b) ∧ (¬ M 1 4 = 0 → ∃ a b, a < 10 ∧ b < 10 ∧ b ≠ 0 ∧ g_X10_votesOf (zU M 0 0 0) n 2 = nI a ∧ g_X10_ones (M 1 7) = nI b) := by
  obtain ⟨a1, a2, a3, a4, a5, a6, a7, a8, a9, b1, b2, b3, b4, b5⟩ := id h
  have h9 : n ≤ 9 := a1.1
  have l6 := qN_le (f := qB (N 7 6)) n
  have l3 := qN_le (f := qB (N 7 3)) n
  have eR : g_X1_rollSize (zPl N 7) = nI (qN n (qB (N 7 3))) := bc_n h9 b1.2.1.1
  have e6 : g_J6_bitCount_0f7a4 (N 7 6) = nI (qN n (qB (N 7 6))) := bc_n h9 b1.2.1.2.2.1
  have eV := m_valid (M := zU M 0 0 0) h9 a9 b1 b2
  unfold g_X10_turnout
  rw [a9.1, eV]
  by_cases hp : N 7 0 = 0
  · have hz : g_X1_rollSize (zPl N 7) = 0 := by
      rw [eR, qN_0 n]
      · rfl
      · intro i _
        rw [b1.1.1 hp, qB_0]
    rw [if_pos hp, if_pos hz]
    exact ⟨rfl, fun q => absurd hz q, fun q => absurd hp q⟩
  · obtain ⟨w1, w2, w3, w4, r, hr, hq⟩ := a9.2.2 hp
    have hpos : 0 < qN n (qB (N 7 3)) := by
      rcases Nat.eq_zero_or_pos (qN n (qB (N 7 3))) with q | q
      · have : ∀ m, m ≤ n → r < m → 0 < qN m (qB (N 7 3)) := by
          intro m
          induction m with
          | zero => intro _ q; omega
          | succ m ih =>
            intro hm hrm
            rw [qN]
            by_cases e : r = m
            · rw [← e, hq]
              simp
            · have := ih (by omega) (by omega)
              omega
        exact this n (Nat.le_refl n) hr
      · exact q
    have hnz : ¬ g_X1_rollSize (zPl N 7) = 0 := by
      rw [eR]
      exact nI_ne0 hpos (by omega)
    have eO : g_X10_ones (M 1 7) = g_X1_rollSize (zPl N 7) := by
      rw [w3, ones_bc (b1.2.1.1.mono h9)]
      rfl
    rw [if_neg hp, if_neg hnz, eO]
    exact ⟨rfl, fun _ => ⟨_, _, by omega, by omega, by omega, e6, eR⟩, fun _ => ⟨_, _, by omega, by omega, by omega, e6, eR⟩⟩
theorem e_ages (h9 : n ≤ 9) (ha : rl_ag n N (M 1)) (h2 : rl_up n N (M 1)) (gq : Nat → Nat) (pc : Nat) : g_X4_agesOfUp N n = zIt (l_X10_meanAge_9 M gq pc n) n 0 ∧ ∃ s, s ≤ n * 99 ∧ g_X4_agesOfUp N n = nI s := by
  refine ⟨?_, ?_⟩
  · unfold g_X4_agesOfUp
    refine zIt_congr n 0 fun i hi s => ?_
    unfold l_X4_agesOfUp_4 l_X10_meanAge_9
    rw [has_q (by omega), m_up (M := zU M 0 0 0) h2 hi, bI_ite, bI_ite, show g_X10_of (zU M 0 0 0) i 0 = N 2 i from (ha i hi).1]
  · unfold g_X4_agesOfUp
    refine zIt_inv (P := fun i (s : Int32) => ∃ k, k ≤ i * 99 ∧ s = nI k) n 0 ⟨0, Nat.zero_le _, rfl⟩ ?_
    intro i hi s hs
    obtain ⟨k, h1, h3⟩ := hs
    obtain ⟨a, h4, h5⟩ := (ha i hi).2
    unfold l_X4_agesOfUp_4
    rw [has_q (by omega), bI_ite, h5, h3]
    cases qB (N 0 1) i
    · rw [if_neg Bool.false_ne_true, Int32.add_zero]
      exact ⟨k, by omega, rfl⟩
    · rw [if_pos rfl, nI_add]
      exact ⟨k + a, by omega, rfl⟩
theorem e_sign (h : rl n oz T N (M 1)) {r : Nat} (hr : r < n) : g_X1_signOf (zPl N 7) r = g_X10_sign M r := by
  obtain ⟨a1, a2, a3, a4, a5, a6, a7, a8, a9, b1, b2, b3, b4, b5⟩ := id h
  have h9 : n ≤ 9 := a1.1
  unfold g_X1_signOf g_X10_sign
  rw [m_onRoll a9 b1 (by omega), c_onRoll (by omega), c_state (by omega), bI_ite, bI_ite]
  cases hq : qB (N 7 3) r
  · rfl
  · have hp : ¬ N 7 0 = 0 := fun e => by rw [b1.1.1 e, qB_0] at hq; cases hq
    have e6 : g_X10_of M r 6 = nI (qSt N r) := (b2 hp r hr).1
    have e7 : g_X10_of M r 7 = N 9 r := (b2 hp r hr).2.1
    rw [if_pos rfl, if_pos rfl, e6, e7]
    by_cases c2 : nI (qSt N r) = 2
    · have h4 := qSt_lt (N := N) r
      have e2 : qSt N r = 2 := (nI_eq9 (b := 2) (by omega) (by decide)).mp c2
      have h6 : qB (N 7 6) r = true := by rw [← qSt_2 b1 hr, e2]; rfl
      obtain ⟨v, v1, v2⟩ := ((b1.2.2 r hr).2.1 h6).2.2
      have hv : ∀ v, v < 9 → ((((48 + nI v)).toUInt32 % 65536).toInt32) = 48 + nI v := by decide +kernel
      rw [show zPl N 7 2 r = N 9 r from rfl, v2, hv v (by omega)]
    · rw [if_neg c2, if_neg c2]
end TELL2
