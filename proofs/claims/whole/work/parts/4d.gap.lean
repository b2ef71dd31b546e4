/-! WHAT DOES NOT AGREE, on both sides -/
section GAP
variable {n oz T : Nat} {N M : zM}
/-- a valid vote for one who is not on the roll -/
def qPv (N : zM) (i : Nat) : Bool := qB (N 7 6) i && !(qB (N 7 3) (N 9 i).toNatClampNeg)
/-- a term astray -/
def qPt (N : zM) (i : Nat) : Bool := qB (N 7 3) i && !(decide (N 4 i = N 7 1))
theorem e_stray (h9 : n ≤ 9) (hv : rl_nv n N) : g_X1_strayVotes (zPl N 7) = nI (qN n (qPv N)) := by
  unfold g_X1_strayVotes
  have e3 : zPl N 7 0 3 = N 7 3 := rfl
  have e5 : zPl N 7 0 5 = N 7 5 := rfl
  have e6 : zPl N 7 0 6 = N 7 6 := rfl
  have e7 : zPl N 7 0 7 = N 7 7 := rfl
  have eR : g_X1_rollSize (zPl N 7) = nI (qN 9 (qB (N 7 3))) := bc_q (hv.2.1.1.mono h9)
  rw [e3, e5, e6, e7, eR]
  have hd : ∀ i, i < 9 → ¬ (qB (N 7 5) i = true ∧ qB (N 7 6) i = true) ∧ ¬ ((qB (N 7 5) i || qB (N 7 6) i) = true ∧ qB (N 7 7) i = true) ∧ ((qB (N 7 5) i || qB (N 7 6) i || qB (N 7 7) i) = true → qB (N 7 3) i = true) := by
    intro i hi
    by_cases hn : i < n
    · obtain ⟨v1, v2, v3, v4⟩ := hv.2.2 i hn
      cases h5 : qB (N 7 5) i
      · cases h6 : qB (N 7 6) i
        · cases h7 : qB (N 7 7) i
          · simp
          · simp [v3 h7]
        · have := v2 h6
          simp [this.1, this.2.1]
      · have := v1 h5
        simp [this.1, this.2.1, this.2.2]
    · have g5 := hv.2.1.2.1 i (by omega)
      have g6 := hv.2.1.2.2.1 i (by omega)
      have g7 := hv.2.1.2.2.2 i (by omega)
      simp [g5, g6, g7]
  have q0 : ∀ k, qB ((N 7 3) &&& ((((N 7 5) ||| (N 7 6)) ||| (N 7 7)) ^^^ (-1))) k = (qB (N 7 3) k && !(qB (N 7 5) k || qB (N 7 6) k || qB (N 7 7) k)) := fun k => by
    rw [qB_and, qB_xor, qB_or, qB_or]
    by_cases hk : k < 32
    · rw [qB_m1 hk, Bool.xor_true]
    · rw [qB_hi (by omega)]
      rfl
  have hs0 : qS 9 ((N 7 3) &&& ((((N 7 5) ||| (N 7 6)) ||| (N 7 7)) ^^^ (-1))) := fun k hk => by
    rw [q0, (hv.2.1.1.mono h9) k hk]
    rfl
  have eS : qN 9 (qB ((N 7 3) &&& ((((N 7 5) ||| (N 7 6)) ||| (N 7 7)) ^^^ (-1)))) + qN 9 (qB (N 7 5)) + qN 9 (qB (N 7 6)) + qN 9 (qB (N 7 7)) = qN 9 (qB (N 7 3)) := by
    rw [qN_add 9 (fun i hi p => ?_), qN_add 9 (fun i hi p => ?_), qN_add 9 (fun i hi p => ?_)]
    · refine qN_congr 9 fun i hi => ?_
      rw [q0]
      have := (hd i hi).2.2
      cases h3 : qB (N 7 3) i
      · rw [h3] at this
        cases h5 : qB (N 7 5) i <;> cases h6 : qB (N 7 6) i <;> cases h7 : qB (N 7 7) i <;> rw [h5, h6, h7] at this <;> first | rfl | (have := this rfl; cases this)
      · cases qB (N 7 5) i <;> cases qB (N 7 6) i <;> cases qB (N 7 7) i <;> rfl
    · rw [q0] at p
      have := (hd i hi).2.1
      cases h5 : qB (N 7 5) i <;> cases h6 : qB (N 7 6) i <;> cases h7 : qB (N 7 7) i <;> rw [h5, h6, h7] at p this <;> simp at p this
    · rw [q0] at p
      have := (hd i hi).1
      cases h5 : qB (N 7 5) i <;> cases h6 : qB (N 7 6) i <;> rw [h5, h6] at p this <;> simp at p this
    · rw [q0] at p
      cases h5 : qB (N 7 5) i <;> rw [h5] at p <;> simp at p
  have eX : nI (qN 9 (qB (N 7 3))) - ((((g_J6_bitCount_0f7a4 ((N 7 3) &&& ((((N 7 5) ||| (N 7 6)) ||| (N 7 7)) ^^^ (-1)))) + (g_J6_bitCount_0f7a4 (N 7 5))) + (g_J6_bitCount_0f7a4 (N 7 6))) + (g_J6_bitCount_0f7a4 (N 7 7))) = 0 := by
    rw [bc_q hs0, bc_q (hv.2.1.2.1.mono h9), bc_q (hv.2.1.2.2.1.mono h9), bc_q (hv.2.1.2.2.2.mono h9), nI_add, nI_add, nI_add, eS, Int32.sub_self]
  rw [eX, if_pos (show (0 : Int32) ≤ 0 by decide)]
  rw [zIt_cnt0 (p := qPv N) 9 ?_]
  · rw [qN_cut 9 h9]
    intro i hi _
    unfold qPv
    rw [hv.2.1.2.2.1 i hi]
    rfl
  · intro i hi s
    unfold l_X1_strayVotes_64 qPv
    rw [e6, show zPl N 7 2 i = N 9 i from rfl, has_q (by omega), bI_ite]
    congr 1
    cases h6 : qB (N 7 6) i
    · rfl
    · have hn : i < n := by
        rcases Nat.lt_or_ge i n with q | q
        · exact q
        · rw [hv.2.1.2.2.1 i q] at h6; cases h6
      obtain ⟨v, v1, v2⟩ := ((hv.2.2 i hn).2.1 h6).2.2
      rw [if_pos rfl, v2, nI_clamp (by omega), c_onRoll (by omega), bI_ite, Bool.true_and]
      cases qB (N 7 3) v <;> rfl
theorem e_astray (h9 : n ≤ 9) (hv : rl_nv n N) : g_X4_termsAstray N n = nI (qN n (qPt N)) := by
  unfold g_X4_termsAstray
  refine zIt_cnt0 n fun i hi s => ?_
  unfold l_X4_termsAstray_4 qPt
  rw [c_onRoll (by omega), bI_ite]
  congr 1
  cases qB (N 7 3) i
  · rfl
  · rw [if_pos rfl, Bool.true_and]
    by_cases e : N 4 i = N 7 1
    · rw [if_pos e, decide_eq_true e]
      rfl
    · rw [if_neg e, decide_eq_false e]
      rfl
theorem e_oneWay (h9 : n ≤ 9) (hl : rl_lk n N (M 1)) : g_X4_oneWayLinks N n = 0 := by
  unfold g_X4_oneWayLinks
  refine zIt_inv (P := fun _ (s : Int32) => s = 0) n 0 rfl ?_
  intro i hi s hs
  unfold l_X4_oneWayLinks_4
  refine (zIt_cut (n := 0) i s (Nat.zero_le i) fun j _ hj s' => ?_).trans hs
  unfold l_X4_oneWayLinks_14
  rw [has_q (by omega), has_q (by omega), (hl i hi).2.2.2 j (by omega), if_pos rfl, Int32.add_zero]
theorem e_wrong (h : rl n oz T N (M 1)) : g_X10_wrongVotes M n = nI (qN n (qPv N) + qN n (qPt N)) := by
  obtain ⟨a1, a2, a3, a4, a5, a6, a7, a8, a9, b1, b2, b3, b4, b5⟩ := id h
  have h9 : n ≤ 9 := a1.1
  have := zIt_sum (f := l_X10_wrongVotes_4 M n) (g := fun i => (if qPv N i = true then 1 else 0) + (if qPt N i = true then 1 else 0)) n 0 ?_
  · rw [Nat.zero_add, qM_add, qM_qN, qM_qN] at this
    exact this
  · intro i hi s
    unfold l_X10_wrongVotes_4 r_X10_wrongVotes_88
    rw [zIt_cut (n := 0) i _ (Nat.zero_le i) fun j _ hj s' => ?_]
    · show nI s + _ + _ = _
      rw [m_onRoll a9 b1 (by omega), bI_ite, bI_ite]
      have e1 : (if qB (N 7 3) i = true then (if (g_X10_of M i 6) = 2 then (if (g_X10_isOnRoll M (g_X10_of M i 7)) = 0 then (1 : Int32) else (0 : Int32)) else (0 : Int32)) else (0 : Int32)) = bI (qPv N i) := by
        unfold qPv
        cases hq : qB (N 7 3) i
        · cases h6 : qB (N 7 6) i
          · rfl
          · rw [((b1.2.2 i hi).2.1 h6).1] at hq; cases hq
        · have hp : ¬ N 7 0 = 0 := fun e => by rw [b1.1.1 e, qB_0] at hq; cases hq
          have e6 : g_X10_of M i 6 = nI (qSt N i) := (b2 hp i hi).1
          have e7 : g_X10_of M i 7 = N 9 i := (b2 hp i hi).2.1
          have e2 := qSt_2 b1 hi
          have e4 := qSt_lt (N := N) i
          rw [if_pos rfl, e6, e7]
          cases h6 : qB (N 7 6) i
          · rw [h6] at e2
            have n2 : ¬ nI (qSt N i) = 2 := fun q => absurd ((nI_eq9 (a := qSt N i) (b := 2) (by omega) (by decide)).mp q) (by simpa using e2)
            rw [if_neg n2]
            rfl
          · rw [h6] at e2
            have n2 : nI (qSt N i) = 2 := by rw [show qSt N i = 2 by simpa using e2]; rfl
            obtain ⟨v, v1, v2⟩ := ((b1.2.2 i hi).2.1 h6).2.2
            rw [if_pos n2, v2, nI_clamp (by omega), m_onRoll a9 b1 (by omega), bI_ite, Bool.true_and]
            cases qB (N 7 3) v <;> rfl
      have e2 : (if qB (N 7 3) i = true then (if (g_X10_of M i 3) = (M 1 5) then (0 : Int32) else (1 : Int32)) else (0 : Int32)) = bI (qPt N i) := by
        unfold qPt
        cases hq : qB (N 7 3) i
        · rfl
        · have hp : ¬ N 7 0 = 0 := fun e => by rw [b1.1.1 e, qB_0] at hq; cases hq
          rw [if_pos rfl, (a9.2.2 hp).1, show g_X10_of M i 3 = N 4 i from a6 i hi, Bool.true_and]
          by_cases e : N 4 i = N 7 1
          · rw [if_pos e, decide_eq_true e]
            rfl
          · rw [if_neg e, decide_eq_false e]
            rfl
      rw [e1, e2, bI_nI, bI_nI, nI_add, nI_add, Nat.add_assoc]
    · unfold l_X10_wrongVotes_88 g_X10_of
      have x1 : ∀ a b, a < n → b < n → a ≠ b → (((M 1 (10 + a * 9 + 5)) >>> ((nI b) &&& 31)) &&& 1) = if qB (N 6 a) b = true then 1 else 0 := by
        intro a b ha hb hab
        have hb2 : qB (M 1 (10 + a * 9 + 5)) b = qB (N 6 a) b := by
          rw [(a8 a ha).2.2.1 b, beq_eq_false_iff_ne.mpr (fun q => hab q.symm), Bool.not_false, Bool.and_true]
        have hand : (((M 1 (10 + a * 9 + 5)) >>> ((nI b) &&& 31)) &&& 1) = bI (qB (M 1 (10 + a * 9 + 5)) b) := by
          cases hz : qB (M 1 (10 + a * 9 + 5)) b
          · have hn1 : ¬ (((M 1 (10 + a * 9 + 5)) >>> ((nI b) &&& 31)) &&& 1) = 1 := fun q => by
              rw [(qB_sh (by omega) _).mp q] at hz
              cases hz
            refine qB_ext fun k => ?_
            rw [qB_and, bI_f, qB_0, show qB (1 : Int32) k = (k == 0) from qB_bit (r := 0) (by decide) k]
            by_cases hk : k = 0
            · subst hk
              cases hx : qB (M 1 (10 + a * 9 + 5) >>> (nI b &&& 31)) 0
              · rfl
              · refine absurd (qB_ext fun k => ?_) hn1
                rw [qB_and, show qB (1 : Int32) k = (k == 0) from qB_bit (r := 0) (by decide) k]
                by_cases hk : k = 0
                · subst hk
                  rw [hx]
                  rfl
                · rw [beq_eq_false_iff_ne.mpr hk, Bool.and_false]
            · rw [beq_eq_false_iff_ne.mpr hk, Bool.and_false]
          · exact (qB_sh (by omega) _).mpr hz
        rw [hand, hb2]
        rfl
      rw [x1 i j hi (by omega) (by omega), x1 j i (by omega) hi (by omega), (a8 i hi).2.2.2 j (by omega), if_pos rfl, Int32.add_zero]
theorem e_order (h : rl n oz T N (M 1)) (gq : Nat → Nat) (pc : Nat) : g_X6_outOfOrder (zPl N 10) oz = zIt (l_X10_gap_58 M gq pc n oz) (oz - 1) 0 := by
  obtain ⟨a1, a2, a3, a4, a5, a6, a7, a8, a9, b1, b2, b3, b4, b5⟩ := id h
  have h12 := b4.1
  unfold g_X6_outOfOrder
  refine zIt_congr (oz - 1) 0 fun i hi s => ?_
  have ht : ∀ j, j < oz → g_X6_tell (zPl N 10) oz (nI j) 0 = N 11 ((oz - 1 - j) * 8) := fun j hj => by
    unfold g_X6_tell
    rw [if_neg (nI_pos (by omega)), show zPl N 10 0 0 = N 10 0 from rfl, b4.2.1, if_pos (nI_lt hj (by omega)), nI_clamp (by omega)]
    rfl
  have hm : ∀ j, j < oz → g_X10_outcomeOf (zU M 0 0 0) oz j 0 = N 11 ((oz - 1 - j) * 8) := fun j hj => by
    rw [← b4.2.2.2 _ (by omega)]
    rfl
  unfold l_X6_outOfOrder_4 l_X10_gap_58
  rw [nI_pred, ht (i + 1) (by omega), ht i (by omega), hm i (by omega), hm (i + 1) (by omega)]
  by_cases c : N 11 ((oz - 1 - (i + 1)) * 8) < N 11 ((oz - 1 - i) * 8)
  · rw [if_pos c, if_neg (Int32.not_le.mpr c)]
  · rw [if_neg c, if_pos (Int32.not_lt.mp c)]
theorem e_gap (h : rl n oz T N (M 1)) (gq : Nat → Nat) (pc : Nat) : ((((g_X1_strayVotes (zPl N 7)) + (g_X6_outOfOrder (zPl N 10) oz)) + (g_X4_termsAstray N n)) + (g_X4_oneWayLinks N n)) = (g_X10_gap M gq pc n oz).1 := by
  obtain ⟨a1, a2, a3, a4, a5, a6, a7, a8, a9, b1, b2, b3, b4, b5⟩ := id h
  have h9 : n ≤ 9 := a1.1
  rw [e_stray h9 b1, e_astray h9 b1, e_oneWay (M := M) h9 a8, e_order h gq pc]
  unfold g_X10_gap r_X10_gap_58
  rw [e_wrong (M := zU M 0 0 0) h]
  have e0 : (if (M 1 4) = 0 then (0 : Int32) else (g_X10_size (((((g_X10_ones (M 1 7)) - (g_X10_votesOf (zU M 0 0 0) n 0)) - (g_X10_votesOf (zU M 0 0 0) n 1)) - (g_X10_votesOf (zU M 0 0 0) n 2)) - (g_X10_votesOf (zU M 0 0 0) n 3)))) = 0 := by
    rw [a9.1]
    by_cases hp : N 7 0 = 0
    · rw [if_pos hp]
    · have v : ∀ k, k < 4 → g_X10_votesOf (zU M 0 0 0) n (nI k) = nI (qN n (fun i => qB (N 7 3) i && (qSt N i == k))) := fun k hk => m_votesOf (M := zU M 0 0 0) h9 a9 b1 b2 hk
      have v0 : g_X10_votesOf (zU M 0 0 0) n 0 = nI (qN n (fun i => qB (N 7 3) i && (qSt N i == 0))) := v 0 (by decide)
      have v1 : g_X10_votesOf (zU M 0 0 0) n 1 = nI (qN n (fun i => qB (N 7 3) i && (qSt N i == 1))) := v 1 (by decide)
      have v2 : g_X10_votesOf (zU M 0 0 0) n 2 = nI (qN n (fun i => qB (N 7 3) i && (qSt N i == 2))) := v 2 (by decide)
      have v3 : g_X10_votesOf (zU M 0 0 0) n 3 = nI (qN n (fun i => qB (N 7 3) i && (qSt N i == 3))) := v 3 (by decide)
      have eS : qN n (fun i => qB (N 7 3) i && (qSt N i == 0)) + qN n (fun i => qB (N 7 3) i && (qSt N i == 1)) + qN n (fun i => qB (N 7 3) i && (qSt N i == 2)) + qN n (fun i => qB (N 7 3) i && (qSt N i == 3)) = qN n (qB (N 7 3)) := by
        rw [qN_add n (fun i hi p => ?_), qN_add n (fun i hi p => ?_), qN_add n (fun i hi p => ?_)]
        · refine qN_congr n fun i hi => ?_
          have h4 := qSt_lt (N := N) i
          generalize qSt N i = t at *
          cases qB (N 7 3) i
          · rfl
          · rcases (show t = 0 ∨ t = 1 ∨ t = 2 ∨ t = 3 by omega) with rfl | rfl | rfl | rfl <;> rfl
        · generalize qSt N i = t at *
          simp at p
          omega
        · generalize qSt N i = t at *
          simp at p
          omega
        · generalize qSt N i = t at *
          simp at p
          omega
      rw [if_neg hp, (a9.2.2 hp).2.2.1, ones_n h9 b1.2.1.1, ← eS]
      rw [v0, v1, v2, v3, pk_sub (by omega), pk_sub (by omega), pk_sub (by omega), pk_sub (by omega)]
      rw [show ∀ a b c d : Nat, a + b + c + d - a - b - c - d = 0 by omega]
      rfl
  rw [e0, Int32.add_zero, ← nI_add]
  generalize zIt (l_X10_gap_58 M gq pc n oz) (oz - 1) 0 = D
  show nI _ + D + nI _ = D + (nI _ + nI _)
  rw [Int32.add_comm (nI _) D, Int32.add_assoc]
end GAP
