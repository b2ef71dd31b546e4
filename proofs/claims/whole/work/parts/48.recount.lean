/-! THE DEEDS, on both sides: recount -/
section RECOUNT
variable {n oz T : Nat} {N M : zM}
/-- votes that are sealed again -/
def qPr (Z7 : Int32) (Z9 : Nat → Int32) (k : Nat) : Bool := qB Z7 k && decide (Z9 k = 1)
theorem e_misfits (Z : zM) : (g_X1_sealMisfitsAgain Z).1 = nI (qN 9 (qPr (Z 0 7) (Z 2))) ∧ (∀ k, k ≠ 5 → k ≠ 7 → (g_X1_sealMisfitsAgain Z).2 0 k = Z 0 k) ∧ (∀ k, qB ((g_X1_sealMisfitsAgain Z).2 0 7) k = (qB (Z 0 7) k && !(decide (k < 9) && qPr (Z 0 7) (Z 2) k))) ∧ (∀ k, qB ((g_X1_sealMisfitsAgain Z).2 0 5) k = (qB (Z 0 5) k || (decide (k < 9) && qPr (Z 0 7) (Z 2) k))) ∧ (g_X1_sealMisfitsAgain Z).2 1 = Z 1 ∧ ∀ k, (g_X1_sealMisfitsAgain Z).2 2 k = if k < 9 ∧ qPr (Z 0 7) (Z 2) k = true then -1 else Z 2 k := by
  unfold g_X1_sealMisfitsAgain
  refine zIt_inv (f := l_X1_sealMisfitsAgain_4 Z) (P := fun i (s : Int32 × zM) => s.1 = nI (qN i (qPr (Z 0 7) (Z 2))) ∧ (∀ k, k ≠ 5 → k ≠ 7 → s.2 0 k = Z 0 k) ∧ (∀ k, qB (s.2 0 7) k = (qB (Z 0 7) k && !(decide (k < i) && qPr (Z 0 7) (Z 2) k))) ∧ (∀ k, qB (s.2 0 5) k = (qB (Z 0 5) k || (decide (k < i) && qPr (Z 0 7) (Z 2) k))) ∧ s.2 1 = Z 1 ∧ ∀ k, s.2 2 k = if k < i ∧ qPr (Z 0 7) (Z 2) k = true then -1 else Z 2 k) 9 (0, Z) ⟨rfl, fun _ _ _ => rfl, fun k => by simp, fun k => by simp, rfl, fun k => (if_neg fun q => Nat.not_lt_zero k q.1).symm⟩ ?_
  intro i hi s hs
  obtain ⟨h1, h2, h3, h4, h5, h6⟩ := hs
  unfold l_X1_sealMisfitsAgain_4
  have e7 : qB (s.2 0 7) i = qB (Z 0 7) i := by rw [h3]; simp
  have e2 : s.2 2 i = Z 2 i := by rw [h6, if_neg (fun q => Nat.lt_irrefl i q.1)]
  rw [has_q (by omega), bI_ite, e7, e2]
  have hk : ∀ k, k ≠ i → (decide (k < i + 1) = decide (k < i)) := fun k hk => decide_eq_decide.mpr (by omega)
  have hkk : ∀ k, k ≠ i → ((k < i + 1 ∧ qPr (Z 0 7) (Z 2) k = true) ↔ (k < i ∧ qPr (Z 0 7) (Z 2) k = true)) := fun k hk => ⟨fun q => ⟨by omega, q.2⟩, fun q => ⟨by omega, q.2⟩⟩
  have no : qPr (Z 0 7) (Z 2) i = false → ((s.1 = nI (qN (i + 1) (qPr (Z 0 7) (Z 2))) ∧ (∀ k, k ≠ 5 → k ≠ 7 → s.2 0 k = Z 0 k) ∧ (∀ k, qB (s.2 0 7) k = (qB (Z 0 7) k && !(decide (k < i + 1) && qPr (Z 0 7) (Z 2) k))) ∧ (∀ k, qB (s.2 0 5) k = (qB (Z 0 5) k || (decide (k < i + 1) && qPr (Z 0 7) (Z 2) k))) ∧ s.2 1 = Z 1 ∧ ∀ k, s.2 2 k = if k < i + 1 ∧ qPr (Z 0 7) (Z 2) k = true then -1 else Z 2 k)) := by
    intro hq
    refine ⟨?_, h2, fun k => ?_, fun k => ?_, h5, fun k => ?_⟩
    · rw [h1, qN, hq, if_neg Bool.false_ne_true, Nat.add_zero]
    · rw [h3]
      by_cases e : k = i
      · rw [e, hq, Bool.and_false, Bool.and_false]
      · rw [hk k e]
    · rw [h4]
      by_cases e : k = i
      · rw [e, hq, Bool.and_false, Bool.and_false]
      · rw [hk k e]
    · rw [h6]
      by_cases e : k = i
      · rw [e, if_neg (fun q => Nat.lt_irrefl i q.1), if_neg (fun q => by rw [hq] at q; cases q.2)]
      · by_cases q : k < i ∧ qPr (Z 0 7) (Z 2) k = true
        · rw [if_pos q, if_pos ((hkk k e).mpr q)]
        · rw [if_neg q, if_neg (fun p => q ((hkk k e).mp p))]
  cases hz : qB (Z 0 7) i
  · rw [if_neg Bool.false_ne_true]
    exact no (by unfold qPr; rw [hz]; rfl)
  · rw [if_pos rfl]
    by_cases h9 : Z 2 i = 1
    · rw [if_pos h9]
      have hq : qPr (Z 0 7) (Z 2) i = true := by
        unfold qPr
        rw [hz, decide_eq_true h9]
        rfl
      refine ⟨?_, fun k k5 k7 => ?_, fun k => ?_, fun k => ?_, ?_, fun k => ?_⟩
      · dsimp only
        rw [h1, qN, hq, if_pos rfl, nI_1]
      · dsimp only
        rw [zU_ne (show (0 : Nat) ≠ 2 by decide), zU_k k5, zU_k k7]
        exact h2 k k5 k7
      · dsimp only
        rw [zU_ne (show (0 : Nat) ≠ 2 by decide), zU_k (show (7 : Nat) ≠ 5 by decide), zU_s, qB_del (by omega), h3]
        by_cases e : k = i
        · subst e
          rw [beq_self_eq_true, hq, decide_eq_true (Nat.lt_succ_self k)]
          simp
        · rw [beq_eq_false_iff_ne.mpr e, hk k e, Bool.not_false, Bool.and_true]
      · dsimp only
        rw [zU_ne (show (0 : Nat) ≠ 2 by decide), zU_s, qB_add (by omega), h4]
        by_cases e : k = i
        · subst e
          rw [beq_self_eq_true, hq, decide_eq_true (Nat.lt_succ_self k)]
          simp
        · rw [beq_eq_false_iff_ne.mpr e, hk k e, Bool.or_false]
      · dsimp only
        rw [zU_ne (show (1 : Nat) ≠ 2 by decide), zU_ne (show (1 : Nat) ≠ 0 by decide), zU_ne (show (1 : Nat) ≠ 0 by decide)]
        exact h5
      · dsimp only
        rw [zU_c]
        by_cases e : k = i
        · subst e
          rw [if_pos rfl, if_pos ⟨Nat.lt_succ_self k, hq⟩]
        · rw [if_neg e, zU_ne (show (2 : Nat) ≠ 0 by decide), zU_ne (show (2 : Nat) ≠ 0 by decide), h6]
          by_cases q : k < i ∧ qPr (Z 0 7) (Z 2) k = true
          · rw [if_pos q, if_pos ((hkk k e).mpr q)]
          · rw [if_neg q, if_neg (fun p => q ((hkk k e).mp p))]
    · rw [if_neg h9]
      exact no (by unfold qPr; rw [hz, decide_eq_false h9]; rfl)
/-- who knows the one who was chosen -/
def qPl (N : zM) (ch : Int32) (k : Nat) : Bool := qB (N 7 3) k && (decide (N 5 k = ch) && !(decide (ch = -1)))
theorem e_recountLoop (h9 : n ≤ 9) (a7 : rl_ld n N (M 1)) (a9 : rl_hd n N (M 1)) (b1 : rl_nv n N) (b2 : rl_vt n N (M 1)) (hp0 : ¬ N 7 0 = 0) (ch : Int32) (hc : g_X10_outcomeOf M oz 0 1 = ch) : (r_X10_recountIt_11 M n oz).1 = nI (qN n (qPr (N 7 7) (N 9))) ∧ qFl M (fun j c => ((c == 6 || c == 7) && qPr (N 7 7) (N 9) j) || (c == 4 && qPl N ch j)) (fun _ c => if c = 6 then 1 else -1) n (r_X10_recountIt_11 M n oz).2 := by
  unfold r_X10_recountIt_11
  refine zIt_inv (f := l_X10_recountIt_11 M n oz) (P := fun i (t : Int32 × zM) => t.1 = nI (qN i (qPr (N 7 7) (N 9))) ∧ qFl M (fun j c => ((c == 6 || c == 7) && qPr (N 7 7) (N 9) j) || (c == 4 && qPl N ch j)) (fun _ c => if c = 6 then 1 else -1) i t.2) n (0, M) ⟨rfl, fun j c _ _ => (if_neg fun q => Nat.not_lt_zero j q.1).symm, fun _ _ => rfl⟩ ?_
  intro i hi s hs
  obtain ⟨h1, h2⟩ := hs
  have hon : ∀ Z : zM, (∀ k, k < 10 → Z 1 k = M 1 k) → g_X10_isOnRoll Z (nI i) = bI (qB (N 7 3) i) := fun Z hZ => by
    rw [← m_onRoll a9 b1 (by omega)]
    unfold g_X10_isOnRoll
    rw [hZ 4 (by decide), hZ 7 (by decide)]
  have s0 : ∀ k, k < 10 → s.2 1 k = M 1 k := fun k hk => h2.2 k (Or.inl hk)
  have si : ∀ c, c < 9 → s.2 1 (10 + i * 9 + c) = M 1 (10 + i * 9 + c) := fun c hc => by rw [h2.1 i c (by omega) hc, if_neg (fun q => Nat.lt_irrefl i q.1)]
  have e6 : g_X10_of s.2 i 6 = nI (qSt N i) := (si 6 (by decide)).trans (b2 hp0 i hi).1
  have e7 : g_X10_of s.2 i 7 = N 9 i := (si 7 (by decide)).trans (b2 hp0 i hi).2.1
  have e4 : g_X10_of s.2 i 4 = N 5 i := (si 4 (by decide)).trans (a7 i hi)
  have e4' : g_X10_of (g_X10_put (g_X10_put s.2 i 6 1) i 7 (-1)) i 4 = N 5 i := by
    rw [← e4]
    show g_X10_put (g_X10_put s.2 i 6 1) i 7 (-1) 1 (10 + i * 9 + 4) = s.2 1 (10 + i * 9 + 4)
    rw [put_n (by omega), put_n (by omega)]
  have hon2 : g_X10_isOnRoll (g_X10_put (g_X10_put s.2 i 6 1) i 7 (-1)) (nI i) = bI (qB (N 7 3) i) := hon _ fun k hk => by rw [put_n (by omega), put_n (by omega), s0 k hk]
  have hL : l_X10_recountIt_11 M n oz i s = (s.1 + bI (qPr (N 7 7) (N 9) i), if qPl N ch i = true then g_X10_put (if qPr (N 7 7) (N 9) i = true then g_X10_put (g_X10_put s.2 i 6 1) i 7 (-1) else s.2) i 4 (-1) else (if qPr (N 7 7) (N 9) i = true then g_X10_put (g_X10_put s.2 i 6 1) i 7 (-1) else s.2)) := by
    unfold l_X10_recountIt_11
    rw [hon2, e4', hon s.2 s0, e6, e7, e4, hc]
    simp only [bI_ite]
    have z3 := qSt_3 b1 hi
    have z4 := qSt_lt (N := N) i
    have hsp := (b1.2.2 i hi).2.2.1
    unfold qPr qPl
    cases hq : qB (N 7 3) i
    · have h7 : qB (N 7 7) i = false := by
        cases h7 : qB (N 7 7) i
        · rfl
        · rw [hsp h7] at hq; cases hq
      rw [h7, if_neg Bool.false_ne_true, Bool.false_and, Bool.false_and, if_neg Bool.false_ne_true, if_neg Bool.false_ne_true, bI_f, Int32.add_zero]
    · cases h7 : qB (N 7 7) i
      · rw [h7] at z3
        have n3 : ¬ nI (qSt N i) = 3 := fun q => absurd ((nI_eq9 (a := qSt N i) (b := 3) (by omega) (by decide)).mp q) (by simpa using z3)
        simp only [if_true, if_neg n3, Bool.false_and, Bool.true_and, Bool.false_eq_true, if_false, bI_f, Int32.add_zero]
        by_cases hm : ch = -1
        · rw [if_pos hm, decide_eq_true hm, Bool.not_true, Bool.and_false, if_neg Bool.false_ne_true]
        · rw [if_neg hm, decide_eq_false hm, Bool.not_false, Bool.and_true]
          by_cases hl : N 5 i = ch
          · rw [if_pos hl, decide_eq_true hl, if_pos rfl]
          · rw [if_neg hl, decide_eq_false hl, if_neg Bool.false_ne_true]
      · rw [h7] at z3
        have n3 : nI (qSt N i) = 3 := by rw [show qSt N i = 3 by simpa using z3]; rfl
        simp only [if_true, if_pos n3, Bool.true_and]
        by_cases h1' : N 9 i = 1
        · rw [if_pos h1', decide_eq_true h1', bI_t]
          simp only [if_true]
          by_cases hm : ch = -1
          · rw [if_pos hm, decide_eq_true hm, Bool.not_true, Bool.and_false, if_neg Bool.false_ne_true]
          · rw [if_neg hm, decide_eq_false hm, Bool.not_false, Bool.and_true]
            by_cases hl : N 5 i = ch
            · rw [if_pos hl, decide_eq_true hl, if_pos rfl]
            · rw [if_neg hl, decide_eq_false hl, if_neg Bool.false_ne_true]
        · rw [if_neg h1', decide_eq_false h1', bI_f, Int32.add_zero]
          simp only [Bool.false_eq_true, if_false]
          by_cases hm : ch = -1
          · rw [if_pos hm, decide_eq_true hm, Bool.not_true, Bool.and_false, if_neg Bool.false_ne_true]
          · rw [if_neg hm, decide_eq_false hm, Bool.not_false, Bool.and_true]
            by_cases hl : N 5 i = ch
            · rw [if_pos hl, decide_eq_true hl, if_pos rfl]
            · rw [if_neg hl, decide_eq_false hl, if_neg Bool.false_ne_true]
  rw [hL]
  refine ⟨?_, fun j c hj hc => ?_, fun k hk => ?_⟩
  · dsimp only
    rw [h1, qN, bI_nI, nI_add]
  · dsimp only
    have key : ∀ A : zM, A 1 (10 + j * 9 + c) = (if (qPr (N 7 7) (N 9) i = true ∧ j = i ∧ (c = 6 ∨ c = 7)) then (if c = 6 then 1 else -1) else s.2 1 (10 + j * 9 + c)) → (if qPl N ch i = true then g_X10_put A i 4 (-1) else A) 1 (10 + j * 9 + c) = if j < i + 1 ∧ (((c == 6 || c == 7) && qPr (N 7 7) (N 9) j) || (c == 4 && qPl N ch j)) = true then (if c = 6 then 1 else -1) else M 1 (10 + j * 9 + c) := by
      intro A hA
      by_cases e : j = i
      · subst e
        by_cases e4 : c = 4
        · subst e4
          cases hl : qPl N ch j
          · rw [if_neg Bool.false_ne_true, hA, if_neg (fun q => by have := q.2.2; omega), if_neg (by simp), si 4 (by decide)]
          · rw [if_pos rfl, put_c, if_pos rfl, if_pos ⟨Nat.lt_succ_self j, by simp⟩]
            rfl
        · have eA : (if qPl N ch j = true then g_X10_put A j 4 (-1) else A) 1 (10 + j * 9 + c) = A 1 (10 + j * 9 + c) := by
            split
            · exact put_n (by omega)
            · rfl
          rw [eA, hA, beq_eq_false_iff_ne.mpr e4, Bool.false_and, Bool.or_false]
          cases hq : qPr (N 7 7) (N 9) j
          · rw [if_neg (fun q => Bool.false_ne_true q.1), if_neg (by simp), si c hc]
          · rw [Bool.and_true]
            by_cases e67 : c = 6 ∨ c = 7
            · rw [if_pos ⟨rfl, rfl, e67⟩, if_pos (show j < j + 1 ∧ (c == 6 || c == 7) = true from ⟨Nat.lt_succ_self j, by rcases e67 with q | q <;> rw [q] <;> rfl⟩)]
            · rw [if_neg (fun q => e67 q.2.2), if_neg (fun q => e67 (by simpa using q.2)), si c hc]
      · have eA : (if qPl N ch i = true then g_X10_put A i 4 (-1) else A) 1 (10 + j * 9 + c) = A 1 (10 + j * 9 + c) := by
          split
          · exact put_n (by omega)
          · rfl
        have eN : ¬ (qPr (N 7 7) (N 9) i = true ∧ j = i ∧ (c = 6 ∨ c = 7)) := fun q => e q.2.1
        rw [eA, hA, if_neg eN, h2.1 j c hj hc]
        by_cases q : j < i ∧ (((c == 6 || c == 7) && qPr (N 7 7) (N 9) j) || (c == 4 && qPl N ch j)) = true
        · rw [if_pos q, if_pos ⟨by omega, q.2⟩]
        · rw [if_neg q, if_neg (fun p => q ⟨by omega, p.2⟩)]
    refine key _ ?_
    cases qPr (N 7 7) (N 9) i
    · rw [if_neg Bool.false_ne_true, if_neg (fun q => Bool.false_ne_true q.1)]
    · rw [if_pos rfl, put_c, put_c]
      by_cases e : j = i ∧ c = 7
      · rw [if_pos (by omega), if_pos ⟨rfl, e.1, Or.inr e.2⟩, if_neg (by omega)]
      · rw [if_neg (by omega)]
        by_cases e' : j = i ∧ c = 6
        · rw [if_pos (by omega), if_pos ⟨rfl, e'.1, Or.inl e'.2⟩, if_pos e'.2]
        · rw [if_neg (by omega), if_neg (fun q => by have := q.2; omega)]
  · dsimp only
    have : ∀ A : zM, A 1 k = M 1 k → (if qPl N ch i = true then g_X10_put A i 4 (-1) else A) 1 k = M 1 k := fun A hA => by
      split
      · rw [put_n (by omega)]
        exact hA
      · exact hA
    refine this _ ?_
    split
    · rw [put_n (by omega), put_n (by omega)]
      exact h2.2 k hk
    · exact h2.2 k hk
end RECOUNT
