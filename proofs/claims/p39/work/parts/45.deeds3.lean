/-! DEEDS keep the invariant: a count, a recount -/
section DEEDS3
variable {n oz T t0 : Nat} {N : zM}
theorem qV_in (s : zM) (i : Nat) : qV n s i ≤ qN n (qB (s 7 6)) := qN_mono n fun r _ q => by
  rw [Bool.and_eq_true] at q
  exact q.1
/-- what the tally knows of the votes: one who is ahead, with no more than there are -/
def jTy (n V : Nat) (K : zM) : Prop := (K 12 4 = -1 ∧ K 12 1 = 0) ∨ ∃ e m, e < n ∧ K 12 4 = nI e ∧ K 12 1 = nI m ∧ m ≤ V
theorem j_take (h9 : n ≤ 9) (X : zM) (hv : rl_nv n X) : jTy n (qN n (qB (X 7 6))) (g_X7_take X (-1) 0) := by
  unfold g_X7_take
  have := zIt_inv (f := l_X7_take_23 X (-1) 0) (P := fun i (s : zM) => s 7 = X 7 ∧ s 9 = X 9 ∧ jTy n (qN n (qB (X 7 6))) s) 9 (zU (zU (zU (zU X 12 1 0) 12 2 0) 12 3 (-1)) 12 4 (-1)) ⟨?_, ?_, Or.inl ⟨?_, ?_⟩⟩ ?_
  · exact this.2.2
  · rw [zU_ne (by decide), zU_ne (by decide), zU_ne (by decide), zU_ne (by decide)]
  · rw [zU_ne (by decide), zU_ne (by decide), zU_ne (by decide), zU_ne (by decide)]
  · exact zU_s
  · rw [zU_k (by decide), zU_k (by decide), zU_k (by decide), zU_s]
  · intro i hi s hs
    obtain ⟨h7, h9', ht⟩ := hs
    have hvs : rl_nv n s := nv_of hv h7 h9'
    unfold l_X7_take_23
    rw [c_votesFor h9 hvs, ite_self, Int32.add_zero]
    have hV : qV n s i ≤ qN n (qB (X 7 6)) := by
      have := qV_in (n := n) s i
      rw [h7] at this
      exact this
    generalize hg : zU s 13 i (nI (qV n s i)) = s'
    have g7 : s' 7 = X 7 := by rw [← hg, zU_ne (by decide), h7]
    have g9 : s' 9 = X 9 := by rw [← hg, zU_ne (by decide), h9']
    have g12 : s' 12 = s 12 := by rw [← hg, zU_ne (by decide)]
    have g13 : s' 13 i = nI (qV n s i) := by rw [← hg, zU_s]
    have ht' : jTy n (qN n (qB (X 7 6))) s' := by
      unfold jTy at *
      rw [g12]
      exact ht
    rw [h7, has_q (by omega), bI_ite]
    cases hq : qB (X 7 3) i
    · rw [if_neg Bool.false_ne_true]
      exact ⟨g7, g9, ht'⟩
    · rw [if_pos rfl]
      have hin : i < n := by
        rcases Nat.lt_or_ge i n with q | q
        · exact q
        · rw [hv.2.1.1 i q] at hq; cases hq
      refine ⟨by rw [fr_X7_rank s' i 7 (by decide)]; exact g7, by rw [fr_X7_rank s' i 9 (by decide)]; exact g9, ?_⟩
      have new : ∀ M : zM, jTy n (qN n (qB (X 7 6))) (zU (zU (zU (zU M 12 1 (s' 13 i)) 12 2 1) 12 3 (nI i)) 12 4 (nI i)) := fun M => Or.inr ⟨i, qV n s i, hin, zU_s, by rw [zU_k (by decide), zU_k (by decide), zU_k (by decide), zU_s]; exact g13, hV⟩
      unfold g_X7_rank
      by_cases c0 : s' 12 4 = -1
      · rw [if_pos c0]
        exact new s'
      · rw [if_neg c0]
        obtain ⟨e, m, g1, g2, g3, g4⟩ : ∃ e m, e < n ∧ s' 12 4 = nI e ∧ s' 12 1 = nI m ∧ m ≤ qN n (qB (X 7 6)) := by
          rcases ht' with q | q
          · exact absurd q.1 c0
          · exact q
        split
        · split
          · split
            · exact Or.inr ⟨e, m, g1, by rw [zU_k (by decide)]; exact g2, by rw [zU_k (by decide)]; exact g3, g4⟩
            · exact Or.inr ⟨i, m, hin, zU_s, by rw [zU_k (by decide), zU_k (by decide)]; exact g3, g4⟩
          · exact ht'
        · exact new s'
theorem d_count (h : J n oz T t0 N) : JJ n T t0 (g_X4_countVotes N n oz).2 := by
  unfold g_X4_countVotes
  by_cases p2 : N 7 0 = 2
  case neg => rw [if_neg p2]; exact ⟨oz, h⟩
  rw [if_pos p2]
  split
  case isFalse => exact ⟨oz, h⟩
  suffices hX : JJ n T t0 (m_X4_countVotes_1 N n oz) by split <;> exact hX
  obtain ⟨a1, a2, a3, a4, a5, a6, a7, a8, a9, b1⟩ := h
  have h9 := a1.2.1
  have h12 := a9.1
  have hp : ¬ N 7 0 = 0 := by rw [p2]; decide
  -- the tally
  have x70 : zU N 7 0 3 7 0 = nI 3 := zU_s
  have x7 : ∀ k, k ≠ 0 → zU N 7 0 3 7 k = N 7 k := fun k hk => zU_k hk
  have xo : ∀ o, o ≠ 7 → zU N 7 0 3 o = N o := fun o ho => zU_ne ho
  have hvX : rl_nv n (zU N 7 0 3) := nv_ph a8.1 3 (by decide) (by decide) x70 (fun k h3 _ => x7 k (by omega)) (fun r _ => congrFun (xo 9 (by decide)) r)
  have hK := j_take h9 (zU N 7 0 3) hvX
  rw [x7 6 (by decide)] at hK
  unfold m_X4_countVotes_1
  have kfr : ∀ o, o ≠ 12 ∧ o ≠ 13 → g_X7_take (zU N 7 0 3) (-1) 0 o = zU N 7 0 3 o := fun o ho => fr_X7_take _ _ _ o ho
  have l5 : ∀ k, zIt (l_X4_countVotes_81 N n oz) n (g_X7_take (zU N 7 0 3) (-1) 0) 5 k = N 5 k ∨ qB (g_X4_reachedSet N) k = true := by
    refine zIt_inv (f := l_X4_countVotes_81 N n oz) (P := fun _ (s : zM) => ∀ k, s 5 k = N 5 k ∨ qB (g_X4_reachedSet N) k = true) n (g_X7_take (zU N 7 0 3) (-1) 0) (fun k => Or.inl ?_) ?_
    · rw [kfr 5 (by decide), xo 5 (by decide)]
    · intro i hi s hs k
      unfold l_X4_countVotes_81
      rw [has_q (by omega), bI_ite, qB_and]
      cases hq : (qB (s 7 3) i && qB (g_X4_reachedSet N) i)
      · rw [if_neg Bool.false_ne_true]; exact hs k
      · rw [if_pos rfl, zU_c]
        rw [Bool.and_eq_true] at hq
        by_cases e : k = i
        · rw [e]; exact Or.inr hq.2
        · rw [if_neg e]; exact hs k
  have lfr : ∀ o, o ≠ 5 → zIt (l_X4_countVotes_81 N n oz) n (g_X7_take (zU N 7 0 3) (-1) 0) o = g_X7_take (zU N 7 0 3) (-1) 0 o := fun o ho => fr_l_X4_countVotes_81 N n oz o ho n _
  generalize hch : g_X7_chosenBy (g_X7_take (zU N 7 0 3) (-1) 0) ((g_X7_take (zU N 7 0 3) (-1) 0) 1 0) ((g_X7_take (zU N 7 0 3) (-1) 0) 1 1) = ch
  -- who is chosen
  have hc : ch = -1 ∨ ∃ c v, c < n ∧ 1 ≤ v ∧ v ≤ qN n (qB (N 7 6)) ∧ ch = nI c ∧ g_X7_take (zU N 7 0 3) (-1) 0 12 1 = nI v := by
    have e10 : g_X7_take (zU N 7 0 3) (-1) 0 1 0 = N 1 0 := by rw [kfr 1 (by decide), xo 1 (by decide)]
    rw [e10] at hch
    unfold g_X7_chosenBy g_X7_aheadBy at hch
    obtain ⟨v, v1, v2, v3⟩ := a3
    rw [v3] at hch
    have hle := qN_le (f := qB (N 7 6)) n
    generalize g_X7_take (zU N 7 0 3) (-1) 0 = K at *
    by_cases c0 : nI v ≤ K 12 1
    · rw [if_pos c0] at hch
      rcases hK with ⟨g1, g2⟩ | ⟨e, m, g1, g2, g3, g4⟩
      · rw [g2] at c0
        exact absurd c0 (nI_nle (by omega) (by omega))
      · rw [g3] at c0
        have := (nI_le9 (by omega) (by omega)).mp c0
        rw [g2] at hch
        split at hch
        · split at hch
          · exact Or.inr ⟨e, m, g1, by omega, g4, hch.symm, g3⟩
          · exact Or.inl hch.symm
        · exact Or.inr ⟨e, m, g1, by omega, g4, hch.symm, g3⟩
    · rw [if_neg c0] at hch
      exact Or.inl hch.symm
  clear hch
  generalize hA : zIt (l_X4_countVotes_81 N n oz) n (g_X7_take (zU N 7 0 3) (-1) 0) = A at *
  have A12 : A 12 = g_X7_take (zU N 7 0 3) (-1) 0 12 := lfr 12 (by decide)
  rw [← A12] at hc
  have Ao : ∀ o, o ≠ 5 → o ≠ 7 → o < 12 → A o = N o := fun o h5 h7 ho => by rw [lfr o h5, kfr o (by omega), xo o h7]
  have A7 : ∀ k, A 7 k = if k = 0 then nI 3 else N 7 k := fun k => by
    rw [lfr 7 (by decide), kfr 7 (by decide), zU_c]
    rfl
  clear hA lfr kfr hK A12
  obtain ⟨k0, k1, k2, k3, k4, k5, k6, -, -, k9⟩ := e_keepOut A ch (show A 10 0 = nI oz by rw [Ao 10 (by decide) (by decide) (by decide)]; exact a9.2.1) h12
  have kfr : ∀ o, o ≠ 10 ∧ o ≠ 11 → g_X4_keepOutcome A oz ch o = A o := fun o ho => fr_X4_keepOutcome A oz ch o ho
  generalize g_X4_keepOutcome A oz ch = X at *
  have n71 : A 7 1 = N 7 1 := by rw [A7]; rfl
  have n76 : A 7 6 = N 7 6 := by rw [A7]; rfl
  have n77 : A 7 7 = N 7 7 := by rw [A7]; rfl
  rw [n71] at k1
  rw [n76, bc_n h9 a8.1.2.1.2.2.1] at k4
  rw [n77, bc_n h9 a8.1.2.1.2.2.2] at k5
  have X7 : ∀ k, X 7 k = if k = 0 then nI 3 else N 7 k := fun k => by rw [kfr 7 (by decide)]; exact A7 k
  have X7n : ∀ k, k ≠ 0 → X 7 k = N 7 k := fun k hk => by rw [X7, if_neg hk]
  have X70 : X 7 0 = nI 3 := by rw [X7, if_pos rfl]
  have Xo : ∀ o, o ≠ 5 → o ≠ 7 → o < 10 → X o = N o := fun o h5 h7 ho => by rw [kfr o (by omega), Ao o h5 h7 (by omega)]
  have X5 : ∀ k, X 5 k = N 5 k ∨ qB (g_X4_reachedSet N) k = true := fun k => by rw [kfr 5 (by decide)]; exact l5 k
  -- the old outcomes
  have hz : zOn2 oz ≤ 11 ∧ (oz = 12 → zOn2 oz = 11) ∧ (oz ≠ 12 → zOn2 oz = oz) := by
    unfold zOn2
    split <;> omega
  generalize zOn2 oz = z at *
  have old : ∀ j w, j < z → w < 8 → X 11 (j * 8 + w) = N 11 ((if oz = 12 then j + 1 else j) * 8 + w) := fun j w hj hw => by
    rw [k9 _ (by omega), Ao 11 (by decide) (by decide) (by decide)]
    by_cases e : oz = 12
    · rw [if_pos e, if_pos e]
      congr 1
      omega
    · rw [if_neg e, if_neg e]
  have old0 : ∀ j, j < z → X 11 (j * 8) = N 11 ((if oz = 12 then j + 1 else j) * 8) := fun j hj => old j 0 hj (by decide)
  have oin : ∀ j, j < z → (if oz = 12 then j + 1 else j) < oz := fun j hj => by split <;> omega
  have k1' : X 11 (z * 8) = N 7 1 := k1
  obtain ⟨⟨c, hc1⟩, hmaj, t, g1, g2, g3, g4, g5⟩ := a7.2 hp
  have hmt : jM n N t := by
    unfold jM
    have := qN_mono (f := qB (N 7 3)) (g := fun r => decide (nI t ≤ N 4 r)) n (fun r hr q => decide_eq_true (by rw [g5 r hr q]; exact Int32.le_refl _))
    omega
  have hsum : qN n (qB (N 7 6)) + qN n (qB (N 7 7)) ≤ n := by
    rw [qN_add n fun r hr q => by
      have := (a8.1.2.2 r hr).2.1 q.1
      rw [this.2.1] at q
      exact Bool.false_ne_true q.2]
    exact qN_le n
  refine ⟨z + 1, a1.of (congrFun (Xo 0 (by decide) (by decide) (by decide)) 0), by rw [Xo 0 (by decide) (by decide) (by decide)]; exact a2, a3.of (congrFun (Xo 1 (by decide) (by decide) (by decide)) 0), a4.of (Xo 4 (by decide) (by decide) (by decide)), fun r hr => ?_, a6.of (Xo 6 (by decide) (by decide) (by decide)), ⟨⟨3, by decide, X70⟩, fun _ => ?_⟩, ⟨nv_ph a8.1 3 (by decide) (by decide) X70 (fun k h3 _ => X7n k (by omega)) (fun r _ => congrFun (Xo 9 (by decide) (by decide) (by decide)) r), fun r hr => ?_⟩, ⟨by omega, k0, fun j hj => ?_, fun i j hij hj => ?_, fun q => ?_, fun _ => ⟨Nat.succ_pos z, ?_⟩⟩, b1.1.of (Xo 4 (by decide) (by decide) (by decide)), b1.2⟩
  · rw [Xo 0 (by decide) (by decide) (by decide)]
    rcases X5 r with q | q
    · rw [q]; exact a5 r hr
    · exact Or.inr (j_reach_up q)
  · rw [X7n 2 (by decide), X7n 3 (by decide), X7n 1 (by decide), Xo 4 (by decide) (by decide) (by decide)]
    exact ⟨⟨c, hc1⟩, hmaj, t, g1, g2, g3, g4, g5⟩
  · rw [X7n 6 (by decide), X7n 3 (by decide), X7n 7 (by decide), Xo 9 (by decide) (by decide) (by decide)]
    exact a8.2 r hr
  · by_cases e : j < z
    · obtain ⟨⟨u, u1, u2, u3⟩, u4⟩ := a9.2.2.1 _ (oin j e)
      unfold jQ
      rw [old0 j e, old j 1 e (by decide), old j 2 e (by decide), old j 3 e (by decide), old j 4 e (by decide), old j 5 e (by decide)]
      exact ⟨⟨u, u1, u2, u3.of (Xo 4 (by decide) (by decide) (by decide))⟩, u4⟩
    · obtain rfl : j = z := by omega
      refine ⟨⟨t, g1, k1'.trans g4, hmt.of (Xo 4 (by decide) (by decide) (by decide))⟩, _, _, hsum, k4, k5, ?_⟩
      rcases hc with q | ⟨c, v, q1, q2, q3, q4, q5⟩
      · rw [q, if_pos rfl] at k3 k6
        exact Or.inl ⟨k2.trans q, k3, k6⟩
      · refine Or.inr ⟨c, v, q1, q2, q3, k2.trans q4, ?_⟩
        rw [k3, q4, if_neg (m1_ne (by omega))]
        exact q5
  · by_cases e : j < z
    · rw [old0 j e, old0 i (by omega)]
      exact a9.2.2.2.1 _ _ (by split <;> omega) (oin j e)
    · obtain rfl : j = z := by omega
      rw [k1', old0 i hij]
      exact a9.2.2.2.2.1 (Or.inr p2) _ (oin i hij)
  · rw [X70] at q
    exact absurd q (by decide)
  · rw [Nat.add_sub_cancel, k1', X7n 1 (by decide)]
theorem d_recount (h : J n oz T t0 N) (r : Nat) : JJ n T t0 (g_X4_askRecount N n oz r).2 := by
  have h0 : JJ n T t0 N := ⟨oz, h⟩
  unfold g_X4_askRecount
  by_cases p3 : N 7 0 = 3
  case neg => rw [if_neg p3]; exact h0
  rw [if_pos p3]
  split
  · exact h0
  split
  · exact h0
  split
  · exact h0
  split
  case isFalse => exact h0
  clear h0
  obtain ⟨a1, a2, a3, a4, a5, a6, a7, a8, a9, b1⟩ := h
  have h9 := a1.2.1
  have h12 := a9.1
  have hp : ¬ N 7 0 = 0 := by rw [p3]; decide
  obtain ⟨z0, z1⟩ := a9.2.2.2.2.2 p3
  show JJ n T t0 (zPs (m_X4_askRecount_1 N n oz r) 7 3 (g_X1_sealMisfitsAgain (zPl (m_X4_askRecount_1 N n oz r) 7)).2)
  unfold m_X4_askRecount_1
  generalize g_X6_tell (zPl N 10) oz 0 1 = ch
  have b7 : ∀ k, (zU (zU N 7 4 ((N 7 4) + 1)) 7 0 2) 7 k = if k = 0 then nI 2 else if k = 4 then N 7 4 + 1 else N 7 k := fun k => by
    rw [zU_c, zU_c]; rfl
  have bo : ∀ o, o ≠ 7 → (zU (zU N 7 4 ((N 7 4) + 1)) 7 0 2) o = N o := fun o ho => by rw [zU_ne ho, zU_ne ho]
  generalize (zU (zU N 7 4 ((N 7 4) + 1)) 7 0 2) = B at *
  have c0 : zPs B 10 2 (g_X6_dropLatest (zPl B 10)) 10 0 = nI (oz - 1) := by
    rw [zPs_in (by decide) (by decide)]
    unfold g_X6_dropLatest
    have e0 : zPl B 10 0 0 = nI oz := by show B 10 0 = _; rw [bo 10 (by decide)]; exact a9.2.1
    rw [if_neg (by rw [e0]; exact nI_nle (by omega) (by omega)), zU_s, e0]
    obtain ⟨k, rfl⟩ : ∃ k, oz = k + 1 := ⟨oz - 1, by omega⟩
    exact nI_pred k
  have c11 : zPs B 10 2 (g_X6_dropLatest (zPl B 10)) 11 = B 11 := by
    rw [zPs_in (by decide) (by decide)]
    exact fr_X6_dropLatest (zPl B 10) 1 (by decide)
  have co : ∀ o, o < 10 → zPs B 10 2 (g_X6_dropLatest (zPl B 10)) o = B o := fun o ho => zPs_out (by omega)
  generalize zPs B 10 2 (g_X6_dropLatest (zPl B 10)) = C at *
  obtain ⟨f1, f2⟩ := e_forget (n := n) C (N 7 3) ch h9
  generalize g_X4_forgetLeader C n (N 7 3) ch = Y at *
  have Y7 : ∀ k, Y 7 k = if k = 0 then nI 2 else if k = 4 then N 7 4 + 1 else N 7 k := fun k => by rw [f1 7 (by decide), co 7 (by decide)]; exact b7 k
  have Yo : ∀ o, o ≠ 5 → o ≠ 7 → o < 10 → Y o = N o := fun o h5 h7 ho => by rw [f1 o h5, co o ho, bo o h7]
  have Y5 : ∀ k, Y 5 k = -1 ∨ Y 5 k = N 5 k := fun k => by
    rw [f2, co 5 (by decide), bo 5 (by decide)]
    split
    · exact Or.inl rfl
    · exact Or.inr rfl
  have Y10 : Y 10 0 = nI (oz - 1) := by rw [f1 10 (by decide)]; exact c0
  have Y11 : Y 11 = N 11 := by rw [f1 11 (by decide), c11, bo 11 (by decide)]
  obtain ⟨-, s2, s3, s4, s5, s6⟩ := e_misfits (zPl Y 7)
  have p7 : ∀ k, zPl Y 7 0 k = Y 7 k := fun _ => rfl
  have p9 : zPl Y 7 2 = N 9 := Yo 9 (by decide) (by decide) (by decide)
  rw [p9, p7 7, show Y 7 7 = N 7 7 from Y7 7] at s3 s4 s6
  rw [p7 5, show Y 7 5 = N 7 5 from Y7 5] at s4
  generalize hX : zPs Y 7 3 (g_X1_sealMisfitsAgain (zPl Y 7)).2 = X
  have Xo : ∀ o, o ≠ 5 → o ≠ 7 → o ≠ 9 → o < 10 → X o = N o := fun o h5 h7 h9 ho => by
    rw [← hX]
    by_cases q : o = 8
    · subst q
      rw [zPs_in (by decide) (by decide)]
      exact s5.trans (Yo 8 (by decide) (by decide) (by decide))
    · rw [zPs_out (by omega), Yo o h5 h7 ho]
  have X7 : ∀ k, k ≠ 5 → k ≠ 7 → X 7 k = if k = 0 then nI 2 else if k = 4 then N 7 4 + 1 else N 7 k := fun k h5 h7 => by
    rw [← hX, zPs_in (by decide) (by decide)]
    exact (s2 k h5 h7).trans (Y7 k)
  have q7 : ∀ k, qB (X 7 7) k = (qB (N 7 7) k && !(decide (k < 9) && qPr (N 7 7) (N 9) k)) := fun k => by
    rw [← hX, zPs_in (by decide) (by decide)]
    exact s3 k
  have q5 : ∀ k, qB (X 7 5) k = (qB (N 7 5) k || (decide (k < 9) && qPr (N 7 7) (N 9) k)) := fun k => by
    rw [← hX, zPs_in (by decide) (by decide)]
    exact s4 k
  have X9 : ∀ k, X 9 k = if k < 9 ∧ qPr (N 7 7) (N 9) k = true then -1 else N 9 k := fun k => by
    rw [← hX, zPs_in (by decide) (by decide)]
    exact s6 k
  have X5 : ∀ k, X 5 k = -1 ∨ X 5 k = N 5 k := fun k => by rw [← hX, zPs_out (by decide)]; exact Y5 k
  have X10 : X 10 0 = nI (oz - 1) := by rw [← hX, zPs_out (by decide)]; exact Y10
  have X11 : X 11 = N 11 := by rw [← hX, zPs_out (by decide)]; exact Y11
  clear hX s2 s3 s4 s5 s6 f1 f2 co c0 c11 b7 bo
  have X70 : X 7 0 = nI 2 := X7 0 (by decide) (by decide)
  have X71 : X 7 1 = N 7 1 := X7 1 (by decide) (by decide)
  have X72 : X 7 2 = N 7 2 := X7 2 (by decide) (by decide)
  have X73 : X 7 3 = N 7 3 := X7 3 (by decide) (by decide)
  have X76 : X 7 6 = N 7 6 := X7 6 (by decide) (by decide)
  have e4 := Xo 4 (by decide) (by decide) (by decide) (by decide)
  have e0 := Xo 0 (by decide) (by decide) (by decide) (by decide)
  have pr7 : ∀ k, qPr (N 7 7) (N 9) k = true → qB (N 7 7) k = true := fun k q => by
    unfold qPr at q
    rw [Bool.and_eq_true] at q
    exact q.1
  refine ⟨oz - 1, a1.of (congrFun e0 0), by rw [e0]; exact a2, a3.of (congrFun (Xo 1 (by decide) (by decide) (by decide) (by decide)) 0), a4.of e4, fun k hk => ?_, a6.of (Xo 6 (by decide) (by decide) (by decide) (by decide)), ⟨⟨2, by decide, X70⟩, fun _ => by rw [X72, X73, X71, e4]; exact a7.2 hp⟩, ⟨⟨⟨fun q => ?_, fun q => ?_⟩, ⟨by rw [X73]; exact a8.1.2.1.1, fun k hk => ?_, by rw [X76]; exact a8.1.2.1.2.2.1, fun k hk => ?_⟩, fun k hk => ?_⟩, fun k hk => ?_⟩, ⟨by omega, X10, fun j hj => (a9.2.2.1 j (by omega)).of X11 e4, fun i j hij hj => by rw [X11]; exact a9.2.2.2.1 i j hij (by omega), fun _ j hj => ?_, fun q => ?_⟩, b1.1.of e4, b1.2⟩
  · rw [e0]
    rcases X5 k with q | q
    · exact Or.inl q
    · rw [q]; exact a5 k hk
  · rw [X70] at q
    exact absurd q (by decide)
  · rw [X70] at q
    exact absurd q (by decide)
  · rw [q5, a8.1.2.1.2.1 k hk, Bool.false_or]
    cases hq : qPr (N 7 7) (N 9) k
    · rw [Bool.and_false]
    · have := pr7 k hq
      rw [a8.1.2.1.2.2.2 k hk] at this
      cases this
  · rw [q7, a8.1.2.1.2.2.2 k hk, Bool.false_and]
  · obtain ⟨v1, v2, v3, v4⟩ := a8.1.2.2 k hk
    rw [q5, q7, X73, X76, X9, decide_eq_true (show k < 9 by omega), Bool.true_and]
    cases hq : qPr (N 7 7) (N 9) k
    · rw [if_neg (fun q => by simp at q), Bool.not_false, Bool.and_true, Bool.or_false]
      exact ⟨v1, v2, v3, v4⟩
    · have g7 := pr7 k hq
      rw [if_pos ⟨by omega, rfl⟩, g7]
      have n6 : qB (N 7 6) k = false := by
        cases h6 : qB (N 7 6) k
        · rfl
        · have := (v2 h6).2.1
          rw [g7] at this
          cases this
      rw [n6]
      refine ⟨fun _ => ⟨v3 g7, rfl, rfl⟩, fun q => (Bool.false_ne_true q).elim, fun q => ?_, fun _ _ => rfl⟩
      simp at q
  · rw [q7, X76, X73, X9, decide_eq_true (show k < 9 by omega), Bool.true_and]
    obtain ⟨w1, w2⟩ := a8.2 k hk
    cases hq : qPr (N 7 7) (N 9) k
    · rw [if_neg (fun q => by simp at q), Bool.not_false, Bool.and_true]
      exact ⟨w1, w2⟩
    · have g7 := pr7 k hq
      rw [if_pos ⟨by omega, rfl⟩, g7]
      refine ⟨fun q => ?_, fun q => by simp at q⟩
      have := ((a8.1.2.2 k hk).2.1 q).2.1
      rw [g7] at this
      cases this
  · rw [X11, X71, ← z1]
    exact a9.2.2.2.1 j (oz - 1) hj (by omega)
  · rw [X70] at q
    exact absurd q (by decide)
end DEEDS3
