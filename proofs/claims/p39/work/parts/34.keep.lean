/-! A DEED BY ITS NUMBER, on an office alone; what it keeps -/
noncomputable def zPf (N : zM) (q : Nat → Int32) (d : Nat) : Int32 × zM := match d with
  | 0 => g_X4_changeSetting N 0 (q 0)
  | 1 => g_X4_changeSetting N 1 (q 0)
  | 2 => g_X4_changeSetting N 2 (q 0)
  | 3 => g_X4_callBallot N (N 0 0).toNatClampNeg (q 0).toNatClampNeg
  | 4 => g_X4_sealVote N (q 0).toNatClampNeg (q 1) (q 2)
  | 5 => g_X4_sealWith N (q 0).toNatClampNeg (q 1)
  | 6 => g_X4_closeSealing N
  | 7 => g_X4_breakVote N (q 0).toNatClampNeg (q 1).toNatClampNeg (q 2)
  | 8 => g_X4_countVotes N (N 0 0).toNatClampNeg (N 10 0).toNatClampNeg
  | 9 => g_X4_askRecount N (N 0 0).toNatClampNeg (N 10 0).toNatClampNeg (q 0).toNatClampNeg
  | 10 => g_X4_giveBallotUp N
  | 11 => g_X4_changeUp N (N 0 0).toNatClampNeg (q 0).toNatClampNeg 0
  | 12 => g_X4_changeUp N (N 0 0).toNatClampNeg (q 0).toNatClampNeg 1
  | 13 => g_X4_changeLink N (q 0).toNatClampNeg (q 1).toNatClampNeg 0
  | _ => g_X4_changeLink N (q 0).toNatClampNeg (q 1).toNatClampNeg 1
/-- the replicas among a deed's numbers are some -/
def zPk (d n : Nat) (q : Nat → Int32) : Prop := ∀ p, p < 3 → zKd d p = 7 → q p = nI (q p).toNatClampNeg ∧ (q p).toNatClampNeg < n
/-- what the walks need of an office -/
def zDj (N : zM) : Prop := (N 0 0 = nI (N 0 0).toNatClampNeg ∧ (N 0 0).toNatClampNeg ≤ 9) ∧ (N 10 0 = nI (N 10 0).toNatClampNeg ∧ (N 10 0).toNatClampNeg ≤ 12) ∧ zHc N
theorem zDj.of {N N' : zM} (h : zDj N) (e0 : N' 0 0 = N 0 0) (e10 : N' 10 0 = N 10 0) (hc : zHc N') : zDj N' := ⟨by rw [e0]; exact h.1, by rw [e10]; exact h.2.1, hc⟩
noncomputable def g_X5_performA (M : zM) (d : Nat) : Int32 × zM := ((zPf (zPl M 19) (M 4) d).1, zPs M 19 14 (zPf (zPl M 19) (M 4) d).2)
set_option maxRecDepth 10000 in
theorem c_X5_performA (M : zM) (sl : Nat → Option Nat) (ext : List va_E) (d : Nat) (hd : d < 15) (h : zDj (zPl M 19)) (hk : zPk d 9 (M 4)) : zC yy_X5_perform 0 0 [.ref 1, .retAddr d, .ref 19] (sh_X sl ext) M (some (.int (g_X5_performA M d).1)) (sh_X sl ext) (g_X5_performA M d).2 := by
  obtain ⟨⟨hn, h9⟩, ⟨hsz, h12⟩, hc⟩ := h
  rcases (show d = 0 ∨ d = 1 ∨ d = 2 ∨ d = 3 ∨ d = 4 ∨ d = 5 ∨ d = 6 ∨ d = 7 ∨ d = 8 ∨ d = 9 ∨ d = 10 ∨ d = 11 ∨ d = 12 ∨ d = 13 ∨ d = 14 by omega) with rfl | rfl | rfl | rfl | rfl | rfl | rfl | rfl | rfl | rfl | rfl | rfl | rfl | rfl | rfl
  · exact c_X5_perform M sl ext
  · exact c_X5_perform_1 M sl ext
  · exact c_X5_perform_2 M sl ext
  · have k0 := hk 0 (by decide) (by decide +kernel)
    exact c_X5_perform_3 M sl ext _ _ hn h9 k0.1 k0.2
  · have k0 := hk 0 (by decide) (by decide +kernel)
    have k1 := hk 1 (by decide) (by decide +kernel)
    exact c_X5_perform_4 M sl ext _ _ hc k0.1 k0.2 k1.1 k1.2
  · have k0 := hk 0 (by decide) (by decide +kernel)
    exact c_X5_perform_5 M sl ext _ hc k0.1 k0.2
  · exact c_X5_perform_6 M sl ext
  · have k0 := hk 0 (by decide) (by decide +kernel)
    have k1 := hk 1 (by decide) (by decide +kernel)
    exact c_X5_perform_7 M sl ext _ _ hc k0.1 k0.2 k1.1 k1.2
  · exact c_X5_perform_8 M sl ext _ _ hn h9 hsz h12 hc
  · have k0 := hk 0 (by decide) (by decide +kernel)
    exact c_X5_perform_9 M sl ext _ _ _ hn h9 hsz h12 k0.1 k0.2
  · exact c_X5_perform_10 M sl ext
  · have k0 := hk 0 (by decide) (by decide +kernel)
    exact c_X5_perform_11 M sl ext _ _ hn h9 k0.1 k0.2
  · have k0 := hk 0 (by decide) (by decide +kernel)
    exact c_X5_perform_12 M sl ext _ _ hn h9 k0.1 k0.2
  · have k0 := hk 0 (by decide) (by decide +kernel)
    have k1 := hk 1 (by decide) (by decide +kernel)
    exact c_X5_perform_13 M sl ext _ _ k0.1 k0.2 k1.1 k1.2
  · have k0 := hk 0 (by decide) (by decide +kernel)
    have k1 := hk 1 (by decide) (by decide +kernel)
    exact c_X5_perform_14 M sl ext _ _ k0.1 k0.2 k1.1 k1.2
theorem zHc.keep {N N' : zM} (h : zHc N) (e2 : N' 7 2 = N 7 2) (e0 : N 7 0 = 0 → N' 7 0 = 0) : zHc N' := by
  rcases h with h | ⟨c, h1, h2⟩
  · exact Or.inl (e0 h)
  · exact Or.inr ⟨c, h1, e2.trans h2⟩
theorem e_begin2 (M : zM) (t c r : Int32) : g_X1_begin M t c r 0 2 = c := by
  unfold g_X1_begin
  rw [fr_l_X1_begin_43 M t c r 0 (by decide)]
  rfl
theorem zPs10_write (A : zM) (s w : Nat) (x : Int32) : zPs A 10 2 (g_X6_write (zPl A 10) s w x) 10 = A 10 := by
  rw [zPs_in (by decide) (by decide)]
  exact fr_X6_write (zPl A 10) s w x 0 (by decide)
theorem e_keepOutcome10 (M : zM) (sz : Nat) (ch : Int32) : g_X4_keepOutcome M sz ch 10 = g_X6_makeRoom (zPl M 10) 0 := by
  simp only [g_X4_keepOutcome, m_X4_keepOutcome_4, m_X4_keepOutcome_3, m_X4_keepOutcome_2, m_X4_keepOutcome_1, zPs10_write]
  rw [zPs_in (by decide) (by decide)]
theorem e_misfits2 (M : zM) (k : Nat) (h5 : k ≠ 5) (h7 : k ≠ 7) : (g_X1_sealMisfitsAgain M).2 0 k = M 0 k := by
  show (zIt (l_X1_sealMisfitsAgain_4 M) 9 (0, M)).2 0 k = M 0 k
  refine zIt_inv (P := fun _ (s : Int32 × zM) => s.2 0 k = M 0 k) 9 (0, M) rfl ?_
  intro i _ s hs
  unfold l_X1_sealMisfitsAgain_4
  (repeat' split) <;> first
    | exact hs
    | (dsimp only
       rw [zU_ne (show 0 ≠ 2 by decide), zU_k h5, zU_k h7]
       exact hs)
set_option maxRecDepth 10000 in
theorem dj_zPf (N : zM) (q : Nat → Int32) (d : Nat) (hd : d < 15) (h : zDj N) (hk : zPk d 9 q) : zDj (zPf N q d).2 ∧ (zPf N q d).2 0 0 = N 0 0 := by
  obtain ⟨⟨hn, h9⟩, ⟨hsz, h12⟩, hc⟩ := id h
  have hS : ∀ (r : Nat) (x : Int32), zDj (g_X4_sealWith N r x).2 ∧ (g_X4_sealWith N r x).2 0 0 = N 0 0 := by
    intro r x
    have e0 : (g_X4_sealWith N r x).2 0 0 = N 0 0 := congrFun (fr_X4_sealWith N r x 0 (by decide)) 0
    refine ⟨h.of e0 (congrFun (fr_X4_sealWith N r x 10 (by decide)) 0) (hc.keep ?_ ?_), e0⟩
    · unfold g_X4_sealWith
      (repeat' split) <;> rfl
    · intro e
      unfold g_X4_sealWith
      (repeat' split) <;> exact e
  have hU : ∀ (r : Nat) (x : Int32), zDj (g_X4_changeUp N (N 0 0).toNatClampNeg r x).2 ∧ (g_X4_changeUp N (N 0 0).toNatClampNeg r x).2 0 0 = N 0 0 := by
    intro r x
    have e0 : (g_X4_changeUp N (N 0 0).toNatClampNeg r x).2 0 0 = N 0 0 := by
      unfold g_X4_changeUp
      (repeat' split)
      · rfl
      · show (g_X4_forgetLeader _ _ _ _) 0 0 = _
        rw [fr_X4_forgetLeader _ _ _ _ 0 (by decide)]
        rfl
      · rfl
    exact ⟨h.of e0 (congrFun (fr_X4_changeUp N _ r x 10 (by decide)) 0) (hc.of (fr_X4_changeUp N _ r x 7 (by decide))), e0⟩
  have hL : ∀ (a b : Nat) (x : Int32), zDj (g_X4_changeLink N a b x).2 ∧ (g_X4_changeLink N a b x).2 0 0 = N 0 0 := by
    intro a b x
    have f : ∀ o, o ≠ 6 → (g_X4_changeLink N a b x).2 o = N o := fun o ho => by
      unfold g_X4_changeLink
      (repeat' split) <;> (dsimp only; try rw [zU_ne ho, zU_ne ho])
    exact ⟨h.of (congrFun (f 0 (by decide)) 0) (congrFun (f 10 (by decide)) 0) (hc.of (f 7 (by decide))), congrFun (f 0 (by decide)) 0⟩
  have hT : ∀ (w : Nat) (x : Int32), zDj (g_X4_changeSetting N w x).2 ∧ (g_X4_changeSetting N w x).2 0 0 = N 0 0 := fun w x => ⟨h.of rfl rfl (hc.of rfl), rfl⟩
  rcases (show d = 0 ∨ d = 1 ∨ d = 2 ∨ d = 3 ∨ d = 4 ∨ d = 5 ∨ d = 6 ∨ d = 7 ∨ d = 8 ∨ d = 9 ∨ d = 10 ∨ d = 11 ∨ d = 12 ∨ d = 13 ∨ d = 14 by omega) with rfl | rfl | rfl | rfl | rfl | rfl | rfl | rfl | rfl | rfl | rfl | rfl | rfl | rfl | rfl
  · exact hT _ _
  · exact hT _ _
  · exact hT _ _
  · have k0 := hk 0 (by decide) (by decide +kernel)
    show zDj (g_X4_callBallot N (N 0 0).toNatClampNeg (q 0).toNatClampNeg).2 ∧ (g_X4_callBallot N (N 0 0).toNatClampNeg (q 0).toNatClampNeg).2 0 0 = N 0 0
    have e0 := congrFun (fr_X4_callBallot N (N 0 0).toNatClampNeg (q 0).toNatClampNeg 0 (by decide)) 0
    refine ⟨h.of e0 (congrFun (fr_X4_callBallot N _ _ 10 (by decide)) 0) ?_, e0⟩
    unfold g_X4_callBallot
    (repeat' split) <;> first
      | exact hc
      | (refine Or.inr ⟨(q 0).toNatClampNeg, k0.2, ?_⟩
         dsimp only
         unfold m_X4_callBallot_1
         rw [zPs_in (by decide) (by decide)]
         exact e_begin2 _ _ _ _)
  · exact hS _ _
  · exact hS _ _
  · show zDj (g_X4_closeSealing N).2 ∧ (g_X4_closeSealing N).2 0 0 = N 0 0
    have e0 := congrFun (fr_X4_closeSealing N 0 (by decide)) 0
    refine ⟨h.of e0 (congrFun (fr_X4_closeSealing N 10 (by decide)) 0) (hc.keep ?_ ?_), e0⟩
    · unfold g_X4_closeSealing
      (repeat' split) <;> rfl
    · intro e
      unfold g_X4_closeSealing
      rw [if_neg (by rw [e]; decide)]
      exact e
  · show zDj (g_X4_breakVote N (q 0).toNatClampNeg (q 1).toNatClampNeg (q 2)).2 ∧ (g_X4_breakVote N (q 0).toNatClampNeg (q 1).toNatClampNeg (q 2)).2 0 0 = N 0 0
    have e0 := congrFun (fr_X4_breakVote N (q 0).toNatClampNeg (q 1).toNatClampNeg (q 2) 0 (by decide)) 0
    have hb : ∀ (M : zM) (r : Nat) (c x : Int32), g_X1_putBroken M r c x 0 2 = M 0 2 ∧ g_X1_putBroken M r c x 0 0 = M 0 0 := by
      intro M r c x
      unfold g_X1_putBroken
      split <;> exact ⟨rfl, rfl⟩
    refine ⟨h.of e0 (congrFun (fr_X4_breakVote N _ _ _ 10 (by decide)) 0) (hc.keep ?_ ?_), e0⟩
    · unfold g_X4_breakVote
      (repeat' split) <;> first
        | rfl
        | (dsimp only
           rw [zPs_in (by decide) (by decide)]
           exact (hb _ _ _ _).1)
    · intro e
      unfold g_X4_breakVote
      rw [if_neg (by rw [e]; decide)]
      exact e
  · show zDj (g_X4_countVotes N (N 0 0).toNatClampNeg (N 10 0).toNatClampNeg).2 ∧ (g_X4_countVotes N (N 0 0).toNatClampNeg (N 10 0).toNatClampNeg).2 0 0 = N 0 0
    have e0 := congrFun (fr_X4_countVotes N (N 0 0).toNatClampNeg (N 10 0).toNatClampNeg 0 (by decide)) 0
    refine ⟨?_, e0⟩
    have hf : ∀ o, o ≠ 5 ∧ o ≠ 12 ∧ o ≠ 13 → (zIt (l_X4_countVotes_81 N (N 0 0).toNatClampNeg (N 10 0).toNatClampNeg) (N 0 0).toNatClampNeg (g_X7_take (zU N 7 0 3) (-1) 0)) o = (zU N 7 0 3) o := by
      intro o ho
      rw [fr_l_X4_countVotes_81 _ _ _ o ho.1, fr_X7_take _ _ _ o ho.2]
    have e7 : (m_X4_countVotes_1 N (N 0 0).toNatClampNeg (N 10 0).toNatClampNeg) 7 = (zU N 7 0 3) 7 := by
      unfold m_X4_countVotes_1
      rw [fr_X4_keepOutcome _ _ _ 7 (by decide), hf 7 (by decide)]
    have e10 : (m_X4_countVotes_1 N (N 0 0).toNatClampNeg (N 10 0).toNatClampNeg) 10 0 = nI (zMr (N 10 0).toNatClampNeg) := by
      unfold m_X4_countVotes_1
      rw [e_keepOutcome10]
      exact e_makeRoom ((congrFun (hf 10 (by decide)) 0).trans hsz) h12
    have hm : ¬ N 7 0 = 0 → zDj (m_X4_countVotes_1 N (N 0 0).toNatClampNeg (N 10 0).toNatClampNeg) := by
      intro hp
      have h0 : (m_X4_countVotes_1 N (N 0 0).toNatClampNeg (N 10 0).toNatClampNeg) 0 0 = N 0 0 := by
        unfold m_X4_countVotes_1
        rw [fr_X4_keepOutcome _ _ _ 0 (by decide), hf 0 (by decide)]
        rfl
      have hz := zMr_le h12
      refine ⟨by rw [h0]; exact h.1, by rw [e10, nI_clamp (by omega)]; exact ⟨rfl, hz⟩, ?_⟩
      rcases hc with hc | ⟨c, c1, c2⟩
      · exact absurd hc hp
      · exact Or.inr ⟨c, c1, by rw [e7]; exact c2⟩
    unfold g_X4_countVotes
    by_cases c1 : N 7 0 = 2
    · have hm := hm (by rw [c1]; decide)
      rw [if_pos c1]
      (repeat' split) <;> first
        | exact h
        | exact hm
    · rw [if_neg c1]
      exact h
  · show zDj (g_X4_askRecount N (N 0 0).toNatClampNeg (N 10 0).toNatClampNeg (q 0).toNatClampNeg).2 ∧ (g_X4_askRecount N (N 0 0).toNatClampNeg (N 10 0).toNatClampNeg (q 0).toNatClampNeg).2 0 0 = N 0 0
    have e0 := congrFun (fr_X4_askRecount N (N 0 0).toNatClampNeg (N 10 0).toNatClampNeg (q 0).toNatClampNeg 0 (by decide)) 0
    refine ⟨?_, e0⟩
    have f7 : (m_X4_askRecount_1 N (N 0 0).toNatClampNeg (N 10 0).toNatClampNeg (q 0).toNatClampNeg) 7 = (zU (zU N 7 4 ((N 7 4) + 1)) 7 0 2) 7 := by
      unfold m_X4_askRecount_1
      rw [fr_X4_forgetLeader _ _ _ _ 7 (by decide), zPs_out (by decide)]
    have f10 : (m_X4_askRecount_1 N (N 0 0).toNatClampNeg (N 10 0).toNatClampNeg (q 0).toNatClampNeg) 10 0 = nI (N 10 0).toNatClampNeg ∨ ∃ z, z ≤ 12 ∧ (m_X4_askRecount_1 N (N 0 0).toNatClampNeg (N 10 0).toNatClampNeg (q 0).toNatClampNeg) 10 0 = nI z := by
      unfold m_X4_askRecount_1
      rw [fr_X4_forgetLeader _ _ _ _ 10 (by decide), zPs_in (by decide) (by decide)]
      unfold g_X6_dropLatest
      split
      · exact Or.inl hsz
      · rename_i hp
        refine Or.inr ⟨(N 10 0).toNatClampNeg - 1, by omega, ?_⟩
        show N 10 0 - 1 = _
        have hp' : ¬ N 10 0 ≤ 0 := hp
        have := zPos hsz hp'
        rw [show N 10 0 - 1 = nI (N 10 0).toNatClampNeg - nI 1 from by rw [← hsz]; rfl, pk_sub (by omega)]
    have f0 : (m_X4_askRecount_1 N (N 0 0).toNatClampNeg (N 10 0).toNatClampNeg (q 0).toNatClampNeg) 0 = N 0 := by
      unfold m_X4_askRecount_1
      rw [fr_X4_forgetLeader _ _ _ _ 0 (by decide), zPs_out (by decide)]
      rfl
    unfold g_X4_askRecount
    by_cases c1 : N 7 0 = 3
    · rw [if_pos c1]
      (repeat' split) <;> first
        | exact h
        | (dsimp only
           refine ⟨?_, ?_, ?_⟩
           · rw [zPs_out (by decide), f0]
             exact h.1
           · rw [zPs_out (by decide)]
             rcases f10 with e | ⟨z, hz, e⟩
             · rw [e, nI_clamp (by omega)]
               exact ⟨rfl, h12⟩
             · rw [e, nI_clamp (by omega)]
               exact ⟨rfl, hz⟩
           · rcases hc with hc | ⟨c, c1', c2⟩
             · rw [c1] at hc
               exact absurd hc (by decide)
             · refine Or.inr ⟨c, c1', ?_⟩
               rw [zPs_in (by decide) (by decide)]
               show (g_X1_sealMisfitsAgain _).2 0 2 = _
               rw [e_misfits2 _ 2 (by decide) (by decide)]
               show (m_X4_askRecount_1 N _ _ _) 7 2 = _
               rw [f7]
               exact c2)
    · rw [if_neg c1]
      exact h
  · show zDj (g_X4_giveBallotUp N).2 ∧ (g_X4_giveBallotUp N).2 0 0 = N 0 0
    have e0 := congrFun (fr_X4_giveBallotUp N 0 (by decide)) 0
    refine ⟨h.of e0 (congrFun (fr_X4_giveBallotUp N 10 (by decide)) 0) ?_, e0⟩
    unfold g_X4_giveBallotUp
    split
    · exact hc
    · exact Or.inl rfl
  · exact hU _ _
  · exact hU _ _
  · exact hL _ _ _
  · exact hL _ _ _
