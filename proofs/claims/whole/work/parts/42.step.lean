/-! THE DEEDS, on both sides -/
theorem zU_s {M : zM} {o k : Nat} {x : Int32} : zU M o k x o k = x := by rw [zU_eq]; exact if_pos rfl
theorem zU_c {M : zM} {o k j : Nat} {x : Int32} : zU M o k x o j = if j = k then x else M o j := congrFun zU_eq j
theorem put_c {M : zM} {r w j : Nat} {v : Int32} : g_X10_put M r w v 1 j = if j = 10 + r * 9 + w then v else M 1 j := zU_c
theorem put_n {M : zM} {r w j : Nat} {v : Int32} (h : j ≠ 10 + r * 9 + w) : g_X10_put M r w v 1 j = M 1 j := zU_k h
/-- the SEAL, in ints and in longs -/
theorem sealM_n {a b c : Nat} (ha : a < 9) (hb : b ≤ 999) (hc : c < 2 ^ 30) : g_X10_sealOf (nI a) (nI b) (nI c) = nI ((31 * a + 17 * b + 7 * c + 5) * 40503 % 65536) := by
  unfold g_X10_sealOf
  rw [nI_l (by omega), nI_l (by omega), nI_l (by omega), show (31 : Int64) = lN 31 from rfl, show (17 : Int64) = lN 17 from rfl, show (7 : Int64) = lN 7 from rfl, show (5 : Int64) = lN 5 from rfl, show (40503 : Int64) = lN 40503 from rfl, show (65536 : Int64) = lN 65536 from rfl]
  simp only [lN_mul, lN_add]
  rw [pk_lRem (by omega) (by decide) (by decide), lN_i]
theorem sealC_n {a b c : Nat} : g_X9_sealNumber (nI a) (nI b) (nI c) = nI ((31 * a + 17 * b + 7 * c + 5) * 40503 % 65536) := by
  unfold g_X9_sealNumber
  rw [show (31 : Int32) = nI 31 from rfl, show (17 : Int32) = nI 17 from rfl, show (7 : Int32) = nI 7 from rfl, show (5 : Int32) = nI 5 from rfl, show (40503 : Int32) = nI 40503 from rfl]
  simp only [pk_mul, nI_add]
  rw [pk_and _ 16 rfl, show (nI ((31 * a + 17 * b + 7 * c + 5) * 40503)).toBitVec.toNat = (31 * a + 17 * b + 7 * c + 5) * 40503 % 2 ^ 32 from rfl, Nat.mod_mod_of_dvd _ (by decide)]
theorem seal_eq {a b c : Nat} (ha : a < 9) (hb : b ≤ 999) (hc : c < 2 ^ 30) : g_X10_sealOf (nI a) (nI b) (nI c) = g_X9_sealNumber (nI a) (nI b) (nI c) := (sealM_n ha hb hc).trans sealC_n.symm
/-- a deed on both sides: refused with its reason, or done -/
def qStep (n T : Nat) (N : zM) (a : Int32 × zM) (reason : Int32) (b : Int32 × zM) : Prop :=
  (¬ reason = 0 ∧ a.1 = -reason ∧ a.1 < 0 ∧ a.2 = N) ∨ (reason = 0 ∧ ¬ a.1 < 0 ∧ a.1 = b.1 ∧ ∃ oz, rl n oz T a.2 (b.2 1))
theorem qStep.no {n T : Nat} {N : zM} {b : Int32 × zM} (k : Int32) (h1 : ¬ k = 0) (h2 : -k < 0) : qStep n T N (-k, N) k b := Or.inl ⟨h1, rfl, h2, rfl⟩
theorem bc_pos {n : Nat} {S : Int32} (h9 : n ≤ 9) (h : qS n S) : ¬ g_J6_bitCount_0f7a4 S < 0 := by
  rw [bc_n h9 h]
  have := qN_le (f := qB S) n
  exact nI_pos (by omega)
theorem qS_addB {n r : Nat} {S : Int32} (h : qS n S) (hr : r < n) (h9 : n ≤ 9) : qS n (S ||| (1 <<< (nI r &&& 31))) := fun k hk => by
  rw [qB_add (by omega), h k hk, beq_eq_false_iff_ne.mpr (by omega)]
  rfl
theorem qS_delB {n r : Nat} {S : Int32} (h : qS n S) (hr : r < 32) : qS n (S &&& ((1 <<< (nI r &&& 31)) ^^^ (-1))) := fun k hk => by
  rw [qB_del hr, h k hk]
  rfl
section STEPS
variable {n oz T : Nat} {N M : zM}
theorem st_set (h : rl n oz T N (M 1)) {w : Nat} {x : Int32} (hw : w < 3) (hx : ∃ v, v ≤ 9 ∧ x = nI v) : ¬ (g_X4_changeSetting N w x).1 < 0 ∧ (g_X4_changeSetting N w x).1 = M 1 (1 + w) ∧ rl n oz T (g_X4_changeSetting N w x).2 (zU M 1 (1 + w) x 1) := by
  obtain ⟨a1, a2, a3, a4, a5, a6, a7, a8, a9, b1, b2, b3, b4, b5⟩ := id h
  have h9 : n ≤ 9 := a1.1
  have eN : ∀ o, o ≠ 1 → (g_X4_changeSetting N w x).2 o = N o := fun o ho => zU_ne ho
  have eW : ∀ k, k ≠ 1 + w → zU M 1 (1 + w) x 1 k = M 1 k := fun k hk => zU_k hk
  obtain ⟨v0, hv0, e0⟩ := (a3 w hw).2
  refine ⟨?_, (a3 w hw).1.symm, ⟨a1.of (congrFun (eN 0 (by omega)) 0) (eW 0 (by omega)), a2.of (congrFun (eN 0 (by omega)) 1) (fun r1 hr1 => eW _ (by omega)), ?_, a4.of (eN 2 (by omega)) (fun r1 hr1 => eW _ (by omega)), a5.of (eN 3 (by omega)) (fun r1 hr1 => eW _ (by omega)), a6.of (eN 4 (by omega)) (fun r1 hr1 => eW _ (by omega)), a7.of (eN 5 (by omega)) (fun r1 hr1 => eW _ (by omega)), a8.of (eN 6 (by omega)) (fun r1 hr1 => eW _ (by omega)), a9.of (fun k1 _ => congrFun (eN 7 (by omega)) k1) (fun k1 hk1 hk2 => eW _ (by omega)), b1.of (eN 7 (by omega)) (fun r1 _ => congrFun (eN 9 (by omega)) r1), b2.of (eN 7 (by omega)) (fun r1 _ => congrFun (eN 8 (by omega)) r1) (fun r1 _ => congrFun (eN 9 (by omega)) r1) (fun r1 k1 hr1 hk1 hk2 => eW _ (by omega)), b3.of (fun r1 k1 hr1 hk1 hk2 => eW _ (by omega)), b4.of (congrFun (eN 10 (by omega)) 0) (eN 11 (by omega)) (eW 9 (by omega)) (fun k1 hk1 => eW _ (by omega)), b5.of (eN 4 (by omega)) (congrFun (eN 7 (by omega)) 0) (congrFun (eN 7 (by omega)) 1) (eN 11 (by omega))⟩⟩
  · show ¬ N 1 w < 0
    rw [e0]
    exact nI_pos (by omega)
  · intro k hk
    show zU M 1 (1 + w) x 1 (1 + k) = zU N 1 w x 1 k ∧ ∃ v, v ≤ 9 ∧ zU N 1 w x 1 k = nI v
    rw [zU_c, zU_c]
    by_cases e : k = w
    · rw [if_pos (by omega), if_pos e]
      exact ⟨rfl, hx⟩
    · rw [if_neg (by omega), if_neg e]
      exact a3 k hk
theorem st_fresh (h : rl n oz T N (M 1)) {r : Nat} {x : Int32} (hr : r < n) (hx : ∃ v, v ≤ 999 ∧ x = nI v) : ¬ (g_X4_changeFresh N r x).1 < 0 ∧ (g_X4_changeFresh N r x).1 = g_X10_of M r 1 ∧ rl n oz T (g_X4_changeFresh N r x).2 (g_X10_put M r 1 x 1) := by
  obtain ⟨a1, a2, a3, a4, a5, a6, a7, a8, a9, b1, b2, b3, b4, b5⟩ := id h
  have h9 : n ≤ 9 := a1.1
  have eN : ∀ o, o ≠ 3 → (g_X4_changeFresh N r x).2 o = N o := fun o ho => zU_ne ho
  have eW : ∀ k, k ≠ 10 + r * 9 + 1 → g_X10_put M r 1 x 1 k = M 1 k := fun k hk => put_n hk
  obtain ⟨v0, hv0, e0⟩ := (a5 r hr).2
  refine ⟨?_, (a5 r hr).1.symm, ⟨a1.of (congrFun (eN 0 (by omega)) 0) (eW 0 (by omega)), a2.of (congrFun (eN 0 (by omega)) 1) (fun r1 hr1 => eW _ (by omega)), a3.of (eN 1 (by omega)) (fun k1 hk1 => eW _ (by omega)), a4.of (eN 2 (by omega)) (fun r1 hr1 => eW _ (by omega)), ?_, a6.of (eN 4 (by omega)) (fun r1 hr1 => eW _ (by omega)), a7.of (eN 5 (by omega)) (fun r1 hr1 => eW _ (by omega)), a8.of (eN 6 (by omega)) (fun r1 hr1 => eW _ (by omega)), a9.of (fun k1 _ => congrFun (eN 7 (by omega)) k1) (fun k1 hk1 hk2 => eW _ (by omega)), b1.of (eN 7 (by omega)) (fun r1 _ => congrFun (eN 9 (by omega)) r1), b2.of (eN 7 (by omega)) (fun r1 _ => congrFun (eN 8 (by omega)) r1) (fun r1 _ => congrFun (eN 9 (by omega)) r1) (fun r1 k1 hr1 hk1 hk2 => eW _ (by omega)), b3.of (fun r1 k1 hr1 hk1 hk2 => eW _ (by omega)), b4.of (congrFun (eN 10 (by omega)) 0) (eN 11 (by omega)) (eW 9 (by omega)) (fun k1 hk1 => eW _ (by omega)), b5.of (eN 4 (by omega)) (congrFun (eN 7 (by omega)) 0) (congrFun (eN 7 (by omega)) 1) (eN 11 (by omega))⟩⟩
  · show ¬ N 3 r < 0
    rw [e0]
    exact nI_pos (by omega)
  · intro k hk
    show g_X10_put M r 1 x 1 (10 + k * 9 + 1) = zU N 3 r x 3 k ∧ ∃ v, v ≤ 999 ∧ zU N 3 r x 3 k = nI v
    rw [put_c, zU_c]
    by_cases e : k = r
    · rw [if_pos (by omega), if_pos e]
      exact ⟨rfl, hx⟩
    · rw [if_neg (by omega), if_neg e]
      exact a5 k hk
theorem e_begin (A : zM) (t c r : Int32) : (∀ k, g_X1_begin A t c r 0 k = if k = 0 then 1 else if k = 1 then t else if k = 2 then c else if k = 3 then r else if k < 8 then 0 else A 0 k) ∧ (∀ k, k < 9 → g_X1_begin A t c r 1 k = 0) ∧ ∀ k, k < 9 → g_X1_begin A t c r 2 k = -1 := by
  unfold g_X1_begin
  refine ⟨fun k => ?_, ?_⟩
  · rw [fr_l_X1_begin_43 A t c r 0 (by decide)]
    simp only [zU_c]
    by_cases h0 : k = 0
    · subst h0; rfl
    by_cases h1 : k = 1
    · subst h1; rfl
    by_cases h2 : k = 2
    · subst h2; rfl
    by_cases h3 : k = 3
    · subst h3; rfl
    rw [if_neg h0, if_neg h1, if_neg h2, if_neg h3, if_neg h0, if_neg h1, if_neg h2, if_neg h3]
    by_cases h4 : k = 4
    · subst h4; rfl
    by_cases h5 : k = 5
    · subst h5; rfl
    by_cases h6 : k = 6
    · subst h6; rfl
    by_cases h7 : k = 7
    · subst h7; rfl
    rw [if_neg h4, if_neg h5, if_neg h6, if_neg h7, if_neg (by omega)]
  · have := zIt_inv (f := l_X1_begin_43 A t c r) (P := fun i (s : zM) => (∀ k, k < i → s 1 k = 0) ∧ ∀ k, k < i → s 2 k = -1) 9 (zU (zU (zU (zU (zU (zU (zU (zU A 0 0 1) 0 1 t) 0 2 c) 0 3 r) 0 4 0) 0 5 0) 0 6 0) 0 7 0) ⟨fun k hk => absurd hk (Nat.not_lt_zero k), fun k hk => absurd hk (Nat.not_lt_zero k)⟩ ?_
    · exact this
    · intro i _ s hs
      unfold l_X1_begin_43
      refine ⟨fun k hk => ?_, fun k hk => ?_⟩
      · rw [zU_ne (by decide), zU_c]
        by_cases e : k = i
        · rw [if_pos e]
        · rw [if_neg e]
          exact hs.1 k (by omega)
      · rw [zU_c]
        by_cases e : k = i
        · rw [if_pos e]
        · rw [if_neg e, zU_ne (by decide)]
          exact hs.2 k (by omega)
theorem st_give (h : rl n oz T N (M 1)) (hT : T < 2 ^ 30) : qStep n T N (g_X4_giveBallotUp N) (if M 1 4 = 0 then 17 else 0) (g_X10_giveIt M) := by
  obtain ⟨a1, a2, a3, a4, a5, a6, a7, a8, a9, b1, b2, b3, b4, b5⟩ := id h
  have h9 : n ≤ 9 := a1.1
  unfold g_X4_giveBallotUp
  rw [a9.1]
  by_cases hp : N 7 0 = 0
  · rw [if_pos hp, if_pos hp]
    exact qStep.no 17 (by decide) (by decide)
  · rw [if_neg hp, if_neg hp]
    obtain ⟨t, ht, et, -⟩ := b5.2.1 hp
    have hB := e_begin (zPl N 7) (-1) (-1) 0
    generalize hX : zPs N 7 3 (g_X1_clear (zPl N 7)) = X
    have eN : ∀ o, o < 7 ∨ 10 ≤ o → X o = N o := fun o ho => by rw [← hX]; exact zPs_out (by omega)
    have e7 : ∀ k, X 7 k = if k = 0 then 0 else g_X1_begin (zPl N 7) (-1) (-1) 0 0 k := fun k => by
      rw [← hX, zPs_in (by decide) (by decide)]
      exact zU_c
    have e8 : ∀ k, k < 9 → X 8 k = 0 := fun k hk => by
      rw [← hX, zPs_in (by decide) (by decide)]
      exact hB.2.1 k hk
    have e9 : ∀ k, k < 9 → X 9 k = -1 := fun k hk => by
      rw [← hX, zPs_in (by decide) (by decide)]
      exact hB.2.2 k hk
    have z0 : X 7 0 = 0 := e7 0
    have z3 : X 7 3 = 0 := by rw [e7 3, if_neg (by decide), hB.1]; rfl
    have z5 : X 7 5 = 0 := by rw [e7 5, if_neg (by decide), hB.1]; rfl
    have z6 : X 7 6 = 0 := by rw [e7 6, if_neg (by decide), hB.1]; rfl
    have z7 : X 7 7 = 0 := by rw [e7 7, if_neg (by decide), hB.1]; rfl
    have eW : ∀ k, k ≠ 4 → (g_X10_giveIt M).2 1 k = M 1 k := fun k hk => zU_k hk
    refine Or.inr ⟨rfl, ?_, ((a9.2.2 hp).1).symm, oz, ?_⟩
    · show ¬ N 7 1 < 0
      rw [et]
      exact nI_pos (by omega)
    · show rl n oz T X ((g_X10_giveIt M).2 1)
      refine ⟨a1.of (congrFun (eN 0 (by omega)) 0) (eW 0 (by omega)), a2.of (congrFun (eN 0 (by omega)) 1) (fun r1 hr1 => eW _ (by omega)), a3.of (eN 1 (by omega)) (fun k1 hk1 => eW _ (by omega)), a4.of (eN 2 (by omega)) (fun r1 hr1 => eW _ (by omega)), a5.of (eN 3 (by omega)) (fun r1 hr1 => eW _ (by omega)), a6.of (eN 4 (by omega)) (fun r1 hr1 => eW _ (by omega)), a7.of (eN 5 (by omega)) (fun r1 hr1 => eW _ (by omega)), a8.of (eN 6 (by omega)) (fun r1 hr1 => eW _ (by omega)), ?_, ?_, ?_, b3.of (fun r1 k1 hr1 hk1 hk2 => eW _ (by omega)), b4.of (congrFun (eN 10 (by omega)) 0) (eN 11 (by omega)) (eW 9 (by omega)) (fun k1 hk1 => eW _ (by omega)), ?_⟩
      · exact ⟨(show zU M 1 4 0 1 4 = 0 from zU_s).trans z0.symm, ⟨0, by decide, z0⟩, fun q => absurd z0 q⟩
      · refine ⟨⟨fun _ => z3, fun q => absurd (z0.symm.trans q) (by decide)⟩, ⟨?_, ?_, ?_, ?_⟩, fun r hr => ?_⟩
        · rw [z3]; exact qS_0 n
        · rw [z5]; exact qS_0 n
        · rw [z6]; exact qS_0 n
        · rw [z7]; exact qS_0 n
        · rw [z5, z6, z7, qB_0]
          exact ⟨fun q => (by cases q), fun q => (by cases q), fun q => (by cases q), fun _ _ => e9 r (by omega)⟩
      · exact fun q => absurd z0 q
      · refine ⟨fun r hr => ?_, fun q => absurd z0 q, fun j hj => ?_, fun q => absurd (z0.symm.trans q) (by decide)⟩
        · rw [eN 4 (by omega)]
          exact b5.1 r hr
        · obtain ⟨t2, h1, h2, h3, -⟩ := b5.2.2.1 j hj
          refine ⟨t2, h1, by rw [eN 11 (by omega)]; exact h2, by unfold qMj; rw [eN 4 (by omega)]; exact h3, fun q => ?_, fun q => ?_⟩
          · rcases q with q | q <;> exact absurd (z0.symm.trans q) (by decide)
          · exact absurd (z0.symm.trans q) (by decide)
theorem st_seal (h : rl n oz T N (M 1)) {r : Nat} (hr : r < n) (x : Int32) : qStep n T N (g_X4_sealWith N r x) (g_X10_noSeal M r) (g_X10_sealIt M n r x) := by
  obtain ⟨a1, a2, a3, a4, a5, a6, a7, a8, a9, b1, b2, b3, b4, b5⟩ := id h
  have h9 : n ≤ 9 := a1.1
  unfold g_X4_sealWith g_X10_noSeal
  rw [a9.1]
  by_cases hp : N 7 0 = 1
  · have hp0 : ¬ N 7 0 = 0 := by rw [hp]; decide
    have ev : g_X10_of M r 6 = nI (qSt N r) := (b2 hp0 r hr).1
    rw [if_pos hp, if_pos hp, m_onRoll a9 b1 (by omega), c_onRoll (by omega), has_q (by omega), has_q (by omega), c_reach h9 a9, m_reach h9 a2 a8 a9 hr, ev]
    simp only [bI_ite]
    have z6 : qB (N 7 6) r = false := by rw [(b1.1.2 hp).1, qB_0]
    have z7 : qB (N 7 7) r = false := by rw [(b1.1.2 hp).2, qB_0]
    cases hq : qB (N 7 3) r
    · exact qStep.no 6 (by decide) (by decide)
    · rw [if_pos rfl, if_pos rfl]
      cases hs : qB (N 7 5) r
      · have e0 : nI (qSt N r) = 0 := by
          unfold qSt
          rw [hs, z6, z7]
          rfl
        rw [if_neg Bool.false_ne_true, if_pos e0]
        cases hre : qRe N r
        · exact qStep.no 8 (by decide) (by decide)
        · rw [if_pos rfl, if_pos rfl]
          generalize hX : zPs N 7 3 (g_X1_putSeal (zPl N 7) r x) = X
          have eN : ∀ o, o ≠ 7 ∧ o ≠ 8 → X o = N o := fun o ho => by
            rw [← hX]
            refine zPs_fr fun j hj e => ?_
            unfold g_X1_putSeal
            rw [zU_ne (by omega), zU_ne (by omega)]
            rfl
          have e7 : ∀ k, X 7 k = if k = 5 then (N 7 5 ||| (1 <<< (nI r &&& 31))) else N 7 k := fun k => by
            rw [← hX, zPs_in (by decide) (by decide)]
            unfold g_X1_putSeal
            rw [zU_ne (by decide), zU_c]
            rfl
          have e8 : ∀ k, X 8 k = if k = r then x else N 8 k := fun k => by
            rw [← hX, zPs_in (by decide) (by decide)]
            unfold g_X1_putSeal
            rw [zU_c]
            rfl
          have e75 : X 7 5 = (N 7 5 ||| (1 <<< (nI r &&& 31))) := e7 5
          have e7n : ∀ k, k ≠ 5 → X 7 k = N 7 k := fun k hk => (e7 k).trans (if_neg hk)
          have eW : ∀ k, k ≠ 10 + r * 9 + 6 → k ≠ 10 + r * 9 + 8 → (g_X10_sealIt M n r x).2 1 k = M 1 k := fun k h6 h8 => (put_n h8).trans (put_n h6)
          have w6 : (g_X10_sealIt M n r x).2 1 (10 + r * 9 + 6) = 1 := (put_n (by omega)).trans (by rw [put_c, if_pos rfl])
          have w8 : (g_X10_sealIt M n r x).2 1 (10 + r * 9 + 8) = x := by
            show g_X10_put (g_X10_put M r 6 1) r 8 x 1 _ = _
            rw [put_c, if_pos rfl]
          have hR : rl n oz T X ((g_X10_sealIt M n r x).2 1) := by
            have eW : ∀ k, k ≠ 10 + r * 9 + 6 ∧ k ≠ 10 + r * 9 + 8 → (g_X10_sealIt M n r x).2 1 k = M 1 k := fun k hk => eW k hk.1 hk.2
            refine ⟨a1.of (congrFun (eN 0 (by omega)) 0) (eW 0 (by omega)), a2.of (congrFun (eN 0 (by omega)) 1) (fun r1 hr1 => eW _ (by omega)), a3.of (eN 1 (by omega)) (fun k1 hk1 => eW _ (by omega)), a4.of (eN 2 (by omega)) (fun r1 hr1 => eW _ (by omega)), a5.of (eN 3 (by omega)) (fun r1 hr1 => eW _ (by omega)), a6.of (eN 4 (by omega)) (fun r1 hr1 => eW _ (by omega)), a7.of (eN 5 (by omega)) (fun r1 hr1 => eW _ (by omega)), a8.of (eN 6 (by omega)) (fun r1 hr1 => eW _ (by omega)), a9.of (fun k1 hk1 => e7n k1 (by omega)) (fun k1 hk1 hk2 => eW _ (by omega)), ?_, ?_, ?_, b4.of (congrFun (eN 10 (by omega)) 0) (eN 11 (by omega)) (eW 9 (by omega)) (fun k1 hk1 => eW _ (by omega)), b5.of (eN 4 (by omega)) (e7n 0 (by decide)) (e7n 1 (by decide)) (eN 11 (by omega))⟩
            · refine ⟨?_, ?_, fun r1 hr1 => ?_⟩
              · rw [e7n 0 (by decide), e7n 3 (by decide), e7n 6 (by decide), e7n 7 (by decide)]
                exact b1.1
              · rw [e7n 3 (by decide), e7n 6 (by decide), e7n 7 (by decide), e75]
                exact ⟨b1.2.1.1, qS_addB b1.2.1.2.1 hr h9, b1.2.1.2.2.1, b1.2.1.2.2.2⟩
              · rw [e7n 3 (by decide), e7n 6 (by decide), e7n 7 (by decide), e75, qB_add (by omega), eN 9 (by omega)]
                refine ⟨fun q => ?_, (b1.2.2 r1 hr1).2⟩
                rw [(b1.1.2 hp).1, (b1.1.2 hp).2, qB_0]
                refine ⟨?_, rfl, rfl⟩
                by_cases e : r1 = r
                · rw [e]; exact hq
                · rw [beq_eq_false_iff_ne.mpr e, Bool.or_false] at q
                  exact ((b1.2.2 r1 hr1).1 q).1
            · intro _ r1 hr1
              by_cases e : r1 = r
              · subst e
                rw [w6, w8, eW _ (by omega), eN 9 (by omega), e8, if_pos rfl]
                refine ⟨?_, (b2 hp0 r1 hr1).2.1, rfl⟩
                unfold qSt
                rw [e75, qB_add (by omega), beq_self_eq_true, Bool.or_true]
                rfl
              · rw [eW _ (by omega), eW _ (by omega), eW _ (by omega), eN 9 (by omega), e8, if_neg e]
                refine ⟨?_, (b2 hp0 r1 hr1).2⟩
                rw [(b2 hp0 r1 hr1).1]
                unfold qSt
                rw [e75, qB_add (by omega), beq_eq_false_iff_ne.mpr e, Bool.or_false, e7n 6 (by decide), e7n 7 (by decide)]
            · intro r1 hr1 q
              by_cases e : r1 = r
              · subst e
                rw [w6] at q
                exact absurd q (by decide)
              · rw [eW _ (by omega)] at q ⊢
                exact b3 r1 hr1 q
          obtain ⟨a1', a2', a3', a4', a5', a6', a7', a8', a9', b1', b2', b3', b4', b5'⟩ := id hR
          have eA : g_J6_bitCount_0f7a4 ((g_X1_putSeal (zPl N 7) r x) 0 5) = g_J6_bitCount_0f7a4 (X 7 5) := by
            rw [← hX, zPs_in (by decide) (by decide)]
          refine Or.inr ⟨rfl, ?_, ?_, oz, hR⟩
          · show ¬ g_J6_bitCount_0f7a4 ((g_X1_putSeal (zPl N 7) r x) 0 5) < 0
            rw [eA]
            exact bc_pos h9 b1'.2.1.2.1
          · show g_J6_bitCount_0f7a4 ((g_X1_putSeal (zPl N 7) r x) 0 5) = g_X10_votesOf (g_X10_sealIt M n r x).2 n 1
            rw [eA, m_sealed h9 a9' b1' b2']
      · have e0 : nI (qSt N r) = 1 := by
          unfold qSt
          rw [hs]
          rfl
        rw [if_pos rfl, if_neg (by rw [e0]; decide)]
        exact qStep.no 7 (by decide) (by decide)
  · rw [if_neg hp, if_neg hp]
    exact qStep.no 5 (by decide) (by decide)
end STEPS
