/-! AN EMPTY OFFICE, and a replica more, on both sides -/
section ADD
variable {n : Nat} {N M : zM}
theorem m_begin (R : zM) : ∀ k, k < 187 → g_X10_begin R 1 k = if k = 6 then -1 else if k = 3 then 1 else if k = 2 then 1 else if k = 1 then 2 else 0 := by
  intro k hk
  unfold g_X10_begin
  rw [zU_c, zU_c, zU_c, zU_c]
  have := zIt_inv (f := l_X10_begin_2 R) (P := fun i (s : zM) => ∀ k, k < i → s 1 k = 0) 187 R (fun k hk => absurd hk (Nat.not_lt_zero k)) ?_
  · rw [this k hk]
  · intro i _ s hs k hk
    unfold l_X10_begin_2
    rw [zU_c]
    by_cases e : k = i
    · rw [if_pos e]
    · rw [if_neg e]
      exact hs k (by omega)
/-- an office that is being opened: n replicas so far, all up, no ballot -/
def rl0 (n : Nat) (N M : zM) : Prop := rl n 0 0 N (M 1) ∧ N 7 0 = 0 ∧ (∀ k, qB (N 0 1) k = decide (k < n)) ∧ (∀ k, k < 9 → N 9 k = -1) ∧ ∀ r c, n ≤ r → r < 9 → c < 9 → M 1 (10 + r * 9 + c) = 0
theorem st_empty (A R : zM) : rl0 0 (g_X4_makeEmpty A) (g_X10_begin R) := by
  have hb := m_begin R
  have hB : ∀ Z : zM, (∀ k, g_X1_clear Z 0 k = if k = 0 then 0 else g_X1_begin Z (-1) (-1) 0 0 k) ∧ (∀ k, k < 9 → g_X1_clear Z 1 k = 0) ∧ ∀ k, k < 9 → g_X1_clear Z 2 k = -1 := fun Z => by
    have := e_begin Z (-1) (-1) 0
    refine ⟨fun k => zU_c, fun k hk => ?_, fun k hk => ?_⟩
    · unfold g_X1_clear
      rw [zU_ne (by decide)]
      exact this.2.1 k hk
    · unfold g_X1_clear
      rw [zU_ne (by decide)]
      exact this.2.2 k hk
  have hE : ∀ o, o ≠ 10 → g_X4_makeEmpty A o = m_X4_makeEmpty_1 A o := fun o ho => zU_ne ho
  have x10 : g_X4_makeEmpty A 10 0 = 0 := zU_s
  have x0 : g_X4_makeEmpty A 0 0 = 0 := by
    rw [hE 0 (by decide)]
    unfold m_X4_makeEmpty_1
    rw [zPs_out (by decide), zUa_ne (by decide), zU_k (by decide), zU_s]
  have x01 : g_X4_makeEmpty A 0 1 = 0 := by
    rw [hE 0 (by decide)]
    unfold m_X4_makeEmpty_1
    rw [zPs_out (by decide), zUa_ne (by decide), zU_s]
  have x1 : ∀ k, k < 3 → g_X4_makeEmpty A 1 k = ([2, 1, 1] : List Int32).getD k 0 := fun k hk => by
    rw [hE 1 (by decide)]
    unfold m_X4_makeEmpty_1
    rw [zPs_out (by decide), zUa_eq, pk_cpy_in (by omega) (by omega), Nat.sub_zero, Nat.zero_add]
  have x7 : ∀ k, g_X4_makeEmpty A 7 k = if k = 0 then 0 else if k = 1 then -1 else if k = 2 then -1 else if k = 3 then 0 else if k < 8 then 0 else A 7 k := fun k => by
    rw [hE 7 (by decide)]
    unfold m_X4_makeEmpty_1
    rw [zPs_in (by decide) (by decide), (hB _).1, (e_begin _ _ _ _).1]
    by_cases h0 : k = 0
    · rw [if_pos h0, if_pos h0]
    · rw [if_neg h0, if_neg h0, if_neg h0]
      rfl
  have z3 : g_X4_makeEmpty A 7 3 = 0 := x7 3
  have z5 : g_X4_makeEmpty A 7 5 = 0 := x7 5
  have z6 : g_X4_makeEmpty A 7 6 = 0 := x7 6
  have z7 : g_X4_makeEmpty A 7 7 = 0 := x7 7
  have z0 : g_X4_makeEmpty A 7 0 = 0 := x7 0
  refine ⟨⟨⟨by decide, x0, hb 0 (by decide)⟩, ⟨by rw [x01]; exact qS_0 0, fun r hr => absurd hr (Nat.not_lt_zero r)⟩, fun k hk => ?_, fun r hr => absurd hr (Nat.not_lt_zero r), fun r hr => absurd hr (Nat.not_lt_zero r), fun r hr => absurd hr (Nat.not_lt_zero r), fun r hr => absurd hr (Nat.not_lt_zero r), fun r hr => absurd hr (Nat.not_lt_zero r), ⟨(hb 4 (by decide)).trans z0.symm, ⟨0, by decide, z0⟩, fun q => absurd z0 q⟩, ⟨⟨fun _ => z3, fun q => absurd (z0.symm.trans q) (by decide)⟩, ⟨by rw [z3]; exact qS_0 0, by rw [z5]; exact qS_0 0, by rw [z6]; exact qS_0 0, by rw [z7]; exact qS_0 0⟩, fun r hr => absurd hr (Nat.not_lt_zero r)⟩, fun q => absurd z0 q, fun r hr q => ?_, ⟨by decide, x10, hb 9 (by decide), fun k hk => absurd hk (by omega)⟩, ⟨fun r hr => absurd hr (Nat.not_lt_zero r), fun q => absurd z0 q, fun j hj => absurd hj (Nat.not_lt_zero j), fun q => absurd (z0.symm.trans q) (by decide)⟩⟩, z0, fun k => by rw [x01, qB_0]; exact (decide_eq_false (Nat.not_lt_zero k)).symm, fun k hk => ?_, fun r c _ hr hc => ?_⟩
  · rw [hb (1 + k) (by omega), x1 k hk]
    rcases (show k = 0 ∨ k = 1 ∨ k = 2 by omega) with rfl | rfl | rfl
    · exact ⟨rfl, 2, by decide, rfl⟩
    · exact ⟨rfl, 1, by decide, rfl⟩
    · exact ⟨rfl, 1, by decide, rfl⟩
  · rw [hb _ (by omega), if_neg (by omega), if_neg (by omega), if_neg (by omega), if_neg (by omega)] at q
    exact absurd q (by decide)
  · rw [hE 9 (by decide)]
    unfold m_X4_makeEmpty_1
    rw [zPs_in (by decide) (by decide)]
    exact (hB _).2.2 k hk
  · rw [hb _ (by omega), if_neg (by omega), if_neg (by omega), if_neg (by omega), if_neg (by omega)]
theorem st_add (h : rl0 n N M) (hn : n < 9) {age fresh : Int32} (ha : ∃ a, a ≤ 99 ∧ age = nI a) (hf : ∃ f, f ≤ 999 ∧ fresh = nI f) : rl0 (n + 1) (g_X4_addReplica N n age fresh) (g_X10_addReplica M n age fresh) := by
  obtain ⟨h, hph, hup, hfd, hz⟩ := h
  have oz : Nat := 0
  obtain ⟨a1, a2, a3, a4, a5, a6, a7, a8, a9, b1, b2, b3, b4, b5⟩ := id h
  have h9 : n ≤ 9 := a1.1
  have eB : (1 <<< ((N 0 0) &&& 31) : Int32) = 1 <<< (nI n &&& 31) := by rw [a1.2.1]
  -- the class
  have hC : g_X4_addReplica N n age fresh = m_X4_addReplica_1 N n age fresh := by
    unfold g_X4_addReplica
    rw [a1.2.1, if_pos (show nI n < 9 from nI_lt (b := 9) hn (by decide))]
  rw [hC]
  unfold m_X4_addReplica_1
  generalize hB0 : (zU (zU (zU (zU (zU (zU (zU N 0 0 ((N 0 0) + 1)) 2 n age) 3 n fresh) 4 n 0) 5 n (-1)) 0 1 ((N 0 1) ||| (1 <<< ((N 0 0) &&& 31)))) 6 n ((N 0 1) ||| (1 <<< ((N 0 0) &&& 31)))) = B0
  have hX := zIt_inv (f := l_X4_addReplica_78 N n age fresh) (P := fun i (s : zM) => (∀ o, o ≠ 6 → s o = B0 o) ∧ ∀ k, s 6 k = if k < i then B0 6 k ||| (1 <<< (nI n &&& 31)) else B0 6 k) n B0 ⟨fun _ _ => rfl, fun k => (if_neg (Nat.not_lt_zero k)).symm⟩ ?_
  case refine_1 =>
    intro i hi s hs
    unfold l_X4_addReplica_78
    rw [eB]
    refine ⟨fun o ho => (zU_ne ho).trans (hs.1 o ho), fun k => ?_⟩
    rw [zU_c]
    by_cases e : k = i
    · rw [if_pos e, e, if_pos (Nat.lt_succ_self i), hs.2 i, if_neg (Nat.lt_irrefl i)]
    · rw [if_neg e, hs.2 k]
      by_cases q : k < i
      · rw [if_pos q, if_pos (by omega)]
      · rw [if_neg q, if_neg (by omega)]
  generalize zIt (l_X4_addReplica_78 N n age fresh) n B0 = X at *
  have c00 : X 0 0 = nI (n + 1) := by
    rw [hX.1 0 (by decide), ← hB0, zU_ne (show (0 : Nat) ≠ 6 by decide), zU_k (show (0 : Nat) ≠ 1 by decide), zU_ne (show (0 : Nat) ≠ 5 by decide), zU_ne (show (0 : Nat) ≠ 4 by decide), zU_ne (show (0 : Nat) ≠ 3 by decide), zU_ne (show (0 : Nat) ≠ 2 by decide), zU_s, a1.2.1, nI_1]
  have c01 : X 0 1 = (N 0 1 ||| (1 <<< (nI n &&& 31))) := by
    rw [hX.1 0 (by decide), ← hB0, zU_ne (show (0 : Nat) ≠ 6 by decide), zU_s, eB]
  have c2 : ∀ k, X 2 k = if k = n then age else N 2 k := fun k => by
    rw [hX.1 2 (by decide), ← hB0, zU_ne (show (2 : Nat) ≠ 6 by decide), zU_ne (show (2 : Nat) ≠ 0 by decide), zU_ne (show (2 : Nat) ≠ 5 by decide), zU_ne (show (2 : Nat) ≠ 4 by decide), zU_ne (show (2 : Nat) ≠ 3 by decide), zU_c, zU_ne (show (2 : Nat) ≠ 0 by decide)]
  have c3 : ∀ k, X 3 k = if k = n then fresh else N 3 k := fun k => by
    rw [hX.1 3 (by decide), ← hB0, zU_ne (show (3 : Nat) ≠ 6 by decide), zU_ne (show (3 : Nat) ≠ 0 by decide), zU_ne (show (3 : Nat) ≠ 5 by decide), zU_ne (show (3 : Nat) ≠ 4 by decide), zU_c, zU_ne (show (3 : Nat) ≠ 2 by decide), zU_ne (show (3 : Nat) ≠ 0 by decide)]
  have c4 : ∀ k, X 4 k = if k = n then 0 else N 4 k := fun k => by
    rw [hX.1 4 (by decide), ← hB0, zU_ne (show (4 : Nat) ≠ 6 by decide), zU_ne (show (4 : Nat) ≠ 0 by decide), zU_ne (show (4 : Nat) ≠ 5 by decide), zU_c, zU_ne (show (4 : Nat) ≠ 3 by decide), zU_ne (show (4 : Nat) ≠ 2 by decide), zU_ne (show (4 : Nat) ≠ 0 by decide)]
  have c5 : ∀ k, X 5 k = if k = n then -1 else N 5 k := fun k => by
    rw [hX.1 5 (by decide), ← hB0, zU_ne (show (5 : Nat) ≠ 6 by decide), zU_ne (show (5 : Nat) ≠ 0 by decide), zU_c, zU_ne (show (5 : Nat) ≠ 4 by decide), zU_ne (show (5 : Nat) ≠ 3 by decide), zU_ne (show (5 : Nat) ≠ 2 by decide), zU_ne (show (5 : Nat) ≠ 0 by decide)]
  have b6 : ∀ k, B0 6 k = if k = n then (N 0 1 ||| (1 <<< (nI n &&& 31))) else N 6 k := fun k => by
    rw [← hB0, zU_c, eB, zU_ne (show (6 : Nat) ≠ 0 by decide), zU_ne (show (6 : Nat) ≠ 5 by decide), zU_ne (show (6 : Nat) ≠ 4 by decide), zU_ne (show (6 : Nat) ≠ 3 by decide), zU_ne (show (6 : Nat) ≠ 2 by decide), zU_ne (show (6 : Nat) ≠ 0 by decide)]
  have eN : ∀ o, (o = 1 ∨ 7 ≤ o) → X o = N o := fun o ho => by
    rw [hX.1 o (by omega), ← hB0, zU_ne (show o ≠ 6 by omega), zU_ne (show o ≠ 0 by omega), zU_ne (show o ≠ 5 by omega), zU_ne (show o ≠ 4 by omega), zU_ne (show o ≠ 3 by omega), zU_ne (show o ≠ 2 by omega), zU_ne (show o ≠ 0 by omega)]
  have qU : ∀ k, qB (X 0 1) k = decide (k < n + 1) := fun k => by
    rw [c01, qB_add (by omega), hup k]
    by_cases e : k = n
    · subst e
      rw [beq_self_eq_true, Bool.or_true, decide_eq_true (Nat.lt_succ_self k)]
    · rw [beq_eq_false_iff_ne.mpr e, Bool.or_false]
      exact decide_eq_decide.mpr (by omega)
  have q6n : ∀ k, qB (X 6 n) k = decide (k < n + 1) := fun k => by
    rw [hX.2 n, if_neg (Nat.lt_irrefl n), b6, if_pos rfl, ← c01]
    exact qU k
  have q6 : ∀ j k, j < n → qB (X 6 j) k = (qB (N 6 j) k || k == n) := fun j k hj => by
    rw [hX.2 j, if_pos hj, b6, if_neg (by omega), qB_add (by omega)]
  -- the reference
  have eM : g_X10_addReplica M n age fresh = zU (r_X10_addReplica_46 M n age fresh) 1 0 (((r_X10_addReplica_46 M n age fresh) 1 0) + 1) := rfl
  rw [eM]
  unfold r_X10_addReplica_46
  generalize hD0 : g_X10_put (g_X10_put (g_X10_put (g_X10_put (g_X10_put M n 0 age) n 1 fresh) n 2 1) n 4 (-1)) n 7 (-1) = D0
  have hD : ∀ k, D0 1 k = if k = 10 + n * 9 + 7 then -1 else if k = 10 + n * 9 + 4 then -1 else if k = 10 + n * 9 + 2 then 1 else if k = 10 + n * 9 + 1 then fresh else if k = 10 + n * 9 + 0 then age else M 1 k := fun k => by
    rw [← hD0, put_c, put_c, put_c, put_c, put_c]
  have hR := zIt_inv (f := l_X10_addReplica_46 M n age fresh) (P := fun i (s : zM) => (∀ k, (k < 10 ∨ 91 ≤ k ∨ (k - 10) % 9 ≠ 5) → s 1 k = D0 1 k) ∧ (∀ j k, j < n → qB (s 1 (10 + j * 9 + 5)) k = (qB (M 1 (10 + j * 9 + 5)) k || (decide (j < i) && k == n))) ∧ (∀ k, qB (s 1 (10 + n * 9 + 5)) k = decide (k < i)) ∧ ∀ j, n < j → j < 9 → s 1 (10 + j * 9 + 5) = 0) n D0 ⟨fun _ _ => rfl, fun j k hj => ?_, fun k => ?_, fun j h1 h2 => ?_⟩ ?_
  case refine_1 =>
    rw [hD, if_neg (by omega), if_neg (by omega), if_neg (by omega), if_neg (by omega), if_neg (by omega), decide_eq_false (Nat.not_lt_zero j), Bool.false_and, Bool.or_false]
  case refine_2 =>
    rw [hD, if_neg (by omega), if_neg (by omega), if_neg (by omega), if_neg (by omega), if_neg (by omega), hz n 5 (Nat.le_refl n) hn (by decide), qB_0, decide_eq_false (Nat.not_lt_zero k)]
  case refine_3 =>
    rw [hD, if_neg (by omega), if_neg (by omega), if_neg (by omega), if_neg (by omega), if_neg (by omega)]
    exact hz j 5 (by omega) h2 (by decide)
  case refine_4 =>
    intro i hi s hs
    obtain ⟨s1, s2, s3, s4⟩ := hs
    have eL : l_X10_addReplica_46 M n age fresh i s = g_X10_put (g_X10_put s i 5 ((g_X10_of s i 5) ||| (1 <<< (nI n &&& 31)))) n 5 ((g_X10_of (g_X10_put s i 5 ((g_X10_of s i 5) ||| (1 <<< (nI n &&& 31)))) n 5) ||| (1 <<< (nI i &&& 31))) := by
      unfold l_X10_addReplica_46 g_X10_link m_X10_link_1
      rw [if_neg (by decide), if_neg (by decide)]
    rw [eL]
    refine ⟨fun k hk => ?_, fun j k hj => ?_, fun k => ?_, fun j h1 h2 => ?_⟩
    · rw [put_n (by omega), put_n (by omega)]
      exact s1 k hk
    · rw [put_n (by omega), put_c]
      by_cases e : j = i
      · subst e
        rw [if_pos rfl, qB_add (by omega)]
        show (qB (s 1 (10 + j * 9 + 5)) k || k == n) = _
        rw [s2 j k hj, decide_eq_false (Nat.lt_irrefl j), decide_eq_true (Nat.lt_succ_self j), Bool.false_and, Bool.or_false, Bool.true_and]
      · rw [if_neg (by omega), s2 j k hj]
        congr 2
        exact decide_eq_decide.mpr (by omega)
    · rw [put_c, if_pos rfl, qB_add (by omega)]
      have : g_X10_of (g_X10_put s i 5 ((g_X10_of s i 5) ||| (1 <<< (nI n &&& 31)))) n 5 = s 1 (10 + n * 9 + 5) := put_n (by omega)
      rw [this, s3 k]
      by_cases e : k = i
      · subst e
        rw [beq_self_eq_true, Bool.or_true, decide_eq_true (Nat.lt_succ_self k)]
      · rw [beq_eq_false_iff_ne.mpr e, Bool.or_false]
        exact decide_eq_decide.mpr (by omega)
    · rw [put_n (by omega), put_n (by omega)]
      exact s4 j h1 h2
  generalize zIt (l_X10_addReplica_46 M n age fresh) n D0 = R at *
  obtain ⟨r1, r2, r3, r4⟩ := hR
  generalize hY : zU R 1 0 (R 1 0 + 1) = Y
  have yR : ∀ k, k ≠ 0 → Y 1 k = R 1 k := fun k hk => by rw [← hY]; exact zU_k hk
  have y0 : Y 1 0 = nI (n + 1) := by
    rw [← hY, zU_s, r1 0 (by decide), hD, if_neg (by omega), if_neg (by omega), if_neg (by omega), if_neg (by omega), if_neg (by omega), a1.2.2, nI_1]
  have yf : ∀ j c, j < 9 → c < 9 → c ≠ 5 → Y 1 (10 + j * 9 + c) = if j = n then (if c = 7 then -1 else if c = 4 then -1 else if c = 2 then 1 else if c = 1 then fresh else if c = 0 then age else 0) else M 1 (10 + j * 9 + c) := fun j c hj hc h5 => by
    rw [yR _ (by omega), r1 _ (by omega), hD]
    by_cases e : j = n
    · subst e
      rw [if_pos rfl]
      by_cases e7 : c = 7
      · rw [if_pos (by omega), if_pos e7]
      rw [if_neg (by omega), if_neg e7]
      by_cases e4 : c = 4
      · rw [if_pos (by omega), if_pos e4]
      rw [if_neg (by omega), if_neg e4]
      by_cases e2 : c = 2
      · rw [if_pos (by omega), if_pos e2]
      rw [if_neg (by omega), if_neg e2]
      by_cases e1 : c = 1
      · rw [if_pos (by omega), if_pos e1]
      rw [if_neg (by omega), if_neg e1]
      by_cases e0 : c = 0
      · rw [if_pos (by omega), if_pos e0]
      rw [if_neg (by omega), if_neg e0]
      exact hz j c (Nat.le_refl j) hj hc
    · rw [if_neg (by omega), if_neg (by omega), if_neg (by omega), if_neg (by omega), if_neg (by omega), if_neg e]
  have yh : ∀ k, 0 < k → (k < 10 ∨ 91 ≤ k) → Y 1 k = M 1 k := fun k h0 hk => by
    rw [yR _ (by omega), r1 _ (by omega), hD, if_neg (by omega), if_neg (by omega), if_neg (by omega), if_neg (by omega), if_neg (by omega)]
  have y6 : ∀ j, j < 9 → Y 1 (10 + j * 9 + 6) = M 1 (10 + j * 9 + 6) := fun j hj => by
    rw [yf j 6 hj (by decide) (by decide)]
    by_cases e : j = n
    · rw [if_pos e, hz j 6 (by omega) hj (by decide)]
      rfl
    · rw [if_neg e]
  have x7 : ∀ k, X 7 k = N 7 k := fun k => by rw [eN 7 (by omega)]
  refine ⟨⟨⟨by omega, c00, y0⟩, ⟨fun k hk => by rw [qU]; exact decide_eq_false (by omega), fun j hj => ?_⟩, a3.of (eN 1 (by omega)) (fun k hk => yh _ (by omega) (by omega)), fun j hj => ?_, fun j hj => ?_, fun j hj => ?_, fun j hj => ?_, fun j hj => ?_, ⟨?_, ?_, fun q => absurd hph (by rw [← x7]; exact q)⟩, ?_, fun q => absurd hph (by rw [← x7]; exact q), fun j hj q => ?_, ⟨b4.1, by rw [eN 10 (by omega)]; exact b4.2.1, (yh 9 (by decide) (by decide)).trans b4.2.2.1, fun k hk => absurd hk (by omega)⟩, ⟨fun j hj => ?_, fun q => absurd hph (by rw [← x7]; exact q), fun j hj => absurd hj (Nat.not_lt_zero j), fun q => absurd (hph.symm.trans ((x7 0).symm.trans q)) (by decide)⟩⟩, by rw [x7]; exact hph, qU, fun k hk => by rw [eN 9 (by omega)]; exact hfd k hk, fun j c h1 h2 h3 => ?_⟩
  · rw [yf j 2 (by omega) (by decide) (by decide), qU, decide_eq_true hj]
    by_cases e : j = n
    · rw [if_pos e]
      rfl
    · rw [if_neg e, a2.2 j (by omega), hup j, decide_eq_true (by omega)]
  · rw [yf j 0 (by omega) (by decide) (by decide), c2]
    by_cases e : j = n
    · rw [if_pos e, if_pos e]
      exact ⟨rfl, ha⟩
    · rw [if_neg e, if_neg e]
      exact a4 j (by omega)
  · rw [yf j 1 (by omega) (by decide) (by decide), c3]
    by_cases e : j = n
    · rw [if_pos e, if_pos e]
      exact ⟨rfl, hf⟩
    · rw [if_neg e, if_neg e]
      exact a5 j (by omega)
  · rw [yf j 3 (by omega) (by decide) (by decide), c4]
    by_cases e : j = n
    · rw [if_pos e, if_pos e]
      rfl
    · rw [if_neg e, if_neg e]
      exact a6 j (by omega)
  · rw [yf j 4 (by omega) (by decide) (by decide), c5]
    by_cases e : j = n
    · rw [if_pos e, if_pos e]
      rfl
    · rw [if_neg e, if_neg e]
      exact a7 j (by omega)
  · by_cases e : j = n
    · subst e
      refine ⟨fun k hk => by rw [q6n]; exact decide_eq_false (by omega), by rw [q6n]; exact decide_eq_true (Nat.lt_succ_self j), fun k => ?_, fun k hk => ?_⟩
      · rw [yR _ (by omega), r3 k, q6n k]
        by_cases e : k = j
        · subst e
          rw [beq_self_eq_true, Bool.not_true, Bool.and_false]
          exact decide_eq_false (Nat.lt_irrefl k)
        · rw [beq_eq_false_iff_ne.mpr e, Bool.not_false, Bool.and_true]
          exact decide_eq_decide.mpr (by omega)
      · rw [q6n, decide_eq_true hk]
        by_cases e : k = j
        · subst e
          rw [q6n]
          exact decide_eq_true (Nat.lt_succ_self k)
        · rw [q6 k j (by omega), beq_self_eq_true, Bool.or_true]
    · have hj' : j < n := by omega
      refine ⟨fun k hk => ?_, ?_, fun k => ?_, fun k hk => ?_⟩
      · rw [q6 j k hj', (a8 j hj').1 k (by omega), beq_eq_false_iff_ne.mpr (by omega)]
        rfl
      · rw [q6 j j hj', (a8 j hj').2.1]
        rfl
      · rw [yR _ (by omega), r2 j k hj', q6 j k hj', (a8 j hj').2.2.1 k, decide_eq_true hj', Bool.true_and]
        by_cases e : k = n
        · subst e
          rw [beq_self_eq_true, beq_eq_false_iff_ne.mpr (by omega)]
          simp
        · rw [beq_eq_false_iff_ne.mpr e, Bool.or_false, Bool.or_false]
      · by_cases e : k = n
        · subst e
          rw [q6n, q6 j k hj', beq_self_eq_true, Bool.or_true, decide_eq_true (by omega)]
        · rw [q6 k j (by omega), q6 j k hj', (a8 j hj').2.2.2 k (by omega), beq_eq_false_iff_ne.mpr e, beq_eq_false_iff_ne.mpr (by omega)]
  · rw [x7, yh 4 (by decide) (by decide)]
    exact a9.1
  · rw [x7]
    exact a9.2.1
  · refine ⟨?_, ?_, fun j hj => ?_⟩
    · rw [x7, x7, x7, x7]
      exact b1.1
    · rw [x7, x7, x7, x7]
      exact ⟨b1.2.1.1.mono (Nat.le_succ n), b1.2.1.2.1.mono (Nat.le_succ n), b1.2.1.2.2.1.mono (Nat.le_succ n), b1.2.1.2.2.2.mono (Nat.le_succ n)⟩
    · rw [x7, x7, x7, x7, eN 9 (by omega)]
      by_cases e : j = n
      · subst e
        rw [b1.2.1.2.1 j (Nat.le_refl j), b1.2.1.2.2.1 j (Nat.le_refl j), b1.2.1.2.2.2 j (Nat.le_refl j)]
        exact ⟨fun q => (by cases q), fun q => (by cases q), fun q => (by cases q), fun _ _ => hfd j (by omega)⟩
      · obtain ⟨v1, v2, v3, v4⟩ := b1.2.2 j (by omega)
        refine ⟨v1, fun q => ?_, v3, v4⟩
        obtain ⟨u1, u2, v, u3, u4⟩ := v2 q
        exact ⟨u1, u2, v, by omega, u4⟩
  · rw [y6 j hj] at q
    obtain ⟨v, v1, v2⟩ := b3 j hj q
    by_cases e : j = n
    · rw [e, hz n 6 (Nat.le_refl n) hn (by decide)] at q
      exact absurd q (by decide)
    · rw [yf j 7 hj (by decide) (by decide), if_neg e]
      exact ⟨v, v1, v2⟩
  · rw [c4]
    by_cases e : j = n
    · rw [if_pos e]
      exact ⟨0, by decide, rfl⟩
    · rw [if_neg e]
      exact b5.1 j (by omega)
  · by_cases e5 : c = 5
    · subst e5
      rw [yR _ (by omega)]
      exact r4 j (by omega) h2
    · rw [yf j c h2 h3 e5, if_neg (by omega)]
      exact hz j c (by omega) h2 h3
end ADD
