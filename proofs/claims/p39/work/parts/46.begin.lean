/-! A NEW OFFICE: n replicas, no ballot, no outcome; the object as it is made -/
def j0 (n : Nat) (N : zM) : Prop := (n ≤ 9 ∧ N 0 0 = nI n) ∧ (∀ k, qB (N 0 1) k = decide (k < n)) ∧ N 1 0 = nI 2 ∧ (∀ r, r < n → N 4 r = 0) ∧ (∀ r, r < n → N 5 r = -1) ∧ (∀ r, r < n → ∀ k, qB (N 6 r) k = decide (k < n)) ∧
  (N 7 0 = 0 ∧ N 7 3 = 0 ∧ N 7 5 = 0 ∧ N 7 6 = 0 ∧ N 7 7 = 0) ∧ (∀ k, k < 9 → N 9 k = -1) ∧ N 10 0 = 0
theorem j0.J {n : Nat} {N : zM} (h : j0 n N) (h2 : 2 ≤ n) : J n 0 0 0 N := by
  obtain ⟨⟨h9, a1⟩, a2, a3, a4, a5, a6, ⟨b0, b3, b5, b6, b7⟩, a8, a9⟩ := h
  refine ⟨⟨h2, h9, a1⟩, fun k hk => ?_, ⟨2, by decide, by decide, a3⟩, fun r hr => ⟨0, Nat.le_refl 0, a4 r hr⟩, fun r hr => Or.inl (a5 r hr), fun r hr => ⟨fun k hk => ?_, ?_, fun b hb => ?_⟩, ⟨⟨0, by decide, b0⟩, fun q => absurd b0 q⟩, ⟨⟨⟨fun _ => b3, fun _ => ⟨b6, b7⟩⟩, ⟨by rw [b3]; exact qS_0 n, by rw [b5]; exact qS_0 n, by rw [b6]; exact qS_0 n, by rw [b7]; exact qS_0 n⟩, fun r hr => ?_⟩, fun r hr => ?_⟩, ⟨Nat.zero_le _, a9, fun j hj => absurd hj (Nat.not_lt_zero j), fun i j _ hj => absurd hj (Nat.not_lt_zero j), fun _ j hj => absurd hj (Nat.not_lt_zero j), fun q => ?_⟩, ?_, Nat.le_refl 0⟩
  · rw [a2]; exact decide_eq_false (by omega)
  · rw [a6 r hr]; exact decide_eq_false (by omega)
  · rw [a6 r hr]; exact decide_eq_true hr
  · rw [a6 r hr, a6 b hb, decide_eq_true hr, decide_eq_true hb]
  · rw [b3, b5, b6, b7, qB_0]
    exact ⟨fun q => (Bool.false_ne_true q).elim, fun q => (Bool.false_ne_true q).elim, fun q => (Bool.false_ne_true q).elim, fun _ _ => a8 r (by omega)⟩
  · rw [b6, b7, qB_0]
    exact ⟨fun q => (Bool.false_ne_true q).elim, fun q => (Bool.false_ne_true q).elim⟩
  · rw [b0] at q
    exact absurd q (by decide)
  · unfold jM
    rw [qN_congr (g := fun _ => true) n fun r hr => decide_eq_true (by rw [a4 r hr]; exact Int32.le_refl _)]
    have : ∀ m, qN m (fun _ => true) = m := fun m => by
      induction m with
      | zero => rfl
      | succ m ih => rw [qN, ih]; rfl
    rw [this]
    omega
theorem j0_empty (N : zM) : j0 0 (g_X4_makeEmpty N) := by
  obtain ⟨c1, c2, c3⟩ := e_begin (zPl (zUa (zU (zU N 0 0 0) 0 1 0) 1 (va_cpy (fun j => ([2, 1, 1] : List Int32).getD j 0) ((zU (zU N 0 0 0) 0 1 0) 1) 0 0 3)) 7) (-1) (-1) 0
  unfold g_X4_makeEmpty m_X4_makeEmpty_1
  generalize hB : zUa (zU (zU N 0 0 0) 0 1 0) 1 (va_cpy (fun j => ([2, 1, 1] : List Int32).getD j 0) ((zU (zU N 0 0 0) 0 1 0) 1) 0 0 3) = B at *
  have B0 : B 0 0 = 0 := by rw [← hB, zUa_ne (by decide), zU_k (by decide), zU_s]
  have B1 : B 0 1 = 0 := by rw [← hB, zUa_ne (by decide), zU_s]
  have B2 : B 1 0 = 2 := by
    rw [← hB, zUa_eq, pk_cpy_in (by decide) (by decide)]
    rfl
  generalize hX : zU (zPs B 7 3 (g_X1_clear (zPl B 7))) 10 0 0 = X
  have eo : ∀ o, o < 7 → X o = B o := fun o ho => by rw [← hX, zU_ne (by omega), zPs_out (by omega)]
  have e7 : ∀ k, X 7 k = if k = 0 then 0 else g_X1_begin (zPl B 7) (-1) (-1) 0 0 k := fun k => by
    rw [← hX, zU_ne (by decide), zPs_in (by decide) (by decide)]
    exact zU_c
  have e9 : ∀ k, k < 9 → X 9 k = -1 := fun k hk => by
    rw [← hX, zU_ne (by decide), zPs_in (by decide) (by decide)]
    show zU _ 0 0 0 2 k = -1
    rw [zU_ne (by decide)]
    exact c3 k hk
  refine ⟨⟨by decide, by rw [eo 0 (by decide), B0]; rfl⟩, fun k => by rw [eo 0 (by decide), B1, qB_0]; exact (decide_eq_false (Nat.not_lt_zero k)).symm, by rw [eo 1 (by decide), B2]; rfl, fun r hr => absurd hr (Nat.not_lt_zero r), fun r hr => absurd hr (Nat.not_lt_zero r), fun r hr => absurd hr (Nat.not_lt_zero r), ⟨by rw [e7]; rfl, by rw [e7, if_neg (by decide), c1]; rfl, by rw [e7, if_neg (by decide), c1]; rfl, by rw [e7, if_neg (by decide), c1]; rfl, by rw [e7, if_neg (by decide), c1]; rfl⟩, e9, by rw [← hX, zU_s]⟩
theorem j0_add {n : Nat} {N : zM} (h : j0 n N) (hn : n < 9) (age fresh : Int32) : j0 (n + 1) (g_X4_addReplica N n age fresh) := by
  obtain ⟨⟨h9, a1⟩, a2, a3, a4, a5, a6, a7, a8, a9⟩ := h
  unfold g_X4_addReplica
  rw [if_pos (by rw [a1]; exact nI_lt (a := n) (b := 9) hn (by decide))]
  unfold m_X4_addReplica_1
  rw [a1, nI_1]
  generalize hB : zU (zU (zU (zU (zU (zU (zU N 0 0 (nI (n + 1))) 2 n age) 3 n fresh) 4 n 0) 5 n (-1)) 0 1 ((N 0 1) ||| (1 <<< ((nI n) &&& 31)))) 6 n ((N 0 1) ||| (1 <<< ((nI n) &&& 31))) = B
  have B0 : B 0 0 = nI (n + 1) := by rw [← hB, zU_ne (by decide), zU_k (by decide), zU_ne (by decide), zU_ne (by decide), zU_ne (by decide), zU_ne (by decide), zU_s]
  have B1 : B 0 1 = (N 0 1) ||| (1 <<< ((nI n) &&& 31)) := by rw [← hB, zU_ne (by decide), zU_s]
  have B4 : ∀ k, B 4 k = if k = n then 0 else N 4 k := fun k => by
    rw [← hB, zU_ne (by decide), zU_ne (by decide), zU_ne (by decide), zU_c, zU_ne (by decide), zU_ne (by decide), zU_ne (by decide)]
  have B5 : ∀ k, B 5 k = if k = n then -1 else N 5 k := fun k => by
    rw [← hB, zU_ne (by decide), zU_ne (by decide), zU_c, zU_ne (by decide), zU_ne (by decide), zU_ne (by decide), zU_ne (by decide)]
  have B6 : ∀ k, B 6 k = if k = n then (N 0 1) ||| (1 <<< ((nI n) &&& 31)) else N 6 k := fun k => by
    rw [← hB, zU_c, zU_ne (by decide), zU_ne (by decide), zU_ne (by decide), zU_ne (by decide), zU_ne (by decide), zU_ne (by decide)]
  have Bo : ∀ o, (o = 1 ∨ 7 ≤ o) → B o = N o := fun o ho => by
    rw [← hB, zU_ne (by omega), zU_ne (by omega), zU_ne (by omega), zU_ne (by omega), zU_ne (by omega), zU_ne (by omega), zU_ne (by omega)]
  have hl := zIt_inv (f := l_X4_addReplica_78 N n age fresh) (P := fun i (s : zM) => (∀ o, o ≠ 6 → s o = B o) ∧ ∀ k, s 6 k = if k < i then B 6 k ||| (1 <<< ((nI n) &&& 31)) else B 6 k) n B ⟨fun _ _ => rfl, fun k => (if_neg (Nat.not_lt_zero k)).symm⟩ ?_
  case refine_1 =>
    intro i hi s hs
    unfold l_X4_addReplica_78
    refine ⟨fun o ho => by rw [zU_ne ho]; exact hs.1 o ho, fun k => ?_⟩
    rw [zU_c, a1]
    by_cases e : k = i
    · rw [if_pos e, e, if_pos (Nat.lt_succ_self i), hs.2, if_neg (Nat.lt_irrefl i)]
    · rw [if_neg e, hs.2]
      by_cases q : k < i
      · rw [if_pos q, if_pos (by omega)]
      · rw [if_neg q, if_neg (by omega)]
  obtain ⟨lo, l6⟩ := hl
  generalize zIt (l_X4_addReplica_78 N n age fresh) n B = X at *
  have dk : ∀ k, (decide (k < n) || k == n) = decide (k < n + 1) := fun k => by
    by_cases e : k = n
    · rw [e]; simp
    · rw [beq_eq_false_iff_ne.mpr e, Bool.or_false]
      exact decide_eq_decide.mpr (by omega)
  have qn : ∀ k, qB ((N 0 1) ||| (1 <<< ((nI n) &&& 31))) k = decide (k < n + 1) := fun k => by rw [qB_add (by omega), a2, dk]
  refine ⟨⟨by omega, by rw [lo 0 (by decide), B0]⟩, fun k => by rw [lo 0 (by decide), B1]; exact qn k, by rw [lo 1 (by decide), Bo 1 (by decide)]; exact a3, fun r hr => ?_, fun r hr => ?_, fun r hr k => ?_, ?_, fun k hk => by rw [lo 9 (by decide), Bo 9 (by decide)]; exact a8 k hk, by rw [lo 10 (by decide), Bo 10 (by decide)]; exact a9⟩
  · rw [lo 4 (by decide), B4]
    by_cases e : r = n
    · rw [if_pos e]
    · rw [if_neg e]; exact a4 r (by omega)
  · rw [lo 5 (by decide), B5]
    by_cases e : r = n
    · rw [if_pos e]
    · rw [if_neg e]; exact a5 r (by omega)
  · rw [l6, B6]
    by_cases e : r = n
    · rw [if_neg (by omega), if_pos e]
      exact qn k
    · rw [if_pos (by omega), if_neg e, qB_add (by omega), a6 r (by omega), dk]
  · rw [lo 7 (by decide), Bo 7 (by decide)]; exact a7
theorem j0.pt {n : Nat} {N N' : zM} (h : j0 n N) (e : ∀ o k, qUse o k → N' o k = N o k) : j0 n N' := by
  obtain ⟨⟨h9, a1⟩, a2, a3, a4, a5, a6, ⟨b0, b3, b5, b6, b7⟩, a8, a9⟩ := h
  refine ⟨⟨h9, (e 0 0 qUse_00).trans a1⟩, by rw [e 0 1 qUse_01]; exact a2, (e 1 0 (qUse_1 (by decide))).trans a3, fun r hr => (e 4 r (qUse_r h9 hr (by decide))).trans (a4 r hr), fun r hr => (e 5 r (qUse_r h9 hr (by decide))).trans (a5 r hr), fun r hr => by rw [e 6 r (qUse_r h9 hr (by decide))]; exact a6 r hr, ⟨(e 7 0 (qUse_7 (by decide))).trans b0, (e 7 3 (qUse_7 (by decide))).trans b3, (e 7 5 (qUse_7 (by decide))).trans b5, (e 7 6 (qUse_7 (by decide))).trans b6, (e 7 7 (qUse_7 (by decide))).trans b7⟩, fun k hk => (e 9 k (qUse_r (n := 9) (by decide) hk (by decide))).trans (a8 k hk), (e 10 0 qUse_10).trans a9⟩
theorem us_12 {o k : Nat} (h : qUse o k) : o < 12 := by
  unfold qUse at h
  omega
/-- an office among the cells, from its place b on -/
theorem j0_at {n b : Nat} {M N : zM} (h : j0 n N) : j0 n (zPl (zPs M b 14 N) b) := h.pt fun o k hu => by
  have := us_12 hu
  show zPs M b 14 N (b + o) k = N o k
  rw [zPs_in (by omega) (by omega)]
  congr 1
  omega
theorem JJ_at {n T t0 b : Nat} {M N : zM} (h : JJ n T t0 N) : JJ n T t0 (zPl (zPs M b 14 N) b) := h.pt fun o k hu => by
  have := us_12 hu
  show zPs M b 14 N (b + o) k = N o k
  rw [zPs_in (by omega) (by omega)]
  congr 1
  omega
/-- the object as it is made -/
theorem j_new : JJ 5 1 0 (zPl zXI12 5) := by
  have r1 : j0 0 (zPl zXI1 5) := j0_at (j0_empty _)
  have r2 : j0 1 (zPl zXI2 5) := j0_at (j0_add r1 (by decide) _ _)
  have r3 : j0 2 (zPl zXI3 5) := j0_at (j0_add r2 (by decide) _ _)
  have r4 : j0 3 (zPl zXI4 5) := j0_at (j0_add r3 (by decide) _ _)
  have r5 : j0 4 (zPl zXI5 5) := j0_at (j0_add r4 (by decide) _ _)
  have r6 : j0 5 (zPl zXI6 5) := j0_at (j0_add r5 (by decide) _ _)
  have r7 : JJ 5 0 0 (zPl zXI7 5) := JJ_at (d_link ⟨0, r6.J (by decide)⟩ (by decide) (by decide) _)
  have r8 : JJ 5 1 0 (zPl zXI8 5) := JJ_at (d_call r7 (by decide) (by decide))
  have r9 : JJ 5 1 0 (zPl zXI9 5) := JJ_at (d_vote r8 (by decide) _ _)
  have r10 : JJ 5 1 0 (zPl zXI10 5) := JJ_at (d_vote r9 (by decide) _ _)
  have r11 : JJ 5 1 0 (zPl zXI11 5) := JJ_at (d_vote r10 (by decide) _ _)
  exact JJ_at (d_vote r11 (by decide) _ _)
