/-! THE CALLS, at the whole object and the whole reference: the text buffer -/
section OK3
variable {n oz nx pc ty rp T : Nat} {sl : Nat → Option Nat} {ext : List va_E} {gq : Nat → Nat} {x m : zM}
def pT (ty : Nat) (x m : zM) : Prop := x 2 0 = nI ty ∧ m 0 8 = nI ty ∧ ∀ k, k < ty → qBy (x 3 k) (m 18 k)
theorem by_4 (z : Int32) : qBy (vp_nar .byte (((z >>> (24 &&& 31))).toInt8.toInt32)) ((((z).toUInt32 >>> ((24 : Int32).toUInt32 &&& Int32.toUInt32 31)).toInt32) &&& 255) ∧ qBy (vp_nar .byte (((z >>> (16 &&& 31))).toInt8.toInt32)) ((((z).toUInt32 >>> ((16 : Int32).toUInt32 &&& Int32.toUInt32 31)).toInt32) &&& 255) ∧ qBy (vp_nar .byte (((z >>> (8 &&& 31))).toInt8.toInt32)) ((((z).toUInt32 >>> ((8 : Int32).toUInt32 &&& Int32.toUInt32 31)).toInt32) &&& 255) ∧ qBy (vp_nar .byte (((z >>> (0 &&& 31))).toInt8.toInt32)) ((((z).toUInt32 >>> ((0 : Int32).toUInt32 &&& Int32.toUInt32 31)).toInt32) &&& 255) := by
  rw [show (24 &&& 31 : Int32) = 24 by decide, show (16 &&& 31 : Int32) = 16 by decide, show (8 &&& 31 : Int32) = 8 by decide, show (0 &&& 31 : Int32) = 0 by decide]
  exact ⟨by_sh z (k := 24) (by decide) (by decide) (by decide), by_sh z (k := 16) (by decide) (by decide) (by decide), by_sh z (k := 8) (by decide) (by decide) (by decide), by_sh z (k := 0) (by decide) (by decide) (by decide)⟩
theorem pT.step (h : pT ty x m) (z : Int32) : pT (ty + 4) (zPs x 2 2 (g_X8_putFour (zPl x 2) ty z)) (g_X10_type m ty z) ∧ (∀ o, o ≠ 2 → o ≠ 3 → zPs x 2 2 (g_X8_putFour (zPl x 2) ty z) o = x o) ∧ (∀ o, o ≠ 0 → o ≠ 18 → g_X10_type m ty z o = m o) ∧ ∀ k, k ≠ 8 → g_X10_type m ty z 0 k = m 0 k := by
  obtain ⟨h1, h2, h3⟩ := h
  obtain ⟨b1, b2, b3, b4⟩ := by_4 z
  refine ⟨⟨?_, e_X10_type h2, fun k hk => ?_⟩, fun o h2 h3 => zPs_out (by omega), fun o q0 q18 => fr_X10_type m ty z o ⟨q0, q18⟩, fun k hk => ?_⟩
  · rw [zPs_in (by decide) (by decide)]
    exact e_X8_putFour h1
  · rw [zPs_in (by decide) (by decide), show (3 - 2 : Nat) = 1 from rfl]
    unfold g_X8_putFour g_X10_type
    rw [zU_ne (show (1 : Nat) ≠ 0 by decide), zU_c, zU_ne (show (1 : Nat) ≠ 0 by decide), zU_c, zU_ne (show (1 : Nat) ≠ 0 by decide), zU_c, zU_ne (show (1 : Nat) ≠ 0 by decide), zU_c, zU_ne (show (18 : Nat) ≠ 0 by decide), zU_c, zU_ne (show (18 : Nat) ≠ 0 by decide), zU_c, zU_ne (show (18 : Nat) ≠ 0 by decide), zU_c, zU_ne (show (18 : Nat) ≠ 0 by decide), zU_c]
    by_cases e3 : k = ty + 3
    · rw [if_pos e3, if_pos e3]
      exact b4
    rw [if_neg e3, if_neg e3]
    by_cases e2 : k = ty + 2
    · rw [if_pos e2, if_pos e2]
      exact b3
    rw [if_neg e2, if_neg e2]
    by_cases e1 : k = ty + 1
    · rw [if_pos e1, if_pos e1]
      exact b2
    rw [if_neg e1, if_neg e1]
    by_cases e0 : k = ty
    · rw [if_pos e0, if_pos e0]
      exact b1
    rw [if_neg e0, if_neg e0]
    exact h3 k (by omega)
  · unfold g_X10_type
    rw [zU_k hk, zU_ne (show (0 : Nat) ≠ 18 by decide), zU_k hk, zU_ne (show (0 : Nat) ≠ 18 by decide), zU_k hk, zU_ne (show (0 : Nat) ≠ 18 by decide), zU_k hk, zU_ne (show (0 : Nat) ≠ 18 by decide)]
theorem ok_append (h : xR n oz nx pc ty rp T sl ext gq x m) (a b c1 d e : Int32) : (g_X9_append x ty a b c1 d e).1 = (g_X10_append m ty a b c1 d e).1 ∧ (g_X10_append m ty a b c1 d e).2 0 0 = 0 ∧ xE (T + 601) sl ext gq (g_X9_append x ty a b c1 d e).2 (g_X10_append m ty a b c1 d e).2 := by
  obtain ⟨⟨h1, h2⟩, ⟨g1, g2, g3, g4⟩, hS, ⟨⟨t1, t2, t3⟩, t4⟩, hP⟩ := id h
  unfold g_X9_append g_X10_append
  have hs : ∀ y : Int32, y = nI ty → (y + 20 ≤ 600 ↔ ty + 20 ≤ 600) := fun y hy => by
    rw [hy, show nI ty + 20 = nI (ty + 20) from nI_add ty 20]
    exact nI_le9 (b := 600) (by omega) (by decide)
  by_cases c : ty + 20 ≤ 600
  · rw [if_pos ((hs _ t1).mpr c), if_pos ((hs _ t2).mpr c)]
    have p0 : pT ty x (zU m 0 0 0) := ⟨t1, (zU_k (by decide)).trans t2, fun k hk => by rw [zU_ne (by decide)]; exact t4 k hk⟩
    have s1 := p0.step a
    have s2 := s1.1.step b
    have s3 := s2.1.step c1
    have s4 := s3.1.step d
    have s5 := s4.1.step e
    generalize hX1 : zPs x 2 2 (g_X8_putFour (zPl x 2) ty a) = X1 at *
    generalize hX2 : zPs X1 2 2 (g_X8_putFour (zPl X1 2) (ty + 4) b) = X2 at *
    generalize hX3 : zPs X2 2 2 (g_X8_putFour (zPl X2 2) (ty + 4 + 4) c1) = X3 at *
    generalize hX4 : zPs X3 2 2 (g_X8_putFour (zPl X3 2) (ty + 4 + 4 + 4) d) = X4 at *
    have eX4 : m_X9_append_4 x ty a b c1 d e = X4 := by
      unfold m_X9_append_4 m_X9_append_3 m_X9_append_2 m_X9_append_1
      rw [hX1, hX2, hX3, hX4]
    have eX5 : m_X9_append_5 x ty a b c1 d e = zPs X4 2 2 (g_X8_putFour (zPl X4 2) (ty + 4 + 4 + 4 + 4) e) := by
      unfold m_X9_append_5
      rw [eX4]
    rw [eX4, eX5]
    have e5 : (g_X8_putFour (zPl X4 2) (ty + 4 + 4 + 4 + 4) e) 0 0 = zPs X4 2 2 (g_X8_putFour (zPl X4 2) (ty + 4 + 4 + 4 + 4) e) 2 0 := by rw [zPs_in (by decide) (by decide)]
    rw [e5]
    generalize zPs X4 2 2 (g_X8_putFour (zPl X4 2) (ty + 4 + 4 + 4 + 4) e) = X5 at *
    have eY : m_X10_append_1 m ty a b c1 d e = g_X10_type (g_X10_type (g_X10_type (g_X10_type (g_X10_type (zU m 0 0 0) ty a) (ty + 4) b) (ty + 4 + 4) c1) (ty + 4 + 4 + 4) d) (ty + 4 + 4 + 4 + 4) e := rfl
    rw [eY]
    generalize g_X10_type (zU m 0 0 0) ty a = Y1 at *
    generalize g_X10_type Y1 (ty + 4) b = Y2 at *
    generalize g_X10_type Y2 (ty + 4 + 4) c1 = Y3 at *
    generalize g_X10_type Y3 (ty + 4 + 4 + 4) d = Y4 at *
    generalize g_X10_type Y4 (ty + 4 + 4 + 4 + 4) e = Y5 at *
    have xo : ∀ o, o ≠ 2 → o ≠ 3 → X5 o = x o := fun o q2 q3 => by rw [s5.2.1 o q2 q3, s4.2.1 o q2 q3, s3.2.1 o q2 q3, s2.2.1 o q2 q3, s1.2.1 o q2 q3]
    have yo : ∀ o, o ≠ 0 → o ≠ 18 → Y5 o = m o := fun o q0 q18 => by rw [s5.2.2.1 o q0 q18, s4.2.2.1 o q0 q18, s3.2.2.1 o q0 q18, s2.2.2.1 o q0 q18, s1.2.2.1 o q0 q18, zU_ne q0]
    have y0 : ∀ k, k ≠ 8 → Y5 0 k = zU m 0 0 0 0 k := fun k hk => by rw [s5.2.2.2 k hk, s4.2.2.2 k hk, s3.2.2.2 k hk, s2.2.2.2 k hk, s1.2.2.2 k hk]
    obtain ⟨p1, p2, p3⟩ := s5.1
    refine ⟨p1.trans p2.symm, (y0 0 (by decide)).trans zU_s, n, oz, nx, pc, ty + 4 + 4 + 4 + 4 + 4, rp, ⟨h1, (h2.up (by omega)).eq (fun o _ => xo (5 + o) (by omega) (by omega)) (fun k _ => by dsimp only; rw [yo 1 (by decide) (by decide)])⟩, ⟨?_, ?_, g3, fun j hj => ?_⟩, hS.of (by omega) (fun o ho => xo o (by omega) (by omega)) (fun o ho => yo o (by omega) (by omega)), ⟨⟨p1, p2, by omega⟩, p3⟩, hP.of (by dsimp only; rw [xo 0 (by decide) (by decide)]) (xo 190 (by decide) (by decide)) ((y0 10 (by decide)).trans (zU_k (by decide))) (yo 19 (by decide) (by decide))⟩
    · dsimp only
      rw [xo 33 (by decide) (by decide), y0 3 (by decide), zU_k (by decide)]
      exact g1
    · dsimp only
      rw [xo 33 (by decide) (by decide)]
      exact g2
    · obtain ⟨n', oz', q1, q2⟩ := g4 j hj
      have hr := g3.1 (pc - 1 - j) (by omega)
      exact ⟨n', oz', q1, (q2.up (by omega)).eq (fun o _ => xo _ (by omega) (by omega)) (fun k _ => by dsimp only; rw [yo _ (by omega) (by omega)])⟩
  · rw [if_neg (fun q => c ((hs _ t1).mp q)), if_neg (fun q => c ((hs _ t2).mp q))]
    exact ⟨rfl, (show zU m 0 0 0 0 0 = 0 from zU_s), n, oz, nx, pc, ty, rp, h.of (by omega) (fun _ _ => rfl) (fun o ho _ => zU_ne ho) (fun k _ hk => zU_k hk)⟩
end OK3
