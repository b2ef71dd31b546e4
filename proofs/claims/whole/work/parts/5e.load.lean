/-! A TEXT IS OPENED, on both sides: the whole -/
theorem by_bR {ty : Nat} {x m : zM} (h : xT ty x m) : bR ty (zPl x 2) m := ⟨h.1.1, h.1.2.1, h.2⟩
theorem op_start {ty : Nat} {x m : zM} (h6 : ty ≤ 600) (hT : xT ty x m) : oSt ty (w_X5_open_19 x ty ((d_X5_open_1 x ty).1, 0, (d_X5_open_1 x ty).2)).1 (w_X5_open_19 x ty ((d_X5_open_1 x ty).1, 0, (d_X5_open_1 x ty).2)).2.2 (zQw ty (zQ2 m ty)) := by
  have b0 := by_bR hT
  have z0 : ∀ o, o ≠ 0 → o ≠ 17 → zQ0 m o = m o := fun o h0 h17 => by
    unfold zQ0 zCp
    rw [zU_ne h0, zU_ne h0, zUa_ne h17, zU_ne h0]
  have z1 : ∀ k, k ≠ 0 → k ≠ 14 → k ≠ 18 → zQ0 m 0 k = m 0 k := fun k h0 h14 h18 => by
    unfold zQ0 zCp
    rw [zU_k h18, zU_k h14, zUa_ne (show 0 ≠ 17 by decide), zU_k h0]
  have z14 : zQ0 m 0 14 = 0 := by
    unfold zQ0
    rw [zU_k (by decide), zU_s]
  have z18 : zQ0 m 0 18 = 0 := by
    unfold zQ0
    rw [zU_s]
  have e1 : ∀ o, o < 14 → m_X5_open_1 x ty (19 + o) = g_X4_makeEmpty (zPl x 19) o := fun o ho => by
    unfold m_X5_open_1
    rw [zPs_in (by omega) (by omega), show 19 + o - 19 = o by omega]
  have e2 : m_X5_open_1 x ty 2 = x 2 := by
    unfold m_X5_open_1
    exact zPs_out (by decide)
  have e3 : m_X5_open_1 x ty 3 = x 3 := by
    unfold m_X5_open_1
    exact zPs_out (by decide)
  have hb : bR ty (zU (zPl (m_X5_open_1 x ty) 2) 0 4 0) (zQ0 m) := by
    refine ⟨?_, (z1 8 (by decide) (by decide) (by decide)).trans b0.2.1, fun k hk => ?_⟩
    · rw [zU_k (by decide)]
      show m_X5_open_1 x ty 2 0 = _
      rw [e2]
      exact b0.1
    · rw [zU_ne (by decide), z0 18 (by decide) (by decide)]
      show qBy (m_X5_open_1 x ty 3 k) _
      rw [e3]
      exact b0.2.2 k hk
  obtain ⟨⟨f, a, k, -, q1⟩, q2, q3, q4⟩ := next_tok h6 hb (Nat.zero_le ty) zU_s (show zQ0 m 0 14 = nI 0 from z14)
  have hS : pS ty f a k (zPl (m_X5_open_2 x ty) 1) (zQ1 m ty) := by
    refine ⟨q1.of ?_ ?_ rfl (fun _ _ => rfl), (q4 18 (by omega)).trans z18⟩
    · show m_X5_open_2 x ty 2 = _
      unfold m_X5_open_2
      rw [zPs_in (by decide) (by decide)]
      rfl
    · show m_X5_open_2 x ty 3 = _
      unfold m_X5_open_2
      rw [zPs_in (by decide) (by decide)]
      rfl
  have h0 : ∀ Z, rl0 0 (zPl (m_X5_open_2 x ty) 19) (g_X10_begin Z) := fun Z => by
    refine (st_empty (zPl x 19) Z).eq (fun o ho => ?_) rfl
    show m_X5_open_2 x ty (19 + o) = _
    unfold m_X5_open_2
    rw [zPs_out (by omega)]
    exact e1 o (by omega)
  have h1 : hSt ty (d_X5_open_1 x ty).1 (d_X5_open_1 x ty).2 (zQ2 m ty) := op_repl h6 hS h0
  exact op_all h6 h1
section LOAD
variable {n oz nx pc ty rp T : Nat} {sl : Nat → Option Nat} {ext : List va_E} {gq : Nat → Nat} {x m : zM}
/-- the text is dropped; the opener's own cells are free -/
theorem xR.drop {X m2 : zM} (h : xR n oz nx pc ty rp T sl ext gq x m) (hX : ∀ o, zOu o → X o = x o) (h20 : X 2 0 = 0) (em : ∀ o, o ≠ 0 → o ≠ 1 → o ≠ 17 → o ≠ 20 → m2 o = m o) (em1 : ∀ k, k < 187 → m2 1 k = m 1 k) (e0 : ∀ k, k < 12 → k ≠ 0 → k ≠ 8 → m2 0 k = m 0 k) (e8 : m2 0 8 = 0) : xR n oz nx pc 0 rp T sl ext gq X m2 := by
  obtain ⟨⟨h1, h2⟩, ⟨g1, g2, g3, g4⟩, hS, hT', hP⟩ := h
  have ou : ∀ o, 33 ≤ o → zOu o := fun o ho => by unfold zOu; omega
  have o5 : ∀ o, 5 ≤ o → o < 19 → zOu o := fun o h1 h2 => by unfold zOu; omega
  refine ⟨⟨h1, h2.eq (fun o ho => hX (5 + o) (o5 _ (by omega) (by omega))) em1⟩, ⟨?_, ?_, g3, fun j hj => ?_⟩, hS.of (Nat.le_refl T) (fun o ho => hX o (ou _ (by omega))) (fun o ho => em o (by omega) (by omega) (by omega) (by omega)), ⟨⟨h20, e8, by omega⟩, fun k hk => absurd hk (by omega)⟩, hP.of (by rw [hX 0 (Or.inl rfl)]) (hX 190 (ou _ (by decide))) (e0 10 (by decide) (by decide) (by decide)) (em 19 (by decide) (by decide) (by decide) (by decide))⟩
  · rw [hX 33 (ou _ (by decide)), e0 3 (by decide) (by decide) (by decide)]
    exact g1
  · rw [hX 33 (ou _ (by decide))]
    exact g2
  · obtain ⟨n', oz', q1, q2⟩ := g4 j hj
    have hr := g3.1 (pc - 1 - j) (by omega)
    exact ⟨n', oz', q1, q2.eq (fun o _ => hX _ (ou _ (by omega))) (fun k _ => by rw [em _ (by omega) (by omega) (by omega) (by omega)])⟩
theorem ok_load (h : xR n oz nx pc ty rp T sl ext gq x m) : (g_X9_load x ty nx).1 = (g_X10_load m gq pc ty).1 ∧ (g_X10_load m gq pc ty).2 0 0 = 0 ∧ xE (T + 601) sl ext (h_X10_load m gq pc ty) (g_X9_load x ty nx).2 (g_X10_load m gq pc ty).2 := by
  have h6 : ty ≤ 600 := h.2.2.2.1.1.2.2
  have hO := op_start h6 h.2.2.2.1
  have hn := h.2.1.2.1.2
  have hpc := h.2.1.1.2.2
  have hq := h.2.1.2.2.1
  obtain ⟨k1, k2, k3, k4, k5⟩ := zQ4_k m ty h6
  have hfr : ∀ o, zOu o → (g_X5_open x ty).2 o = x o := fun o ho => fr_X5_open x ty o ho
  have e4 : ∀ o, o ≠ 0 → zQ4 m ty o = zQw ty (zQ2 m ty) o := fun o ho => by
    unfold zQ4
    exact zU_ne ho
  have e418 : zQ4 m ty 0 18 = zQw ty (zQ2 m ty) 0 18 := by
    unfold zQ4
    exact zU_k (by decide)
  have eO : g_X5_open x ty = if (w_X5_open_19 x ty ((d_X5_open_1 x ty).1, 0, (d_X5_open_1 x ty).2)).1 = 0 then ((w_X5_open_19 x ty ((d_X5_open_1 x ty).1, 0, (d_X5_open_1 x ty).2)).2.2 19 0, (w_X5_open_19 x ty ((d_X5_open_1 x ty).1, 0, (d_X5_open_1 x ty).2)).2.2) else (((-30) - ((8 * ((w_X5_open_19 x ty ((d_X5_open_1 x ty).1, 0, (d_X5_open_1 x ty).2)).2.2 2 3)) + (w_X5_open_19 x ty ((d_X5_open_1 x ty).1, 0, (d_X5_open_1 x ty).2)).1)), (w_X5_open_19 x ty ((d_X5_open_1 x ty).1, 0, (d_X5_open_1 x ty).2)).2.2) := rfl
  generalize w_X5_open_19 x ty ((d_X5_open_1 x ty).1, 0, (d_X5_open_1 x ty).2) = W at *
  generalize zQw ty (zQ2 m ty) = V at *
  have hX : ∀ o, zOu o → zU W.2.2 2 0 0 o = x o := fun o ho => by
    rw [zU_ne (by unfold zOu at ho; omega)]
    have := hfr o ho
    rw [eO] at this
    split at this
    · exact this
    · exact this
  unfold g_X9_load d_X9_load_3 d_X9_load_2 d_X9_load_1 g_X10_load h_X10_load
  generalize zQ4 m ty = Q at *
  rcases hO with ⟨w0, v18, n', oz', g1, g2⟩ | ⟨k, f1, c1, c2, c3, w0, x3, v18⟩
  · rw [if_pos w0] at eO
    rw [v18] at e418
    have eN : W.2.2 19 0 = nI n' := g2.1.2.1
    have h9 : n' ≤ 9 := g2.1.1
    rw [eO, if_pos e418, if_pos e418]
    dsimp only
    rw [eN, if_pos (show 0 ≤ nI n' from nI_pos' (by omega))]
    have hset : ∀ Y : zM, g_X9_settled Y (nI n') = (nI n', g_X3_keepNote Y) := fun Y => by
      unfold g_X9_settled
      exact if_neg (nI_pos (by omega))
    rw [hset]
    generalize hXX : zU W.2.2 2 0 0 = X at *
    have e_p := e_zKp (M := Q) (f := 17) hq hpc (Or.inr rfl)
    have hqq := zPm.kq (pc := pc) hq
    have hr10 := hqq.1 (zKc pc) (by unfold zKc; split <;> omega)
    -- the reference's memory with the office that was
    have hd := h.drop (X := X) (m2 := zUa (zU Q 0 0 0) 1 (m 1)) hX (by rw [← hXX]; exact zU_s) (fun o h0 h1 h17 h20 => by rw [zUa_ne h1, zU_ne h0, k1 o h0 h1 h17 h20]) (fun k _ => by rw [zUa_eq]) (fun k hk h0 h8 => by rw [zUa_ne (by decide), zU_k h0, k2 k hk h0 h8]) (by rw [zUa_ne (by decide), zU_k (by decide), k4])
    have hcp := e_copy (g_X3_note X nx) 5 19 (by decide)
    have hN : g_X4_copyFrom (g_X3_note X nx) 5 19 = zPs (g_X3_note X nx) 5 14 (zPl (g_X4_copyFrom (g_X3_note X nx) 5 19) 5) := by
      funext o
      by_cases c : 5 ≤ o ∧ o < 19
      · rw [zPs_in c.1 (by omega)]
        show _ = g_X4_copyFrom (g_X3_note X nx) 5 19 (5 + (o - 5))
        rw [show 5 + (o - 5) = o by omega]
      · rw [zPs_out (by omega), hcp.1 o (by omega)]
    have hrl : rl n' oz' (T + 601) (zPl (g_X4_copyFrom (g_X3_note X nx) 5 19) 5) (zKp Q gq pc 17 1) := by
      refine (g2.up (T' := T + 601) (by omega)).pt (fun o k hu => ?_) (fun k _ => ?_)
      · show g_X4_copyFrom (g_X3_note X nx) 5 19 (5 + o) k = W.2.2 (19 + o) k
        rw [hcp.2 o k hu]
        have ho : o < 12 := by unfold qUse at hu; omega
        rw [fr_X3_note X nx (19 + o) (by omega), ← hXX, zU_ne (by omega)]
      · rw [e_p.2.2.2 1 (by decide) (by omega), e4 1 (by decide)]
    have hz1 : ∀ o, o ≠ 0 → zU (zUa (zU Q 0 0 0) 1 (m 1)) 0 0 0 o = zUa (zU Q 0 0 0) 1 (m 1) o := fun o ho => zU_ne ho
    have e_q := e_zKp (M := zU (zUa (zU Q 0 0 0) 1 (m 1)) 0 0 0) (f := 1) hq hpc (Or.inl rfl)
    have hdone := hd.done (T' := T + 601) (b := zKp Q gq pc 17) (by omega) g1 hrl (fun o h0 h1 h20 => ?_) (fun k hk => ?_)
    · refine ⟨?_, ?_, n', oz', (nx + 1) % 11, zKc pc + 1, 0, rp, ?_⟩
      · rw [e_p.2.2.2 1 (by decide) (by omega), e4 1 (by decide), g2.1.2.2]
      · rw [e_p.2.1 0 (by decide), k3]
      · rw [hN]
        exact hdone.1
    · by_cases c : o = zKq gq pc (zKc pc)
      · rw [c]
        funext k
        by_cases ck : k < 187
        · rw [e_p.2.2.1 k ck, e_q.2.2.1 k ck, k5 k ck, zU_ne (show (1 : Nat) ≠ 0 by decide), zUa_eq]
        · have hrow : ∀ (M : zM) (f : Nat), zKp M gq pc f (zKq gq pc (zKc pc)) k = M (zKq gq pc (zKc pc)) k := fun M f => by
            unfold zKp
            rw [zU_ne (by omega)]
            unfold zCp
            rw [zUa_eq, if_neg ck]
            split
            · rw [zU_ne (by omega)]
            · rfl
          rw [hrow, hrow, zU_ne (by omega), zUa_ne (by omega), zU_ne (by omega)]
      · rw [e_p.2.2.2 o h0 c, e_q.2.2.2 o h0 c, hz1 o h0, zUa_ne h1, zU_ne h0]
    · by_cases c : k = 3
      · rw [c, e_p.1, e_q.1]
      · rw [e_p.2.1 k c, e_q.2.1 k c]
        by_cases c0 : k = 0
        · rw [c0, k3, zU_s]
        · rw [zU_k c0, zUa_ne (by decide), zU_k c0]
  · have wn : ¬ W.1 = 0 := by rw [w0]; exact nI_ne0 (by omega) (by omega)
    rw [if_neg wn] at eO
    have v18n : ¬ Q 0 18 = 0 := by rw [e418, v18]; exact nz8 (by omega) c1 (by omega)
    have eK : (-30 : Int32) - ((8 * (W.2.2 2 3)) + W.1) = -30 - nI (8 * f1 + k) := by rw [x3, w0, show (8 : Int32) = nI 8 from rfl, pk_mul, nI_add]
    rw [eK] at eO
    have hneg : ¬ (0 : Int32) ≤ -30 - nI (8 * f1 + k) := by
      have : ∀ v : Nat, v < 5000 → ¬ (0 : Int32) ≤ -30 - nI v := fun v hv => by
        rw [Int32.le_iff_toInt_le, Int32.toInt_sub, nI_toInt (by omega), show (-30 : Int32).toInt = -30 from rfl, Int.bmod_eq_of_le (by omega) (by omega)]
        show ¬ (0 : Int) ≤ _
        omega
      exact this _ (by omega)
    rw [eO]
    dsimp only
    rw [if_neg hneg, if_neg v18n, if_neg v18n]
    refine ⟨by rw [e418, v18], ?_, n, oz, nx, pc, 0, rp, ?_⟩
    · have e0 : zCp Q 17 1 0 = Q 0 := by
        unfold zCp
        exact zUa_ne (by decide)
      exact (congrFun e0 0).trans k3
    · have hdr := h.drop (X := zU W.2.2 2 0 0) (m2 := zCp Q 17 1) hX zU_s (fun o h0 h1 h17 h20 => by unfold zCp; rw [zUa_ne h1]; exact k1 o h0 h1 h17 h20) (fun k hk => by unfold zCp; rw [zUa_eq, if_pos hk, k5 k hk]) (fun k hk h0 h8 => by unfold zCp; rw [zUa_ne (by decide)]; exact k2 k hk h0 h8) (by unfold zCp; rw [zUa_ne (by decide)]; exact k4)
      exact hdr.of (T' := T + 601) (by omega) (fun _ _ => rfl) (fun _ _ _ => rfl) (fun _ _ _ => rfl)
end LOAD
