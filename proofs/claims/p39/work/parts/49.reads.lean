/-! WHAT IS READ of the object -/
section RD
variable {n oz T t0 : Nat} {x : zM} {sl : Nat → Option Nat} {ext : List va_E} {r c : Nat}
theorem rd_office (h : XI n T t0 x) (w : Int32) (h1 : ¬ w < 0) (h2 : w ≤ 18) : zC yy_X9_office 0 0 [.ref 0, .int w] (sh_X sl ext) x (some (.int (g_X9_office x n w))) (sh_X sl ext) x := by
  obtain ⟨e0, -, h9⟩ := xi_n h
  exact c_X9_office x sl ext n w e0 h9 h1 h2
theorem rd_office0 (h : XI n T t0 x) : zC yy_X9_office 0 0 [.ref 0, .int 0] (sh_X sl ext) x (some (.int (nI n))) (sh_X sl ext) x := by
  have := rd_office (sl := sl) (ext := ext) h 0 (by decide) (by decide)
  rw [show g_X9_office x n 0 = nI n from (xi_n h).1] at this
  exact this
theorem rd_office5 (h : XI n T t0 x) : zC yy_X9_office 0 0 [.ref 0, .int 5] (sh_X sl ext) x (some (.int (x 12 0))) (sh_X sl ext) x := rd_office h 5 (by decide) (by decide)
theorem rd_office6 (h : XI n T t0 x) (hp : ¬ x 12 0 = 0) : zC yy_X9_office 0 0 [.ref 0, .int 6] (sh_X sl ext) x (some (.int (x 12 1))) (sh_X sl ext) x := by
  have := rd_office (sl := sl) (ext := ext) h 6 (by decide) (by decide)
  have e : g_X9_office x n 6 = if x 12 0 = 0 then -1 else x 12 1 := rfl
  rw [e, if_neg hp] at this
  exact this
theorem rd_office8 (h : XI n T t0 x) : zC yy_X9_office 0 0 [.ref 0, .int 8] (sh_X sl ext) x (some (.int (if x 12 0 = 0 then -1 else x 12 3))) (sh_X sl ext) x := rd_office h 8 (by decide) (by decide)
theorem rd_replica (h : XI n T t0 x) (hr : r < n) (w : Int32) (h1 : ¬ w < 0) (h2 : w ≤ 9) : zC yy_X9_replica 0 0 [.ref 0, .int (nI r), .int w] (sh_X sl ext) x (some (.int (g_X4_tellOf (zPl x 5) r w))) (sh_X sl ext) x := by
  obtain ⟨e0, -, h9⟩ := xi_n h
  exact c_X9_replica x sl ext n r w e0 h9 (xi_hc h) hr h1 h2
theorem rd_nonce (h : XI n T t0 x) (hr : r < n) (hc : c < n) : zC yy_X9_nonceFor 0 0 [.ref 0, .int (nI r), .int (nI c)] (sh_X sl ext) x (some (.int (g_X9_nonceFor x n r c))) (sh_X sl ext) x := by
  obtain ⟨e0, -, h9⟩ := xi_n h
  exact c_X9_nonceFor x sl ext n r c e0 h9 hr hc
theorem rd_sealFor (h : XI n T t0 x) (hc : c < n) {b t : Nat} (hb : b ≤ 999) (ht : t ≤ 9999) : zC yy_X9_sealFor 0 0 [.ref 0, .int (nI c), .int (nI b), .int (nI t)] (sh_X sl ext) x (some (.int (g_X9_sealFor n c (nI b) (nI t)))) (sh_X sl ext) x := by
  obtain ⟨e0, -, h9⟩ := xi_n h
  exact c_X9_sealFor x sl ext n c (nI b) (nI t) e0 h9 hc (nI_pos (by omega)) (nI_le (b := 999) hb (by decide)) (nI_pos (by omega)) (nI_le (b := 9999) ht (by decide))
/-- the phase, and the TERM of a ballot -/
theorem xi_phase (h : XI n T t0 x) : ∃ p, p < 4 ∧ x 12 0 = nI p := by
  obtain ⟨⟨oz, -, -, -, -, -, -, h7, -⟩, -⟩ := h
  exact h7.1
theorem xi_term (h : XI n T t0 x) (hp : ¬ x 12 0 = 0) : n < 2 * qN n (qB (x 12 3)) ∧ ∃ t, t ≤ T ∧ t0 ≤ t ∧ 1 ≤ t ∧ x 12 1 = nI t ∧ ∀ r, r < n → qB (x 12 3) r = true → x 9 r = nI t := by
  obtain ⟨⟨oz, -, -, -, -, -, -, h7, -⟩, -⟩ := h
  exact (h7.2 hp).2
/-- a seal that can't be broken: the ballot is as it was -/
theorem br_ref {N : zM} {v cd : Nat} {y : Int32} (h : (g_X4_breakVote N v cd y).1 < 0) : (g_X4_breakVote N v cd y).2 = N := by
  unfold g_X4_breakVote at h ⊢
  split at h
  · rename_i c1
    rw [if_pos c1]
    split at h
    · rename_i c2
      rw [if_pos c2]
    · rename_i c2
      rw [if_neg c2]
      split at h
      · rename_i c3
        rw [if_pos c3]
      · rename_i c3
        rw [if_neg c3]
        split at h
        · rename_i c4
          rw [if_pos c4]
        · exfalso
          have hz : ∀ w, w ≤ 4 → ¬ nI w < 0 := fun w hw => nI_pos (by omega)
          dsimp only at h
          split at h
          · exact absurd h (by decide)
          · rcases flaw_in (N := N) (v := v) (cd := cd) with ⟨q, -⟩ | ⟨w, -, q2, q3⟩
            · rw [q] at h; exact absurd h (by decide)
            · rw [q3] at h; exact hz w q2 h
  · rename_i c1
    rw [if_neg c1]
theorem ft_break2 (h : XI n T t0 x) (hr : r < n) (hc : c < n) {b : Nat} (hb : b ≤ 999) : fx yy_X9_breakSeal [.int (nI r), .int (nI c), .int (nI b)] sl ext x (fun v x' => XI n T t0 x' ∧ (v < 0 → x' 12 = x 12)) := by
  obtain ⟨e0, -, h9⟩ := xi_n h
  obtain ⟨nx, h11, hx⟩ := h.2.1
  refine ⟨_, _, c_X9_breakSeal x sl ext n nx r c (nI b) e0 h9 (xi_hc h) hx h11 hr hc (nI_pos (by omega)) (nI_le (b := 999) hb (by decide)), xi_done h hx h11 (d_break (xi_note h.1 nx) hr hc _), fun hv => ?_⟩
  have e1 : (g_X9_breakSeal x n nx r c (nI b)).1 = (g_X4_breakVote (zPl (g_X3_note x nx) 5) r c (nI b)).1 := settled_1 _ _
  rw [e1] at hv
  have e2 := br_ref hv
  have e3 : (g_X9_breakSeal x n nx r c (nI b)).2 12 = (g_X4_breakVote (zPl (g_X3_note x nx) 5) r c (nI b)).2 7 := done_use (g_X4_breakVote (zPl (g_X3_note x nx) 5) r c (nI b)) nx 7 (by decide)
  rw [e3, e2]
  exact note_cell nx (by decide)
end RD
