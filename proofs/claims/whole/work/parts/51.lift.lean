/-! A CHANGE, at the whole object and the whole reference -/
theorem e_keepNote {X : zM} {nx pc : Nat} (h1 : X 33 1 = nI nx) (hn : nx < 11) (h0 : X 33 0 = nI pc) (hp : pc ≤ 10) : g_X3_keepNote X 33 1 = nI ((nx + 1) % 11) ∧ g_X3_keepNote X 33 0 = nI (if pc = 10 then 10 else pc + 1) ∧ ∀ o, o ≠ 33 → g_X3_keepNote X o = X o := by
  refine ⟨?_, ?_, fun o ho => fr_X3_keepNote X o ho⟩
  · unfold g_X3_keepNote
    rw [zU_k (by decide), zU_s, zNx1 h1 hn]
  · unfold g_X3_keepNote
    rw [zU_s, h0, nI_1]
    by_cases e : pc = 10
    · subst e
      rfl
    · have n1 : ¬ (10 : Int32) < nI (pc + 1) := fun q => absurd ((nI_lt9 (a := 10) (b := pc + 1) (by decide) (by omega)).mp q) (by omega)
      rw [if_neg n1, if_neg e]
theorem e_zKp {M : zM} {gq : Nat → Nat} {pc f : Nat} (hq : zPm gq) (hpc : pc ≤ 10) (hf : f = 1 ∨ f = 17) : zKp M gq pc f 0 3 = nI (zKc pc + 1) ∧ (∀ k, k ≠ 3 → zKp M gq pc f 0 k = M 0 k) ∧ (∀ k, k < 187 → zKp M gq pc f (zKq gq pc (zKc pc)) k = M f k) ∧ ∀ o, o ≠ 0 → o ≠ zKq gq pc (zKc pc) → zKp M gq pc f o = M o := by
  have hr := (zPm.kq (pc := pc) hq).1 (zKc pc) (by unfold zKc; split <;> omega)
  have h0 : ∀ o, o ≠ 0 → (if pc = 10 then zU M 0 3 (nI 9) else M) o = M o := fun o ho => by
    split
    · exact zU_ne ho
    · rfl
  unfold zKp
  refine ⟨zU_s, fun k hk => ?_, fun k hk => ?_, fun o h1 h2 => ?_⟩
  · rw [zU_k hk]
    unfold zCp
    rw [zUa_ne (by omega)]
    split
    · exact zU_k hk
    · rfl
  · rw [zU_ne (by omega)]
    unfold zCp
    rw [zUa_eq, if_pos hk, h0 f (by omega)]
  · rw [zU_ne h1]
    unfold zCp
    rw [zUa_ne h2, h0 o h1]
theorem zKc_1 {pc : Nat} (h : pc ≤ 10) : zKc pc + 1 = if pc = 10 then 10 else pc + 1 := by
  unfold zKc
  split <;> rfl
theorem zKq_sh {gq : Nat → Nat} {pc j : Nat} (h : pc ≤ 10) (h1 : 1 ≤ j) (h2 : j < zKc pc + 1) : zKq gq pc (zKc pc - j) = gq (pc - 1 - (j - 1)) := by
  unfold zKq zKc at *
  by_cases e : pc = 10
  · rw [if_pos e] at h2
    rw [if_pos e, if_pos e]
    unfold zRot
    rw [if_pos (by omega)]
    congr 1
    omega
  · rw [if_neg e] at h2
    rw [if_neg e, if_neg e]
    congr 1
    omega
section LIFT
variable {n oz nx pc ty rp T : Nat} {sl : Nat → Option Nat} {ext : List va_E} {gq : Nat → Nat} {x m : zM}
theorem xS.of {T' : Nat} {x' m' : zM} (h : xS T sl ext x m) (hT : T ≤ T') (ex : ∀ o, 191 ≤ o → x' o = x o) (em : ∀ o, o = 14 ∨ o = 15 ∨ o = 16 → m' o = m o) : xS T' sl ext x' m' := by
  obtain ⟨h1, h2, h3, h4⟩ := h
  refine ⟨h1, h2, h3, fun j hj => ?_⟩
  rw [em 16 (by omega), em (14 + j) (by omega)]
  refine ⟨(h4 j hj).1, fun q hq => ?_⟩
  obtain ⟨g1, n', oz', g2, g3⟩ := (h4 j hj).2 q hq
  have hr := (h2 j q hq).1.1
  exact ⟨g1, n', oz', g2, (g3.up hT).eq (fun o _ => ex (q + o) (by omega)) (fun _ _ => rfl)⟩
theorem xT.of {x' m' : zM} (h : xT ty x m) (e2 : x' 2 0 = x 2 0) (e3 : x' 3 = x 3) (e8 : m' 0 8 = m 0 8) (e18 : m' 18 = m 18) : xT ty x' m' := by
  unfold xT
  rw [e2, e3, e8, e18]
  exact h
theorem xP.of {x' m' : zM} (h : xP rp x m) (e0 : x' 0 7 = x 0 7) (e190 : x' 190 = x 190) (e10 : m' 0 10 = m 0 10) (e19 : m' 19 = m 19) : xP rp x' m' := by
  unfold xP
  rw [e0, e190, e10, e19]
  exact h
/-- nothing that is told of has changed -/
theorem xR.of {T' : Nat} {x' m' : zM} (h : xR n oz nx pc ty rp T sl ext gq x m) (hT : T ≤ T') (ex : ∀ o, (o < 17 ∨ 19 ≤ o) → x' o = x o) (em : ∀ o, o ≠ 0 → o ≠ 20 → m' o = m o) (e0 : ∀ k, k < 12 → k ≠ 0 → m' 0 k = m 0 k) : xR n oz nx pc ty rp T' sl ext gq x' m' := by
  obtain ⟨⟨h1, h2⟩, ⟨g1, g2, g3, g4⟩, hS, hT', hP⟩ := h
  refine ⟨⟨h1, (h2.up hT).eq (fun o ho => ex (5 + o) (by omega)) (fun k _ => by rw [em 1 (by decide) (by decide)])⟩, ⟨?_, ?_, g3, fun j hj => ?_⟩, hS.of hT (fun o ho => ex o (by omega)) (fun o ho => em o (by omega) (by omega)), hT'.of (by rw [ex 2 (by decide)]) (ex 3 (by decide)) (e0 8 (by decide) (by decide)) (em 18 (by decide) (by decide)), hP.of (by rw [ex 0 (by decide)]) (ex 190 (by decide)) (e0 10 (by decide) (by decide)) (em 19 (by decide) (by decide))⟩
  · rw [ex 33 (by decide), e0 3 (by decide) (by decide)]
    exact g1
  · rw [ex 33 (by decide)]
    exact g2
  · obtain ⟨n', oz', q1, q2⟩ := g4 j hj
    have hr := g3.1 (pc - 1 - j) (by omega)
    exact ⟨n', oz', q1, (q2.up hT).eq (fun o _ => ex _ (by omega)) (fun k _ => by rw [em _ (by omega) (by omega)])⟩
theorem note_0 (nx : Nat) : zPl (g_X3_note x nx) 5 0 = x 5 := fr_X3_note x nx 5 (by decide)
/-- the office as it stands behind a note -/
theorem rl_note (h : rl n oz T (zPl x 5) (m 1)) (nx : Nat) : rl n oz T (zPl (g_X3_note x nx) 5) (m 1) := h.eq (fun o ho => fr_X3_note x nx (5 + o) (by omega)) (fun _ _ => rfl)
/-- the note itself -/
theorem rl_noted (h : rl n oz T (zPl x 5) (m 1)) (hn : nx < 11) : rl n oz T (zPl (g_X3_note x nx) (35 + 14 * nx)) (m 1) := by
  refine h.pt (fun o k hu => ?_) (fun _ _ => rfl)
  have := (e_copy x (35 + 14 * nx) 5 (by omega)).2 o k hu
  exact this
theorem note_out (hn : nx < 11) {o : Nat} (ho : o < 35 + 14 * nx ∨ 35 + 14 * nx + 14 ≤ o) : g_X3_note x nx o = x o := (e_copy x (35 + 14 * nx) 5 (by omega)).1 o (by omega)
/-- refused: all is as it was -/
theorem xR.noted (h : xR n oz nx pc ty rp T sl ext gq x m) : xR n oz nx pc ty rp T sl ext gq (g_X3_note x nx) m := by
  obtain ⟨⟨h1, h2⟩, ⟨g1, g2, g3, g4⟩, hS, hT', hP⟩ := h
  have hn := g2.2
  have lo : ∀ o, o < 35 → g_X3_note x nx o = x o := fun o ho => fr_X3_note x nx o ho
  refine ⟨⟨h1, rl_note h2 nx⟩, ⟨?_, ?_, g3, fun j hj => ?_⟩, hS.of (Nat.le_refl T) (fun o ho => note_out hn (by omega)) (fun _ _ => rfl), hT'.of (by rw [lo 2 (by decide)]) (lo 3 (by decide)) rfl rfl, hP.of (by rw [lo 0 (by decide)]) (note_out hn (by omega)) rfl rfl⟩
  · rw [lo 33 (by decide)]
    exact g1
  · rw [lo 33 (by decide)]
    exact g2
  · obtain ⟨n', oz', q1, q2⟩ := g4 j hj
    have hne : (nx + 10 - j) % 11 ≠ nx := by omega
    have hlt : (nx + 10 - j) % 11 < 11 := Nat.mod_lt _ (by decide)
    generalize (nx + 10 - j) % 11 = i at *
    exact ⟨n', oz', q1, q2.eq (fun o _ => note_out hn (by omega)) (fun _ _ => rfl)⟩
/-- done: what was is the latest in the history -/
theorem xR.done {T' n' oz' : Nat} {N' b : zM} (h : xR n oz nx pc ty rp T sl ext gq x m) (hT : T ≤ T') (hn2 : 2 ≤ n') (hr : rl n' oz' T' N' (b 1)) (hb : ∀ o, o ≠ 0 → o ≠ 1 → o ≠ 20 → b o = zKp (zU m 0 0 0) gq pc 1 o) (hb0 : ∀ k, k < 12 → b 0 k = zKp (zU m 0 0 0) gq pc 1 0 k) : xR n' oz' ((nx + 1) % 11) (zKc pc + 1) ty rp T' sl ext (zKq gq pc) (g_X3_keepNote (zPs (g_X3_note x nx) 5 14 N')) b ∧ b 0 0 = 0 := by
  obtain ⟨⟨h1, h2⟩, ⟨g1, g2, g3, g4⟩, hS, hT', hP⟩ := h
  have hn := g2.2
  have hpc := g1.2.2
  have lo : ∀ o, o < 35 → g_X3_note x nx o = x o := fun o ho => fr_X3_note x nx o ho
  have w33 : zPs (g_X3_note x nx) 5 14 N' 33 = x 33 := by rw [zPs_out (by decide), lo 33 (by decide)]
  obtain ⟨k1, k2, k3⟩ := e_keepNote (X := zPs (g_X3_note x nx) 5 14 N') (by rw [w33]; exact g2.1) hn (by rw [w33]; exact g1.1) hpc
  obtain ⟨z1, z2, z3, z4⟩ := e_zKp (M := zU m 0 0 0) (f := 1) g3 hpc (Or.inl rfl)
  have hq' := zPm.kq (pc := pc) g3
  have hkc : zKc pc < 10 := by unfold zKc; split <;> omega
  have hr10 := hq'.1 (zKc pc) hkc
  have m0 : ∀ o, o ≠ 0 → zU m 0 0 0 o = m o := fun o ho => zU_ne ho
  have m00 : ∀ k, k ≠ 0 → zU m 0 0 0 0 k = m 0 k := fun k hk => zU_k hk
  generalize hX : g_X3_keepNote (zPs (g_X3_note x nx) 5 14 N') = X at *
  have xo : ∀ o, o ≠ 33 → (o < 5 ∨ 19 ≤ o) → X o = g_X3_note x nx o := fun o h33 ho => by rw [k3 o h33, zPs_out (by omega)]
  have x5 : ∀ o, o < 12 → X (5 + o) = N' o := fun o ho => by
    rw [k3 _ (by omega), zPs_in (by omega) (by omega)]
    congr 1
    omega
  have b0 : ∀ k, k < 12 → k ≠ 3 → b 0 k = zU m 0 0 0 0 k := fun k hk h3 => (hb0 k hk).trans (z2 k h3)
  have bo : ∀ o, o ≠ 0 → o ≠ 1 → o ≠ 20 → o ≠ zKq gq pc (zKc pc) → b o = m o := fun o q0 q1 q2 q3 => (hb o q0 q1 q2).trans ((z4 o q0 q3).trans (m0 o q0))
  refine ⟨⟨⟨hn2, hr.eq (fun o ho => x5 o ho) (fun _ _ => rfl)⟩, ⟨⟨?_, ?_, by omega⟩, ⟨k1, Nat.mod_lt _ (by decide)⟩, hq', fun j hj => ?_⟩, hS.of hT (fun o ho => (xo o (by omega) (by omega)).trans (note_out hn (by omega))) (fun o ho => bo o (by omega) (by omega) (by omega) (by omega)), hT'.of (by rw [xo 2 (by decide) (by decide), lo 2 (by decide)]) ((xo 3 (by decide) (by decide)).trans (lo 3 (by decide))) ((b0 8 (by decide) (by decide)).trans (m00 8 (by decide))) (bo 18 (by decide) (by decide) (by decide) (by omega)), hP.of (by rw [xo 0 (by decide) (by decide), lo 0 (by decide)]) ((xo 190 (by decide) (by decide)).trans (note_out hn (by omega))) ((b0 10 (by decide) (by decide)).trans (m00 10 (by decide))) (bo 19 (by decide) (by decide) (by decide) (by omega))⟩, (b0 0 (by decide) (by decide)).trans zU_s⟩
  · rw [k2, zKc_1 hpc]
  · rw [hb0 3 (by decide), z1]
  · by_cases e : j = 0
    · subst e
      have ei : ((nx + 1) % 11 + 10 - 0) % 11 = nx := by omega
      rw [ei]
      refine ⟨n, oz, h1, ?_⟩
      refine ((rl_noted (nx := nx) h2 hn).up hT).eq (fun o ho => xo _ (by omega) (by omega)) (fun k hk => ?_)
      rw [show zKc pc + 1 - 1 - 0 = zKc pc by omega, hb _ (by omega) (by omega) (by omega), z3 k hk, m0 1 (by decide)]
    · obtain ⟨n1, oz1, q1, q2⟩ := g4 (j - 1) (by
        have := zKc_1 hpc
        split at this <;> omega)
      have hjpc : j - 1 < pc := by
        have := zKc_1 hpc
        split at this <;> omega
      have ei : ((nx + 1) % 11 + 10 - j) % 11 = (nx + 10 - (j - 1)) % 11 := by omega
      have hne : (nx + 10 - (j - 1)) % 11 ≠ nx := by omega
      have hlt : (nx + 10 - (j - 1)) % 11 < 11 := Nat.mod_lt _ (by decide)
      rw [ei]
      generalize (nx + 10 - (j - 1)) % 11 = i at *
      have eq : zKq gq pc (zKc pc + 1 - 1 - j) = gq (pc - 1 - (j - 1)) := by
        rw [show zKc pc + 1 - 1 - j = zKc pc - j by omega]
        exact zKq_sh hpc (by omega) hj
      have hr2 := g3.1 (pc - 1 - (j - 1)) (by omega)
      have hnq : gq (pc - 1 - (j - 1)) ≠ zKq gq pc (zKc pc) := fun q => by
        rw [← eq] at q
        have := hq'.2 _ _ (by omega) hkc q
        omega
      rw [eq]
      refine ⟨n1, oz1, q1, (q2.up hT).eq (fun o ho => (xo _ (by omega) (by omega)).trans (note_out hn (by omega))) (fun k hk => ?_)⟩
      rw [bo _ (by omega) (by omega) (by omega) hnq]
/-- a change on both sides -/
theorem lift (h : xR n oz nx pc ty rp T sl ext gq x m) {T' : Nat} (hT : T ≤ T') (a : Int32 × zM) (re : zM → Int32) (b : zM → Int32 × zM) (hb : ∀ M, zKe M (b M).2) (st : ∀ M, M 1 = m 1 → qStep n T' (zPl (g_X3_note x nx) 5) a (re M) (b M)) :
    (g_X9_settled (zPs (g_X3_note x nx) 5 14 a.2) a.1).1 = (if re (zU m 0 0 0) = 0 then ((b (zKp (zU m 0 0 0) gq pc 1)).1, (b (zKp (zU m 0 0 0) gq pc 1)).2) else (-(re (zU m 0 0 0)), zU m 0 0 0)).1 ∧
    (if re (zU m 0 0 0) = 0 then ((b (zKp (zU m 0 0 0) gq pc 1)).1, (b (zKp (zU m 0 0 0) gq pc 1)).2) else (-(re (zU m 0 0 0)), zU m 0 0 0)).2 0 0 = 0 ∧
    ∃ oz' nx' pc', xR n oz' nx' pc' ty rp T' sl ext (if re (zU m 0 0 0) = 0 then zKq gq pc else gq) (g_X9_settled (zPs (g_X3_note x nx) 5 14 a.2) a.1).2 (if re (zU m 0 0 0) = 0 then ((b (zKp (zU m 0 0 0) gq pc 1)).1, (b (zKp (zU m 0 0 0) gq pc 1)).2) else (-(re (zU m 0 0 0)), zU m 0 0 0)).2 := by
  have e1 : (zU m 0 0 0) 1 = m 1 := zU_ne (by decide)
  have hq := h.2.1.2.2.1
  have hpc := h.2.1.1.2.2
  have e2 : (zKp (zU m 0 0 0) gq pc 1) 1 = m 1 := (zKp_fr hq hpc 1 (Or.inl rfl)).trans e1
  have hset : g_X9_settled (zPs (g_X3_note x nx) 5 14 a.2) a.1 = if a.1 < 0 then (a.1, zPs (g_X3_note x nx) 5 14 a.2) else (a.1, g_X3_keepNote (zPs (g_X3_note x nx) 5 14 a.2)) := rfl
  rw [hset]
  rcases st _ e1 with ⟨r1, r2, r3, r4⟩ | ⟨r1, r2, r3, r4⟩
  · rw [if_pos r3, if_neg r1, if_neg r1]
    refine ⟨r2, (show zU m 0 0 0 0 0 = 0 from zU_s), oz, nx, pc, ?_⟩
    have e3 : zPs (g_X3_note x nx) 5 14 a.2 = g_X3_note x nx := by
      funext o
      rw [r4]
      exact zPs_pure
    show xR n oz nx pc ty rp T' sl ext gq (zPs (g_X3_note x nx) 5 14 a.2) (zU m 0 0 0)
    rw [e3]
    exact h.noted.of hT (fun _ _ => rfl) (fun o ho _ => zU_ne ho) (fun k _ hk => zU_k hk)
  · rw [if_neg r2, if_pos r1, if_pos r1]
    rcases st _ e2 with ⟨-, -, s3, -⟩ | ⟨s1, s2, s3, oz', s4⟩
    · exact absurd s3 r2
    · have hk := hb (zKp (zU m 0 0 0) gq pc 1)
      have := h.done hT h.1.1 s4 hk.1 hk.2
      exact ⟨s3, this.2, oz', _, _, this.1⟩
end LIFT
