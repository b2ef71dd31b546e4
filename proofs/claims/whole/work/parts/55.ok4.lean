/-! THE CALLS, at the whole object and the whole reference: what is told -/
/-- nothing but thrown, votes and what leads has changed in the reference -/
def fr0 (m Y : zM) : Prop := (∀ o, o ≠ 0 → o ≠ 20 → Y o = m o) ∧ ∀ k, k < 12 → Y 0 k = (zU m 0 0 0) 0 k
theorem fr0.z (m : zM) : fr0 m (zU m 0 0 0) := ⟨fun o ho _ => zU_ne ho, fun _ _ => rfl⟩
theorem fr0.fv {m Y : zM} {n : Nat} (h : fr0 m Y) : fr0 m (g_X10_findVotes Y n) := ⟨fun o h0 h20 => (fr_X10_findVotes Y n o h20).trans (h.1 o h0 h20), fun k hk => (congrFun (fr_X10_findVotes Y n 0 (by decide)) k).trans (h.2 k hk)⟩
theorem fr0.ld {m Y : zM} {n : Nat} {ti : Int32} (h : fr0 m Y) : fr0 m (g_X10_leading Y n ti).2 := by
  refine ⟨fun o h0 h20 => (fr_X10_leading Y n ti o h0).trans (h.1 o h0 h20), fun k hk => ?_⟩
  have e2 : (g_X10_leading Y n ti).2 = (r_X10_leading_14 Y n ti).2 := by
    unfold g_X10_leading
    (repeat' split) <;> rfl
  rw [e2, ← h.2 k hk]
  unfold r_X10_leading_14
  refine zIt_inv (f := l_X10_leading_14 Y n ti) (P := fun _ (s : Int32 × zM) => s.2 0 k = Y 0 k) n (-1, zU (zU Y 0 12 (-1)) 0 13 0) ?_ ?_
  · dsimp only
    rw [zU_k (by omega), zU_k (by omega)]
  · intro i _ s hs
    unfold l_X10_leading_14
    split
    · exact hs
    · dsimp only
      rw [zU_k (by omega), zU_k (by omega)]
      exact hs
theorem fr0.cb {m Y : zM} {n : Nat} {le ti : Int32} (h : fr0 m Y) : fr0 m (g_X10_chosenBy Y n le ti).2 := by
  unfold g_X10_chosenBy
  (repeat' split) <;> exact h.ld
theorem fr0.cn {m Y : zM} {n : Nat} (h : fr0 m Y) : fr0 m (g_X10_chosenNow Y n).2 := h.fv.cb
theorem fr0.ro {m Y : zM} {n oz r : Nat} (h : fr0 m Y) : fr0 m (g_X10_reasonOf Y n oz r).2 := by
  unfold g_X10_reasonOf
  (repeat' split) <;> first | exact h | exact h.fv.ld
section OK4
variable {n oz nx pc ty rp T : Nat} {sl : Nat → Option Nat} {ext : List va_E} {gq : Nat → Nat} {x m : zM}
theorem xR.read {x' Y : zM} (h : xR n oz nx pc ty rp T sl ext gq x m) (ex : ∀ o, (o < 17 ∨ 19 ≤ o) → x' o = x o) (hf : fr0 m Y) : Y 0 0 = 0 ∧ xE (T + 601) sl ext gq x' Y := ⟨(hf.2 0 (by decide)).trans zU_s, n, oz, nx, pc, ty, rp, h.of (by omega) ex hf.1 (fun k hk h0 => (hf.2 k hk).trans (zU_k h0))⟩
theorem xR.readO {N' Y : zM} (h : xR n oz nx pc ty rp T sl ext gq x m) (ex : ∀ o, o ≠ 12 ∧ o ≠ 13 → N' o = zPl x 5 o) (hf : fr0 m Y) : Y 0 0 = 0 ∧ xE (T + 601) sl ext gq (zPs x 5 14 N') Y := h.read (fun o ho => zPs_fr fun j hj e => ex j (by omega)) hf
theorem ok_truncate (h : xR n oz nx pc ty rp T sl ext gq x m) {v : Int32} (h0 : ¬ v < 0) (h1 : v ≤ nI ty) : (g_X9_truncate x v).1 = (g_X10_truncate m gq pc v).1 ∧ (g_X10_truncate m gq pc v).2 0 0 = 0 ∧ xE (T + 601) sl ext gq (g_X9_truncate x v).2 (g_X10_truncate m gq pc v).2 := by
  obtain ⟨⟨h1', h2⟩, ⟨g1, g2, g3, g4⟩, hS, ⟨⟨t1, t2, t3⟩, t4⟩, hP⟩ := id h
  obtain ⟨j, hj, rfl⟩ := nI_of h0
  have hjt : j ≤ ty := (nI_leI hj (by omega)).mp h1
  have xo : ∀ o, o ≠ 2 → zU x 2 0 (nI j) o = x o := fun o ho => zU_ne ho
  have yo : ∀ o, o ≠ 0 → zU (zU m 0 0 0) 0 8 (nI j) o = m o := fun o ho => (zU_ne ho).trans (zU_ne ho)
  have y0 : ∀ k, k ≠ 8 → zU (zU m 0 0 0) 0 8 (nI j) 0 k = zU m 0 0 0 0 k := fun k hk => zU_k hk
  refine ⟨rfl, (y0 0 (by decide)).trans zU_s, n, oz, nx, pc, j, rp, ⟨h1', (h2.up (by omega)).eq (fun o _ => xo (5 + o) (by omega)) (fun k _ => congrFun (yo 1 (by decide)) k)⟩, ⟨⟨g1.1, ((y0 3 (by decide)).trans (zU_k (by decide))).trans g1.2.1, g1.2.2⟩, g2, g3, fun j' hj' => ?_⟩, hS.of (by omega) (fun o ho => xo o (by omega)) (fun o ho => yo o (by omega)), ⟨⟨(show zU x 2 0 (nI j) 2 0 = nI j from zU_s), (show zU (zU m 0 0 0) 0 8 (nI j) 0 8 = nI j from zU_s), by omega⟩, fun k hk => t4 k (by omega)⟩, hP.of rfl rfl rfl rfl⟩
  obtain ⟨n', oz', q1, q2⟩ := g4 j' hj'
  have hr := g3.1 (pc - 1 - j') (by omega)
  exact ⟨n', oz', q1, (q2.up (by omega)).eq (fun o _ => xo _ (by omega)) (fun k _ => congrFun (yo _ (by omega)) k)⟩
theorem ok_reportByte (h : xR n oz nx pc ty rp T sl ext gq x m) (j : Int32) : g_X9_reportByte x rp j = (g_X10_reportByte m rp j).1 ∧ (g_X10_reportByte m rp j).2 0 0 = 0 ∧ xE (T + 601) sl ext gq x (g_X10_reportByte m rp j).2 := by
  obtain ⟨⟨p1, p2, p3⟩, p4⟩ := h.2.2.2.2
  have e : (g_X10_reportByte m rp j).2 = zU m 0 0 0 := by
    unfold g_X10_reportByte
    (repeat' split) <;> rfl
  refine ⟨?_, by rw [e]; exact h.read (fun _ _ => rfl) (fr0.z m)⟩
  unfold g_X9_reportByte g_X10_reportByte
  rw [p1, p2]
  by_cases c1 : j < 0
  · rw [if_pos c1, if_pos c1]
  · rw [if_neg c1, if_neg c1]
    by_cases c2 : j < nI rp
    · rw [if_pos c2, if_pos c2]
      obtain ⟨k, hk, rfl⟩ := nI_of c1
      have hk2 : k < rp := (nI_ltI hk (by omega)).mp c2
      rw [nI_clamp hk]
      exact p4 k hk2
    · rw [if_neg c2, if_neg c2]
theorem ok_writeVotes (h : xR n oz nx pc ty rp T sl ext gq x m) : (g_X9_writeVotes x n).1 = (g_X10_writeVotes m gq pc n).1 ∧ (g_X10_writeVotes m gq pc n).2 0 0 = 0 ∧ xE (T + 601) sl ext gq (g_X9_writeVotes x n).2 (g_X10_writeVotes m gq pc n).2 := by
  obtain ⟨⟨h1, h2⟩, ⟨g1, g2, g3, g4⟩, hS, hT', hP⟩ := id h
  have h9 : n ≤ 9 := h2.1.1
  have x0 : ∀ k, k ≠ 7 → zIt (l_X9_writeVotes_13 x n) n (zU x 0 7 (x 5 0)) 0 k = x 0 k := fun k hk => (congrFun (fr_l_X9_writeVotes_13 x n 0 (by decide) n _) k).trans (zU_k hk)
  have x07 : zIt (l_X9_writeVotes_13 x n) n (zU x 0 7 (x 5 0)) 0 7 = nI n := (congrFun (fr_l_X9_writeVotes_13 x n 0 (by decide) n _) 7).trans (zU_s.trans h2.1.2.1)
  have xo : ∀ o, o ≠ 0 → o ≠ 190 → zIt (l_X9_writeVotes_13 x n) n (zU x 0 7 (x 5 0)) o = x o := fun o q0 q1 => (fr_l_X9_writeVotes_13 x n o q1 n _).trans (zU_ne q0)
  have yo : ∀ o, o ≠ 0 → o ≠ 19 → r_X10_writeVotes_17 m gq pc n o = m o := fun o q0 q1 => (fr_l_X10_writeVotes_17 m gq pc n o q1 n _).trans ((zU_ne q0).trans (zU_ne q0))
  have y0 : ∀ k, r_X10_writeVotes_17 m gq pc n 0 k = if k = 10 then m 1 0 else if k = 0 then 0 else m 0 k := fun k => by
    refine (congrFun (fr_l_X10_writeVotes_17 m gq pc n 0 (by decide) n _) k).trans ?_
    rw [zU_c, zU_c]
  have xr : ∀ k, k < n → zIt (l_X9_writeVotes_13 x n) n (zU x 0 7 (x 5 0)) 190 k = vp_nar .byte (((g_X1_signOf (zPl (zPl x 5) 7) k)).toInt8.toInt32) := by
    refine fun k hk => (zIt_inv (f := l_X9_writeVotes_13 x n) (P := fun i (s : zM) => (∀ o, o ≠ 0 → o ≠ 190 → s o = x o) ∧ ∀ k, k < i → s 190 k = vp_nar .byte (((g_X1_signOf (zPl (zPl x 5) 7) k)).toInt8.toInt32)) n (zU x 0 7 (x 5 0)) ⟨fun o q0 _ => zU_ne q0, fun k hk => absurd hk (Nat.not_lt_zero k)⟩ ?_).2 k hk
    intro i hi s hs
    unfold l_X9_writeVotes_13
    refine ⟨fun o q0 q1 => (zU_ne q1).trans (hs.1 o q0 q1), fun k hk => ?_⟩
    rw [zU_c]
    by_cases e : k = i
    · rw [if_pos e, e]
      have es : g_X1_signOf (zPl s 12) i = g_X1_signOf (zPl (zPl x 5) 7) i := by
        unfold g_X1_signOf g_X1_isOnRoll g_X1_stateOf
        rw [show zPl s 12 0 = s 12 from rfl, show zPl s 12 2 = s 14 from rfl, hs.1 12 (by decide) (by decide), hs.1 14 (by decide) (by decide)]
        rfl
      rw [es]
    · rw [if_neg e]
      exact hs.2 k (by omega)
  have yr : ∀ k, k < n → r_X10_writeVotes_17 m gq pc n 19 k = vp_nar .byte (((g_X10_sign m k)).toInt8.toInt32) := by
    refine fun k hk => (zIt_inv (f := l_X10_writeVotes_17 m gq pc n) (P := fun i (s : zM) => s 1 = m 1 ∧ ∀ k, k < i → s 19 k = vp_nar .byte (((g_X10_sign m k)).toInt8.toInt32)) n (zU (zU m 0 0 0) 0 10 (m 1 0)) ⟨(zU_ne (by decide)).trans (zU_ne (by decide)), fun k hk => absurd hk (Nat.not_lt_zero k)⟩ ?_).2 k hk
    intro i hi s hs
    unfold l_X10_writeVotes_17
    refine ⟨(zU_ne (by decide)).trans hs.1, fun k hk => ?_⟩
    rw [zU_c]
    by_cases e : k = i
    · rw [if_pos e, e]
      have es : g_X10_sign s i = g_X10_sign m i := by
        unfold g_X10_sign g_X10_isOnRoll g_X10_of
        rw [hs.1]
      rw [es]
    · rw [if_neg e]
      exact hs.2 k (by omega)
  have eX : g_X9_writeVotes x n = (zIt (l_X9_writeVotes_13 x n) n (zU x 0 7 (x 5 0)) 0 7, zIt (l_X9_writeVotes_13 x n) n (zU x 0 7 (x 5 0))) := rfl
  have eY : g_X10_writeVotes m gq pc n = (r_X10_writeVotes_17 m gq pc n 0 10, r_X10_writeVotes_17 m gq pc n) := rfl
  rw [eX, eY]
  generalize zIt (l_X9_writeVotes_13 x n) n (zU x 0 7 (x 5 0)) = X at *
  generalize r_X10_writeVotes_17 m gq pc n = Y at *
  have yn : Y 0 10 = nI n := (y0 10).trans h2.1.2.2
  refine ⟨x07.trans yn.symm, y0 0, n, oz, nx, pc, ty, n, ⟨h1, (h2.up (by omega)).eq (fun o _ => xo (5 + o) (by omega) (by omega)) (fun k _ => congrFun (yo 1 (by decide) (by decide)) k)⟩, ⟨⟨?_, (y0 3).trans g1.2.1, g1.2.2⟩, ?_, g3, fun j hj => ?_⟩, hS.of (by omega) (fun o ho => xo o (by omega) (by omega)) (fun o ho => yo o (by omega) (by omega)), hT'.of (congrFun (xo 2 (by decide) (by decide)) 0) (xo 3 (by decide) (by decide)) (y0 8) (yo 18 (by decide) (by decide)), ⟨⟨x07, yn, h9⟩, fun k hk => ?_⟩⟩
  · exact (congrFun (xo 33 (by decide) (by decide)) 0).trans g1.1
  · exact ⟨(congrFun (xo 33 (by decide) (by decide)) 1).trans g2.1, g2.2⟩
  · obtain ⟨n', oz', q1, q2⟩ := g4 j hj
    have hr := g3.1 (pc - 1 - j) (by omega)
    have hlt : (nx + 10 - j) % 11 < 11 := Nat.mod_lt _ (by decide)
    generalize (nx + 10 - j) % 11 = i at *
    exact ⟨n', oz', q1, (q2.up (by omega)).eq (fun o _ => xo _ (by omega) (by omega)) (fun k _ => congrFun (yo _ (by omega) (by omega)) k)⟩
  · show X 190 k = Y 19 k
    rw [xr k hk, yr k hk, e_sign h2 hk]
theorem ok_office (h : xR n oz nx pc ty rp T sl ext gq x m) {w : Int32} (hw : ∃ j, j < 19 ∧ w = nI j) : g_X9_office x n w = (g_X10_office m gq pc n w).1 ∧ (g_X10_office m gq pc n w).2 0 0 = 0 ∧ xE (T + 601) sl ext gq x (g_X10_office m gq pc n w).2 := by
  obtain ⟨⟨h1, h2⟩, ⟨g1, g2, g3, g4⟩, hS, hT', hP⟩ := id h
  have h9 : n ≤ 9 := h2.1.1
  have e : (g_X10_office m gq pc n w).2 = zU m 0 0 0 := by
    unfold g_X10_office
    (repeat' split) <;> rfl
  refine ⟨?_, by rw [e]; exact h.read (fun _ _ => rfl) (fr0.z m)⟩
  obtain ⟨a1, a2, a3, a4, a5, a6, a7, a8, a9, b1, b2, b3, b4, b5⟩ := id h2
  obtain ⟨j, hj, rfl⟩ := hw
  rcases (show j = 0 ∨ j = 1 ∨ j = 2 ∨ j = 3 ∨ j = 4 ∨ j = 5 ∨ j = 6 ∨ j = 7 ∨ j = 8 ∨ j = 9 ∨ j = 10 ∨ j = 11 ∨ j = 12 ∨ j = 13 ∨ j = 14 ∨ j = 15 ∨ j = 16 ∨ j = 17 ∨ j = 18 by omega) with rfl | rfl | rfl | rfl | rfl | rfl | rfl | rfl | rfl | rfl | rfl | rfl | rfl | rfl | rfl | rfl | rfl | rfl | rfl
  · unfold g_X9_office g_X10_office
    rw [if_neg (show ¬ nI 0 = 17 by decide), if_neg (show ¬ nI 0 = 18 by decide), if_pos (show nI 0 < 6 by decide)]
    unfold g_X4_tell
    rw [if_pos (show nI 0 = 0 from rfl)]
    rw [if_pos (show nI 0 = 0 from rfl)]
    exact h2.1.2.1.trans h2.1.2.2.symm
  · unfold g_X9_office g_X10_office
    rw [if_neg (show ¬ nI 1 = 17 by decide), if_neg (show ¬ nI 1 = 18 by decide), if_pos (show nI 1 < 6 by decide)]
    unfold g_X4_tell
    rw [if_neg (show ¬ nI 1 = 0 by decide), if_pos (show nI 1 = 1 from rfl)]
    rw [if_neg (show ¬ nI 1 = 0 by decide), if_pos (show nI 1 = 1 from rfl)]
    exact (m_ups (M := zU m 0 0 0) h9 a2).symm
  · unfold g_X9_office g_X10_office
    rw [if_neg (show ¬ nI 2 = 17 by decide), if_neg (show ¬ nI 2 = 18 by decide), if_pos (show nI 2 < 6 by decide)]
    unfold g_X4_tell
    rw [if_neg (show ¬ nI 2 = 0 by decide), if_neg (show ¬ nI 2 = 1 by decide), if_pos (show nI 2 = 2 from rfl)]
    rw [if_neg (show ¬ nI 2 = 0 by decide), if_neg (show ¬ nI 2 = 1 by decide), if_pos (show nI 2 = 2 from rfl)]
    rw [nI_clamp (show 2 < 2 ^ 31 by decide)]
    exact (a3 0 (by decide)).1.symm
  · unfold g_X9_office g_X10_office
    rw [if_neg (show ¬ nI 3 = 17 by decide), if_neg (show ¬ nI 3 = 18 by decide), if_pos (show nI 3 < 6 by decide)]
    unfold g_X4_tell
    rw [if_neg (show ¬ nI 3 = 0 by decide), if_neg (show ¬ nI 3 = 1 by decide), if_neg (show ¬ nI 3 = 2 by decide), if_pos (show nI 3 = 3 from rfl)]
    rw [if_neg (show ¬ nI 3 = 0 by decide), if_neg (show ¬ nI 3 = 1 by decide), if_neg (show ¬ nI 3 = 2 by decide), if_pos (show nI 3 = 3 from rfl)]
    rw [nI_clamp (show 3 < 2 ^ 31 by decide)]
    exact (a3 1 (by decide)).1.symm
  · unfold g_X9_office g_X10_office
    rw [if_neg (show ¬ nI 4 = 17 by decide), if_neg (show ¬ nI 4 = 18 by decide), if_pos (show nI 4 < 6 by decide)]
    unfold g_X4_tell
    rw [if_neg (show ¬ nI 4 = 0 by decide), if_neg (show ¬ nI 4 = 1 by decide), if_neg (show ¬ nI 4 = 2 by decide), if_neg (show ¬ nI 4 = 3 by decide), if_pos (show nI 4 = 4 from rfl)]
    rw [if_neg (show ¬ nI 4 = 0 by decide), if_neg (show ¬ nI 4 = 1 by decide), if_neg (show ¬ nI 4 = 2 by decide), if_neg (show ¬ nI 4 = 3 by decide), if_pos (show nI 4 = 4 from rfl)]
    rw [nI_clamp (show 4 < 2 ^ 31 by decide)]
    exact (a3 2 (by decide)).1.symm
  · unfold g_X9_office g_X10_office
    rw [if_neg (show ¬ nI 5 = 17 by decide), if_neg (show ¬ nI 5 = 18 by decide), if_pos (show nI 5 < 6 by decide)]
    unfold g_X4_tell
    rw [if_neg (show ¬ nI 5 = 0 by decide), if_neg (show ¬ nI 5 = 1 by decide), if_neg (show ¬ nI 5 = 2 by decide), if_neg (show ¬ nI 5 = 3 by decide), if_neg (show ¬ nI 5 = 4 by decide), if_pos (show nI 5 = 5 from rfl)]
    rw [if_neg (show ¬ nI 5 = 0 by decide), if_neg (show ¬ nI 5 = 1 by decide), if_neg (show ¬ nI 5 = 2 by decide), if_neg (show ¬ nI 5 = 3 by decide), if_neg (show ¬ nI 5 = 4 by decide), if_pos (show nI 5 = 5 from rfl)]
    exact a9.1.symm
  · unfold g_X9_office g_X10_office
    rw [if_neg (show ¬ nI 6 = 17 by decide), if_neg (show ¬ nI 6 = 18 by decide), if_neg (show ¬ nI 6 < 6 by decide), if_neg (show ¬ (13 : Int32) < nI 6 by decide)]
    rw [if_neg (show ¬ nI 6 = 0 by decide), if_neg (show ¬ nI 6 = 1 by decide), if_neg (show ¬ nI 6 = 2 by decide), if_neg (show ¬ nI 6 = 3 by decide), if_neg (show ¬ nI 6 = 4 by decide), if_neg (show ¬ nI 6 = 5 by decide), if_neg (show ¬ nI 6 = 14 by decide), if_neg (show ¬ nI 6 = 15 by decide), if_neg (show ¬ nI 6 = 16 by decide), if_neg (show ¬ nI 6 = 17 by decide), if_neg (show ¬ nI 6 = 18 by decide)]
    exact e_btell (M := zU m 0 0 0) h2 ⟨6, by decide, by decide, rfl⟩
  · unfold g_X9_office g_X10_office
    rw [if_neg (show ¬ nI 7 = 17 by decide), if_neg (show ¬ nI 7 = 18 by decide), if_neg (show ¬ nI 7 < 6 by decide), if_neg (show ¬ (13 : Int32) < nI 7 by decide)]
    rw [if_neg (show ¬ nI 7 = 0 by decide), if_neg (show ¬ nI 7 = 1 by decide), if_neg (show ¬ nI 7 = 2 by decide), if_neg (show ¬ nI 7 = 3 by decide), if_neg (show ¬ nI 7 = 4 by decide), if_neg (show ¬ nI 7 = 5 by decide), if_neg (show ¬ nI 7 = 14 by decide), if_neg (show ¬ nI 7 = 15 by decide), if_neg (show ¬ nI 7 = 16 by decide), if_neg (show ¬ nI 7 = 17 by decide), if_neg (show ¬ nI 7 = 18 by decide)]
    exact e_btell (M := zU m 0 0 0) h2 ⟨7, by decide, by decide, rfl⟩
  · unfold g_X9_office g_X10_office
    rw [if_neg (show ¬ nI 8 = 17 by decide), if_neg (show ¬ nI 8 = 18 by decide), if_neg (show ¬ nI 8 < 6 by decide), if_neg (show ¬ (13 : Int32) < nI 8 by decide)]
    rw [if_neg (show ¬ nI 8 = 0 by decide), if_neg (show ¬ nI 8 = 1 by decide), if_neg (show ¬ nI 8 = 2 by decide), if_neg (show ¬ nI 8 = 3 by decide), if_neg (show ¬ nI 8 = 4 by decide), if_neg (show ¬ nI 8 = 5 by decide), if_neg (show ¬ nI 8 = 14 by decide), if_neg (show ¬ nI 8 = 15 by decide), if_neg (show ¬ nI 8 = 16 by decide), if_neg (show ¬ nI 8 = 17 by decide), if_neg (show ¬ nI 8 = 18 by decide)]
    exact e_btell (M := zU m 0 0 0) h2 ⟨8, by decide, by decide, rfl⟩
  · unfold g_X9_office g_X10_office
    rw [if_neg (show ¬ nI 9 = 17 by decide), if_neg (show ¬ nI 9 = 18 by decide), if_neg (show ¬ nI 9 < 6 by decide), if_neg (show ¬ (13 : Int32) < nI 9 by decide)]
    rw [if_neg (show ¬ nI 9 = 0 by decide), if_neg (show ¬ nI 9 = 1 by decide), if_neg (show ¬ nI 9 = 2 by decide), if_neg (show ¬ nI 9 = 3 by decide), if_neg (show ¬ nI 9 = 4 by decide), if_neg (show ¬ nI 9 = 5 by decide), if_neg (show ¬ nI 9 = 14 by decide), if_neg (show ¬ nI 9 = 15 by decide), if_neg (show ¬ nI 9 = 16 by decide), if_neg (show ¬ nI 9 = 17 by decide), if_neg (show ¬ nI 9 = 18 by decide)]
    exact e_btell (M := zU m 0 0 0) h2 ⟨9, by decide, by decide, rfl⟩
  · unfold g_X9_office g_X10_office
    rw [if_neg (show ¬ nI 10 = 17 by decide), if_neg (show ¬ nI 10 = 18 by decide), if_neg (show ¬ nI 10 < 6 by decide), if_neg (show ¬ (13 : Int32) < nI 10 by decide)]
    rw [if_neg (show ¬ nI 10 = 0 by decide), if_neg (show ¬ nI 10 = 1 by decide), if_neg (show ¬ nI 10 = 2 by decide), if_neg (show ¬ nI 10 = 3 by decide), if_neg (show ¬ nI 10 = 4 by decide), if_neg (show ¬ nI 10 = 5 by decide), if_neg (show ¬ nI 10 = 14 by decide), if_neg (show ¬ nI 10 = 15 by decide), if_neg (show ¬ nI 10 = 16 by decide), if_neg (show ¬ nI 10 = 17 by decide), if_neg (show ¬ nI 10 = 18 by decide)]
    exact e_btell (M := zU m 0 0 0) h2 ⟨10, by decide, by decide, rfl⟩
  · unfold g_X9_office g_X10_office
    rw [if_neg (show ¬ nI 11 = 17 by decide), if_neg (show ¬ nI 11 = 18 by decide), if_neg (show ¬ nI 11 < 6 by decide), if_neg (show ¬ (13 : Int32) < nI 11 by decide)]
    rw [if_neg (show ¬ nI 11 = 0 by decide), if_neg (show ¬ nI 11 = 1 by decide), if_neg (show ¬ nI 11 = 2 by decide), if_neg (show ¬ nI 11 = 3 by decide), if_neg (show ¬ nI 11 = 4 by decide), if_neg (show ¬ nI 11 = 5 by decide), if_neg (show ¬ nI 11 = 14 by decide), if_neg (show ¬ nI 11 = 15 by decide), if_neg (show ¬ nI 11 = 16 by decide), if_neg (show ¬ nI 11 = 17 by decide), if_neg (show ¬ nI 11 = 18 by decide)]
    exact e_btell (M := zU m 0 0 0) h2 ⟨11, by decide, by decide, rfl⟩
  · unfold g_X9_office g_X10_office
    rw [if_neg (show ¬ nI 12 = 17 by decide), if_neg (show ¬ nI 12 = 18 by decide), if_neg (show ¬ nI 12 < 6 by decide), if_neg (show ¬ (13 : Int32) < nI 12 by decide)]
    rw [if_neg (show ¬ nI 12 = 0 by decide), if_neg (show ¬ nI 12 = 1 by decide), if_neg (show ¬ nI 12 = 2 by decide), if_neg (show ¬ nI 12 = 3 by decide), if_neg (show ¬ nI 12 = 4 by decide), if_neg (show ¬ nI 12 = 5 by decide), if_neg (show ¬ nI 12 = 14 by decide), if_neg (show ¬ nI 12 = 15 by decide), if_neg (show ¬ nI 12 = 16 by decide), if_neg (show ¬ nI 12 = 17 by decide), if_neg (show ¬ nI 12 = 18 by decide)]
    exact e_btell (M := zU m 0 0 0) h2 ⟨12, by decide, by decide, rfl⟩
  · unfold g_X9_office g_X10_office
    rw [if_neg (show ¬ nI 13 = 17 by decide), if_neg (show ¬ nI 13 = 18 by decide), if_neg (show ¬ nI 13 < 6 by decide), if_neg (show ¬ (13 : Int32) < nI 13 by decide)]
    rw [if_neg (show ¬ nI 13 = 0 by decide), if_neg (show ¬ nI 13 = 1 by decide), if_neg (show ¬ nI 13 = 2 by decide), if_neg (show ¬ nI 13 = 3 by decide), if_neg (show ¬ nI 13 = 4 by decide), if_neg (show ¬ nI 13 = 5 by decide), if_neg (show ¬ nI 13 = 14 by decide), if_neg (show ¬ nI 13 = 15 by decide), if_neg (show ¬ nI 13 = 16 by decide), if_neg (show ¬ nI 13 = 17 by decide), if_neg (show ¬ nI 13 = 18 by decide)]
    exact e_btell (M := zU m 0 0 0) h2 ⟨13, by decide, by decide, rfl⟩
  · unfold g_X9_office g_X10_office
    rw [if_neg (show ¬ nI 14 = 17 by decide), if_neg (show ¬ nI 14 = 18 by decide), if_neg (show ¬ nI 14 < 6 by decide), if_pos (show (13 : Int32) < nI 14 by decide)]
    unfold g_X4_tell
    rw [if_neg (show ¬ nI 14 = 0 by decide), if_neg (show ¬ nI 14 = 1 by decide), if_neg (show ¬ nI 14 = 2 by decide), if_neg (show ¬ nI 14 = 3 by decide), if_neg (show ¬ nI 14 = 4 by decide), if_neg (show ¬ nI 14 = 5 by decide), if_pos (show nI 14 = 14 from rfl)]
    rw [if_neg (show ¬ nI 14 = 0 by decide), if_neg (show ¬ nI 14 = 1 by decide), if_neg (show ¬ nI 14 = 2 by decide), if_neg (show ¬ nI 14 = 3 by decide), if_neg (show ¬ nI 14 = 4 by decide), if_neg (show ¬ nI 14 = 5 by decide), if_pos (show nI 14 = 14 from rfl)]
    exact b4.2.1.trans b4.2.2.1.symm
  · unfold g_X9_office g_X10_office
    rw [if_neg (show ¬ nI 15 = 17 by decide), if_neg (show ¬ nI 15 = 18 by decide), if_neg (show ¬ nI 15 < 6 by decide), if_pos (show (13 : Int32) < nI 15 by decide)]
    unfold g_X4_tell
    rw [if_neg (show ¬ nI 15 = 0 by decide), if_neg (show ¬ nI 15 = 1 by decide), if_neg (show ¬ nI 15 = 2 by decide), if_neg (show ¬ nI 15 = 3 by decide), if_neg (show ¬ nI 15 = 4 by decide), if_neg (show ¬ nI 15 = 5 by decide), if_neg (show ¬ nI 15 = 14 by decide), if_pos (show nI 15 = 15 from rfl)]
    rw [if_neg (show ¬ nI 15 = 0 by decide), if_neg (show ¬ nI 15 = 1 by decide), if_neg (show ¬ nI 15 = 2 by decide), if_neg (show ¬ nI 15 = 3 by decide), if_neg (show ¬ nI 15 = 4 by decide), if_neg (show ¬ nI 15 = 5 by decide), if_neg (show ¬ nI 15 = 14 by decide), if_pos (show nI 15 = 15 from rfl)]
    exact e_great0 (M := zU m 0 0 0) h9 a1 a6
  · unfold g_X9_office g_X10_office
    rw [if_neg (show ¬ nI 16 = 17 by decide), if_neg (show ¬ nI 16 = 18 by decide), if_neg (show ¬ nI 16 < 6 by decide), if_pos (show (13 : Int32) < nI 16 by decide)]
    unfold g_X4_tell
    rw [if_neg (show ¬ nI 16 = 0 by decide), if_neg (show ¬ nI 16 = 1 by decide), if_neg (show ¬ nI 16 = 2 by decide), if_neg (show ¬ nI 16 = 3 by decide), if_neg (show ¬ nI 16 = 4 by decide), if_neg (show ¬ nI 16 = 5 by decide), if_neg (show ¬ nI 16 = 14 by decide), if_neg (show ¬ nI 16 = 15 by decide)]
    rw [if_neg (show ¬ nI 16 = 0 by decide), if_neg (show ¬ nI 16 = 1 by decide), if_neg (show ¬ nI 16 = 2 by decide), if_neg (show ¬ nI 16 = 3 by decide), if_neg (show ¬ nI 16 = 4 by decide), if_neg (show ¬ nI 16 = 5 by decide), if_neg (show ¬ nI 16 = 14 by decide), if_neg (show ¬ nI 16 = 15 by decide), if_pos (show nI 16 = 16 from rfl)]
    exact e_cut (M := zU m 0 0 0) h9 a1 a8
  · unfold g_X9_office g_X10_office
    rw [if_pos (show nI 17 = 17 from rfl)]
    rw [if_neg (show ¬ nI 17 = 0 by decide), if_neg (show ¬ nI 17 = 1 by decide), if_neg (show ¬ nI 17 = 2 by decide), if_neg (show ¬ nI 17 = 3 by decide), if_neg (show ¬ nI 17 = 4 by decide), if_neg (show ¬ nI 17 = 5 by decide), if_neg (show ¬ nI 17 = 14 by decide), if_neg (show ¬ nI 17 = 15 by decide), if_neg (show ¬ nI 17 = 16 by decide), if_pos (show nI 17 = 17 from rfl)]
    exact g1.1.trans g1.2.1.symm
  · unfold g_X9_office g_X10_office
    rw [if_neg (show ¬ nI 18 = 17 by decide), if_pos (show nI 18 = 18 from rfl)]
    rw [if_neg (show ¬ nI 18 = 0 by decide), if_neg (show ¬ nI 18 = 1 by decide), if_neg (show ¬ nI 18 = 2 by decide), if_neg (show ¬ nI 18 = 3 by decide), if_neg (show ¬ nI 18 = 4 by decide), if_neg (show ¬ nI 18 = 5 by decide), if_neg (show ¬ nI 18 = 14 by decide), if_neg (show ¬ nI 18 = 15 by decide), if_neg (show ¬ nI 18 = 16 by decide), if_neg (show ¬ nI 18 = 17 by decide), if_pos (show nI 18 = 18 from rfl)]
    exact hT'.1.1.trans hT'.1.2.1.symm
theorem ok_replica (h : xR n oz nx pc ty rp T sl ext gq x m) {r : Nat} (hr : r < n) {w : Int32} (hw : ∃ j, j < 10 ∧ w = nI j) : g_X9_replica x n r w = (g_X10_replica m gq pc n r w).1 ∧ (g_X10_replica m gq pc n r w).2 0 0 = 0 ∧ xE (T + 601) sl ext gq x (g_X10_replica m gq pc n r w).2 := by
  refine ⟨e_replica h.1.2 hr gq pc hw, h.read (fun _ _ => rfl) ?_⟩
  unfold g_X10_replica
  (repeat' split) <;> exact (fr0.z m).fv
theorem ok_isLinked (h : xR n oz nx pc ty rp T sl ext gq x m) {r o : Nat} (hr : r < n) (ho : o < n) : g_X9_isLinked x n r o = (g_X10_isLinked m gq pc n r o).1 ∧ (g_X10_isLinked m gq pc n r o).2 0 0 = 0 ∧ xE (T + 601) sl ext gq x (g_X10_isLinked m gq pc n r o).2 := by
  have h2 := h.1.2
  obtain ⟨a1, a2, a3, a4, a5, a6, a7, a8, a9, b1, b2, b3, b4, b5⟩ := id h2
  have h9 : n ≤ 9 := a1.1
  have e : (g_X10_isLinked m gq pc n r o).2 = zU m 0 0 0 := by
    unfold g_X10_isLinked
    split <;> rfl
  refine ⟨?_, by rw [e]; exact h.read (fun _ _ => rfl) (fr0.z m)⟩
  unfold g_X9_isLinked g_X10_isLinked
  rw [m_link (M := zU m 0 0 0) a8 h9 hr ho, has_q (by omega), bI_ite]
  show bI (qB (zPl x 5 6 r) o) = _
  split
  · rename_i q
    rw [q]
    rfl
  · rename_i q
    rw [Bool.not_eq_true] at q
    rw [q]
    rfl
theorem ok_outcome (h : xR n oz nx pc ty rp T sl ext gq x m) (bk : Int32) {w : Nat} (hw : w < 6) : g_X9_outcome x oz bk w = (g_X10_outcome m gq pc oz bk (nI w)).1 ∧ (g_X10_outcome m gq pc oz bk (nI w)).2 0 0 = 0 ∧ xE (T + 601) sl ext gq x (g_X10_outcome m gq pc oz bk (nI w)).2 := by
  have e : (g_X10_outcome m gq pc oz bk (nI w)).2 = zU m 0 0 0 := by
    unfold g_X10_outcome
    (repeat' split) <;> rfl
  exact ⟨e_outcome h.1.2 gq pc bk (by omega), by rw [e]; exact h.read (fun _ _ => rfl) (fr0.z m)⟩
theorem ok_sealFor (h : xR n oz nx pc ty rp T sl ext gq x m) {r b t : Nat} (hr : r < n) (hb : b ≤ 999) (ht : t ≤ 9999) : g_X9_sealFor n r (nI b) (nI t) = (g_X10_sealFor m gq pc n r (nI b) (nI t)).1 ∧ (g_X10_sealFor m gq pc n r (nI b) (nI t)).2 0 0 = 0 ∧ xE (T + 601) sl ext gq x (g_X10_sealFor m gq pc n r (nI b) (nI t)).2 := by
  have h9 := h.1.2.1.1
  exact ⟨(seal_eq (by omega) hb (by omega)).symm, h.read (fun _ _ => rfl) (fr0.z m)⟩
theorem ok_ahead (h : xR n oz nx pc ty rp T sl ext gq x m) : (g_X9_ahead x).1 = (g_X10_ahead m gq pc n).1 ∧ (g_X10_ahead m gq pc n).2 0 0 = 0 ∧ xE (T + 601) sl ext gq (g_X9_ahead x).2 (g_X10_ahead m gq pc n).2 := by
  refine ⟨e_ahead h.1.2 gq pc, h.readO (fun o ho => fr_X4_chosenNow _ _ _ o ho) ?_⟩
  unfold g_X10_ahead
  split
  · exact (fr0.z m).cn
  · exact fr0.z m
theorem ok_aheadIf (h : xR n oz nx pc ty rp T sl ext gq x m) (le ti : Int32) : (g_X9_aheadIf x le ti).1 = (g_X10_aheadIf m gq pc n le ti).1 ∧ (g_X10_aheadIf m gq pc n le ti).2 0 0 = 0 ∧ xE (T + 601) sl ext gq (g_X9_aheadIf x le ti).2 (g_X10_aheadIf m gq pc n le ti).2 := by
  refine ⟨e_aheadIf h.1.2 gq pc le ti, h.readO (fun o ho => fr_X4_chosenNow _ _ _ o ho) ?_⟩
  unfold g_X10_aheadIf
  split
  · exact (fr0.z m).fv.cb
  · exact (fr0.z m).fv
theorem ok_canWin (h : xR n oz nx pc ty rp T sl ext gq x m) {r : Nat} (hr : r < n) : (g_X9_canWin x n r).1 = (g_X10_canWin m gq pc n r).1 ∧ (g_X10_canWin m gq pc n r).2 0 0 = 0 ∧ xE (T + 601) sl ext gq (g_X9_canWin x n r).2 (g_X10_canWin m gq pc n r).2 := by
  refine ⟨e_canWin2 h.1.2 gq pc hr, h.readO (fun o ho => fr_X4_couldBeChosen _ _ _ o ho) ?_⟩
  have hr0 : fr0 m (r_X10_canWin_31 m gq pc n r) := by
    have h1 := (fr0.z m).fv (n := n)
    have hf := fun o ho => fr_l_X10_canWin_31 m gq pc n r o ho n (g_X10_findVotes (zU m 0 0 0) n)
    exact ⟨fun o h0 h20 => (hf o h20).trans (h1.1 o h0 h20), fun k hk => (congrFun (hf 0 (by decide)) k).trans (h1.2 k hk)⟩
  unfold g_X10_canWin
  (repeat' split) <;> first | exact hr0.cb | exact fr0.z m
theorem ok_wouldSpoil (h : xR n oz nx pc ty rp T sl ext gq x m) {v c : Nat} (hv : v < n) (hc : c < n) : g_X9_wouldSpoil x n v c = (g_X10_wouldSpoil m gq pc n v c).1 ∧ (g_X10_wouldSpoil m gq pc n v c).2 0 0 = 0 ∧ xE (T + 601) sl ext gq x (g_X10_wouldSpoil m gq pc n v c).2 := by
  have e : (g_X10_wouldSpoil m gq pc n v c).2 = zU m 0 0 0 := by
    unfold g_X10_wouldSpoil
    split <;> rfl
  exact ⟨e_wouldSpoil h.1.2 gq pc hv hc, by rw [e]; exact h.read (fun _ _ => rfl) (fr0.z m)⟩
theorem ok_nonceFor (h : xR n oz nx pc ty rp T sl ext gq x m) (hT : T < 2 ^ 28) {v c : Nat} (hv : v < n) (hc : c < n) : g_X9_nonceFor x n v c = (g_X10_nonceFor m gq pc n v c).1 ∧ (g_X10_nonceFor m gq pc n v c).2 0 0 = 0 ∧ xE (T + 601) sl ext gq x (g_X10_nonceFor m gq pc n v c).2 := by
  have e : (g_X10_nonceFor m gq pc n v c).2 = zU m 0 0 0 := by
    unfold g_X10_nonceFor
    (repeat' split) <;> rfl
  exact ⟨e_nonceFor h.1.2 (by omega) gq pc hv hc, by rw [e]; exact h.read (fun _ _ => rfl) (fr0.z m)⟩
theorem ok_callers (h : xR n oz nx pc ty rp T sl ext gq x m) : g_X9_callers x n = (g_X10_callers m gq pc n).1 ∧ (g_X10_callers m gq pc n).2 0 0 = 0 ∧ xE (T + 601) sl ext gq x (g_X10_callers m gq pc n).2 := by
  obtain ⟨a1, a2, a3, a4, a5, a6, a7, a8, a9, b1, b2, b3, b4, b5⟩ := id h.1.2
  exact ⟨e_callers (M := zU m 0 0 0) a1 a2 a8, h.read (fun _ _ => rfl) (fr0.z m)⟩
theorem ok_why (h : xR n oz nx pc ty rp T sl ext gq x m) {r : Nat} (hr : r < n) (d : Int32) : (g_X9_why x n oz r d).1 = (g_X10_why m gq pc n oz r d).1 ∧ (g_X10_why m gq pc n oz r d).2 0 0 = 0 ∧ xE (T + 601) sl ext gq (g_X9_why x n oz r d).2 (g_X10_why m gq pc n oz r d).2 := by
  have e1 : (g_X9_why x n oz r d).1 = if d = 0 then (g_X4_whyNotChosen (zPl x 5) oz r).1 else (g_X4_causeFor (zPl x 5) oz r).1 := by
    unfold g_X9_why
    split <;> rfl
  refine ⟨e1.trans (e_why h.1.2 gq pc hr d), ?_⟩
  have hf : fr0 m (g_X10_why m gq pc n oz r d).2 := by
    have hr0 : fr0 m (g_X10_reasonOf (zU m 0 0 0) n oz r).2 := (fr0.z m).ro
    unfold g_X10_why
    generalize g_X10_reasonOf (zU m 0 0 0) n oz r = R at *
    split
    · exact hr0
    · split
      · split
        · exact hr0.ld
        · split
          · exact hr0.ld
          · split <;> exact hr0.ld
      · exact hr0
  unfold g_X9_why
  split
  · exact h.readO (fun o ho => fr_X4_whyNotChosen _ _ _ o ho) hf
  · exact h.readO (fun o ho => fr_X4_causeFor _ _ _ o ho) hf
theorem ok_gap (h : xR n oz nx pc ty rp T sl ext gq x m) : g_X9_gap x n oz = (g_X10_gap m gq pc n oz).1 ∧ (g_X10_gap m gq pc n oz).2 0 0 = 0 ∧ xE (T + 601) sl ext gq x (g_X10_gap m gq pc n oz).2 := by
  exact ⟨e_gap h.1.2 gq pc, h.read (fun _ _ => rfl) (fr0.z m)⟩
theorem ok_vital (h : xR n oz nx pc ty rp T sl ext gq x m) : g_X9_vital x n = (g_X10_vital m gq pc n).1 ∧ (g_X10_vital m gq pc n).2 0 0 = 0 ∧ xE (T + 601) sl ext gq x (g_X10_vital m gq pc n).2 := by
  obtain ⟨e1, e2, e3⟩ := e_vital h.1.2 gq pc
  refine ⟨e1, h.read (fun _ _ => rfl) ⟨fun o h0 _ => ?_, fun k _ => ?_⟩⟩
  · by_cases e : o = 1
    · rw [e]
      exact e2
    · exact e3 o h0 e
  · exact congrFun (fr_l_X10_vital_22 m gq pc n 0 (by decide) n (0, zU m 0 0 0)) k
theorem ok_turnout (h : xR n oz nx pc ty rp T sl ext gq x m) : g_X9_turnout x = (g_X10_turnout m gq pc n).1 ∧ (g_X10_turnout m gq pc n).2 0 0 = 0 ∧ xE (T + 601) sl ext gq x (g_X10_turnout m gq pc n).2 := by
  have e : (g_X10_turnout m gq pc n).2 = zU m 0 0 0 := by
    unfold g_X10_turnout
    split <;> rfl
  exact ⟨(e_turnout h.1.2 gq pc).1, by rw [e]; exact h.read (fun _ _ => rfl) (fr0.z m)⟩
theorem ok_meanAge (h : xR n oz nx pc ty rp T sl ext gq x m) : g_X9_meanAge x n = (g_X10_meanAge m gq pc n).1 ∧ (g_X10_meanAge m gq pc n).2 0 0 = 0 ∧ xE (T + 601) sl ext gq x (g_X10_meanAge m gq pc n).2 := by
  obtain ⟨a1, a2, a3, a4, a5, a6, a7, a8, a9, b1, b2, b3, b4, b5⟩ := id h.1.2
  have h9 : n ≤ 9 := a1.1
  have e : (g_X10_meanAge m gq pc n).2 = zU m 0 0 0 := by
    unfold g_X10_meanAge
    split <;> rfl
  refine ⟨?_, by rw [e]; exact h.read (fun _ _ => rfl) (fr0.z m)⟩
  unfold g_X9_meanAge g_X10_meanAge
  rw [m_ups (M := zU m 0 0 0) h9 a2, ← (e_ages h9 a4 a2 gq pc).1]
  show (if g_J6_bitCount_0f7a4 (zPl x 5 0 1) = 0 then _ else _) = _
  split <;> rfl
end OK4
