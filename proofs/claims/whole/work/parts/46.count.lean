/-! THE DEEDS, on both sides: count -/
theorem zFst_all {β : Type} {f : Nat → Option β} {d : β} : ∀ (k i : Nat), (∀ j, i ≤ j → j < i + k → f j = none) → zFst f d k i = d
  | 0, _, _ => rfl
  | k + 1, i, h => by
    rw [zFst, h i (Nat.le_refl i) (by omega)]
    exact zFst_all k (i + 1) fun j h1 h2 => h j (by omega) (by omega)
theorem zFst_one {β : Type} {f : Nat → Option β} {d c : β} (hc : ∀ j b, f j = some b → b = c) : ∀ (k i : Nat), (∃ j, i ≤ j ∧ j < i + k ∧ f j ≠ none) → zFst f d k i = c
  | 0, i, h => by
    obtain ⟨j, h1, h2, -⟩ := h
    omega
  | k + 1, i, h => by
    rw [zFst]
    cases e : f i with
    | some b => exact hc i b e
    | none =>
      refine zFst_one hc k (i + 1) ?_
      obtain ⟨j, h1, h2, h3⟩ := h
      refine ⟨j, ?_, by omega, h3⟩
      rcases Nat.lt_or_ge i j with q | q
      · exact q
      · obtain rfl : i = j := by omega
        exact absurd e h3
/-- one number of the latest outcome is written -/
noncomputable def kW (B : zM) (s w : Nat) (x : Int32) : zM := zPs B 10 2 (g_X6_write (zPl B 10) s w x)
theorem kW_eq {B : zM} {s w : Nat} {x : Int32} (hs : B 10 0 = nI s) (h0 : 0 < s) (h12 : s ≤ 12) : kW B s w x 10 0 = nI s ∧ ∀ k, kW B s w x 11 k = if k = (s - 1) * 8 + w then x else B 11 k := by
  have e : g_X6_write (zPl B 10) s w x = zU (zPl B 10) 1 ((s - 1) * 8 + w) x := by
    unfold g_X6_write
    rw [show zPl B 10 0 0 = B 10 0 from rfl, hs, if_neg (nI_nle h0 (by omega))]
  unfold kW
  rw [e]
  refine ⟨?_, fun k => ?_⟩
  · rw [zPs_in (by decide) (by decide), zU_ne (by decide)]
    exact hs
  · rw [zPs_in (by decide) (by decide)]
    exact zU_c
theorem e_keepDef (A : zM) (sz : Nat) (ch : Int32) : g_X4_keepOutcome A sz ch = kW (kW (kW (kW (kW (kW (kW (kW (zPs A 10 2 (g_X6_makeRoom (zPl A 10))) (zMr sz) 0 (A 7 1)) (zMr sz) 1 (ch)) (zMr sz) 2 (if ch = (-1) then 0 else (A 12 1))) (zMr sz) 3 (g_J6_bitCount_0f7a4 (A 7 6))) (zMr sz) 4 (g_J6_bitCount_0f7a4 (A 7 7))) (zMr sz) 5 (if ch = (-1) then 0 else (if (A 12 2) ≤ 1 then 0 else 1))) (zMr sz) 6 (A 1 0)) (zMr sz) 7 (A 1 1) := rfl
theorem zMr_z (sz : Nat) : zMr sz = zOn2 sz + 1 ∨ 12 < sz := by
  unfold zMr zOn2
  split <;> split <;> omega
theorem e_keepOut (A : zM) {sz : Nat} (ch : Int32) (h0 : A 10 0 = nI sz) (h12 : sz ≤ 12) : g_X4_keepOutcome A sz ch 10 0 = nI (zOn2 sz + 1) ∧ g_X4_keepOutcome A sz ch 11 (zOn2 sz * 8 + 0) = (A 7 1) ∧ g_X4_keepOutcome A sz ch 11 (zOn2 sz * 8 + 1) = (ch) ∧ g_X4_keepOutcome A sz ch 11 (zOn2 sz * 8 + 2) = (if ch = (-1) then 0 else (A 12 1)) ∧ g_X4_keepOutcome A sz ch 11 (zOn2 sz * 8 + 3) = (g_J6_bitCount_0f7a4 (A 7 6)) ∧ g_X4_keepOutcome A sz ch 11 (zOn2 sz * 8 + 4) = (g_J6_bitCount_0f7a4 (A 7 7)) ∧ g_X4_keepOutcome A sz ch 11 (zOn2 sz * 8 + 5) = (if ch = (-1) then 0 else (if (A 12 2) ≤ 1 then 0 else 1)) ∧ g_X4_keepOutcome A sz ch 11 (zOn2 sz * 8 + 6) = (A 1 0) ∧ g_X4_keepOutcome A sz ch 11 (zOn2 sz * 8 + 7) = (A 1 1) ∧ ∀ k, k < zOn2 sz * 8 → g_X4_keepOutcome A sz ch 11 k = if sz = 12 then A 11 (k + 8) else A 11 k := by
  rw [e_keepDef]
  have hs : zMr sz = zOn2 sz + 1 := by
    rcases zMr_z sz with q | q
    · exact q
    · omega
  have hz : zOn2 sz ≤ 11 := by
    unfold zOn2
    split <;> omega
  have r0 : zPs A 10 2 (g_X6_makeRoom (zPl A 10)) 10 0 = nI (zMr sz) := by
    rw [zPs_in (by decide) (by decide)]
    exact e_makeRoom (M := zPl A 10) h0 h12
  have r1 : ∀ k, k < zOn2 sz * 8 → zPs A 10 2 (g_X6_makeRoom (zPl A 10)) 11 k = if sz = 12 then A 11 (k + 8) else A 11 k := fun k hk => by
    rw [zPs_in (by decide) (by decide)]
    unfold g_X6_makeRoom
    rw [show zPl A 10 0 0 = A 10 0 from rfl, h0]
    by_cases e : sz = 12
    · subst e
      rw [if_pos (show (12 : Int32) ≤ nI 12 by decide), if_pos rfl, zUa_eq, pk_cpy_in (by omega) (by unfold zOn2 at hk; simp at hk; omega)]
      show A 11 (8 + (k - 0)) = _
      congr 1
      omega
    · rw [if_neg (fun q => e (by have := (nI_le9 (a := 12) (b := sz) (by decide) (by omega)).mp q; omega)), if_neg e]
      rfl
  rw [hs] at r0 ⊢
  generalize zPs A 10 2 (g_X6_makeRoom (zPl A 10)) = K at *
  have g1 := kW_eq (w := 0) (x := A 7 1) r0 (Nat.succ_pos _) (by omega)
  generalize kW K (zOn2 sz + 1) 0 (A 7 1) = K1 at *
  rw [Nat.add_sub_cancel] at g1
  have g2 := kW_eq (w := 1) (x := ch) g1.1 (Nat.succ_pos _) (by omega)
  generalize kW K1 (zOn2 sz + 1) 1 (ch) = K2 at *
  rw [Nat.add_sub_cancel] at g2
  have g3 := kW_eq (w := 2) (x := if ch = (-1) then 0 else (A 12 1)) g2.1 (Nat.succ_pos _) (by omega)
  generalize kW K2 (zOn2 sz + 1) 2 (if ch = (-1) then 0 else (A 12 1)) = K3 at *
  rw [Nat.add_sub_cancel] at g3
  have g4 := kW_eq (w := 3) (x := g_J6_bitCount_0f7a4 (A 7 6)) g3.1 (Nat.succ_pos _) (by omega)
  generalize kW K3 (zOn2 sz + 1) 3 (g_J6_bitCount_0f7a4 (A 7 6)) = K4 at *
  rw [Nat.add_sub_cancel] at g4
  have g5 := kW_eq (w := 4) (x := g_J6_bitCount_0f7a4 (A 7 7)) g4.1 (Nat.succ_pos _) (by omega)
  generalize kW K4 (zOn2 sz + 1) 4 (g_J6_bitCount_0f7a4 (A 7 7)) = K5 at *
  rw [Nat.add_sub_cancel] at g5
  have g6 := kW_eq (w := 5) (x := if ch = (-1) then 0 else (if (A 12 2) ≤ 1 then 0 else 1)) g5.1 (Nat.succ_pos _) (by omega)
  generalize kW K5 (zOn2 sz + 1) 5 (if ch = (-1) then 0 else (if (A 12 2) ≤ 1 then 0 else 1)) = K6 at *
  rw [Nat.add_sub_cancel] at g6
  have g7 := kW_eq (w := 6) (x := A 1 0) g6.1 (Nat.succ_pos _) (by omega)
  generalize kW K6 (zOn2 sz + 1) 6 (A 1 0) = K7 at *
  rw [Nat.add_sub_cancel] at g7
  have g8 := kW_eq (w := 7) (x := A 1 1) g7.1 (Nat.succ_pos _) (by omega)
  generalize kW K7 (zOn2 sz + 1) 7 (A 1 1) = K8 at *
  rw [Nat.add_sub_cancel] at g8
  refine ⟨g8.1, ?_, ?_, ?_, ?_, ?_, ?_, ?_, ?_, ?_⟩
  · rw [g8.2, if_neg (by omega), g7.2, if_neg (by omega), g6.2, if_neg (by omega), g5.2, if_neg (by omega), g4.2, if_neg (by omega), g3.2, if_neg (by omega), g2.2, if_neg (by omega), g1.2, if_pos rfl]
  · rw [g8.2, if_neg (by omega), g7.2, if_neg (by omega), g6.2, if_neg (by omega), g5.2, if_neg (by omega), g4.2, if_neg (by omega), g3.2, if_neg (by omega), g2.2, if_pos rfl]
  · rw [g8.2, if_neg (by omega), g7.2, if_neg (by omega), g6.2, if_neg (by omega), g5.2, if_neg (by omega), g4.2, if_neg (by omega), g3.2, if_pos rfl]
  · rw [g8.2, if_neg (by omega), g7.2, if_neg (by omega), g6.2, if_neg (by omega), g5.2, if_neg (by omega), g4.2, if_pos rfl]
  · rw [g8.2, if_neg (by omega), g7.2, if_neg (by omega), g6.2, if_neg (by omega), g5.2, if_pos rfl]
  · rw [g8.2, if_neg (by omega), g7.2, if_neg (by omega), g6.2, if_pos rfl]
  · rw [g8.2, if_neg (by omega), g7.2, if_pos rfl]
  · rw [g8.2, if_pos rfl]
  · intro k hk
    rw [g8.2, if_neg (by omega), g7.2, if_neg (by omega), g6.2, if_neg (by omega), g5.2, if_neg (by omega), g4.2, if_neg (by omega), g3.2, if_neg (by omega), g2.2, if_neg (by omega), g1.2, if_neg (by omega)]
    exact r1 k hk
theorem votesOf_congr {n : Nat} {s M : zM} (h9 : n ≤ 9) (h : ∀ k, k < 91 → s 1 k = M 1 k) (x : Int32) : g_X10_votesOf s n x = g_X10_votesOf M n x := by
  unfold g_X10_votesOf
  refine zIt_congr n 0 fun i hi s' => ?_
  unfold l_X10_votesOf_4 g_X10_isOnRoll g_X10_of
  rw [h 4 (by decide), h 7 (by decide), h _ (by omega)]
theorem e_j54 (R : zM) (n oz : Nat) (ch : Int32) (hoz : R 1 9 = nI oz) (h12 : oz ≤ 12) : j_X10_addOutcome_54 R n oz ch 1 9 = nI (zOn2 oz) ∧ (∀ k, k < 91 → k ≠ 9 → j_X10_addOutcome_54 R n oz ch 1 k = R 1 k) ∧ (∀ k, k < zOn2 oz * 8 → j_X10_addOutcome_54 R n oz ch 1 (91 + k) = if oz = 12 then R 1 (91 + (k + 8)) else R 1 (91 + k)) ∧ ∀ o, o ≠ 1 → j_X10_addOutcome_54 R n oz ch o = R o := by
  refine ⟨e_addOutcome54 R n oz ch hoz h12, ?_, ?_, fun o ho => fr_j_X10_addOutcome_54 R n oz ch o ho⟩
  all_goals
    have hr : ∀ k, (k < 91 → r_X10_addOutcome_15 R n oz ch 1 k = R 1 k) ∧ (k < 88 → r_X10_addOutcome_15 R n oz ch 1 (91 + k) = R 1 (91 + (k + 8))) := by
      have := zIt_inv (f := l_X10_addOutcome_15 R n oz ch) (P := fun i (s : zM) => (∀ k, k < 91 → s 1 k = R 1 k) ∧ (∀ k, k < i → s 1 (91 + k) = R 1 (91 + (k + 8))) ∧ ∀ k, i ≤ k → s 1 (91 + k) = R 1 (91 + k)) 88 R ⟨fun _ _ => rfl, fun k hk => absurd hk (Nat.not_lt_zero k), fun _ _ => rfl⟩ ?_
      · exact fun k => ⟨this.1 k, this.2.1 k⟩
      · intro i hi s hs
        unfold l_X10_addOutcome_15
        have e8 : s 1 (i + 91 + 8) = R 1 (91 + (i + 8)) := by
          have := hs.2.2 (i + 8) (by omega)
          rw [show i + 91 + 8 = 91 + (i + 8) by omega]
          exact this
        refine ⟨fun k hk => ?_, fun k hk => ?_, fun k hk => ?_⟩
        · rw [zU_k (by omega)]
          exact hs.1 k hk
        · rw [zU_c]
          by_cases e : k = i
          · rw [if_pos (by omega), e8, e]
          · rw [if_neg (by omega)]
            exact hs.2.1 k (by omega)
        · rw [zU_k (by omega)]
          exact hs.2.2 k (by omega)
  · intro k hk h9
    unfold j_X10_addOutcome_54
    split
    · rw [zU_k h9]
      exact (hr k).1 hk
    · rfl
  · intro k hk
    unfold j_X10_addOutcome_54
    rw [hoz]
    by_cases e : oz = 12
    · subst e
      rw [if_pos (show nI 12 = 12 from rfl), if_pos rfl, zU_k (by omega)]
      exact (hr k).2 (by unfold zOn2 at hk; simp at hk; omega)
    · have n1 : ¬ nI oz = 12 := fun q => e ((nI_eq9 (a := oz) (b := 12) (by omega) (by decide)).mp q)
      rw [if_neg n1, if_neg e]
theorem e_addOut (R : zM) {n oz : Nat} (h9 : n ≤ 9) (ch : Int32) (hoz : R 1 9 = nI oz) (h12 : oz ≤ 12) : g_X10_addOutcome R n oz ch 1 9 = nI (zOn2 oz + 1) ∧ (∀ k, k < 91 → k ≠ 9 → g_X10_addOutcome R n oz ch 1 k = R 1 k) ∧ g_X10_addOutcome R n oz ch 1 (91 + (zOn2 oz * 8 + 0)) = (R 1 5) ∧ g_X10_addOutcome R n oz ch 1 (91 + (zOn2 oz * 8 + 1)) = (ch) ∧ g_X10_addOutcome R n oz ch 1 (91 + (zOn2 oz * 8 + 2)) = (if ch = (-1) then (0 : Int32) else R 20 ch.toNatClampNeg) ∧ g_X10_addOutcome R n oz ch 1 (91 + (zOn2 oz * 8 + 3)) = (g_X10_votesOf R n 2) ∧ g_X10_addOutcome R n oz ch 1 (91 + (zOn2 oz * 8 + 4)) = (g_X10_votesOf R n 3) ∧ g_X10_addOutcome R n oz ch 1 (91 + (zOn2 oz * 8 + 5)) = (if ch = (-1) then (0 : Int32) else (if R 0 13 ≤ 1 then (0 : Int32) else (1 : Int32))) ∧ g_X10_addOutcome R n oz ch 1 (91 + (zOn2 oz * 8 + 6)) = (R 1 1) ∧ g_X10_addOutcome R n oz ch 1 (91 + (zOn2 oz * 8 + 7)) = (R 1 2) ∧ ∀ k, k < zOn2 oz * 8 → g_X10_addOutcome R n oz ch 1 (91 + k) = if oz = 12 then R 1 (91 + (k + 8)) else R 1 (91 + k) := by
  obtain ⟨j9, jh, jk, jo⟩ := e_j54 R n oz ch hoz h12
  unfold g_X10_addOutcome m_X10_addOutcome_2 m_X10_addOutcome_1
  generalize j_X10_addOutcome_54 R n oz ch = J at *
  generalize hz : 91 + zOn2 oz * 8 = a at *
  generalize e1 : zU J 1 a (J 1 5) = z1
  generalize e2 : zU z1 1 (a + 1) ch = z2
  generalize e3 : zU z2 1 (a + 2) (if ch = (-1) then (0 : Int32) else (J 20 ch.toNatClampNeg)) = z3
  generalize e4 : zU z3 1 (a + 3) (g_X10_votesOf z3 n 2) = z4
  generalize e5 : zU z4 1 (a + 4) (g_X10_votesOf z4 n 3) = z5
  generalize e6 : zU z5 1 (a + 5) (if ch = (-1) then (0 : Int32) else (if (J 0 13) ≤ 1 then (0 : Int32) else (1 : Int32))) = z6
  generalize e7 : zU z6 1 (a + 6) (z6 1 1) = z7
  generalize e8 : zU z7 1 (a + 7) (z7 1 2) = z8
  have q1 : ∀ k, z1 1 k = if k = a then J 1 5 else J 1 k := fun k => by rw [← e1]; exact zU_c
  have q2 : ∀ k, z2 1 k = if k = a + 1 then ch else z1 1 k := fun k => by rw [← e2]; exact zU_c
  have q3 : ∀ k, z3 1 k = if k = a + 2 then (if ch = (-1) then (0 : Int32) else (J 20 ch.toNatClampNeg)) else z2 1 k := fun k => by rw [← e3]; exact zU_c
  have q4 : ∀ k, z4 1 k = if k = a + 3 then (g_X10_votesOf z3 n 2) else z3 1 k := fun k => by rw [← e4]; exact zU_c
  have q5 : ∀ k, z5 1 k = if k = a + 4 then (g_X10_votesOf z4 n 3) else z4 1 k := fun k => by rw [← e5]; exact zU_c
  have q6 : ∀ k, z6 1 k = if k = a + 5 then (if ch = (-1) then (0 : Int32) else (if (J 0 13) ≤ 1 then (0 : Int32) else (1 : Int32))) else z5 1 k := fun k => by rw [← e6]; exact zU_c
  have q7 : ∀ k, z7 1 k = if k = a + 6 then z6 1 1 else z6 1 k := fun k => by rw [← e7]; exact zU_c
  have q8 : ∀ k, z8 1 k = if k = a + 7 then z7 1 2 else z7 1 k := fun k => by rw [← e8]; exact zU_c
  have q9 : ∀ k, zU z8 1 9 (z8 1 9 + 1) 1 k = if k = 9 then z8 1 9 + 1 else z8 1 k := fun k => zU_c
  have l1 : ∀ k, k < a → z1 1 k = J 1 k := fun k hk => by rw [q1, if_neg (by omega)]
  have l2 : ∀ k, k < a → z2 1 k = J 1 k := fun k hk => by rw [q2, if_neg (by omega), l1 k hk]
  have l3 : ∀ k, k < a → z3 1 k = J 1 k := fun k hk => by rw [q3, if_neg (by omega), l2 k hk]
  have l4 : ∀ k, k < a → z4 1 k = J 1 k := fun k hk => by rw [q4, if_neg (by omega), l3 k hk]
  have l5 : ∀ k, k < a → z5 1 k = J 1 k := fun k hk => by rw [q5, if_neg (by omega), l4 k hk]
  have l6 : ∀ k, k < a → z6 1 k = J 1 k := fun k hk => by rw [q6, if_neg (by omega), l5 k hk]
  have l7 : ∀ k, k < a → z7 1 k = J 1 k := fun k hk => by rw [q7, if_neg (by omega), l6 k hk]
  have l8 : ∀ k, k < a → z8 1 k = J 1 k := fun k hk => by rw [q8, if_neg (by omega), l7 k hk]
  have vJ : ∀ x, g_X10_votesOf J n x = g_X10_votesOf R n x := fun x => by
    unfold g_X10_votesOf
    refine zIt_congr n 0 fun i hi s' => ?_
    unfold l_X10_votesOf_4 g_X10_isOnRoll g_X10_of
    rw [jh 4 (by decide) (by decide), jh 7 (by decide) (by decide), jh _ (by omega) (by omega)]
  have v3 : g_X10_votesOf z3 n 2 = g_X10_votesOf R n 2 := (votesOf_congr h9 (fun k hk => l3 k (by omega)) 2).trans (vJ 2)
  have v4 : g_X10_votesOf z4 n 3 = g_X10_votesOf R n 3 := (votesOf_congr h9 (fun k hk => l4 k (by omega)) 3).trans (vJ 3)
  refine ⟨?_, fun k hk h9 => ?_, ?_, ?_, ?_, ?_, ?_, ?_, ?_, ?_, fun k hk => ?_⟩
  · rw [q9, if_pos rfl, l8 9 (by omega), j9, nI_1]
  · rw [q9, if_neg h9, l8 k (by omega)]
    exact jh k hk h9
  · rw [q9, if_neg (by omega), q8, if_neg (by omega), q7, if_neg (by omega), q6, if_neg (by omega), q5, if_neg (by omega), q4, if_neg (by omega), q3, if_neg (by omega), q2, if_neg (by omega), q1, if_pos (by omega), jh 5 (by decide) (by decide)]
  · rw [q9, if_neg (by omega), q8, if_neg (by omega), q7, if_neg (by omega), q6, if_neg (by omega), q5, if_neg (by omega), q4, if_neg (by omega), q3, if_neg (by omega), q2, if_pos (by omega)]
  · rw [q9, if_neg (by omega), q8, if_neg (by omega), q7, if_neg (by omega), q6, if_neg (by omega), q5, if_neg (by omega), q4, if_neg (by omega), q3, if_pos (by omega), jo 20 (by decide)]
  · rw [q9, if_neg (by omega), q8, if_neg (by omega), q7, if_neg (by omega), q6, if_neg (by omega), q5, if_neg (by omega), q4, if_pos (by omega), v3]
  · rw [q9, if_neg (by omega), q8, if_neg (by omega), q7, if_neg (by omega), q6, if_neg (by omega), q5, if_pos (by omega), v4]
  · rw [q9, if_neg (by omega), q8, if_neg (by omega), q7, if_neg (by omega), q6, if_pos (by omega), jo 0 (by decide)]
  · rw [q9, if_neg (by omega), q8, if_neg (by omega), q7, if_pos (by omega), l6 1 (by omega), jh 1 (by decide) (by decide)]
  · rw [q9, if_neg (by omega), q8, if_pos (by omega), l7 2 (by omega), jh 2 (by decide) (by decide)]
  · rw [q9, if_neg (by omega), l8 _ (by omega)]
    exact jk k hk
section COUNT
variable {n oz T : Nat} {N M : zM}
theorem m_noCount (h : rl n oz T N (M 1)) (hp : N 7 0 = 2) : g_X10_noCount M n = if ((N 7 5) &&& (g_X4_reachedSet N)) = 0 then 0 else 12 := by
  obtain ⟨a1, a2, a3, a4, a5, a6, a7, a8, a9, b1, b2, b3, b4, b5⟩ := id h
  have h9 : n ≤ 9 := a1.1
  have hp0 : ¬ N 7 0 = 0 := by rw [hp]; decide
  unfold g_X10_noCount
  rw [a9.1, if_pos hp]
  have hf : ∀ i, i < n → f_X10_noCount_15 M n i = if (qB (N 7 5) i && qRe N i) = true then some 12 else none := by
    intro i hi
    unfold f_X10_noCount_15
    have e6 : g_X10_of M i 6 = nI (qSt N i) := (b2 hp0 i hi).1
    have e1 := qSt_1 (N := N) (r := i)
    have e4 := qSt_lt (N := N) i
    rw [m_onRoll a9 b1 (by omega), bI_ite, m_reach h9 a2 a8 a9 hi, bI_ite, e6]
    cases hs : qB (N 7 5) i
    · rw [hs] at e1
      have n1 : ¬ nI (qSt N i) = 1 := fun q => absurd ((nI_eq9 (a := qSt N i) (b := 1) (by omega) (by decide)).mp q) (by simpa using e1)
      rw [if_neg n1, Bool.false_and, if_neg Bool.false_ne_true]
      split <;> rfl
    · rw [hs] at e1
      have n1 : nI (qSt N i) = 1 := by rw [show qSt N i = 1 by simpa using e1]; rfl
      rw [if_pos n1, ((b1.2.2 i hi).1 hs).1, if_pos rfl, Bool.true_and]
  have hq : ∀ k, qB ((N 7 5) &&& (g_X4_reachedSet N)) k = (qB (N 7 5) k && qRe N k) := fun k => by rw [qB_and, c_reach h9 a9]
  by_cases e : ((N 7 5) &&& (g_X4_reachedSet N)) = 0
  · rw [if_pos e]
    refine zFst_all n 0 fun j _ hj => ?_
    rw [hf j (by omega), ← hq, e, qB_0, if_neg Bool.false_ne_true]
  · rw [if_neg e]
    refine zFst_one (fun j b hb => ?_) n 0 ?_
    · have : f_X10_noCount_15 M n j = none ∨ f_X10_noCount_15 M n j = some 12 := by
        unfold f_X10_noCount_15
        (repeat' split) <;> first | exact Or.inl rfl | exact Or.inr rfl
      rcases this with q | q
      · rw [q] at hb; cases hb
      · rw [q] at hb; exact (Option.some.inj hb).symm
    · by_cases hx : ∃ j, j < n ∧ (qB (N 7 5) j && qRe N j) = true
      · obtain ⟨j, h1, h2⟩ := hx
        exact ⟨j, Nat.zero_le j, by omega, by rw [hf j h1, if_pos h2]; exact fun q => by cases q⟩
      · refine absurd (qS_z fun k => ?_) e
        rw [hq]
        by_cases hk : k < n
        · cases hz : (qB (N 7 5) k && qRe N k)
          · rfl
          · exact absurd ⟨k, hk, hz⟩ hx
        · rw [b1.2.1.2.1 k (by omega)]
          rfl
theorem e_count81 (h9 : n ≤ 9) (hh : rl_hd n N (M 1)) (sz : Nat) (A : zM) (hA : A 7 3 = N 7 3) (ch : Int32) (hch : g_X7_chosenBy (g_X7_take (zU N 7 0 3) (-1) 0) ((g_X7_take (zU N 7 0 3) (-1) 0) 1 0) ((g_X7_take (zU N 7 0 3) (-1) 0) 1 1) = ch) : (∀ o, o ≠ 5 → zIt (l_X4_countVotes_81 N n sz) n A o = A o) ∧ ∀ k, zIt (l_X4_countVotes_81 N n sz) n A 5 k = if k < n ∧ (qB (N 7 3) k && qRe N k) = true then ch else A 5 k := by
  refine ⟨fun o ho => fr_l_X4_countVotes_81 N n sz o ho n A, ?_⟩
  have := zIt_inv (f := l_X4_countVotes_81 N n sz) (P := fun i (s : zM) => s 7 3 = N 7 3 ∧ ∀ k, s 5 k = if k < i ∧ (qB (N 7 3) k && qRe N k) = true then ch else A 5 k) n A ⟨hA, fun k => (if_neg fun q => Nat.not_lt_zero k q.1).symm⟩ ?_
  · exact this.2
  · intro i hi s hs
    unfold l_X4_countVotes_81
    rw [hch, hs.1, has_q (by omega), bI_ite, qB_and, c_reach h9 hh]
    cases hq : (qB (N 7 3) i && qRe N i)
    · rw [if_neg Bool.false_ne_true]
      refine ⟨hs.1, fun k => ?_⟩
      rw [hs.2 k]
      by_cases e : k = i
      · subst e
        rw [if_neg (fun q => Nat.lt_irrefl k q.1), if_neg (fun q => by rw [hq] at q; cases q.2)]
      · by_cases q : k < i ∧ (qB (N 7 3) k && qRe N k) = true
        · rw [if_pos q, if_pos ⟨by omega, q.2⟩]
        · rw [if_neg q, if_neg (fun p => q ⟨by omega, p.2⟩)]
    · rw [if_pos rfl]
      refine ⟨by rw [zU_ne (by decide)]; exact hs.1, fun k => ?_⟩
      rw [zU_c]
      by_cases e : k = i
      · subst e
        rw [if_pos rfl, if_pos ⟨Nat.lt_succ_self k, hq⟩]
      · rw [if_neg e, hs.2 k]
        by_cases q : k < i ∧ (qB (N 7 3) k && qRe N k) = true
        · rw [if_pos q, if_pos ⟨by omega, q.2⟩]
        · rw [if_neg q, if_neg (fun p => q ⟨by omega, p.2⟩)]
end COUNT
