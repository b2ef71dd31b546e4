/-! REPLICAS of a text, on both sides -/
theorem is_deed {ty f a k n oz T d : Nat} {M m N : zM} (h6 : ty ≤ 600) (hS : pS ty f a k M m) (hk : k ≠ 0) (hr : rl n oz T N (m 1)) (hT : T < 2 ^ 29) (h1 : 1 ≤ n) (hd : d < 15) (hw : ∀ i, i < 15 → g_X10_isWord m ty i = bI (i == d)) : dR ty f n (T + 1) (g_X5_readDeed M ty d (nI n)).1 (zPf N ((g_X5_readDeed M ty d (nI n)).2 3) d) (g_X5_readDeed M ty d (nI n)).2 (g_X10_deed m ty n oz) := by
  rcases (show d = 0 ∨ d = 1 ∨ d = 2 ∨ d = 3 ∨ d = 4 ∨ d = 5 ∨ d = 6 ∨ d = 7 ∨ d = 8 ∨ d = 9 ∨ d = 10 ∨ d = 11 ∨ d = 12 ∨ d = 13 ∨ d = 14 by omega) with rfl | rfl | rfl | rfl | rfl | rfl | rfl | rfl | rfl | rfl | rfl | rfl | rfl | rfl | rfl
  · exact deed_0 h6 hS hk hr hT h1 hw
  · exact deed_1 h6 hS hk hr hT h1 hw
  · exact deed_2 h6 hS hk hr hT h1 hw
  · exact deed_3 h6 hS hk hr hT h1 hw
  · exact deed_4 h6 hS hk hr hT h1 hw
  · exact deed_5 h6 hS hk hr hT h1 hw
  · exact deed_6 h6 hS hk hr hT h1 hw
  · exact deed_7 h6 hS hk hr hT h1 hw
  · exact deed_8 h6 hS hk hr hT h1 hw
  · exact deed_9 h6 hS hk hr hT h1 hw
  · exact deed_10 h6 hS hk hr hT h1 hw
  · exact deed_11 h6 hS hk hr hT h1 hw
  · exact deed_12 h6 hS hk hr hT h1 hw
  · exact deed_13 h6 hS hk hr hT h1 hw
  · exact deed_14 h6 hS hk hr hT h1 hw
/-! WORDS -/
theorem zFst_z1 {g : Nat → Option Int32} (hg : ∀ j b, g j = some b → b = 0) : ∀ (k i : Nat), (zFst g 1 k i = 0 ∨ zFst g 1 k i = 1) ∧ (¬ zFst g 1 k i = 0 → ∀ j, i ≤ j → j < i + k → g j = none)
  | 0, i => ⟨Or.inr rfl, fun _ j h1 h2 => absurd h2 (by omega)⟩
  | k + 1, i => by
    rw [zFst]
    cases e : g i with
    | some b =>
      dsimp only
      obtain rfl := hg i b e
      exact ⟨Or.inl rfl, fun q => absurd rfl q⟩
    | none =>
      dsimp only
      obtain ⟨h1, h2⟩ := zFst_z1 hg k (i + 1)
      refine ⟨h1, fun q j j1 j2 => ?_⟩
      by_cases c : j = i
      · rw [c]
        exact e
      · exact h2 q j (by omega) (by omega)
theorem wd_say {m : zM} {ty tx : Nat} : (g_X10_isWord m ty tx = 0 ∨ g_X10_isWord m ty tx = 1) ∧ (¬ g_X10_isWord m ty tx = 0 → m 0 14 - m 0 15 = nI (zTxt tx).length ∧ ∀ i, i < (zTxt tx).length → m 18 ((m 0 15).toNatClampNeg + i) = nI ((zTxt tx).getD i 0)) := by
  unfold g_X10_isWord
  split
  · split
    · split
      · rename_i hl
        obtain ⟨h1, h2⟩ := zFst_z1 (g := f_X10_isWord_39 m ty tx) (fun j b hb => by
          unfold f_X10_isWord_39 at hb
          split at hb
          · exact absurd hb (by simp)
          · exact (Option.some.inj hb).symm) (zTxt tx).length 0
        refine ⟨h1, fun q => ⟨hl, fun i hi => ?_⟩⟩
        have := h2 q i (by omega) (by omega)
        unfold f_X10_isWord_39 at this
        split at this
        · assumption
        · exact absurd this (by simp)
      · exact ⟨Or.inl rfl, fun q => absurd rfl q⟩
    · exact ⟨Or.inl rfl, fun q => absurd rfl q⟩
  · exact ⟨Or.inl rfl, fun q => absurd rfl q⟩
theorem wd_one {m : zM} {ty i j : Nat} (hi : i < 15) (hj : j < 15) (h1 : ¬ g_X10_isWord m ty i = 0) (h2 : ¬ g_X10_isWord m ty j = 0) : i = j := by
  obtain ⟨a1, a2⟩ := wd_say.2 h1
  obtain ⟨b1, b2⟩ := wd_say.2 h2
  have hT : ∀ i, i < 15 → (zTxt i).length < 4096 ∧ ∀ k, k < (zTxt i).length → (zTxt i).getD k 0 < 4096 := by decide +kernel
  have hl : (zTxt i).length = (zTxt j).length := (nI_eq9 (hT i hi).1 (hT j hj).1).mp (a1.symm.trans b1)
  have hc : ∀ k, k < (zTxt i).length → (zTxt i).getD k 0 = (zTxt j).getD k 0 := fun k hk => (nI_eq9 ((hT i hi).2 k hk) ((hT j hj).2 k (by omega))).mp ((a2 k hk).symm.trans (b2 k (by omega)))
  have hD : ∀ i, i < 15 → ∀ j, j < 15 → (zTxt i).length = (zTxt j).length → (∀ k, k < (zTxt i).length → (zTxt i).getD k 0 = (zTxt j).getD k 0) → i = j := by decide +kernel
  exact hD i hi j hj hl hc
/-- which deed stands there, on both sides -/
theorem wd_there {m M : zM} {ty f a k : Nat} (h6 : ty ≤ 600) (hS : pS ty f a k M m) : (g_X5_deedThere M ty < 15 ∧ ∀ i, i < 15 → g_X10_isWord m ty i = bI (i == g_X5_deedThere M ty)) ∨ (g_X5_deedThere M ty = 15 ∧ ∀ i, i < 15 → g_X10_isWord m ty i = 0) := by
  have hw : ∀ i, i < 15 → g_X8_isWord (zPl M 1) ty i = g_X10_isWord m ty i := fun i hi => word_eq h6 hS.1 hS.2 (by omega)
  by_cases h : ∃ d, d < 15 ∧ ¬ g_X10_isWord m ty d = 0
  · obtain ⟨d, hd, h⟩ := h
    have hone : ∀ i, i < 15 → i ≠ d → g_X10_isWord m ty i = 0 := fun i hi hn => Classical.byContradiction fun q => hn (wd_one hi hd q h)
    have e : g_X5_deedThere M ty = d := by
      unfold g_X5_deedThere
      refine zFst_hit (q := d) ?_ 15 0 (by omega) (by omega) (fun j _ hj => ?_)
      · unfold f_X5_deedThere
        rw [hw d hd, if_neg h]
      · unfold f_X5_deedThere
        rw [hw j (by omega), if_pos (hone j (by omega) (by omega))]
    refine Or.inl ⟨by omega, fun i hi => ?_⟩
    rw [e]
    by_cases c : i = d
    · rw [c, show (d == d) = true from by simp]
      rcases (wd_say (m := m) (ty := ty) (tx := d)).1 with q | q
      · exact absurd q h
      · exact q
    · rw [hone i hi c, show (i == d) = false from by simp [c]]
      rfl
  · have h0 : ∀ i, i < 15 → g_X10_isWord m ty i = 0 := fun i hi => Classical.byContradiction fun q => h ⟨i, hi, q⟩
    refine Or.inr ⟨?_, h0⟩
    unfold g_X5_deedThere
    refine zFst_all 15 0 (fun j _ hj => ?_)
    unfold f_X5_deedThere
    rw [hw j (by omega), if_pos (h0 j (by omega))]
theorem wd_not {m : zM} {ty tx : Nat} (h : ¬ m 0 18 = 0) : g_X10_isWord m ty tx = 0 := if_neg h
theorem fs_wrong {m : zM} {c : Int32} (h : ¬ m 0 18 = 0) : g_X10_wrong m c = m := if_neg h
/-- the next token at the whole object's text -/
theorem adv2 {ty f a k : Nat} {X m : zM} (h6 : ty ≤ 600) (h : kR ty f a k (zPl X 2) m) (h18 : m 0 18 = 0) : ∃ f' a' k', a ≤ f' ∧ pS ty f' a' k' (zPl (zPs X 2 2 (g_X8_advance (zPl X 2) ty)) 1) (g_X10_scan m ty) := by
  obtain ⟨b1, z3, m15, z4, m14, hfa, hat, -⟩ := id h
  obtain ⟨⟨f', a', k', q1, q2⟩, q3, q4, q5⟩ := next_tok h6 b1 hat z4 m14
  refine ⟨f', a', k', q1, q2.of ?_ ?_ rfl (fun _ _ => rfl), (q5 18 (by omega)).trans h18⟩
  · show zPs X 2 2 (g_X8_advance (zPl X 2) ty) 2 = _
    rw [zPs_in (by decide) (by decide)]
  · show zPs X 2 2 (g_X8_advance (zPl X 2) ty) 3 = _
    rw [zPs_in (by decide) (by decide)]
theorem pS.at2 {ty f a k : Nat} {X m : zM} (h : pS ty f a k (zPl X 1) m) : kR ty f a k (zPl X 2) m := h.1.of rfl rfl rfl (fun _ _ => rfl)
theorem rl0.eq {n : Nat} {N N' m m' : zM} (h : rl0 n N m) (e : ∀ o, o < 12 → N' o = N o) (ew : m' 1 = m 1) : rl0 n N' m' := by
  obtain ⟨a, b, c, d, g⟩ := h
  refine ⟨a.eq e (fun k _ => by rw [ew]), ?_, fun k => ?_, fun k hk => ?_, fun r c' h1 h2 h3 => ?_⟩
  · rw [e 7 (by decide)]
    exact b
  · rw [e 0 (by decide)]
    exact c k
  · rw [e 9 (by decide)]
    exact d k hk
  · rw [ew]
    exact g r c' h1 h2 h3
