/-! NUMBERS AND DEEDS ARE READ, on both sides -/
theorem kR.of {ty f a k : Nat} {Z Z' m m' : zM} (h : kR ty f a k Z m) (e0 : Z' 0 = Z 0) (e1 : Z' 1 = Z 1) (e18 : m' 18 = m 18) (ek : ∀ j, j = 8 ∨ 14 ≤ j ∧ j ≤ 17 → m' 0 j = m 0 j) : kR ty f a k Z' m' := by
  unfold kR bR
  rw [e0, e1, e18, ek 8 (by omega), ek 14 (by omega), ek 15 (by omega), ek 16 (by omega), ek 17 (by omega)]
  exact h
/-- at a token, without an error so far (M: the opener's world) -/
def pS (ty f a k : Nat) (M m : zM) : Prop := kR ty f a k (zPl M 1) m ∧ m 0 18 = 0
theorem w_ok {m : zM} {f c : Nat} (h18 : m 0 18 = 0) (h15 : m 0 15 = nI f) : g_X10_wrong m (nI c) 0 18 = nI (8 * f + c) ∧ (∀ k, k ≠ 18 → g_X10_wrong m (nI c) 0 k = m 0 k) ∧ ∀ o, o ≠ 0 → g_X10_wrong m (nI c) o = m o := by
  have e : g_X10_wrong m (nI c) = zU m 0 18 (nI (8 * f + c)) := by
    unfold g_X10_wrong
    rw [if_pos h18, h15, show (8 : Int32) = nI 8 from rfl, pk_mul, nI_add]
  rw [e]
  exact ⟨zU_s, fun k hk => zU_k hk, fun o ho => zU_ne ho⟩
theorem nz8 {f c : Nat} (hf : f ≤ 600) (h1 : 1 ≤ c) (h2 : c < 8) : ¬ nI (8 * f + c) = 0 := nI_ne0 (by omega) (by omega)
theorem fs_goOn {m : zM} {ty : Nat} (h : ¬ m 0 18 = 0) : g_X10_goOn m ty = m := if_neg h
theorem fs_read {m : zM} {ty : Nat} {lo hi : Int32} (h : ¬ m 0 18 = 0) : g_X10_read m ty lo hi = (0, m) := by
  have hb : g_X10_bounds m lo hi = m := if_neg h
  unfold g_X10_read
  rw [hb, fs_goOn h, if_neg h]
theorem fs_ends {m : zM} {x : Int32} (h : ¬ m 0 18 = 0) : g_X10_ends m x = (0, m) := by
  have h1 : j_X10_ends_20 m x = m := if_neg h
  have h2 : j_X10_ends_36 m x = m := by
    unfold j_X10_ends_36
    rw [h1, if_neg h]
  unfold g_X10_ends
  rw [h2, if_neg h]
theorem goOn_0 {m : zM} {ty : Nat} (h : m 0 18 = 0) : g_X10_goOn m ty = g_X10_scan m ty := if_pos h
section NUM
variable {ty : Nat} {M m : zM}
theorem pS.next {f a k : Nat} (h6 : ty ≤ 600) (h : pS ty f a k M m) : (∃ f' a' k', a ≤ f' ∧ pS ty f' a' k' (zPs M 1 2 (g_X8_advance (zPl M 1) ty)) (g_X10_scan m ty)) ∧ (∀ o, o ≠ 1 → zPs M 1 2 (g_X8_advance (zPl M 1) ty) o = M o) ∧ (∀ o, o ≠ 0 → g_X10_scan m ty o = m o) ∧ ∀ k, k < 14 ∨ 17 < k → g_X10_scan m ty 0 k = m 0 k := by
  obtain ⟨h1, h18⟩ := h
  obtain ⟨b1, z3, m15, z4, m14, hfa, hat, -⟩ := id h1
  obtain ⟨⟨f', a', k', q1, q2⟩, q3, q4, q5⟩ := next_tok h6 b1 hat z4 m14
  refine ⟨⟨f', a', k', q1, ?_, (q5 18 (by omega)).trans h18⟩, fun o ho => ?_, q4, q5⟩
  · refine q2.of ?_ ?_ rfl (fun _ _ => rfl)
    · show zPs M 1 2 (g_X8_advance (zPl M 1) ty) 1 = _
      rw [zPs_in (by decide) (by decide)]
    · show zPs M 1 2 (g_X8_advance (zPl M 1) ty) 2 = _
      rw [zPs_in (by decide) (by decide)]
  · refine zPs_fr fun j hj e => ?_
    obtain rfl : j = 1 := by omega
    exact q3 1 (by decide)
/-- a number is read -/
theorem rd_num {f a k : Nat} (h6 : ty ≤ 600) (h : pS ty f a k M m) (p kd : Nat) (rp lo hi : Int32) (hfit : ∀ v, (¬ g_X9_fits v kd = 0 ∧ (nI kd = 7 → v < rp)) ↔ (¬ v < lo ∧ v ≤ hi)) :
    ((g_X5_readNumber M ty p kd rp).1 = 0 ∧ (∃ f' a' k', a ≤ f' ∧ pS ty f' a' k' (g_X5_readNumber M ty p kd rp).2 (g_X10_read m ty lo hi).2) ∧ (g_X5_readNumber M ty p kd rp).2 3 p = (g_X10_read m ty lo hi).1 ∧ (∀ j, j ≠ p → (g_X5_readNumber M ty p kd rp).2 3 j = M 3 j) ∧ ¬ (g_X10_read m ty lo hi).1 < lo ∧ (g_X10_read m ty lo hi).1 ≤ hi ∨
      ∃ c, 1 ≤ c ∧ c ≤ 2 ∧ (g_X5_readNumber M ty p kd rp).1 = nI c ∧ (g_X5_readNumber M ty p kd rp).2 1 3 = nI f ∧ f ≤ ty ∧ (g_X10_read m ty lo hi).2 0 18 = nI (8 * f + c)) ∧ ∀ o, o ≠ 0 → (g_X10_read m ty lo hi).2 o = m o := by
  refine ⟨?_, fun o ho => fr_X10_read m ty lo hi o ho⟩
  obtain ⟨h1, h18⟩ := id h
  obtain ⟨b1, z3, m15, z4, m14, hfa, hat, hk5, z2, m16, hv, -⟩ := id h1
  have bad : ∀ c, 1 ≤ c → c ≤ 2 → g_X10_bounds m lo hi = g_X10_wrong m (nI c) → (g_X10_read m ty lo hi).2 0 18 = nI (8 * f + c) := fun c c1 c2 hb => by
    obtain ⟨w1, -, -⟩ := w_ok (c := c) h18 m15
    have hw : ¬ g_X10_wrong m (nI c) 0 18 = 0 := by
      rw [w1]
      exact nz8 (by omega) c1 (by omega)
    unfold g_X10_read
    rw [hb, fs_goOn hw, if_neg hw]
    exact w1
  unfold g_X5_readNumber
  have hnum : g_X8_isNumber (zPl M 1) = if nI k = 2 then 1 else 0 := by
    unfold g_X8_isNumber
    rw [z2]
  rw [hnum]
  have hk2 : ∀ k, k < 5 → (nI k = 2 ↔ nI (qKd k) = 2) := by decide +kernel
  by_cases c2 : nI k = 2
  case neg =>
    rw [if_neg c2, if_pos rfl]
    refine Or.inr ⟨1, by decide, by decide, rfl, z3, by omega, bad 1 (by decide) (by decide) ?_⟩
    unfold g_X10_bounds
    rw [if_pos h18, m16, if_neg (fun q => c2 ((hk2 k hk5).mpr q))]
    rfl
  have ek : k = 2 := (nI_eq9 (b := 2) (by omega) (by decide)).mp c2
  rw [if_pos c2, if_neg (by decide)]
  have ev : M 1 5 = m 0 17 := hv ek
  have hbd : g_X10_bounds m lo hi = if m 0 17 < lo then g_X10_wrong m 2 else (if m 0 17 ≤ hi then m else g_X10_wrong m 2) := by
    unfold g_X10_bounds
    rw [if_pos h18, m16, if_pos ((hk2 k hk5).mp c2)]
  have no : ¬ (¬ m 0 17 < lo ∧ m 0 17 ≤ hi) → g_X10_bounds m lo hi = g_X10_wrong m (nI 2) := fun q => by
    rw [hbd]
    by_cases q1 : m 0 17 < lo
    · rw [if_pos q1]
      rfl
    · rw [if_neg q1, if_neg (fun q2 => q ⟨q1, q2⟩)]
      rfl
  have yes : (¬ m 0 17 < lo ∧ m 0 17 ≤ hi) → g_X10_read m ty lo hi = (m 0 17, g_X10_scan m ty) := fun q => by
    have hb : g_X10_bounds m lo hi = m := by rw [hbd, if_neg q.1, if_pos q.2]
    unfold g_X10_read
    rw [hb, goOn_0 h18, if_pos ((e2_X10_scan m ty 18 (by decide) (by decide) (by decide) (by decide)).trans h18)]
  have ok : (¬ m 0 17 < lo ∧ m 0 17 ≤ hi) → ∀ C : Int32 × zM, C = (0, (zPs (zU M 3 p (M 1 5)) 1 2 (g_X8_advance (zPl (zU M 3 p (M 1 5)) 1) ty))) → (C.1 = 0 ∧ (∃ f' a' k', a ≤ f' ∧ pS ty f' a' k' C.2 (g_X10_read m ty lo hi).2) ∧ C.2 3 p = (g_X10_read m ty lo hi).1 ∧ (∀ j, j ≠ p → C.2 3 j = M 3 j) ∧ ¬ (g_X10_read m ty lo hi).1 < lo ∧ (g_X10_read m ty lo hi).1 ≤ hi ∨
      ∃ c, 1 ≤ c ∧ c ≤ 2 ∧ C.1 = nI c ∧ C.2 1 3 = nI f ∧ f ≤ ty ∧ (g_X10_read m ty lo hi).2 0 18 = nI (8 * f + c)) := fun q C hC => by
    subst hC
    rw [yes q]
    have hS' : pS ty f a k (zU M 3 p (M 1 5)) m := ⟨h1.of (zU_ne (show (1 : Nat) ≠ 3 by decide)) (zU_ne (show (2 : Nat) ≠ 3 by decide)) rfl (fun _ _ => rfl), h18⟩
    obtain ⟨n1, n2, -⟩ := hS'.next h6
    refine Or.inl ⟨rfl, n1, ?_, fun j hj => ?_, q.1, q.2⟩
    · dsimp only
      rw [n2 3 (by decide), zU_s, ev]
    · dsimp only
      rw [n2 3 (by decide), zU_k hj]
  have hf := hfit (M 1 5)
  rw [show zPl M 1 0 5 = M 1 5 from rfl] at *
  rw [ev] at hf
  by_cases c1 : g_X9_fits (M 1 5) kd = 0
  · rw [if_pos c1]
    rw [ev] at c1
    exact Or.inr ⟨2, by decide, by decide, rfl, z3, by omega, bad 2 (by decide) (by decide) (no (fun q => (hf.mpr q).1 c1))⟩
  · rw [if_neg c1]
    have c1' := c1
    rw [ev] at c1'
    by_cases c7 : nI kd = 7
    · rw [if_pos c7]
      by_cases cr : M 1 5 < rp
      · rw [if_pos cr]
        rw [ev] at cr
        exact ok (hf.mp ⟨c1', fun _ => cr⟩) _ rfl
      · rw [if_neg cr]
        rw [ev] at cr
        exact Or.inr ⟨2, by decide, by decide, rfl, z3, by omega, bad 2 (by decide) (by decide) (no (fun q => cr ((hf.mpr q).2 c7)))⟩
    · rw [if_neg c7]
      exact ok (hf.mp ⟨c1', fun q => absurd q c7⟩) _ rfl
/-- what stands behind a deed's numbers: a semicolon, or an error -/
def rD (ty f : Nat) (c : Int32) (M m : zM) : Prop := (c = 0 ∧ ∃ f1 a1, f + 1 ≤ f1 ∧ pS ty f1 a1 3 M m) ∨ ∃ k f1, 1 ≤ k ∧ k ≤ 2 ∧ f1 ≤ ty ∧ c = nI k ∧ M 1 3 = nI f1 ∧ (m 0 18 = nI (8 * f1 + k) ∨ (m 0 18 = 0 ∧ m 0 15 = nI f1 ∧ ¬ m 0 16 = 1 ∧ k = 1))
theorem rD.semi {f f1 a1 k1 : Nat} (h : pS ty f1 a1 k1 M m) (hf : f + 1 ≤ f1) {c : Int32} (hc : c = 0) : rD ty f (if (g_X8_isSemicolon (zPl M 1)) = 0 then 1 else c) M m := by
  obtain ⟨h1, h18⟩ := id h
  obtain ⟨b1, z3, m15, z4, m14, hfa, hat, hk5, z2, m16, hv, -⟩ := id h1
  have e : g_X8_isSemicolon (zPl M 1) = if nI k1 = 3 then 1 else 0 := by
    unfold g_X8_isSemicolon
    rw [z2]
  have hk : ∀ k, k < 5 → (nI k = 3 ↔ nI (qKd k) = 1) := by decide +kernel
  rw [e]
  by_cases c3 : nI k1 = 3
  · rw [if_pos c3, if_neg (by decide)]
    obtain rfl : k1 = 3 := (nI_eq9 (b := 3) (by omega) (by decide)).mp c3
    exact Or.inl ⟨hc, f1, a1, hf, h⟩
  · rw [if_neg c3, if_pos rfl]
    exact Or.inr ⟨1, f1, by decide, by decide, by omega, rfl, z3, Or.inr ⟨h18, m15, fun q => c3 ((hk k1 hk5).mpr (m16.symm.trans q)), rfl⟩⟩
/-- the end of a deed: its semicolon, and whether it can be done -/
theorem rD.ends {f : Nat} {c : Int32} (h6 : ty ≤ 600) (h : rD ty f c M m) (re : Int32) :
    (c = 0 ∧ (∃ f1 a1, f + 1 ≤ f1 ∧ pS ty f1 a1 3 M m ∧ (re = 0 ∧ g_X10_ends m (if m 0 18 = 0 then re else 0) = (1, m) ∨ ¬ re = 0 ∧ (g_X10_ends m (if m 0 18 = 0 then re else 0)).1 = 0 ∧ (g_X10_ends m (if m 0 18 = 0 then re else 0)).2 0 18 = nI (8 * f1 + 4) ∧ M 1 3 = nI f1 ∧ f1 ≤ ty))) ∨
    ∃ k f1, 1 ≤ k ∧ k ≤ 2 ∧ f1 ≤ ty ∧ c = nI k ∧ M 1 3 = nI f1 ∧ (g_X10_ends m (if m 0 18 = 0 then re else 0)).1 = 0 ∧ (g_X10_ends m (if m 0 18 = 0 then re else 0)).2 0 18 = nI (8 * f1 + k) := by
  rcases h with ⟨hc, f1, a1, hf, hS⟩ | ⟨k, f1, k1, k2, hf1, hc, hM, hm⟩
  · refine Or.inl ⟨hc, f1, a1, hf, hS, ?_⟩
    obtain ⟨h1, h18⟩ := id hS
    obtain ⟨b1, z3, m15, z4, m14, hfa, hat, hk5, z2, m16, hv, -⟩ := id h1
    have e20 : ∀ x, j_X10_ends_20 m x = m := fun x => by
      unfold j_X10_ends_20
      rw [if_pos h18, m16, if_pos (show nI (qKd 3) = 1 from rfl)]
    rw [if_pos h18]
    by_cases hr : re = 0
    · refine Or.inl ⟨hr, ?_⟩
      unfold g_X10_ends j_X10_ends_36
      rw [e20, if_pos h18, if_pos hr, if_pos h18]
    · refine Or.inr ⟨hr, ?_⟩
      obtain ⟨w1, -, -⟩ := w_ok (c := 4) h18 m15
      have w1' : g_X10_wrong m 4 0 18 = nI (8 * f1 + 4) := w1
      have hw : ¬ g_X10_wrong m 4 0 18 = 0 := by
        rw [w1']
        exact nz8 (by omega) (by decide) (by decide)
      have e36 : j_X10_ends_36 m re = g_X10_wrong m 4 := by
        unfold j_X10_ends_36
        rw [e20, if_pos h18, if_neg hr]
      unfold g_X10_ends
      rw [e36, if_neg hw]
      exact ⟨rfl, w1', z3, by omega⟩
  · refine Or.inr ⟨k, f1, k1, k2, hf1, hc, hM, ?_⟩
    rcases hm with hm | ⟨h18, h15, h16, hk⟩
    · have hw : ¬ m 0 18 = 0 := by
        rw [hm]
        exact nz8 (by omega) k1 (by omega)
      rw [fs_ends hw]
      exact ⟨rfl, hm⟩
    · subst hk
      obtain ⟨w1, -, -⟩ := w_ok (c := 1) h18 h15
      have w1' : g_X10_wrong m 1 0 18 = nI (8 * f1 + 1) := w1
      have hw : ¬ g_X10_wrong m 1 0 18 = 0 := by
        rw [w1']
        exact nz8 (by omega) (by decide) (by decide)
      have e20 : ∀ x, j_X10_ends_20 m x = g_X10_wrong m 1 := fun x => by
        unfold j_X10_ends_20
        rw [if_pos h18, if_neg h16]
      have e36 : ∀ x, j_X10_ends_36 m x = g_X10_wrong m 1 := fun x => by
        unfold j_X10_ends_36
        rw [e20, if_neg hw]
      unfold g_X10_ends
      rw [e36, if_neg hw]
      exact ⟨rfl, w1'⟩
end NUM
