/-! A DEED, on both sides -/
/-- numbers read so far, or an error -/
def cS (ty f : Nat) (c : Int32) (M m : zM) : Prop := (c = 0 ∧ ∃ f' a' k', f + 1 ≤ f' ∧ pS ty f' a' k' M m) ∨ ∃ k f1, 1 ≤ k ∧ k ≤ 2 ∧ f1 ≤ ty ∧ c = nI k ∧ M 1 3 = nI f1 ∧ m 0 18 = nI (8 * f1 + k)
def qFit (kd : Nat) (rp lo hi : Int32) : Prop := ∀ v, (¬ g_X9_fits v kd = 0 ∧ (nI kd = 7 → v < rp)) ↔ (¬ v < lo ∧ v ≤ hi)
theorem fit_n {kd : Nat} (rp : Int32) {lo hi : Int32} (h7 : ¬ nI kd = 7) (h1 : zLo kd = lo) (h2 : zHi kd = hi) : qFit kd rp lo hi := fun v => by
  unfold g_X9_fits
  rw [h1, h2]
  constructor
  · rintro ⟨q, -⟩
    by_cases c1 : v < lo
    · rw [if_pos c1] at q
      exact absurd rfl q
    · rw [if_neg c1] at q
      by_cases c2 : hi < v
      · rw [if_pos c2] at q
        exact absurd rfl q
      · exact ⟨c1, Int32.not_lt.mp c2⟩
  · rintro ⟨c1, c2⟩
    rw [if_neg c1, if_neg (Int32.not_lt.mpr c2)]
    exact ⟨by decide, fun q => absurd q h7⟩
theorem fit_7 {n : Nat} (h1 : 1 ≤ n) (h9 : n ≤ 9) : qFit 7 (nI n) 0 (nI n - 1) := fun v => by
  have e : nI n - 1 = nI (n - 1) := pk_sub (a := n) (b := 1) h1
  unfold g_X9_fits
  rw [show zLo 7 = 0 from rfl, show zHi 7 = 8 from rfl, e]
  constructor
  · rintro ⟨q, q2⟩
    have q2 := q2 rfl
    by_cases c1 : v < 0
    · rw [if_pos c1] at q
      exact absurd rfl q
    · obtain ⟨j, hj, rfl⟩ := nI_of c1
      have := (nI_ltI hj (by omega)).mp q2
      exact ⟨c1, nI_le (by omega) (by omega)⟩
  · rintro ⟨c1, c2⟩
    obtain ⟨j, hj, rfl⟩ := nI_of c1
    have := (nI_leI hj (by omega)).mp c2
    rw [if_neg c1, if_neg (show ¬ (8 : Int32) < nI j from nI_nlt (b := j) (a := 8) (by omega) (by decide))]
    exact ⟨by decide, fun _ => nI_lt (by omega) (by omega)⟩
section CHAIN
variable {ty : Nat} {M m : zM}
theorem cS.first {f a k : Nat} (h6 : ty ≤ 600) (hS : pS ty f a k M m) (hk : k ≠ 0) : cS ty f 0 (zPs M 1 2 (g_X8_advance (zPl M 1) ty)) (g_X10_scan m ty) := by
  obtain ⟨⟨f', a', k', q1, q2⟩, -⟩ := hS.next h6
  have := hS.1.2.2.2.2.2.2.2.2.2.2.2.2 hk
  exact Or.inl ⟨rfl, f', a', k', by omega, q2⟩
theorem cS.step {f : Nat} (h6 : ty ≤ 600) (h : cS ty f 0 M m) (p kd : Nat) (rp lo hi : Int32) (hfit : qFit kd rp lo hi) : cS ty f (g_X5_readNumber M ty p kd rp).1 (g_X5_readNumber M ty p kd rp).2 (g_X10_read m ty lo hi).2 ∧ ((g_X5_readNumber M ty p kd rp).1 = 0 → (g_X5_readNumber M ty p kd rp).2 3 p = (g_X10_read m ty lo hi).1 ∧ (∀ j, j ≠ p → (g_X5_readNumber M ty p kd rp).2 3 j = M 3 j) ∧ ¬ (g_X10_read m ty lo hi).1 < lo ∧ (g_X10_read m ty lo hi).1 ≤ hi) := by
  rcases h with ⟨-, f', a', k', q1, q2⟩ | ⟨k, f1, k1, k2, -, hc, -⟩
  · have hfa : f' ≤ a' := q2.1.2.2.2.2.2.1
    rcases (rd_num h6 q2 p kd rp lo hi hfit).1 with ⟨r1, ⟨f2, a2, k2, r2, r3⟩, r4, r5, r6, r7⟩ | ⟨c, c1, c2, r1, r2, r3, r4⟩
    · exact ⟨Or.inl ⟨r1, f2, a2, k2, by omega, r3⟩, fun _ => ⟨r4, r5, r6, r7⟩⟩
    · exact ⟨Or.inr ⟨c, f', c1, c2, r3, r1, r2, r4⟩, fun q => absurd (r1.symm.trans q) (nI_ne0 (by omega) (by omega))⟩
  · exact absurd hc.symm (nI_ne0 (by omega) (by omega))
theorem cS.bad {f : Nat} {c : Int32} (h6 : ty ≤ 600) (h : cS ty f c M m) (hc : ¬ c = 0) : rD ty f c M m ∧ ¬ m 0 18 = 0 := by
  rcases h with ⟨q, -⟩ | ⟨k, f1, k1, k2, hf, q1, q2, q3⟩
  · exact absurd q hc
  · exact ⟨Or.inr ⟨k, f1, k1, k2, hf, q1, q2, Or.inl q3⟩, by rw [q3]; exact nz8 (by omega) k1 (by omega)⟩
theorem cS.semi {f : Nat} {c : Int32} (h : cS ty f c M m) (hc : c = 0) : rD ty f (if (g_X8_isSemicolon (zPl M 1)) = 0 then 1 else c) M m := by
  rcases h with ⟨-, f', a', k', q1, q2⟩ | ⟨k, f1, k1, k2, -, q1, -⟩
  · exact rD.semi q2 q1 hc
  · exact absurd (q1.symm.trans hc) (nI_ne0 (by omega) (by omega))
theorem semi_0 {Z : zM} {c : Int32} (h : (if (g_X8_isSemicolon Z) = 0 then 1 else c) = 0) : c = 0 := by
  split at h
  · exact absurd h (by decide)
  · exact h
theorem ite_pr {p : Prop} [Decidable p] {x y : Int32} {A : zM} : (if p then (x, A) else (y, A)) = ((if p then x else y), A) := by split <;> rfl
theorem rD_0 {f a k : Nat} (h6 : ty ≤ 600) (hS : pS ty f a k M m) (hk : k ≠ 0) (d : Nat) (rp : Int32) (h0 : zKd d 0 = -1) : rD ty f (g_X5_readDeed M ty d rp).1 (g_X5_readDeed M ty d rp).2 (g_X10_scan m ty) := by
  unfold g_X5_readDeed
  rw [if_pos h0, ite_pr]
  have := cS.semi (cS.first h6 hS hk) rfl
  dsimp only
  with_reducible exact this
theorem rD_1 {f a k : Nat} (h6 : ty ≤ 600) (hS : pS ty f a k M m) (hk : k ≠ 0) (d : Nat) (rp : Int32) {k0 : Nat} (hk0 : k0 < 8) (h0 : zKd d 0 = nI k0) (h1 : zKd d 1 = -1) {lo hi : Int32} (hf : qFit k0 rp lo hi) : rD ty f (g_X5_readDeed M ty d rp).1 (g_X5_readDeed M ty d rp).2 (g_X10_read (g_X10_scan m ty) ty lo hi).2 ∧ ((g_X5_readDeed M ty d rp).1 = 0 → (g_X5_readDeed M ty d rp).2 3 0 = (g_X10_read (g_X10_scan m ty) ty lo hi).1 ∧ ¬ (g_X10_read (g_X10_scan m ty) ty lo hi).1 < lo ∧ (g_X10_read (g_X10_scan m ty) ty lo hi).1 ≤ hi) := by
  have e0 : ¬ zKd d 0 = -1 := by rw [h0]; exact m1_ne (by omega)
  have s1 := (cS.first h6 hS hk).step h6 0 k0 rp lo hi hf
  have eD : d_X5_readDeed_2 M ty d rp = g_X5_readNumber (zPs M 1 2 (g_X8_advance (zPl M 1) ty)) ty 0 k0 rp := by
    unfold d_X5_readDeed_2
    rw [h0, nI_clamp (by omega)]
  unfold g_X5_readDeed
  rw [if_neg e0, eD]
  generalize g_X5_readNumber (zPs M 1 2 (g_X8_advance (zPl M 1) ty)) ty 0 k0 rp = D at *
  by_cases c : D.1 = 0
  · rw [if_pos c, if_pos h1, ite_pr]
    exact ⟨s1.1.semi c, fun _ => ⟨(s1.2 c).1, (s1.2 c).2.2⟩⟩
  · rw [if_neg c]
    exact ⟨(s1.1.bad h6 c).1, fun q => absurd q c⟩
theorem rD_2 {f a k : Nat} (h6 : ty ≤ 600) (hS : pS ty f a k M m) (hk : k ≠ 0) (d : Nat) (rp : Int32) {k0 k1 : Nat} (hk0 : k0 < 8) (hk1 : k1 < 8) (h0 : zKd d 0 = nI k0) (h1 : zKd d 1 = nI k1) (h2 : zKd d 2 = -1) {lo hi lo1 hi1 : Int32} (hf : qFit k0 rp lo hi) (hf1 : qFit k1 rp lo1 hi1) : rD ty f (g_X5_readDeed M ty d rp).1 (g_X5_readDeed M ty d rp).2 (g_X10_read (g_X10_read (g_X10_scan m ty) ty lo hi).2 ty lo1 hi1).2 ∧ ((g_X5_readDeed M ty d rp).1 = 0 → ((g_X5_readDeed M ty d rp).2 3 0 = (g_X10_read (g_X10_scan m ty) ty lo hi).1 ∧ ¬ (g_X10_read (g_X10_scan m ty) ty lo hi).1 < lo ∧ (g_X10_read (g_X10_scan m ty) ty lo hi).1 ≤ hi) ∧ (g_X5_readDeed M ty d rp).2 3 1 = (g_X10_read (g_X10_read (g_X10_scan m ty) ty lo hi).2 ty lo1 hi1).1 ∧ ¬ (g_X10_read (g_X10_read (g_X10_scan m ty) ty lo hi).2 ty lo1 hi1).1 < lo1 ∧ (g_X10_read (g_X10_read (g_X10_scan m ty) ty lo hi).2 ty lo1 hi1).1 ≤ hi1) := by
  have e0 : ¬ zKd d 0 = -1 := by rw [h0]; exact m1_ne (by omega)
  have e1 : ¬ zKd d 1 = -1 := by rw [h1]; exact m1_ne (by omega)
  have s1 := (cS.first h6 hS hk).step h6 0 k0 rp lo hi hf
  have eD : d_X5_readDeed_2 M ty d rp = g_X5_readNumber (zPs M 1 2 (g_X8_advance (zPl M 1) ty)) ty 0 k0 rp := by
    unfold d_X5_readDeed_2
    rw [h0, nI_clamp (by omega)]
  have eD2 : d_X5_readDeed_3 M ty d rp = g_X5_readNumber (d_X5_readDeed_2 M ty d rp).2 ty 1 k1 rp := by
    unfold d_X5_readDeed_3
    rw [h1, nI_clamp (by omega)]
  rw [eD] at eD2
  unfold g_X5_readDeed
  rw [if_neg e0, eD2, eD, if_neg e1]
  generalize g_X5_readNumber (zPs M 1 2 (g_X8_advance (zPl M 1) ty)) ty 0 k0 rp = D at *
  generalize g_X10_read (g_X10_scan m ty) ty lo hi = R at *
  by_cases c : D.1 = 0
  · rw [if_pos c]
    have s1' := s1.1
    rw [c] at s1'
    have s2 := s1'.step h6 1 k1 rp lo1 hi1 hf1
    generalize g_X5_readNumber D.2 ty 1 k1 rp = E at *
    by_cases c2 : E.1 = 0
    · rw [if_pos c2, if_pos h2, ite_pr]
      exact ⟨s2.1.semi c2, fun _ => ⟨⟨((s2.2 c2).2.1 0 (by decide)).trans (s1.2 c).1, (s1.2 c).2.2⟩, (s2.2 c2).1, (s2.2 c2).2.2⟩⟩
    · rw [if_neg c2]
      exact ⟨(s2.1.bad h6 c2).1, fun q => absurd q c2⟩
  · rw [if_neg c]
    obtain ⟨g1, g2⟩ := s1.1.bad h6 c
    rw [fs_read g2]
    exact ⟨g1, fun q => absurd q c⟩
theorem rD_3 {f a k : Nat} (h6 : ty ≤ 600) (hS : pS ty f a k M m) (hk : k ≠ 0) (d : Nat) (rp : Int32) {k0 k1 k2 : Nat} (hk0 : k0 < 8) (hk1 : k1 < 8) (hk2 : k2 < 8) (h0 : zKd d 0 = nI k0) (h1 : zKd d 1 = nI k1) (h2 : zKd d 2 = nI k2) {lo hi lo1 hi1 lo2 hi2 : Int32} (hf : qFit k0 rp lo hi) (hf1 : qFit k1 rp lo1 hi1) (hf2 : qFit k2 rp lo2 hi2) (R R1 R2 : Int32 × zM) (eR : R = g_X10_read (g_X10_scan m ty) ty lo hi) (eR1 : R1 = g_X10_read R.2 ty lo1 hi1) (eR2 : R2 = g_X10_read R1.2 ty lo2 hi2) : rD ty f (g_X5_readDeed M ty d rp).1 (g_X5_readDeed M ty d rp).2 R2.2 ∧ ((g_X5_readDeed M ty d rp).1 = 0 → ((g_X5_readDeed M ty d rp).2 3 0 = R.1 ∧ ¬ R.1 < lo ∧ R.1 ≤ hi) ∧ ((g_X5_readDeed M ty d rp).2 3 1 = R1.1 ∧ ¬ R1.1 < lo1 ∧ R1.1 ≤ hi1) ∧ (g_X5_readDeed M ty d rp).2 3 2 = R2.1 ∧ ¬ R2.1 < lo2 ∧ R2.1 ≤ hi2) := by
  have e0 : ¬ zKd d 0 = -1 := by rw [h0]; exact m1_ne (by omega)
  have e1 : ¬ zKd d 1 = -1 := by rw [h1]; exact m1_ne (by omega)
  have e2 : ¬ zKd d 2 = -1 := by rw [h2]; exact m1_ne (by omega)
  have s1 := (cS.first h6 hS hk).step h6 0 k0 rp lo hi hf
  have eD : d_X5_readDeed_2 M ty d rp = g_X5_readNumber (zPs M 1 2 (g_X8_advance (zPl M 1) ty)) ty 0 k0 rp := by
    unfold d_X5_readDeed_2
    rw [h0, nI_clamp (by omega)]
  have eD2 : d_X5_readDeed_3 M ty d rp = g_X5_readNumber (d_X5_readDeed_2 M ty d rp).2 ty 1 k1 rp := by
    unfold d_X5_readDeed_3
    rw [h1, nI_clamp (by omega)]
  have eD3 : d_X5_readDeed_4 M ty d rp = g_X5_readNumber (d_X5_readDeed_3 M ty d rp).2 ty 2 k2 rp := by
    unfold d_X5_readDeed_4
    rw [h2, nI_clamp (by omega)]
  rw [eD2] at eD3
  rw [eD] at eD2 eD3
  unfold g_X5_readDeed
  rw [if_neg e0, eD3, eD2, eD, if_neg e1, if_neg e2]
  generalize g_X5_readNumber (zPs M 1 2 (g_X8_advance (zPl M 1) ty)) ty 0 k0 rp = D at *
  rw [← eR] at s1
  by_cases c : D.1 = 0
  · rw [if_pos c]
    have s1' := s1.1
    rw [c] at s1'
    have s2 := s1'.step h6 1 k1 rp lo1 hi1 hf1
    rw [← eR1] at s2
    generalize g_X5_readNumber D.2 ty 1 k1 rp = E at *
    by_cases c2 : E.1 = 0
    · rw [if_pos c2]
      have s2' := s2.1
      rw [c2] at s2'
      have s3 := s2'.step h6 2 k2 rp lo2 hi2 hf2
      rw [← eR2] at s3
      generalize g_X5_readNumber E.2 ty 2 k2 rp = F at *
      by_cases c3 : F.1 = 0
      · rw [if_pos c3, ite_pr]
        refine ⟨s3.1.semi c3, fun _ => ⟨⟨?_, (s1.2 c).2.2⟩, ⟨?_, (s2.2 c2).2.2⟩, (s3.2 c3).1, (s3.2 c3).2.2⟩⟩
        · exact ((s3.2 c3).2.1 0 (by decide)).trans (((s2.2 c2).2.1 0 (by decide)).trans (s1.2 c).1)
        · exact ((s3.2 c3).2.1 1 (by decide)).trans (s2.2 c2).1
      · rw [if_neg c3]
        exact ⟨(s3.1.bad h6 c3).1, fun q => absurd q c3⟩
    · rw [if_neg c2]
      obtain ⟨g1, g2⟩ := s2.1.bad h6 c2
      have e3 : R2 = (0, R1.2) := by rw [eR2]; exact fs_read g2
      rw [e3]
      exact ⟨g1, fun q => absurd q c2⟩
  · rw [if_neg c]
    obtain ⟨g1, g2⟩ := s1.1.bad h6 c
    have e3 : R1 = (0, R.2) := by rw [eR1]; exact fs_read g2
    have e4 : R2 = (0, R.2) := by
      rw [eR2, e3]
      exact fs_read g2
    rw [e4]
    exact ⟨g1, fun q => absurd q c⟩
/-- what a deed comes to: done, refused, or an error -/
def dR (ty f n T : Nat) (c : Int32) (a : Int32 × zM) (M' D : zM) : Prop :=
  (c = 0 ∧ 0 ≤ a.1 ∧ ∃ oz f1 a1, f + 1 ≤ f1 ∧ rl n oz T a.2 (D 1) ∧ pS ty f1 a1 3 M' D) ∨ (c = 0 ∧ ¬ 0 ≤ a.1 ∧ ∃ f1, f1 ≤ ty ∧ M' 1 3 = nI f1 ∧ D 0 18 = nI (8 * f1 + 4)) ∨ ∃ k f1, 1 ≤ k ∧ k ≤ 2 ∧ f1 ≤ ty ∧ c = nI k ∧ M' 1 3 = nI f1 ∧ D 0 18 = nI (8 * f1 + k)
theorem fin {f n T : Nat} {N : zM} {c : Int32} (h6 : ty ≤ 600) (hr : rD ty f c M m) (a : Int32 × zM) (re : Int32) (bf : zM → Int32 × zM) (hst : c = 0 → qStep n T N a re (bf m)) (hfr : ∀ o, o ≠ 0 → o ≠ 1 → o ≠ 20 → (bf m).2 o = m o) (hfr0 : ∀ k, k ≠ 12 → k ≠ 13 → (bf m).2 0 k = m 0 k) : dR ty f n T c a M (if (g_X10_ends m (if m 0 18 = 0 then re else 0)).1 = 0 then (g_X10_ends m (if m 0 18 = 0 then re else 0)).2 else (bf (g_X10_ends m (if m 0 18 = 0 then re else 0)).2).2) := by
  rcases hr.ends h6 re with ⟨hc, f1, a1, q1, q2, q3⟩ | ⟨k, f1, k1, k2, q1, q2, q3, q4, q5⟩
  · rcases q3 with ⟨r1, r2⟩ | ⟨r1, r2, r3, r4, r5⟩
    · rw [r2, if_neg (show ¬ (1 : Int32) = 0 by decide)]
      rcases hst hc with ⟨s1, -⟩ | ⟨-, s2, -, oz, s4⟩
      · exact absurd r1 s1
      · refine Or.inl ⟨hc, Int32.not_lt.mp s2, oz, f1, a1, q1, s4, q2.1.of rfl rfl (hfr 18 (by decide) (by decide) (by decide)) (fun j hj => hfr0 j (by omega) (by omega)), (hfr0 18 (by decide) (by decide)).trans q2.2⟩
    · rw [if_pos r2]
      rcases hst hc with ⟨-, -, s3, -⟩ | ⟨s1, -⟩
      · exact Or.inr (Or.inl ⟨hc, Int32.not_le.mpr s3, f1, r5, r4, r3⟩)
      · exact absurd s1 r1
  · rw [if_pos q4]
    exact Or.inr (Or.inr ⟨k, f1, k1, k2, q1, q2, q3, q5⟩)
end CHAIN
theorem cnt0 (M : zM) (n oz k : Nat) (h12 : k ≠ 12) (h13 : k ≠ 13) : (g_X10_countIt M n oz).2 0 k = M 0 k := by
  have e1 : (g_X10_chosenNow M n).2 0 k = M 0 k := by
    unfold g_X10_chosenNow
    rw [(chosenBy_2 _ _ _).1, ← congrFun (fr_X10_findVotes M n 0 (by decide)) k]
    generalize g_X10_findVotes M n = F
    unfold r_X10_leading_14
    refine zIt_inv (f := l_X10_leading_14 F n _) (P := fun _ (s : Int32 × zM) => s.2 0 k = F 0 k) n (-1, zU (zU F 0 12 (-1)) 0 13 0) ?_ ?_
    · dsimp only
      rw [zU_k h13, zU_k h12]
    · intro i _ s hs
      unfold l_X10_leading_14
      split
      · exact hs
      · dsimp only
        rw [zU_k h12, zU_k h13]
        exact hs
  have e2 : ∀ ch, g_X10_addOutcome (r_X10_countIt_14 M n oz) n oz ch 0 k = M 0 k := fun ch => by
    rw [fr_X10_addOutcome _ _ _ _ 0 (by decide)]
    refine (congrFun (fr_l_X10_countIt_14 M n oz 0 (by decide) n _) k).trans ?_
    rw [zU_ne (show (0 : Nat) ≠ 1 by decide)]
    exact e1
  unfold g_X10_countIt
  split <;> exact e2 _
