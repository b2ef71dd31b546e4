/-! THE PLACE IN THE TEXT goes on -/
def zTkQ (ty a0 : Nat) (m : zM) : Prop := zTkP ty m ∧ a0 ≤ (m 0 14).toNatClampNeg
theorem zTkQ.of2 {ty a0 : Nat} {m m' : zM} (e8 : m' 0 8 = m 0 8) (e14 : m' 0 14 = m 0 14) (e15 : m' 0 15 = m 0 15) (h : zTkQ ty a0 m) : zTkQ ty a0 m' := ⟨h.1.of2 e8 e14 e15, by rw [e14]; exact h.2⟩
theorem zTkQ.of {ty a0 : Nat} {m m' : zM} (e : m' 0 = m 0) (h : zTkQ ty a0 m) : zTkQ ty a0 m' := ⟨h.1.of e, by rw [e]; exact h.2⟩
theorem st_scan_90 (M : zM) (ty a0 : Nat) (h600 : ty ≤ 600) (m : zM) (hm : zAtP ty m) (ha : a0 ≤ (m 0 14).toNatClampNeg) (c : ¬ g_X10_letterAt m ty (m 0 14).toNatClampNeg = 0) : a0 < (w_X10_scan_90 M ty m 0 14).toNatClampNeg := by
  have e : f_X10_scan_90 M ty m = .inl (zU m 0 14 (m 0 14 + 1)) := by simp only [f_X10_scan_90, if_neg c]
  have h := hf_scan_90 M ty h600 m _ hm e
  have h1 := zAtI hm h600 (zLg hm h600 c)
  have h2 : (zU m 0 14 (m 0 14 + 1) 0 14).toNatClampNeg = (m 0 14).toNatClampNeg + 1 := by
    show (m 0 14 + 1).toNatClampNeg = _
    rw [h1.1, nI_1, nI_clamp (by omega), nI_clamp (by omega)]
  unfold w_X10_scan_90
  rw [zWr, e]
  have := zWr_P (d := fun m : zM => m) (f := f_X10_scan_90 M ty) (P := zAtG ty (a0 + 1)) (μ := fun m => ty - (m 0 14).toNatClampNeg) (R := zAtG ty (a0 + 1)) (fun x y hx e => ?_) (fun x b hx e => ?_) ty _ ⟨h.1, by omega⟩ (by have := h.2; have := (zAtL h.1 h600).2; omega)
  · exact this.2
  · have h := hf_scan_90 M ty h600 x y hx.1 e
    have h1 := (zAtL hx.1 h600).2
    have h2 := (zAtL h.1 h600).2
    exact ⟨⟨h.1, by have := h.2; have := hx.2; omega⟩, h.2⟩
  · simp only [f_X10_scan_90] at e
    split at e
    · have e := Sum.inr.inj e
      subst e
      exact hx
    · cases e
theorem st_scan_138 (M : zM) (ty a0 : Nat) (h600 : ty ≤ 600) (m : zM) (hm : zAtP ty m) (ha : a0 ≤ (m 0 14).toNatClampNeg) (c : ¬ g_X10_digitAt m ty (m 0 14).toNatClampNeg = 0) : a0 < (w_X10_scan_138 M ty m 0 14).toNatClampNeg := by
  obtain ⟨y, e, hy⟩ : ∃ y, f_X10_scan_138 M ty m = .inl y ∧ y 0 14 = m 0 14 + 1 := by
    simp only [f_X10_scan_138, if_neg c]
    exact ⟨_, rfl, rfl⟩
  have h := hf_scan_138 M ty h600 m _ hm e
  have h1 := zAtI hm h600 (zDg hm h600 c)
  have h2 : (y 0 14).toNatClampNeg = (m 0 14).toNatClampNeg + 1 := by
    rw [hy, h1.1, nI_1, nI_clamp (by omega), nI_clamp (by omega)]
  unfold w_X10_scan_138
  rw [zWr, e]
  have := zWr_P (d := fun m : zM => m) (f := f_X10_scan_138 M ty) (P := zAtG ty (a0 + 1)) (μ := fun m => ty - (m 0 14).toNatClampNeg) (R := zAtG ty (a0 + 1)) (fun x y hx e => ?_) (fun x b hx e => ?_) ty _ ⟨h.1, by omega⟩ (by have := h.2; have := (zAtL h.1 h600).2; omega)
  · exact this.2
  · have h := hf_scan_138 M ty h600 x y hx.1 e
    have h1 := (zAtL hx.1 h600).2
    have h2 := (zAtL h.1 h600).2
    exact ⟨⟨h.1, by have := h.2; have := hx.2; omega⟩, h.2⟩
  · simp only [f_X10_scan_138] at e
    split at e
    · have e := Sum.inr.inj e
      subst e
      exact hx
    · cases e
theorem e3_X10_scan (M : zM) (ty : Nat) (h600 : ty ≤ 600) (hat : zAtP ty M) : (M 0 14).toNatClampNeg ≤ (g_X10_scan M ty 0 14).toNatClampNeg ∧ (¬ g_X10_scan M ty 0 16 = 0 → (M 0 14).toNatClampNeg < (g_X10_scan M ty 0 14).toNatClampNeg) := by
  have h0 := mo_scan_0 M ty _ h600 M ⟨hat, Nat.le_refl _⟩
  have hL := zAtL h0.1 h600
  have hs : zAtP ty (zU (w_X10_scan_0 M ty M) 0 15 ((w_X10_scan_0 M ty M) 0 14)) := h0.1
  have ha : (M 0 14).toNatClampNeg ≤ ((zU (w_X10_scan_0 M ty M) 0 15 ((w_X10_scan_0 M ty M) 0 14)) 0 14).toNatClampNeg := h0.2
  unfold g_X10_scan
  by_cases c1 : (w_X10_scan_0 M ty M) 0 14 = (w_X10_scan_0 M ty M) 0 8
  · rw [if_pos c1]
    exact ⟨h0.2, fun q => absurd rfl q⟩
  rw [if_neg c1]
  by_cases c2 : (g_X10_letterAt (zU (w_X10_scan_0 M ty M) 0 15 ((w_X10_scan_0 M ty M) 0 14)) ty ((w_X10_scan_0 M ty M) 0 14).toNatClampNeg) = 0
  · rw [if_pos c2]
    by_cases c3 : (g_X10_digitAt (zU (w_X10_scan_0 M ty M) 0 15 ((w_X10_scan_0 M ty M) 0 14)) ty ((w_X10_scan_0 M ty M) 0 14).toNatClampNeg) = 0
    · rw [if_pos c3]
      have h1 := zAtN h0.1 h600 c1
      have e : ((w_X10_scan_0 M ty M) 0 14 + 1).toNatClampNeg = ((w_X10_scan_0 M ty M) 0 14).toNatClampNeg + 1 := by
        rw [h1.1, nI_1, nI_clamp (by omega), nI_clamp (by omega)]
      have e2 : (M 0 14).toNatClampNeg < ((w_X10_scan_0 M ty M) 0 14 + 1).toNatClampNeg := by rw [e]; exact Nat.lt_succ_of_le h0.2
      exact ⟨Nat.le_of_lt e2, fun _ => e2⟩
    · rw [if_neg c3]
      have h := st_scan_138 M ty (M 0 14).toNatClampNeg h600 (zU (zU (w_X10_scan_0 M ty M) 0 15 ((w_X10_scan_0 M ty M) 0 14)) 0 17 0) hs ha c3
      rw [zU_k (by decide)]
      exact ⟨Nat.le_of_lt h, fun _ => h⟩
  · rw [if_neg c2]
    have h := st_scan_90 M ty (M 0 14).toNatClampNeg h600 (zU (w_X10_scan_0 M ty M) 0 15 ((w_X10_scan_0 M ty M) 0 14)) hs ha c2
    rw [zU_k (by decide)]
    exact ⟨Nat.le_of_lt h, fun _ => h⟩
theorem tq_X10_scan {a0 : Nat} (M : zM) (ty : Nat) (h600 : ty ≤ 600) (h : zTkQ ty a0 M) : zTkQ ty a0 (g_X10_scan M ty) := ⟨tk_X10_scan M ty h600 h.1, Nat.le_trans h.2 (e3_X10_scan M ty h600 h.1.at).1⟩
theorem tq_X10_wrong {ty a0 : Nat} (M : zM) (cd : Int32) (h600 : ty ≤ 600) (h : zTkQ ty a0 M) : zTkQ ty a0 (g_X10_wrong M cd) := by
  unfold g_X10_wrong
  split <;> exact h
theorem tq_X10_goOn {a0 : Nat} (M : zM) (ty : Nat) (h600 : ty ≤ 600) (h : zTkQ ty a0 M) : zTkQ ty a0 (g_X10_goOn M ty) := by
  unfold g_X10_goOn
  split
  · exact tq_X10_scan M ty h600 h
  · exact h
theorem tq_X10_bounds {ty a0 : Nat} (M : zM) (lo hi : Int32) (h600 : ty ≤ 600) (h : zTkQ ty a0 M) : zTkQ ty a0 (g_X10_bounds M lo hi) := by
  unfold g_X10_bounds
  (repeat' split) <;> first | exact h | exact tq_X10_wrong M _ h600 h
theorem tq_X10_read {a0 : Nat} (M : zM) (ty : Nat) (lo hi : Int32) (h600 : ty ≤ 600) (h : zTkQ ty a0 M) : zTkQ ty a0 (g_X10_read M ty lo hi).2 := by
  have h1 := tq_X10_goOn _ ty h600 (tq_X10_bounds M lo hi h600 h)
  unfold g_X10_read
  split <;> exact h1
theorem tq_X10_replicaHere {a0 : Nat} (M : zM) (ty : Nat) (h600 : ty ≤ 600) (h : zTkQ ty a0 M) : zTkQ ty a0 (g_X10_replicaHere M ty).2 := tq_X10_read M ty _ _ h600 h
theorem tq_X10_ends {ty a0 : Nat} (M : zM) (x : Int32) (h600 : ty ≤ 600) (h : zTkQ ty a0 M) : zTkQ ty a0 (g_X10_ends M x).2 := by
  have h1 : zTkQ ty a0 (j_X10_ends_20 M x) := by
    unfold j_X10_ends_20
    (repeat' split) <;> first | exact h | exact tq_X10_wrong M _ h600 h
  have h2 : zTkQ ty a0 (j_X10_ends_36 M x) := by
    unfold j_X10_ends_36
    (repeat' split) <;> first | exact h1 | exact tq_X10_wrong _ _ h600 h1
  unfold g_X10_ends
  split <;> exact h2
theorem tq_X10_countIt {ty a0 : Nat} (M : zM) (n oz : Nat) (h600 : ty ≤ 600) (h : zTkQ ty a0 M) : zTkQ ty a0 (g_X10_countIt M n oz).2 :=
  zTkQ.of2 (lz_countIt M n oz 8 (by decide) (by decide)) (lz_countIt M n oz 14 (by decide) (by decide)) (lz_countIt M n oz 15 (by decide) (by decide)) h
theorem tq_X10_setting {a0 : Nat} (M : zM) (ty : Nat) (w : Nat) (h600 : ty ≤ 600) (htk : zTkQ ty a0 M) : zTkQ ty a0 (g_X10_setting M ty w) := by
  obtain ⟨v1, hv1⟩ : ∃ v, v = (g_X10_scan M ty) := ⟨_, rfl⟩
  have ev1 : (d_X10_setting_1 M ty w) = v1 := by unfold d_X10_setting_1; exact hv1.symm
  have tkv1 : zTkQ ty a0 v1 := by rw [hv1]; exact (tq_X10_scan M ty h600 htk)
  obtain ⟨v2, hv2⟩ : ∃ v, v = (g_X10_read v1 ty (g_X10_leastOf (nI w)) (g_X10_mostOf (nI w))) := ⟨_, rfl⟩
  have ev2 : (d_X10_setting_2 M ty w) = v2 := by unfold d_X10_setting_2; (try rw [ev1]); exact hv2.symm
  have tkv2 : zTkQ ty a0 v2.2 := by rw [hv2]; exact (tq_X10_read v1 ty (g_X10_leastOf (nI w)) (g_X10_mostOf (nI w)) h600 tkv1)
  obtain ⟨v3, hv3⟩ : ∃ v, v = (g_X10_ends v2.2 0) := ⟨_, rfl⟩
  have ev3 : (d_X10_setting_3 M ty w) = v3 := by unfold d_X10_setting_3; (try rw [ev2]); exact hv3.symm
  have tkv3 : zTkQ ty a0 v3.2 := by rw [hv3]; exact (tq_X10_ends v2.2 0 h600 tkv2)
  unfold g_X10_setting
  (try rw [ev1])
  (try rw [ev2])
  (try rw [ev3])
  by_cases q1 : v3.1 = 0
  · rw [if_pos q1]
    exact tkv3
  · rw [if_neg q1]
    exact tkv3
theorem tq_X10_threeNumbers {a0 : Nat} (M : zM) (ty : Nat) (n : Nat) (b : Int32) (h600 : ty ≤ 600) (htk : zTkQ ty a0 M) : zTkQ ty a0 (g_X10_threeNumbers M ty n b) := by
  obtain ⟨v1, hv1⟩ : ∃ v, v = (g_X10_replicaHere M ty) := ⟨_, rfl⟩
  have ev1 : (d_X10_threeNumbers_1 M ty n b) = v1 := by unfold d_X10_threeNumbers_1; exact hv1.symm
  have tkv1 : zTkQ ty a0 v1.2 := by rw [hv1]; exact (tq_X10_replicaHere M ty h600 htk)
  obtain ⟨v2, hv2⟩ : ∃ v, v = (g_X10_replicaHere v1.2 ty) := ⟨_, rfl⟩
  have ev2 : (d_X10_threeNumbers_2 M ty n b) = v2 := by unfold d_X10_threeNumbers_2; (try rw [ev1]); exact hv2.symm
  have tkv2 : zTkQ ty a0 v2.2 := by rw [hv2]; exact (tq_X10_replicaHere v1.2 ty h600 tkv1)
  obtain ⟨v3, hv3⟩ : ∃ v, v = (g_X10_read v2.2 ty 0 999) := ⟨_, rfl⟩
  have ev3 : (d_X10_threeNumbers_3 M ty n b) = v3 := by unfold d_X10_threeNumbers_3; (try rw [ev2]); exact hv3.symm
  have tkv3 : zTkQ ty a0 v3.2 := by rw [hv3]; exact (tq_X10_read v2.2 ty 0 999 h600 tkv2)
  obtain ⟨v4, hv4⟩ : ∃ v, v = (g_X10_ends v3.2 (if (v3.2 0 18) = 0 then (if b = 0 then (g_X10_noBreak v3.2 v1.1.toNatClampNeg) else (g_X10_noSeal v3.2 v1.1.toNatClampNeg)) else (0 : Int32))) := ⟨_, rfl⟩
  have ev4 : (d_X10_threeNumbers_4 M ty n b) = v4 := by unfold d_X10_threeNumbers_4; (try rw [ev1]); (try rw [ev3]); exact hv4.symm
  have tkv4 : zTkQ ty a0 v4.2 := by rw [hv4]; exact (tq_X10_ends v3.2 (if (v3.2 0 18) = 0 then (if b = 0 then (g_X10_noBreak v3.2 v1.1.toNatClampNeg) else (g_X10_noSeal v3.2 v1.1.toNatClampNeg)) else (0 : Int32)) h600 tkv3)
  obtain ⟨v7, hv7⟩ : ∃ v, v = (g_X10_breakIt v4.2 v1.1.toNatClampNeg v2.1.toNatClampNeg v3.1) := ⟨_, rfl⟩
  have ev7 : (d_X10_threeNumbers_7 M ty n b) = v7 := by unfold d_X10_threeNumbers_7; (try rw [ev1]); (try rw [ev2]); (try rw [ev3]); (try rw [ev4]); exact hv7.symm
  have tkv7 : zTkQ ty a0 v7.2 := by rw [hv7]; exact zTkQ.of (fr_X10_breakIt v4.2 v1.1.toNatClampNeg v2.1.toNatClampNeg v3.1 0 (by decide)) tkv4
  obtain ⟨v8, hv8⟩ : ∃ v, v = (g_X10_sealIt v4.2 n v1.1.toNatClampNeg (g_X10_sealOf v2.1 v3.1 (v4.2 1 5))) := ⟨_, rfl⟩
  have ev8 : (d_X10_threeNumbers_8 M ty n b) = v8 := by unfold d_X10_threeNumbers_8; (try rw [ev1]); (try rw [ev2]); (try rw [ev3]); (try rw [ev4]); exact hv8.symm
  have tkv8 : zTkQ ty a0 v8.2 := by rw [hv8]; exact zTkQ.of (fr_X10_sealIt v4.2 n v1.1.toNatClampNeg (g_X10_sealOf v2.1 v3.1 (v4.2 1 5)) 0 (by decide)) tkv4
  unfold g_X10_threeNumbers
  (try rw [ev1])
  (try rw [ev2])
  (try rw [ev3])
  (try rw [ev4])
  (try rw [ev7])
  (try rw [ev8])
  by_cases q1 : v4.1 = 0
  · rw [if_pos q1]
    exact tkv4
  · rw [if_neg q1]
    by_cases q2 : b = 0
    · rw [if_pos q2]
      exact tkv7
    · rw [if_neg q2]
      exact tkv8
theorem tq_X10_bareDeed {a0 : Nat} (M : zM) (ty : Nat) (n : Nat) (oz : Nat) (h600 : ty ≤ 600) (htk : zTkQ ty a0 M) : zTkQ ty a0 (g_X10_bareDeed M ty n oz) := by
  obtain ⟨v1, hv1⟩ : ∃ v, v = (g_X10_goOn M ty) := ⟨_, rfl⟩
  have ev1 : (d_X10_bareDeed_1 M ty n oz) = v1 := by unfold d_X10_bareDeed_1; exact hv1.symm
  have tkv1 : zTkQ ty a0 v1 := by rw [hv1]; exact (tq_X10_goOn M ty h600 htk)
  obtain ⟨v2, hv2⟩ : ∃ v, v = (g_X10_ends v1 (if (v1 0 18) = 0 then (if (g_X10_isWord M ty 6) = 0 then (if (g_X10_isWord M ty 8) = 0 then (if (v1 1 4) = 0 then (17 : Int32) else (0 : Int32)) else (g_X10_noCount v1 n)) else (g_X10_noClose v1 n)) else (0 : Int32))) := ⟨_, rfl⟩
  have ev2 : (d_X10_bareDeed_2 M ty n oz) = v2 := by unfold d_X10_bareDeed_2; (try rw [ev1]); exact hv2.symm
  have tkv2 : zTkQ ty a0 v2.2 := by rw [hv2]; exact (tq_X10_ends v1 (if (v1 0 18) = 0 then (if (g_X10_isWord M ty 6) = 0 then (if (g_X10_isWord M ty 8) = 0 then (if (v1 1 4) = 0 then (17 : Int32) else (0 : Int32)) else (g_X10_noCount v1 n)) else (g_X10_noClose v1 n)) else (0 : Int32)) h600 tkv1)
  obtain ⟨v3, hv3⟩ : ∃ v, v = (g_X10_closeIt v2.2 n) := ⟨_, rfl⟩
  have ev3 : (d_X10_bareDeed_3 M ty n oz) = v3 := by unfold d_X10_bareDeed_3; (try rw [ev2]); exact hv3.symm
  have tkv3 : zTkQ ty a0 v3.2 := by rw [hv3]; exact zTkQ.of (fr_X10_closeIt v2.2 n 0 (by decide)) tkv2
  obtain ⟨v4, hv4⟩ : ∃ v, v = (g_X10_goOn M ty) := ⟨_, rfl⟩
  have ev4 : (d_X10_bareDeed_4 M ty n oz) = v4 := by unfold d_X10_bareDeed_4; exact hv4.symm
  have tkv4 : zTkQ ty a0 v4 := by rw [hv4]; exact (tq_X10_goOn M ty h600 htk)
  obtain ⟨v5, hv5⟩ : ∃ v, v = (g_X10_ends v4 (if (v4 0 18) = 0 then (if (g_X10_isWord M ty 6) = 0 then (if (g_X10_isWord M ty 8) = 0 then (if (v4 1 4) = 0 then (17 : Int32) else (0 : Int32)) else (g_X10_noCount v4 n)) else (g_X10_noClose v4 n)) else (0 : Int32))) := ⟨_, rfl⟩
  have ev5 : (d_X10_bareDeed_5 M ty n oz) = v5 := by unfold d_X10_bareDeed_5; (try rw [ev4]); exact hv5.symm
  have tkv5 : zTkQ ty a0 v5.2 := by rw [hv5]; exact (tq_X10_ends v4 (if (v4 0 18) = 0 then (if (g_X10_isWord M ty 6) = 0 then (if (g_X10_isWord M ty 8) = 0 then (if (v4 1 4) = 0 then (17 : Int32) else (0 : Int32)) else (g_X10_noCount v4 n)) else (g_X10_noClose v4 n)) else (0 : Int32)) h600 tkv4)
  obtain ⟨v6, hv6⟩ : ∃ v, v = (g_X10_countIt v5.2 n oz) := ⟨_, rfl⟩
  have ev6 : (d_X10_bareDeed_6 M ty n oz) = v6 := by unfold d_X10_bareDeed_6; (try rw [ev5]); exact hv6.symm
  have tkv6 : zTkQ ty a0 v6.2 := by rw [hv6]; exact (tq_X10_countIt v5.2 n oz h600 tkv5)
  obtain ⟨v7, hv7⟩ : ∃ v, v = (g_X10_goOn M ty) := ⟨_, rfl⟩
  have ev7 : (d_X10_bareDeed_7 M ty n oz) = v7 := by unfold d_X10_bareDeed_7; exact hv7.symm
  have tkv7 : zTkQ ty a0 v7 := by rw [hv7]; exact (tq_X10_goOn M ty h600 htk)
  obtain ⟨v8, hv8⟩ : ∃ v, v = (g_X10_ends v7 (if (v7 0 18) = 0 then (if (g_X10_isWord M ty 6) = 0 then (if (g_X10_isWord M ty 8) = 0 then (if (v7 1 4) = 0 then (17 : Int32) else (0 : Int32)) else (g_X10_noCount v7 n)) else (g_X10_noClose v7 n)) else (0 : Int32))) := ⟨_, rfl⟩
  have ev8 : (d_X10_bareDeed_8 M ty n oz) = v8 := by unfold d_X10_bareDeed_8; (try rw [ev7]); exact hv8.symm
  have tkv8 : zTkQ ty a0 v8.2 := by rw [hv8]; exact (tq_X10_ends v7 (if (v7 0 18) = 0 then (if (g_X10_isWord M ty 6) = 0 then (if (g_X10_isWord M ty 8) = 0 then (if (v7 1 4) = 0 then (17 : Int32) else (0 : Int32)) else (g_X10_noCount v7 n)) else (g_X10_noClose v7 n)) else (0 : Int32)) h600 tkv7)
  obtain ⟨v9, hv9⟩ : ∃ v, v = (g_X10_giveIt v8.2) := ⟨_, rfl⟩
  have ev9 : (d_X10_bareDeed_9 M ty n oz) = v9 := by unfold d_X10_bareDeed_9; (try rw [ev8]); exact hv9.symm
  have tkv9 : zTkQ ty a0 v9.2 := by rw [hv9]; exact zTkQ.of (fr_X10_giveIt v8.2 0 (by decide)) tkv8
  obtain ⟨v10, hv10⟩ : ∃ v, v = (g_X10_wrong M 1) := ⟨_, rfl⟩
  have ev10 : (d_X10_bareDeed_10 M ty n oz) = v10 := by unfold d_X10_bareDeed_10; exact hv10.symm
  have tkv10 : zTkQ ty a0 v10 := by rw [hv10]; exact (tq_X10_wrong M 1 h600 htk)
  obtain ⟨v11, hv11⟩ : ∃ v, v = (g_X10_goOn v10 ty) := ⟨_, rfl⟩
  have ev11 : (d_X10_bareDeed_11 M ty n oz) = v11 := by unfold d_X10_bareDeed_11; (try rw [ev10]); exact hv11.symm
  have tkv11 : zTkQ ty a0 v11 := by rw [hv11]; exact (tq_X10_goOn v10 ty h600 tkv10)
  obtain ⟨v12, hv12⟩ : ∃ v, v = (g_X10_ends v11 (if (v11 0 18) = 0 then (if (g_X10_isWord M ty 6) = 0 then (if (g_X10_isWord M ty 8) = 0 then (if (v11 1 4) = 0 then (17 : Int32) else (0 : Int32)) else (g_X10_noCount v11 n)) else (g_X10_noClose v11 n)) else (0 : Int32))) := ⟨_, rfl⟩
  have ev12 : (d_X10_bareDeed_12 M ty n oz) = v12 := by unfold d_X10_bareDeed_12; (try rw [ev11]); exact hv12.symm
  have tkv12 : zTkQ ty a0 v12.2 := by rw [hv12]; exact (tq_X10_ends v11 (if (v11 0 18) = 0 then (if (g_X10_isWord M ty 6) = 0 then (if (g_X10_isWord M ty 8) = 0 then (if (v11 1 4) = 0 then (17 : Int32) else (0 : Int32)) else (g_X10_noCount v11 n)) else (g_X10_noClose v11 n)) else (0 : Int32)) h600 tkv11)
  obtain ⟨v13, hv13⟩ : ∃ v, v = (g_X10_giveIt v12.2) := ⟨_, rfl⟩
  have ev13 : (d_X10_bareDeed_13 M ty n oz) = v13 := by unfold d_X10_bareDeed_13; (try rw [ev12]); exact hv13.symm
  have tkv13 : zTkQ ty a0 v13.2 := by rw [hv13]; exact zTkQ.of (fr_X10_giveIt v12.2 0 (by decide)) tkv12
  unfold g_X10_bareDeed
  (try rw [ev1])
  (try rw [ev2])
  (try rw [ev3])
  (try rw [ev4])
  (try rw [ev5])
  (try rw [ev6])
  (try rw [ev7])
  (try rw [ev8])
  (try rw [ev9])
  (try rw [ev10])
  (try rw [ev11])
  (try rw [ev12])
  (try rw [ev13])
  by_cases q1 : (g_X10_isWord M ty 6) = 0
  · rw [if_pos q1]
    by_cases q2 : (g_X10_isWord M ty 8) = 0
    · rw [if_pos q2]
      by_cases q3 : (g_X10_isWord M ty 10) = 0
      · rw [if_pos q3]
        by_cases q4 : v12.1 = 0
        · rw [if_pos q4]
          exact tkv12
        · rw [if_neg q4]
          exact tkv13
      · rw [if_neg q3]
        by_cases q5 : v8.1 = 0
        · rw [if_pos q5]
          exact tkv8
        · rw [if_neg q5]
          exact tkv9
    · rw [if_neg q2]
      by_cases q6 : v5.1 = 0
      · rw [if_pos q6]
        exact tkv5
      · rw [if_neg q6]
        exact tkv6
  · rw [if_neg q1]
    by_cases q7 : v2.1 = 0
    · rw [if_pos q7]
      exact tkv2
    · rw [if_neg q7]
      exact tkv3
theorem tq_X10_deed {a0 : Nat} (M : zM) (ty : Nat) (n : Nat) (oz : Nat) (h600 : ty ≤ 600) (htk : zTkQ ty a0 M) : zTkQ ty a0 (g_X10_deed M ty n oz) := by
  obtain ⟨v1, hv1⟩ : ∃ v, v = (g_X10_setting M ty 0) := ⟨_, rfl⟩
  have ev1 : (d_X10_deed_1 M ty n oz) = v1 := by unfold d_X10_deed_1; exact hv1.symm
  have tkv1 : zTkQ ty a0 v1 := by rw [hv1]; exact (tq_X10_setting M ty 0 h600 htk)
  obtain ⟨v2, hv2⟩ : ∃ v, v = (g_X10_setting M ty 1) := ⟨_, rfl⟩
  have ev2 : (d_X10_deed_2 M ty n oz) = v2 := by unfold d_X10_deed_2; exact hv2.symm
  have tkv2 : zTkQ ty a0 v2 := by rw [hv2]; exact (tq_X10_setting M ty 1 h600 htk)
  obtain ⟨v3, hv3⟩ : ∃ v, v = (g_X10_scan M ty) := ⟨_, rfl⟩
  have ev3 : (d_X10_deed_3 M ty n oz) = v3 := by unfold d_X10_deed_3; exact hv3.symm
  have tkv3 : zTkQ ty a0 v3 := by rw [hv3]; exact (tq_X10_scan M ty h600 htk)
  obtain ⟨v4, hv4⟩ : ∃ v, v = (g_X10_threeNumbers v3 ty n (g_X10_isWord M ty 4)) := ⟨_, rfl⟩
  have ev4 : (d_X10_deed_4 M ty n oz) = v4 := by unfold d_X10_deed_4; (try rw [ev3]); exact hv4.symm
  have tkv4 : zTkQ ty a0 v4 := by rw [hv4]; exact (tq_X10_threeNumbers v3 ty n (g_X10_isWord M ty 4) h600 tkv3)
  obtain ⟨v5, hv5⟩ : ∃ v, v = (g_X10_scan M ty) := ⟨_, rfl⟩
  have ev5 : (d_X10_deed_5 M ty n oz) = v5 := by unfold d_X10_deed_5; exact hv5.symm
  have tkv5 : zTkQ ty a0 v5 := by rw [hv5]; exact (tq_X10_scan M ty h600 htk)
  obtain ⟨v6, hv6⟩ : ∃ v, v = (g_X10_replicaHere v5 ty) := ⟨_, rfl⟩
  have ev6 : (d_X10_deed_6 M ty n oz) = v6 := by unfold d_X10_deed_6; (try rw [ev5]); exact hv6.symm
  have tkv6 : zTkQ ty a0 v6.2 := by rw [hv6]; exact (tq_X10_replicaHere v5 ty h600 tkv5)
  obtain ⟨v7, hv7⟩ : ∃ v, v = (g_X10_ends v6.2 (if (v6.2 0 18) = 0 then (if (g_X10_isUp v6.2 v6.1.toNatClampNeg) = (g_X10_isWord M ty 12) then (16 : Int32) else (0 : Int32)) else (0 : Int32))) := ⟨_, rfl⟩
  have ev7 : (d_X10_deed_7 M ty n oz) = v7 := by unfold d_X10_deed_7; (try rw [ev6]); exact hv7.symm
  have tkv7 : zTkQ ty a0 v7.2 := by rw [hv7]; exact (tq_X10_ends v6.2 (if (v6.2 0 18) = 0 then (if (g_X10_isUp v6.2 v6.1.toNatClampNeg) = (g_X10_isWord M ty 12) then (16 : Int32) else (0 : Int32)) else (0 : Int32)) h600 tkv6)
  obtain ⟨v9, hv9⟩ : ∃ v, v = (g_X10_upIt v7.2 n v6.1.toNatClampNeg (g_X10_isWord M ty 12)) := ⟨_, rfl⟩
  have ev9 : (d_X10_deed_9 M ty n oz) = v9 := by unfold d_X10_deed_9; (try rw [ev6]); (try rw [ev7]); exact hv9.symm
  have tkv9 : zTkQ ty a0 v9.2 := by rw [hv9]; exact zTkQ.of (fr_X10_upIt v7.2 n v6.1.toNatClampNeg (g_X10_isWord M ty 12) 0 (by decide)) tkv7
  obtain ⟨v10, hv10⟩ : ∃ v, v = (g_X10_scan M ty) := ⟨_, rfl⟩
  have ev10 : (d_X10_deed_10 M ty n oz) = v10 := by unfold d_X10_deed_10; exact hv10.symm
  have tkv10 : zTkQ ty a0 v10 := by rw [hv10]; exact (tq_X10_scan M ty h600 htk)
  obtain ⟨v11, hv11⟩ : ∃ v, v = (g_X10_replicaHere v10 ty) := ⟨_, rfl⟩
  have ev11 : (d_X10_deed_11 M ty n oz) = v11 := by unfold d_X10_deed_11; (try rw [ev10]); exact hv11.symm
  have tkv11 : zTkQ ty a0 v11.2 := by rw [hv11]; exact (tq_X10_replicaHere v10 ty h600 tkv10)
  obtain ⟨v12, hv12⟩ : ∃ v, v = (g_X10_replicaHere v11.2 ty) := ⟨_, rfl⟩
  have ev12 : (d_X10_deed_12 M ty n oz) = v12 := by unfold d_X10_deed_12; (try rw [ev11]); exact hv12.symm
  have tkv12 : zTkQ ty a0 v12.2 := by rw [hv12]; exact (tq_X10_replicaHere v11.2 ty h600 tkv11)
  obtain ⟨v13, hv13⟩ : ∃ v, v = (g_X10_ends v12.2 (if (v12.2 0 18) = 0 then (g_X10_noLink v12.2 v11.1.toNatClampNeg v12.1 (g_X10_isWord M ty 14)) else (0 : Int32))) := ⟨_, rfl⟩
  have ev13 : (d_X10_deed_13 M ty n oz) = v13 := by unfold d_X10_deed_13; (try rw [ev11]); (try rw [ev12]); exact hv13.symm
  have tkv13 : zTkQ ty a0 v13.2 := by rw [hv13]; exact (tq_X10_ends v12.2 (if (v12.2 0 18) = 0 then (g_X10_noLink v12.2 v11.1.toNatClampNeg v12.1 (g_X10_isWord M ty 14)) else (0 : Int32)) h600 tkv12)
  obtain ⟨v15, hv15⟩ : ∃ v, v = (g_X10_link v13.2 v11.1.toNatClampNeg v12.1.toNatClampNeg (g_X10_isWord M ty 14)) := ⟨_, rfl⟩
  have ev15 : (d_X10_deed_15 M ty n oz) = v15 := by unfold d_X10_deed_15; (try rw [ev11]); (try rw [ev12]); (try rw [ev13]); exact hv15.symm
  have tkv15 : zTkQ ty a0 v15 := by rw [hv15]; exact zTkQ.of (fr_X10_link v13.2 v11.1.toNatClampNeg v12.1.toNatClampNeg (g_X10_isWord M ty 14) 0 (by decide)) tkv13
  obtain ⟨v16, hv16⟩ : ∃ v, v = (g_X10_bareDeed M ty n oz) := ⟨_, rfl⟩
  have ev16 : (d_X10_deed_16 M ty n oz) = v16 := by unfold d_X10_deed_16; exact hv16.symm
  have tkv16 : zTkQ ty a0 v16 := by rw [hv16]; exact (tq_X10_bareDeed M ty n oz h600 htk)
  obtain ⟨v17, hv17⟩ : ∃ v, v = (g_X10_scan M ty) := ⟨_, rfl⟩
  have ev17 : (d_X10_deed_17 M ty n oz) = v17 := by unfold d_X10_deed_17; exact hv17.symm
  have tkv17 : zTkQ ty a0 v17 := by rw [hv17]; exact (tq_X10_scan M ty h600 htk)
  obtain ⟨v18, hv18⟩ : ∃ v, v = (g_X10_replicaHere v17 ty) := ⟨_, rfl⟩
  have ev18 : (d_X10_deed_18 M ty n oz) = v18 := by unfold d_X10_deed_18; (try rw [ev17]); exact hv18.symm
  have tkv18 : zTkQ ty a0 v18.2 := by rw [hv18]; exact (tq_X10_replicaHere v17 ty h600 tkv17)
  obtain ⟨v19, hv19⟩ : ∃ v, v = (g_X10_replicaHere v18.2 ty) := ⟨_, rfl⟩
  have ev19 : (d_X10_deed_19 M ty n oz) = v19 := by unfold d_X10_deed_19; (try rw [ev18]); exact hv19.symm
  have tkv19 : zTkQ ty a0 v19.2 := by rw [hv19]; exact (tq_X10_replicaHere v18.2 ty h600 tkv18)
  obtain ⟨v20, hv20⟩ : ∃ v, v = (g_X10_ends v19.2 (if (v19.2 0 18) = 0 then (g_X10_noLink v19.2 v18.1.toNatClampNeg v19.1 (g_X10_isWord M ty 14)) else (0 : Int32))) := ⟨_, rfl⟩
  have ev20 : (d_X10_deed_20 M ty n oz) = v20 := by unfold d_X10_deed_20; (try rw [ev18]); (try rw [ev19]); exact hv20.symm
  have tkv20 : zTkQ ty a0 v20.2 := by rw [hv20]; exact (tq_X10_ends v19.2 (if (v19.2 0 18) = 0 then (g_X10_noLink v19.2 v18.1.toNatClampNeg v19.1 (g_X10_isWord M ty 14)) else (0 : Int32)) h600 tkv19)
  obtain ⟨v22, hv22⟩ : ∃ v, v = (g_X10_link v20.2 v18.1.toNatClampNeg v19.1.toNatClampNeg (g_X10_isWord M ty 14)) := ⟨_, rfl⟩
  have ev22 : (d_X10_deed_22 M ty n oz) = v22 := by unfold d_X10_deed_22; (try rw [ev18]); (try rw [ev19]); (try rw [ev20]); exact hv22.symm
  have tkv22 : zTkQ ty a0 v22 := by rw [hv22]; exact zTkQ.of (fr_X10_link v20.2 v18.1.toNatClampNeg v19.1.toNatClampNeg (g_X10_isWord M ty 14) 0 (by decide)) tkv20
  obtain ⟨v23, hv23⟩ : ∃ v, v = (g_X10_scan M ty) := ⟨_, rfl⟩
  have ev23 : (d_X10_deed_23 M ty n oz) = v23 := by unfold d_X10_deed_23; exact hv23.symm
  have tkv23 : zTkQ ty a0 v23 := by rw [hv23]; exact (tq_X10_scan M ty h600 htk)
  obtain ⟨v24, hv24⟩ : ∃ v, v = (g_X10_replicaHere v23 ty) := ⟨_, rfl⟩
  have ev24 : (d_X10_deed_24 M ty n oz) = v24 := by unfold d_X10_deed_24; (try rw [ev23]); exact hv24.symm
  have tkv24 : zTkQ ty a0 v24.2 := by rw [hv24]; exact (tq_X10_replicaHere v23 ty h600 tkv23)
  obtain ⟨v25, hv25⟩ : ∃ v, v = (g_X10_ends v24.2 (if (v24.2 0 18) = 0 then (if (g_X10_isUp v24.2 v24.1.toNatClampNeg) = (g_X10_isWord M ty 12) then (16 : Int32) else (0 : Int32)) else (0 : Int32))) := ⟨_, rfl⟩
  have ev25 : (d_X10_deed_25 M ty n oz) = v25 := by unfold d_X10_deed_25; (try rw [ev24]); exact hv25.symm
  have tkv25 : zTkQ ty a0 v25.2 := by rw [hv25]; exact (tq_X10_ends v24.2 (if (v24.2 0 18) = 0 then (if (g_X10_isUp v24.2 v24.1.toNatClampNeg) = (g_X10_isWord M ty 12) then (16 : Int32) else (0 : Int32)) else (0 : Int32)) h600 tkv24)
  obtain ⟨v27, hv27⟩ : ∃ v, v = (g_X10_upIt v25.2 n v24.1.toNatClampNeg (g_X10_isWord M ty 12)) := ⟨_, rfl⟩
  have ev27 : (d_X10_deed_27 M ty n oz) = v27 := by unfold d_X10_deed_27; (try rw [ev24]); (try rw [ev25]); exact hv27.symm
  have tkv27 : zTkQ ty a0 v27.2 := by rw [hv27]; exact zTkQ.of (fr_X10_upIt v25.2 n v24.1.toNatClampNeg (g_X10_isWord M ty 12) 0 (by decide)) tkv25
  obtain ⟨v28, hv28⟩ : ∃ v, v = (g_X10_scan M ty) := ⟨_, rfl⟩
  have ev28 : (d_X10_deed_28 M ty n oz) = v28 := by unfold d_X10_deed_28; exact hv28.symm
  have tkv28 : zTkQ ty a0 v28 := by rw [hv28]; exact (tq_X10_scan M ty h600 htk)
  obtain ⟨v29, hv29⟩ : ∃ v, v = (g_X10_replicaHere v28 ty) := ⟨_, rfl⟩
  have ev29 : (d_X10_deed_29 M ty n oz) = v29 := by unfold d_X10_deed_29; (try rw [ev28]); exact hv29.symm
  have tkv29 : zTkQ ty a0 v29.2 := by rw [hv29]; exact (tq_X10_replicaHere v28 ty h600 tkv28)
  obtain ⟨v30, hv30⟩ : ∃ v, v = (g_X10_ends v29.2 (if (v29.2 0 18) = 0 then (g_X10_noRecount v29.2 oz v29.1.toNatClampNeg) else (0 : Int32))) := ⟨_, rfl⟩
  have ev30 : (d_X10_deed_30 M ty n oz) = v30 := by unfold d_X10_deed_30; (try rw [ev29]); exact hv30.symm
  have tkv30 : zTkQ ty a0 v30.2 := by rw [hv30]; exact (tq_X10_ends v29.2 (if (v29.2 0 18) = 0 then (g_X10_noRecount v29.2 oz v29.1.toNatClampNeg) else (0 : Int32)) h600 tkv29)
  obtain ⟨v32, hv32⟩ : ∃ v, v = (g_X10_recountIt v30.2 n oz) := ⟨_, rfl⟩
  have ev32 : (d_X10_deed_32 M ty n oz) = v32 := by unfold d_X10_deed_32; (try rw [ev30]); exact hv32.symm
  have tkv32 : zTkQ ty a0 v32.2 := by rw [hv32]; exact zTkQ.of (fr_X10_recountIt v30.2 n oz 0 (by decide)) tkv30
  obtain ⟨v33, hv33⟩ : ∃ v, v = (g_X10_scan M ty) := ⟨_, rfl⟩
  have ev33 : (d_X10_deed_33 M ty n oz) = v33 := by unfold d_X10_deed_33; exact hv33.symm
  have tkv33 : zTkQ ty a0 v33 := by rw [hv33]; exact (tq_X10_scan M ty h600 htk)
  obtain ⟨v34, hv34⟩ : ∃ v, v = (g_X10_replicaHere v33 ty) := ⟨_, rfl⟩
  have ev34 : (d_X10_deed_34 M ty n oz) = v34 := by unfold d_X10_deed_34; (try rw [ev33]); exact hv34.symm
  have tkv34 : zTkQ ty a0 v34.2 := by rw [hv34]; exact (tq_X10_replicaHere v33 ty h600 tkv33)
  obtain ⟨v35, hv35⟩ : ∃ v, v = (g_X10_read v34.2 ty 0 65535) := ⟨_, rfl⟩
  have ev35 : (d_X10_deed_35 M ty n oz) = v35 := by unfold d_X10_deed_35; (try rw [ev34]); exact hv35.symm
  have tkv35 : zTkQ ty a0 v35.2 := by rw [hv35]; exact (tq_X10_read v34.2 ty 0 65535 h600 tkv34)
  obtain ⟨v36, hv36⟩ : ∃ v, v = (g_X10_ends v35.2 (if (v35.2 0 18) = 0 then (g_X10_noSeal v35.2 v34.1.toNatClampNeg) else (0 : Int32))) := ⟨_, rfl⟩
  have ev36 : (d_X10_deed_36 M ty n oz) = v36 := by unfold d_X10_deed_36; (try rw [ev34]); (try rw [ev35]); exact hv36.symm
  have tkv36 : zTkQ ty a0 v36.2 := by rw [hv36]; exact (tq_X10_ends v35.2 (if (v35.2 0 18) = 0 then (g_X10_noSeal v35.2 v34.1.toNatClampNeg) else (0 : Int32)) h600 tkv35)
  obtain ⟨v38, hv38⟩ : ∃ v, v = (g_X10_sealIt v36.2 n v34.1.toNatClampNeg v35.1) := ⟨_, rfl⟩
  have ev38 : (d_X10_deed_38 M ty n oz) = v38 := by unfold d_X10_deed_38; (try rw [ev34]); (try rw [ev35]); (try rw [ev36]); exact hv38.symm
  have tkv38 : zTkQ ty a0 v38.2 := by rw [hv38]; exact zTkQ.of (fr_X10_sealIt v36.2 n v34.1.toNatClampNeg v35.1 0 (by decide)) tkv36
  obtain ⟨v39, hv39⟩ : ∃ v, v = (g_X10_scan M ty) := ⟨_, rfl⟩
  have ev39 : (d_X10_deed_39 M ty n oz) = v39 := by unfold d_X10_deed_39; exact hv39.symm
  have tkv39 : zTkQ ty a0 v39 := by rw [hv39]; exact (tq_X10_scan M ty h600 htk)
  obtain ⟨v40, hv40⟩ : ∃ v, v = (g_X10_threeNumbers v39 ty n (g_X10_isWord M ty 4)) := ⟨_, rfl⟩
  have ev40 : (d_X10_deed_40 M ty n oz) = v40 := by unfold d_X10_deed_40; (try rw [ev39]); exact hv40.symm
  have tkv40 : zTkQ ty a0 v40 := by rw [hv40]; exact (tq_X10_threeNumbers v39 ty n (g_X10_isWord M ty 4) h600 tkv39)
  obtain ⟨v41, hv41⟩ : ∃ v, v = (g_X10_scan M ty) := ⟨_, rfl⟩
  have ev41 : (d_X10_deed_41 M ty n oz) = v41 := by unfold d_X10_deed_41; exact hv41.symm
  have tkv41 : zTkQ ty a0 v41 := by rw [hv41]; exact (tq_X10_scan M ty h600 htk)
  obtain ⟨v42, hv42⟩ : ∃ v, v = (g_X10_replicaHere v41 ty) := ⟨_, rfl⟩
  have ev42 : (d_X10_deed_42 M ty n oz) = v42 := by unfold d_X10_deed_42; (try rw [ev41]); exact hv42.symm
  have tkv42 : zTkQ ty a0 v42.2 := by rw [hv42]; exact (tq_X10_replicaHere v41 ty h600 tkv41)
  obtain ⟨v43, hv43⟩ : ∃ v, v = (g_X10_ends v42.2 (if (v42.2 0 18) = 0 then (g_X10_noCall v42.2 n v42.1.toNatClampNeg) else (0 : Int32))) := ⟨_, rfl⟩
  have ev43 : (d_X10_deed_43 M ty n oz) = v43 := by unfold d_X10_deed_43; (try rw [ev42]); exact hv43.symm
  have tkv43 : zTkQ ty a0 v43.2 := by rw [hv43]; exact (tq_X10_ends v42.2 (if (v42.2 0 18) = 0 then (g_X10_noCall v42.2 n v42.1.toNatClampNeg) else (0 : Int32)) h600 tkv42)
  obtain ⟨v45, hv45⟩ : ∃ v, v = (g_X10_callIt v43.2 n v42.1.toNatClampNeg) := ⟨_, rfl⟩
  have ev45 : (d_X10_deed_45 M ty n oz) = v45 := by unfold d_X10_deed_45; (try rw [ev42]); (try rw [ev43]); exact hv45.symm
  have tkv45 : zTkQ ty a0 v45.2 := by rw [hv45]; exact zTkQ.of (fr_X10_callIt v43.2 n v42.1.toNatClampNeg 0 (by decide)) tkv43
  obtain ⟨v46, hv46⟩ : ∃ v, v = (g_X10_setting M ty 2) := ⟨_, rfl⟩
  have ev46 : (d_X10_deed_46 M ty n oz) = v46 := by unfold d_X10_deed_46; exact hv46.symm
  have tkv46 : zTkQ ty a0 v46 := by rw [hv46]; exact (tq_X10_setting M ty 2 h600 htk)
  unfold g_X10_deed
  (try rw [ev1])
  (try rw [ev2])
  (try rw [ev3])
  (try rw [ev4])
  (try rw [ev5])
  (try rw [ev6])
  (try rw [ev7])
  (try rw [ev9])
  (try rw [ev10])
  (try rw [ev11])
  (try rw [ev12])
  (try rw [ev13])
  (try rw [ev15])
  (try rw [ev16])
  (try rw [ev17])
  (try rw [ev18])
  (try rw [ev19])
  (try rw [ev20])
  (try rw [ev22])
  (try rw [ev23])
  (try rw [ev24])
  (try rw [ev25])
  (try rw [ev27])
  (try rw [ev28])
  (try rw [ev29])
  (try rw [ev30])
  (try rw [ev32])
  (try rw [ev33])
  (try rw [ev34])
  (try rw [ev35])
  (try rw [ev36])
  (try rw [ev38])
  (try rw [ev39])
  (try rw [ev40])
  (try rw [ev41])
  (try rw [ev42])
  (try rw [ev43])
  (try rw [ev45])
  (try rw [ev46])
  by_cases q1 : (g_X10_isWord M ty 0) = 0
  · rw [if_pos q1]
    by_cases q2 : (g_X10_isWord M ty 1) = 0
    · rw [if_pos q2]
      by_cases q3 : (g_X10_isWord M ty 2) = 0
      · rw [if_pos q3]
        by_cases q4 : (g_X10_isWord M ty 3) = 0
        · rw [if_pos q4]
          by_cases q5 : (g_X10_isWord M ty 4) = 0
          · rw [if_pos q5]
            by_cases q6 : (g_X10_isWord M ty 7) = 0
            · rw [if_pos q6]
              by_cases q7 : (g_X10_isWord M ty 5) = 0
              · rw [if_pos q7]
                by_cases q8 : (g_X10_isWord M ty 9) = 0
                · rw [if_pos q8]
                  by_cases q9 : (g_X10_isWord M ty 12) = 0
                  · rw [if_pos q9]
                    by_cases q10 : (g_X10_isWord M ty 11) = 0
                    · rw [if_pos q10]
                      by_cases q11 : (g_X10_isWord M ty 14) = 0
                      · rw [if_pos q11]
                        by_cases q12 : (g_X10_isWord M ty 13) = 0
                        · rw [if_pos q12]
                          exact tkv16
                        · rw [if_neg q12]
                          by_cases q13 : v20.1 = 0
                          · rw [if_pos q13]
                            exact tkv20
                          · rw [if_neg q13]
                            exact tkv22
                      · rw [if_neg q11]
                        by_cases q14 : v13.1 = 0
                        · rw [if_pos q14]
                          exact tkv13
                        · rw [if_neg q14]
                          exact tkv15
                    · rw [if_neg q10]
                      by_cases q15 : v25.1 = 0
                      · rw [if_pos q15]
                        exact tkv25
                      · rw [if_neg q15]
                        exact tkv27
                  · rw [if_neg q9]
                    by_cases q16 : v7.1 = 0
                    · rw [if_pos q16]
                      exact tkv7
                    · rw [if_neg q16]
                      exact tkv9
                · rw [if_neg q8]
                  by_cases q17 : v30.1 = 0
                  · rw [if_pos q17]
                    exact tkv30
                  · rw [if_neg q17]
                    exact tkv32
              · rw [if_neg q7]
                by_cases q18 : v36.1 = 0
                · rw [if_pos q18]
                  exact tkv36
                · rw [if_neg q18]
                  exact tkv38
            · rw [if_neg q6]
              exact tkv40
          · rw [if_neg q5]
            exact tkv4
        · rw [if_neg q4]
          by_cases q19 : v43.1 = 0
          · rw [if_pos q19]
            exact tkv43
          · rw [if_neg q19]
            exact tkv45
      · rw [if_neg q3]
        exact tkv46
    · rw [if_neg q2]
      exact tkv2
  · rw [if_neg q1]
    exact tkv1
