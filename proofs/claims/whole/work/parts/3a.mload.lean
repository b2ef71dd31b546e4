/-! WHAT A TEXT'S READING leaves: all but the office's row, the votes that were found, the reader's own numbers -/
def zKe (A m : zM) : Prop := (∀ o, o ≠ 0 → o ≠ 1 → o ≠ 20 → m o = A o) ∧ ∀ k, k < 12 → m 0 k = A 0 k
theorem zKe.of {A m m' : zM} (e : ∀ o, o ≠ 1 → o ≠ 20 → m' o = m o) (h : zKe A m) : zKe A m' := ⟨fun o h0 h1 h2 => (e o h1 h2).trans (h.1 o h0 h1 h2), fun k hk => (congrFun (e 0 (by decide) (by decide)) k).trans (h.2 k hk)⟩
theorem zKe.rf {A : zM} : zKe A A := ⟨fun _ _ _ _ => rfl, fun _ _ => rfl⟩
theorem kp_X10_scan {A : zM} (M : zM) (ty : Nat) (h600 : ty ≤ 600) (h : zKe A M) : zKe A (g_X10_scan M ty) := ⟨fun o h0 h1 h2 => (fr_X10_scan M ty o h0).trans (h.1 o h0 h1 h2), fun k hk => (e2_X10_scan M ty k (by omega) (by omega) (by omega) (by omega)).trans (h.2 k hk)⟩
theorem kp_X10_wrong {ty : Nat} {A : zM} (M : zM) (cd : Int32) (h600 : ty ≤ 600) (h : zKe A M) : zKe A (g_X10_wrong M cd) := ⟨fun o h0 h1 h2 => (fr_X10_wrong M cd o h0).trans (h.1 o h0 h1 h2), fun k hk => by
  unfold g_X10_wrong
  split
  · rw [zU_k (by omega)]
    exact h.2 k hk
  · exact h.2 k hk⟩
theorem kp_X10_countIt {ty : Nat} {A : zM} (M : zM) (n oz : Nat) (h600 : ty ≤ 600) (h : zKe A M) : zKe A (g_X10_countIt M n oz).2 := ⟨fun o h0 h1 h2 => (fr_X10_countIt M n oz o (by omega)).trans (h.1 o h0 h1 h2), fun k hk => (lz_countIt M n oz k (by omega) (by omega)).trans (h.2 k hk)⟩
theorem kp_X10_goOn {A : zM} (M : zM) (ty : Nat) (h600 : ty ≤ 600) (h : zKe A M) : zKe A (g_X10_goOn M ty) := by
  unfold g_X10_goOn
  split
  · exact kp_X10_scan M ty h600 h
  · exact h
theorem kp_X10_bounds {ty : Nat} {A : zM} (M : zM) (lo hi : Int32) (h600 : ty ≤ 600) (h : zKe A M) : zKe A (g_X10_bounds M lo hi) := by
  unfold g_X10_bounds
  (repeat' split) <;> first | exact h | exact kp_X10_wrong M _ h600 h
theorem kp_X10_read {A : zM} (M : zM) (ty : Nat) (lo hi : Int32) (h600 : ty ≤ 600) (h : zKe A M) : zKe A (g_X10_read M ty lo hi).2 := by
  have h1 := kp_X10_goOn _ ty h600 (kp_X10_bounds M lo hi h600 h)
  unfold g_X10_read
  split <;> exact h1
theorem kp_X10_replicaHere {A : zM} (M : zM) (ty : Nat) (h600 : ty ≤ 600) (h : zKe A M) : zKe A (g_X10_replicaHere M ty).2 := kp_X10_read M ty _ _ h600 h
theorem kp_X10_ends {ty : Nat} {A : zM} (M : zM) (x : Int32) (h600 : ty ≤ 600) (h : zKe A M) : zKe A (g_X10_ends M x).2 := by
  have h1 : zKe A (j_X10_ends_20 M x) := by
    unfold j_X10_ends_20
    (repeat' split) <;> first | exact h | exact kp_X10_wrong M _ h600 h
  have h2 : zKe A (j_X10_ends_36 M x) := by
    unfold j_X10_ends_36
    (repeat' split) <;> first | exact h1 | exact kp_X10_wrong _ _ h600 h1
  unfold g_X10_ends
  split <;> exact h2
theorem kp_X10_setting {A : zM} (M : zM) (ty : Nat) (w : Nat) (h600 : ty ≤ 600) (htk : zKe A M) : zKe A (g_X10_setting M ty w) := by
  obtain ⟨v1, hv1⟩ : ∃ v, v = (g_X10_scan M ty) := ⟨_, rfl⟩
  have ev1 : (d_X10_setting_1 M ty w) = v1 := by unfold d_X10_setting_1; exact hv1.symm
  have tkv1 : zKe A v1 := by rw [hv1]; exact (kp_X10_scan M ty h600 htk)
  obtain ⟨v2, hv2⟩ : ∃ v, v = (g_X10_read v1 ty (g_X10_leastOf (nI w)) (g_X10_mostOf (nI w))) := ⟨_, rfl⟩
  have ev2 : (d_X10_setting_2 M ty w) = v2 := by unfold d_X10_setting_2; (try rw [ev1]); exact hv2.symm
  have tkv2 : zKe A v2.2 := by rw [hv2]; exact (kp_X10_read v1 ty (g_X10_leastOf (nI w)) (g_X10_mostOf (nI w)) h600 tkv1)
  obtain ⟨v3, hv3⟩ : ∃ v, v = (g_X10_ends v2.2 0) := ⟨_, rfl⟩
  have ev3 : (d_X10_setting_3 M ty w) = v3 := by unfold d_X10_setting_3; (try rw [ev2]); exact hv3.symm
  have tkv3 : zKe A v3.2 := by rw [hv3]; exact (kp_X10_ends v2.2 0 h600 tkv2)
  unfold g_X10_setting
  (try rw [ev1])
  (try rw [ev2])
  (try rw [ev3])
  by_cases q1 : v3.1 = 0
  · rw [if_pos q1]
    first | with_reducible exact tkv3 | exact zKe.of (fun o h1 h20 => zU_ne h1) tkv3
  · rw [if_neg q1]
    first | with_reducible exact tkv3 | exact zKe.of (fun o h1 h20 => zU_ne h1) tkv3
theorem kp_X10_threeNumbers {A : zM} (M : zM) (ty : Nat) (n : Nat) (b : Int32) (h600 : ty ≤ 600) (htk : zKe A M) : zKe A (g_X10_threeNumbers M ty n b) := by
  obtain ⟨v1, hv1⟩ : ∃ v, v = (g_X10_replicaHere M ty) := ⟨_, rfl⟩
  have ev1 : (d_X10_threeNumbers_1 M ty n b) = v1 := by unfold d_X10_threeNumbers_1; exact hv1.symm
  have tkv1 : zKe A v1.2 := by rw [hv1]; exact (kp_X10_replicaHere M ty h600 htk)
  obtain ⟨v2, hv2⟩ : ∃ v, v = (g_X10_replicaHere v1.2 ty) := ⟨_, rfl⟩
  have ev2 : (d_X10_threeNumbers_2 M ty n b) = v2 := by unfold d_X10_threeNumbers_2; (try rw [ev1]); exact hv2.symm
  have tkv2 : zKe A v2.2 := by rw [hv2]; exact (kp_X10_replicaHere v1.2 ty h600 tkv1)
  obtain ⟨v3, hv3⟩ : ∃ v, v = (g_X10_read v2.2 ty 0 999) := ⟨_, rfl⟩
  have ev3 : (d_X10_threeNumbers_3 M ty n b) = v3 := by unfold d_X10_threeNumbers_3; (try rw [ev2]); exact hv3.symm
  have tkv3 : zKe A v3.2 := by rw [hv3]; exact (kp_X10_read v2.2 ty 0 999 h600 tkv2)
  obtain ⟨v4, hv4⟩ : ∃ v, v = (g_X10_ends v3.2 (if (v3.2 0 18) = 0 then (if b = 0 then (g_X10_noBreak v3.2 v1.1.toNatClampNeg) else (g_X10_noSeal v3.2 v1.1.toNatClampNeg)) else (0 : Int32))) := ⟨_, rfl⟩
  have ev4 : (d_X10_threeNumbers_4 M ty n b) = v4 := by unfold d_X10_threeNumbers_4; (try rw [ev1]); (try rw [ev3]); exact hv4.symm
  have tkv4 : zKe A v4.2 := by rw [hv4]; exact (kp_X10_ends v3.2 (if (v3.2 0 18) = 0 then (if b = 0 then (g_X10_noBreak v3.2 v1.1.toNatClampNeg) else (g_X10_noSeal v3.2 v1.1.toNatClampNeg)) else (0 : Int32)) h600 tkv3)
  obtain ⟨v7, hv7⟩ : ∃ v, v = (g_X10_breakIt v4.2 v1.1.toNatClampNeg v2.1.toNatClampNeg v3.1) := ⟨_, rfl⟩
  have ev7 : (d_X10_threeNumbers_7 M ty n b) = v7 := by unfold d_X10_threeNumbers_7; (try rw [ev1]); (try rw [ev2]); (try rw [ev3]); (try rw [ev4]); exact hv7.symm
  have tkv7 : zKe A v7.2 := by rw [hv7]; exact zKe.of (fun o h1 h20 => fr_X10_breakIt v4.2 v1.1.toNatClampNeg v2.1.toNatClampNeg v3.1 o (by omega)) tkv4
  obtain ⟨v8, hv8⟩ : ∃ v, v = (g_X10_sealIt v4.2 n v1.1.toNatClampNeg (g_X10_sealOf v2.1 v3.1 (v4.2 1 5))) := ⟨_, rfl⟩
  have ev8 : (d_X10_threeNumbers_8 M ty n b) = v8 := by unfold d_X10_threeNumbers_8; (try rw [ev1]); (try rw [ev2]); (try rw [ev3]); (try rw [ev4]); exact hv8.symm
  have tkv8 : zKe A v8.2 := by rw [hv8]; exact zKe.of (fun o h1 h20 => fr_X10_sealIt v4.2 n v1.1.toNatClampNeg (g_X10_sealOf v2.1 v3.1 (v4.2 1 5)) o (by omega)) tkv4
  unfold g_X10_threeNumbers
  (try rw [ev1])
  (try rw [ev2])
  (try rw [ev3])
  (try rw [ev4])
  (try rw [ev7])
  (try rw [ev8])
  by_cases q1 : v4.1 = 0
  · rw [if_pos q1]
    exact tkv4
  · rw [if_neg q1]
    by_cases q2 : b = 0
    · rw [if_pos q2]
      exact tkv7
    · rw [if_neg q2]
      exact tkv8
theorem kp_X10_bareDeed {A : zM} (M : zM) (ty : Nat) (n : Nat) (oz : Nat) (h600 : ty ≤ 600) (htk : zKe A M) : zKe A (g_X10_bareDeed M ty n oz) := by
  obtain ⟨v1, hv1⟩ : ∃ v, v = (g_X10_goOn M ty) := ⟨_, rfl⟩
  have ev1 : (d_X10_bareDeed_1 M ty n oz) = v1 := by unfold d_X10_bareDeed_1; exact hv1.symm
  have tkv1 : zKe A v1 := by rw [hv1]; exact (kp_X10_goOn M ty h600 htk)
  obtain ⟨v2, hv2⟩ : ∃ v, v = (g_X10_ends v1 (if (v1 0 18) = 0 then (if (g_X10_isWord M ty 6) = 0 then (if (g_X10_isWord M ty 8) = 0 then (if (v1 1 4) = 0 then (17 : Int32) else (0 : Int32)) else (g_X10_noCount v1 n)) else (g_X10_noClose v1 n)) else (0 : Int32))) := ⟨_, rfl⟩
  have ev2 : (d_X10_bareDeed_2 M ty n oz) = v2 := by unfold d_X10_bareDeed_2; (try rw [ev1]); exact hv2.symm
  have tkv2 : zKe A v2.2 := by rw [hv2]; exact (kp_X10_ends v1 (if (v1 0 18) = 0 then (if (g_X10_isWord M ty 6) = 0 then (if (g_X10_isWord M ty 8) = 0 then (if (v1 1 4) = 0 then (17 : Int32) else (0 : Int32)) else (g_X10_noCount v1 n)) else (g_X10_noClose v1 n)) else (0 : Int32)) h600 tkv1)
  obtain ⟨v3, hv3⟩ : ∃ v, v = (g_X10_closeIt v2.2 n) := ⟨_, rfl⟩
  have ev3 : (d_X10_bareDeed_3 M ty n oz) = v3 := by unfold d_X10_bareDeed_3; (try rw [ev2]); exact hv3.symm
  have tkv3 : zKe A v3.2 := by rw [hv3]; exact zKe.of (fun o h1 h20 => fr_X10_closeIt v2.2 n o (by omega)) tkv2
  obtain ⟨v4, hv4⟩ : ∃ v, v = (g_X10_goOn M ty) := ⟨_, rfl⟩
  have ev4 : (d_X10_bareDeed_4 M ty n oz) = v4 := by unfold d_X10_bareDeed_4; exact hv4.symm
  have tkv4 : zKe A v4 := by rw [hv4]; exact (kp_X10_goOn M ty h600 htk)
  obtain ⟨v5, hv5⟩ : ∃ v, v = (g_X10_ends v4 (if (v4 0 18) = 0 then (if (g_X10_isWord M ty 6) = 0 then (if (g_X10_isWord M ty 8) = 0 then (if (v4 1 4) = 0 then (17 : Int32) else (0 : Int32)) else (g_X10_noCount v4 n)) else (g_X10_noClose v4 n)) else (0 : Int32))) := ⟨_, rfl⟩
  have ev5 : (d_X10_bareDeed_5 M ty n oz) = v5 := by unfold d_X10_bareDeed_5; (try rw [ev4]); exact hv5.symm
  have tkv5 : zKe A v5.2 := by rw [hv5]; exact (kp_X10_ends v4 (if (v4 0 18) = 0 then (if (g_X10_isWord M ty 6) = 0 then (if (g_X10_isWord M ty 8) = 0 then (if (v4 1 4) = 0 then (17 : Int32) else (0 : Int32)) else (g_X10_noCount v4 n)) else (g_X10_noClose v4 n)) else (0 : Int32)) h600 tkv4)
  obtain ⟨v6, hv6⟩ : ∃ v, v = (g_X10_countIt v5.2 n oz) := ⟨_, rfl⟩
  have ev6 : (d_X10_bareDeed_6 M ty n oz) = v6 := by unfold d_X10_bareDeed_6; (try rw [ev5]); exact hv6.symm
  have tkv6 : zKe A v6.2 := by rw [hv6]; exact (kp_X10_countIt v5.2 n oz h600 tkv5)
  obtain ⟨v7, hv7⟩ : ∃ v, v = (g_X10_goOn M ty) := ⟨_, rfl⟩
  have ev7 : (d_X10_bareDeed_7 M ty n oz) = v7 := by unfold d_X10_bareDeed_7; exact hv7.symm
  have tkv7 : zKe A v7 := by rw [hv7]; exact (kp_X10_goOn M ty h600 htk)
  obtain ⟨v8, hv8⟩ : ∃ v, v = (g_X10_ends v7 (if (v7 0 18) = 0 then (if (g_X10_isWord M ty 6) = 0 then (if (g_X10_isWord M ty 8) = 0 then (if (v7 1 4) = 0 then (17 : Int32) else (0 : Int32)) else (g_X10_noCount v7 n)) else (g_X10_noClose v7 n)) else (0 : Int32))) := ⟨_, rfl⟩
  have ev8 : (d_X10_bareDeed_8 M ty n oz) = v8 := by unfold d_X10_bareDeed_8; (try rw [ev7]); exact hv8.symm
  have tkv8 : zKe A v8.2 := by rw [hv8]; exact (kp_X10_ends v7 (if (v7 0 18) = 0 then (if (g_X10_isWord M ty 6) = 0 then (if (g_X10_isWord M ty 8) = 0 then (if (v7 1 4) = 0 then (17 : Int32) else (0 : Int32)) else (g_X10_noCount v7 n)) else (g_X10_noClose v7 n)) else (0 : Int32)) h600 tkv7)
  obtain ⟨v9, hv9⟩ : ∃ v, v = (g_X10_giveIt v8.2) := ⟨_, rfl⟩
  have ev9 : (d_X10_bareDeed_9 M ty n oz) = v9 := by unfold d_X10_bareDeed_9; (try rw [ev8]); exact hv9.symm
  have tkv9 : zKe A v9.2 := by rw [hv9]; exact zKe.of (fun o h1 h20 => fr_X10_giveIt v8.2 o (by omega)) tkv8
  obtain ⟨v10, hv10⟩ : ∃ v, v = (g_X10_wrong M 1) := ⟨_, rfl⟩
  have ev10 : (d_X10_bareDeed_10 M ty n oz) = v10 := by unfold d_X10_bareDeed_10; exact hv10.symm
  have tkv10 : zKe A v10 := by rw [hv10]; exact (kp_X10_wrong M 1 h600 htk)
  obtain ⟨v11, hv11⟩ : ∃ v, v = (g_X10_goOn v10 ty) := ⟨_, rfl⟩
  have ev11 : (d_X10_bareDeed_11 M ty n oz) = v11 := by unfold d_X10_bareDeed_11; (try rw [ev10]); exact hv11.symm
  have tkv11 : zKe A v11 := by rw [hv11]; exact (kp_X10_goOn v10 ty h600 tkv10)
  obtain ⟨v12, hv12⟩ : ∃ v, v = (g_X10_ends v11 (if (v11 0 18) = 0 then (if (g_X10_isWord M ty 6) = 0 then (if (g_X10_isWord M ty 8) = 0 then (if (v11 1 4) = 0 then (17 : Int32) else (0 : Int32)) else (g_X10_noCount v11 n)) else (g_X10_noClose v11 n)) else (0 : Int32))) := ⟨_, rfl⟩
  have ev12 : (d_X10_bareDeed_12 M ty n oz) = v12 := by unfold d_X10_bareDeed_12; (try rw [ev11]); exact hv12.symm
  have tkv12 : zKe A v12.2 := by rw [hv12]; exact (kp_X10_ends v11 (if (v11 0 18) = 0 then (if (g_X10_isWord M ty 6) = 0 then (if (g_X10_isWord M ty 8) = 0 then (if (v11 1 4) = 0 then (17 : Int32) else (0 : Int32)) else (g_X10_noCount v11 n)) else (g_X10_noClose v11 n)) else (0 : Int32)) h600 tkv11)
  obtain ⟨v13, hv13⟩ : ∃ v, v = (g_X10_giveIt v12.2) := ⟨_, rfl⟩
  have ev13 : (d_X10_bareDeed_13 M ty n oz) = v13 := by unfold d_X10_bareDeed_13; (try rw [ev12]); exact hv13.symm
  have tkv13 : zKe A v13.2 := by rw [hv13]; exact zKe.of (fun o h1 h20 => fr_X10_giveIt v12.2 o (by omega)) tkv12
  unfold g_X10_bareDeed
  (try rw [ev1])
  (try rw [ev2])
  (try rw [ev3])
  (try rw [ev4])
  (try rw [ev5])
  (try rw [ev6])
  (try rw [ev7])
  (try rw [ev8])
  (try rw [ev9])
  (try rw [ev10])
  (try rw [ev11])
  (try rw [ev12])
  (try rw [ev13])
  by_cases q1 : (g_X10_isWord M ty 6) = 0
  · rw [if_pos q1]
    by_cases q2 : (g_X10_isWord M ty 8) = 0
    · rw [if_pos q2]
      by_cases q3 : (g_X10_isWord M ty 10) = 0
      · rw [if_pos q3]
        by_cases q4 : v12.1 = 0
        · rw [if_pos q4]
          exact tkv12
        · rw [if_neg q4]
          exact tkv13
      · rw [if_neg q3]
        by_cases q5 : v8.1 = 0
        · rw [if_pos q5]
          exact tkv8
        · rw [if_neg q5]
          exact tkv9
    · rw [if_neg q2]
      by_cases q6 : v5.1 = 0
      · rw [if_pos q6]
        exact tkv5
      · rw [if_neg q6]
        exact tkv6
  · rw [if_neg q1]
    by_cases q7 : v2.1 = 0
    · rw [if_pos q7]
      exact tkv2
    · rw [if_neg q7]
      exact tkv3
theorem kp_X10_deed {A : zM} (M : zM) (ty : Nat) (n : Nat) (oz : Nat) (h600 : ty ≤ 600) (htk : zKe A M) : zKe A (g_X10_deed M ty n oz) := by
  obtain ⟨v1, hv1⟩ : ∃ v, v = (g_X10_setting M ty 0) := ⟨_, rfl⟩
  have ev1 : (d_X10_deed_1 M ty n oz) = v1 := by unfold d_X10_deed_1; exact hv1.symm
  have tkv1 : zKe A v1 := by rw [hv1]; exact (kp_X10_setting M ty 0 h600 htk)
  obtain ⟨v2, hv2⟩ : ∃ v, v = (g_X10_setting M ty 1) := ⟨_, rfl⟩
  have ev2 : (d_X10_deed_2 M ty n oz) = v2 := by unfold d_X10_deed_2; exact hv2.symm
  have tkv2 : zKe A v2 := by rw [hv2]; exact (kp_X10_setting M ty 1 h600 htk)
  obtain ⟨v3, hv3⟩ : ∃ v, v = (g_X10_scan M ty) := ⟨_, rfl⟩
  have ev3 : (d_X10_deed_3 M ty n oz) = v3 := by unfold d_X10_deed_3; exact hv3.symm
  have tkv3 : zKe A v3 := by rw [hv3]; exact (kp_X10_scan M ty h600 htk)
  obtain ⟨v4, hv4⟩ : ∃ v, v = (g_X10_threeNumbers v3 ty n (g_X10_isWord M ty 4)) := ⟨_, rfl⟩
  have ev4 : (d_X10_deed_4 M ty n oz) = v4 := by unfold d_X10_deed_4; (try rw [ev3]); exact hv4.symm
  have tkv4 : zKe A v4 := by rw [hv4]; exact (kp_X10_threeNumbers v3 ty n (g_X10_isWord M ty 4) h600 tkv3)
  obtain ⟨v5, hv5⟩ : ∃ v, v = (g_X10_scan M ty) := ⟨_, rfl⟩
  have ev5 : (d_X10_deed_5 M ty n oz) = v5 := by unfold d_X10_deed_5; exact hv5.symm
  have tkv5 : zKe A v5 := by rw [hv5]; exact (kp_X10_scan M ty h600 htk)
  obtain ⟨v6, hv6⟩ : ∃ v, v = (g_X10_replicaHere v5 ty) := ⟨_, rfl⟩
  have ev6 : (d_X10_deed_6 M ty n oz) = v6 := by unfold d_X10_deed_6; (try rw [ev5]); exact hv6.symm
  have tkv6 : zKe A v6.2 := by rw [hv6]; exact (kp_X10_replicaHere v5 ty h600 tkv5)
  obtain ⟨v7, hv7⟩ : ∃ v, v = (g_X10_ends v6.2 (if (v6.2 0 18) = 0 then (if (g_X10_isUp v6.2 v6.1.toNatClampNeg) = (g_X10_isWord M ty 12) then (16 : Int32) else (0 : Int32)) else (0 : Int32))) := ⟨_, rfl⟩
  have ev7 : (d_X10_deed_7 M ty n oz) = v7 := by unfold d_X10_deed_7; (try rw [ev6]); exact hv7.symm
  have tkv7 : zKe A v7.2 := by rw [hv7]; exact (kp_X10_ends v6.2 (if (v6.2 0 18) = 0 then (if (g_X10_isUp v6.2 v6.1.toNatClampNeg) = (g_X10_isWord M ty 12) then (16 : Int32) else (0 : Int32)) else (0 : Int32)) h600 tkv6)
  obtain ⟨v9, hv9⟩ : ∃ v, v = (g_X10_upIt v7.2 n v6.1.toNatClampNeg (g_X10_isWord M ty 12)) := ⟨_, rfl⟩
  have ev9 : (d_X10_deed_9 M ty n oz) = v9 := by unfold d_X10_deed_9; (try rw [ev6]); (try rw [ev7]); exact hv9.symm
  have tkv9 : zKe A v9.2 := by rw [hv9]; exact zKe.of (fun o h1 h20 => fr_X10_upIt v7.2 n v6.1.toNatClampNeg (g_X10_isWord M ty 12) o (by omega)) tkv7
  obtain ⟨v10, hv10⟩ : ∃ v, v = (g_X10_scan M ty) := ⟨_, rfl⟩
  have ev10 : (d_X10_deed_10 M ty n oz) = v10 := by unfold d_X10_deed_10; exact hv10.symm
  have tkv10 : zKe A v10 := by rw [hv10]; exact (kp_X10_scan M ty h600 htk)
  obtain ⟨v11, hv11⟩ : ∃ v, v = (g_X10_replicaHere v10 ty) := ⟨_, rfl⟩
  have ev11 : (d_X10_deed_11 M ty n oz) = v11 := by unfold d_X10_deed_11; (try rw [ev10]); exact hv11.symm
  have tkv11 : zKe A v11.2 := by rw [hv11]; exact (kp_X10_replicaHere v10 ty h600 tkv10)
  obtain ⟨v12, hv12⟩ : ∃ v, v = (g_X10_replicaHere v11.2 ty) := ⟨_, rfl⟩
  have ev12 : (d_X10_deed_12 M ty n oz) = v12 := by unfold d_X10_deed_12; (try rw [ev11]); exact hv12.symm
  have tkv12 : zKe A v12.2 := by rw [hv12]; exact (kp_X10_replicaHere v11.2 ty h600 tkv11)
  obtain ⟨v13, hv13⟩ : ∃ v, v = (g_X10_ends v12.2 (if (v12.2 0 18) = 0 then (g_X10_noLink v12.2 v11.1.toNatClampNeg v12.1 (g_X10_isWord M ty 14)) else (0 : Int32))) := ⟨_, rfl⟩
  have ev13 : (d_X10_deed_13 M ty n oz) = v13 := by unfold d_X10_deed_13; (try rw [ev11]); (try rw [ev12]); exact hv13.symm
  have tkv13 : zKe A v13.2 := by rw [hv13]; exact (kp_X10_ends v12.2 (if (v12.2 0 18) = 0 then (g_X10_noLink v12.2 v11.1.toNatClampNeg v12.1 (g_X10_isWord M ty 14)) else (0 : Int32)) h600 tkv12)
  obtain ⟨v15, hv15⟩ : ∃ v, v = (g_X10_link v13.2 v11.1.toNatClampNeg v12.1.toNatClampNeg (g_X10_isWord M ty 14)) := ⟨_, rfl⟩
  have ev15 : (d_X10_deed_15 M ty n oz) = v15 := by unfold d_X10_deed_15; (try rw [ev11]); (try rw [ev12]); (try rw [ev13]); exact hv15.symm
  have tkv15 : zKe A v15 := by rw [hv15]; exact zKe.of (fun o h1 h20 => fr_X10_link v13.2 v11.1.toNatClampNeg v12.1.toNatClampNeg (g_X10_isWord M ty 14) o (by omega)) tkv13
  obtain ⟨v16, hv16⟩ : ∃ v, v = (g_X10_bareDeed M ty n oz) := ⟨_, rfl⟩
  have ev16 : (d_X10_deed_16 M ty n oz) = v16 := by unfold d_X10_deed_16; exact hv16.symm
  have tkv16 : zKe A v16 := by rw [hv16]; exact (kp_X10_bareDeed M ty n oz h600 htk)
  obtain ⟨v17, hv17⟩ : ∃ v, v = (g_X10_scan M ty) := ⟨_, rfl⟩
  have ev17 : (d_X10_deed_17 M ty n oz) = v17 := by unfold d_X10_deed_17; exact hv17.symm
  have tkv17 : zKe A v17 := by rw [hv17]; exact (kp_X10_scan M ty h600 htk)
  obtain ⟨v18, hv18⟩ : ∃ v, v = (g_X10_replicaHere v17 ty) := ⟨_, rfl⟩
  have ev18 : (d_X10_deed_18 M ty n oz) = v18 := by unfold d_X10_deed_18; (try rw [ev17]); exact hv18.symm
  have tkv18 : zKe A v18.2 := by rw [hv18]; exact (kp_X10_replicaHere v17 ty h600 tkv17)
  obtain ⟨v19, hv19⟩ : ∃ v, v = (g_X10_replicaHere v18.2 ty) := ⟨_, rfl⟩
  have ev19 : (d_X10_deed_19 M ty n oz) = v19 := by unfold d_X10_deed_19; (try rw [ev18]); exact hv19.symm
  have tkv19 : zKe A v19.2 := by rw [hv19]; exact (kp_X10_replicaHere v18.2 ty h600 tkv18)
  obtain ⟨v20, hv20⟩ : ∃ v, v = (g_X10_ends v19.2 (if (v19.2 0 18) = 0 then (g_X10_noLink v19.2 v18.1.toNatClampNeg v19.1 (g_X10_isWord M ty 14)) else (0 : Int32))) := ⟨_, rfl⟩
  have ev20 : (d_X10_deed_20 M ty n oz) = v20 := by unfold d_X10_deed_20; (try rw [ev18]); (try rw [ev19]); exact hv20.symm
  have tkv20 : zKe A v20.2 := by rw [hv20]; exact (kp_X10_ends v19.2 (if (v19.2 0 18) = 0 then (g_X10_noLink v19.2 v18.1.toNatClampNeg v19.1 (g_X10_isWord M ty 14)) else (0 : Int32)) h600 tkv19)
  obtain ⟨v22, hv22⟩ : ∃ v, v = (g_X10_link v20.2 v18.1.toNatClampNeg v19.1.toNatClampNeg (g_X10_isWord M ty 14)) := ⟨_, rfl⟩
  have ev22 : (d_X10_deed_22 M ty n oz) = v22 := by unfold d_X10_deed_22; (try rw [ev18]); (try rw [ev19]); (try rw [ev20]); exact hv22.symm
  have tkv22 : zKe A v22 := by rw [hv22]; exact zKe.of (fun o h1 h20 => fr_X10_link v20.2 v18.1.toNatClampNeg v19.1.toNatClampNeg (g_X10_isWord M ty 14) o (by omega)) tkv20
  obtain ⟨v23, hv23⟩ : ∃ v, v = (g_X10_scan M ty) := ⟨_, rfl⟩
  have ev23 : (d_X10_deed_23 M ty n oz) = v23 := by unfold d_X10_deed_23; exact hv23.symm
  have tkv23 : zKe A v23 := by rw [hv23]; exact (kp_X10_scan M ty h600 htk)
  obtain ⟨v24, hv24⟩ : ∃ v, v = (g_X10_replicaHere v23 ty) := ⟨_, rfl⟩
  have ev24 : (d_X10_deed_24 M ty n oz) = v24 := by unfold d_X10_deed_24; (try rw [ev23]); exact hv24.symm
  have tkv24 : zKe A v24.2 := by rw [hv24]; exact (kp_X10_replicaHere v23 ty h600 tkv23)
  obtain ⟨v25, hv25⟩ : ∃ v, v = (g_X10_ends v24.2 (if (v24.2 0 18) = 0 then (if (g_X10_isUp v24.2 v24.1.toNatClampNeg) = (g_X10_isWord M ty 12) then (16 : Int32) else (0 : Int32)) else (0 : Int32))) := ⟨_, rfl⟩
  have ev25 : (d_X10_deed_25 M ty n oz) = v25 := by unfold d_X10_deed_25; (try rw [ev24]); exact hv25.symm
  have tkv25 : zKe A v25.2 := by rw [hv25]; exact (kp_X10_ends v24.2 (if (v24.2 0 18) = 0 then (if (g_X10_isUp v24.2 v24.1.toNatClampNeg) = (g_X10_isWord M ty 12) then (16 : Int32) else (0 : Int32)) else (0 : Int32)) h600 tkv24)
  obtain ⟨v27, hv27⟩ : ∃ v, v = (g_X10_upIt v25.2 n v24.1.toNatClampNeg (g_X10_isWord M ty 12)) := ⟨_, rfl⟩
  have ev27 : (d_X10_deed_27 M ty n oz) = v27 := by unfold d_X10_deed_27; (try rw [ev24]); (try rw [ev25]); exact hv27.symm
  have tkv27 : zKe A v27.2 := by rw [hv27]; exact zKe.of (fun o h1 h20 => fr_X10_upIt v25.2 n v24.1.toNatClampNeg (g_X10_isWord M ty 12) o (by omega)) tkv25
  obtain ⟨v28, hv28⟩ : ∃ v, v = (g_X10_scan M ty) := ⟨_, rfl⟩
  have ev28 : (d_X10_deed_28 M ty n oz) = v28 := by unfold d_X10_deed_28; exact hv28.symm
  have tkv28 : zKe A v28 := by rw [hv28]; exact (kp_X10_scan M ty h600 htk)
  obtain ⟨v29, hv29⟩ : ∃ v, v = (g_X10_replicaHere v28 ty) := ⟨_, rfl⟩
  have ev29 : (d_X10_deed_29 M ty n oz) = v29 := by unfold d_X10_deed_29; (try rw [ev28]); exact hv29.symm
  have tkv29 : zKe A v29.2 := by rw [hv29]; exact (kp_X10_replicaHere v28 ty h600 tkv28)
  obtain ⟨v30, hv30⟩ : ∃ v, v = (g_X10_ends v29.2 (if (v29.2 0 18) = 0 then (g_X10_noRecount v29.2 oz v29.1.toNatClampNeg) else (0 : Int32))) := ⟨_, rfl⟩
  have ev30 : (d_X10_deed_30 M ty n oz) = v30 := by unfold d_X10_deed_30; (try rw [ev29]); exact hv30.symm
  have tkv30 : zKe A v30.2 := by rw [hv30]; exact (kp_X10_ends v29.2 (if (v29.2 0 18) = 0 then (g_X10_noRecount v29.2 oz v29.1.toNatClampNeg) else (0 : Int32)) h600 tkv29)
  obtain ⟨v32, hv32⟩ : ∃ v, v = (g_X10_recountIt v30.2 n oz) := ⟨_, rfl⟩
  have ev32 : (d_X10_deed_32 M ty n oz) = v32 := by unfold d_X10_deed_32; (try rw [ev30]); exact hv32.symm
  have tkv32 : zKe A v32.2 := by rw [hv32]; exact zKe.of (fun o h1 h20 => fr_X10_recountIt v30.2 n oz o (by omega)) tkv30
  obtain ⟨v33, hv33⟩ : ∃ v, v = (g_X10_scan M ty) := ⟨_, rfl⟩
  have ev33 : (d_X10_deed_33 M ty n oz) = v33 := by unfold d_X10_deed_33; exact hv33.symm
  have tkv33 : zKe A v33 := by rw [hv33]; exact (kp_X10_scan M ty h600 htk)
  obtain ⟨v34, hv34⟩ : ∃ v, v = (g_X10_replicaHere v33 ty) := ⟨_, rfl⟩
  have ev34 : (d_X10_deed_34 M ty n oz) = v34 := by unfold d_X10_deed_34; (try rw [ev33]); exact hv34.symm
  have tkv34 : zKe A v34.2 := by rw [hv34]; exact (kp_X10_replicaHere v33 ty h600 tkv33)
  obtain ⟨v35, hv35⟩ : ∃ v, v = (g_X10_read v34.2 ty 0 65535) := ⟨_, rfl⟩
  have ev35 : (d_X10_deed_35 M ty n oz) = v35 := by unfold d_X10_deed_35; (try rw [ev34]); exact hv35.symm
  have tkv35 : zKe A v35.2 := by rw [hv35]; exact (kp_X10_read v34.2 ty 0 65535 h600 tkv34)
  obtain ⟨v36, hv36⟩ : ∃ v, v = (g_X10_ends v35.2 (if (v35.2 0 18) = 0 then (g_X10_noSeal v35.2 v34.1.toNatClampNeg) else (0 : Int32))) := ⟨_, rfl⟩
  have ev36 : (d_X10_deed_36 M ty n oz) = v36 := by unfold d_X10_deed_36; (try rw [ev34]); (try rw [ev35]); exact hv36.symm
  have tkv36 : zKe A v36.2 := by rw [hv36]; exact (kp_X10_ends v35.2 (if (v35.2 0 18) = 0 then (g_X10_noSeal v35.2 v34.1.toNatClampNeg) else (0 : Int32)) h600 tkv35)
  obtain ⟨v38, hv38⟩ : ∃ v, v = (g_X10_sealIt v36.2 n v34.1.toNatClampNeg v35.1) := ⟨_, rfl⟩
  have ev38 : (d_X10_deed_38 M ty n oz) = v38 := by unfold d_X10_deed_38; (try rw [ev34]); (try rw [ev35]); (try rw [ev36]); exact hv38.symm
  have tkv38 : zKe A v38.2 := by rw [hv38]; exact zKe.of (fun o h1 h20 => fr_X10_sealIt v36.2 n v34.1.toNatClampNeg v35.1 o (by omega)) tkv36
  obtain ⟨v39, hv39⟩ : ∃ v, v = (g_X10_scan M ty) := ⟨_, rfl⟩
  have ev39 : (d_X10_deed_39 M ty n oz) = v39 := by unfold d_X10_deed_39; exact hv39.symm
  have tkv39 : zKe A v39 := by rw [hv39]; exact (kp_X10_scan M ty h600 htk)
  obtain ⟨v40, hv40⟩ : ∃ v, v = (g_X10_threeNumbers v39 ty n (g_X10_isWord M ty 4)) := ⟨_, rfl⟩
  have ev40 : (d_X10_deed_40 M ty n oz) = v40 := by unfold d_X10_deed_40; (try rw [ev39]); exact hv40.symm
  have tkv40 : zKe A v40 := by rw [hv40]; exact (kp_X10_threeNumbers v39 ty n (g_X10_isWord M ty 4) h600 tkv39)
  obtain ⟨v41, hv41⟩ : ∃ v, v = (g_X10_scan M ty) := ⟨_, rfl⟩
  have ev41 : (d_X10_deed_41 M ty n oz) = v41 := by unfold d_X10_deed_41; exact hv41.symm
  have tkv41 : zKe A v41 := by rw [hv41]; exact (kp_X10_scan M ty h600 htk)
  obtain ⟨v42, hv42⟩ : ∃ v, v = (g_X10_replicaHere v41 ty) := ⟨_, rfl⟩
  have ev42 : (d_X10_deed_42 M ty n oz) = v42 := by unfold d_X10_deed_42; (try rw [ev41]); exact hv42.symm
  have tkv42 : zKe A v42.2 := by rw [hv42]; exact (kp_X10_replicaHere v41 ty h600 tkv41)
  obtain ⟨v43, hv43⟩ : ∃ v, v = (g_X10_ends v42.2 (if (v42.2 0 18) = 0 then (g_X10_noCall v42.2 n v42.1.toNatClampNeg) else (0 : Int32))) := ⟨_, rfl⟩
  have ev43 : (d_X10_deed_43 M ty n oz) = v43 := by unfold d_X10_deed_43; (try rw [ev42]); exact hv43.symm
  have tkv43 : zKe A v43.2 := by rw [hv43]; exact (kp_X10_ends v42.2 (if (v42.2 0 18) = 0 then (g_X10_noCall v42.2 n v42.1.toNatClampNeg) else (0 : Int32)) h600 tkv42)
  obtain ⟨v45, hv45⟩ : ∃ v, v = (g_X10_callIt v43.2 n v42.1.toNatClampNeg) := ⟨_, rfl⟩
  have ev45 : (d_X10_deed_45 M ty n oz) = v45 := by unfold d_X10_deed_45; (try rw [ev42]); (try rw [ev43]); exact hv45.symm
  have tkv45 : zKe A v45.2 := by rw [hv45]; exact zKe.of (fun o h1 h20 => fr_X10_callIt v43.2 n v42.1.toNatClampNeg o (by omega)) tkv43
  obtain ⟨v46, hv46⟩ : ∃ v, v = (g_X10_setting M ty 2) := ⟨_, rfl⟩
  have ev46 : (d_X10_deed_46 M ty n oz) = v46 := by unfold d_X10_deed_46; exact hv46.symm
  have tkv46 : zKe A v46 := by rw [hv46]; exact (kp_X10_setting M ty 2 h600 htk)
  unfold g_X10_deed
  (try rw [ev1])
  (try rw [ev2])
  (try rw [ev3])
  (try rw [ev4])
  (try rw [ev5])
  (try rw [ev6])
  (try rw [ev7])
  (try rw [ev9])
  (try rw [ev10])
  (try rw [ev11])
  (try rw [ev12])
  (try rw [ev13])
  (try rw [ev15])
  (try rw [ev16])
  (try rw [ev17])
  (try rw [ev18])
  (try rw [ev19])
  (try rw [ev20])
  (try rw [ev22])
  (try rw [ev23])
  (try rw [ev24])
  (try rw [ev25])
  (try rw [ev27])
  (try rw [ev28])
  (try rw [ev29])
  (try rw [ev30])
  (try rw [ev32])
  (try rw [ev33])
  (try rw [ev34])
  (try rw [ev35])
  (try rw [ev36])
  (try rw [ev38])
  (try rw [ev39])
  (try rw [ev40])
  (try rw [ev41])
  (try rw [ev42])
  (try rw [ev43])
  (try rw [ev45])
  (try rw [ev46])
  by_cases q1 : (g_X10_isWord M ty 0) = 0
  · rw [if_pos q1]
    by_cases q2 : (g_X10_isWord M ty 1) = 0
    · rw [if_pos q2]
      by_cases q3 : (g_X10_isWord M ty 2) = 0
      · rw [if_pos q3]
        by_cases q4 : (g_X10_isWord M ty 3) = 0
        · rw [if_pos q4]
          by_cases q5 : (g_X10_isWord M ty 4) = 0
          · rw [if_pos q5]
            by_cases q6 : (g_X10_isWord M ty 7) = 0
            · rw [if_pos q6]
              by_cases q7 : (g_X10_isWord M ty 5) = 0
              · rw [if_pos q7]
                by_cases q8 : (g_X10_isWord M ty 9) = 0
                · rw [if_pos q8]
                  by_cases q9 : (g_X10_isWord M ty 12) = 0
                  · rw [if_pos q9]
                    by_cases q10 : (g_X10_isWord M ty 11) = 0
                    · rw [if_pos q10]
                      by_cases q11 : (g_X10_isWord M ty 14) = 0
                      · rw [if_pos q11]
                        by_cases q12 : (g_X10_isWord M ty 13) = 0
                        · rw [if_pos q12]
                          exact tkv16
                        · rw [if_neg q12]
                          by_cases q13 : v20.1 = 0
                          · rw [if_pos q13]
                            exact tkv20
                          · rw [if_neg q13]
                            exact tkv22
                      · rw [if_neg q11]
                        by_cases q14 : v13.1 = 0
                        · rw [if_pos q14]
                          exact tkv13
                        · rw [if_neg q14]
                          exact tkv15
                    · rw [if_neg q10]
                      by_cases q15 : v25.1 = 0
                      · rw [if_pos q15]
                        exact tkv25
                      · rw [if_neg q15]
                        exact tkv27
                  · rw [if_neg q9]
                    by_cases q16 : v7.1 = 0
                    · rw [if_pos q16]
                      exact tkv7
                    · rw [if_neg q16]
                      exact tkv9
                · rw [if_neg q8]
                  by_cases q17 : v30.1 = 0
                  · rw [if_pos q17]
                    exact tkv30
                  · rw [if_neg q17]
                    exact tkv32
              · rw [if_neg q7]
                by_cases q18 : v36.1 = 0
                · rw [if_pos q18]
                  exact tkv36
                · rw [if_neg q18]
                  exact tkv38
            · rw [if_neg q6]
              exact tkv40
          · rw [if_neg q5]
            exact tkv4
        · rw [if_neg q4]
          by_cases q19 : v43.1 = 0
          · rw [if_pos q19]
            exact tkv43
          · rw [if_neg q19]
            exact tkv45
      · rw [if_neg q3]
        exact tkv46
    · rw [if_neg q2]
      exact tkv2
  · rw [if_neg q1]
    exact tkv1

theorem kp_replicasW {A : zM} (M : zM) (ty : Nat) (h600 : ty ≤ 600) (m : zM) (h : zKe A m) : zKe A (w_X10_replicas_0 M ty m) := by
  have key : ∀ x : zM, zKe A x → ∀ y, f_X10_replicas_0 M ty x = .inl y → zKe A y := by
    intro x hx y hy
    have k1 : zKe A (d_X10_replicas_4 M ty x).2 := by
      unfold d_X10_replicas_4 d_X10_replicas_3 d_X10_replicas_2 d_X10_replicas_1
      exact kp_X10_ends _ _ h600 (kp_X10_read _ ty _ _ h600 (kp_X10_read _ ty _ _ h600 (kp_X10_goOn _ ty h600 hx)))
    have k2 : zKe A (d_X10_replicas_12 M ty x).2 := by
      unfold d_X10_replicas_12 d_X10_replicas_11 d_X10_replicas_10 d_X10_replicas_9 d_X10_replicas_8
      exact kp_X10_ends _ _ h600 (kp_X10_read _ ty _ _ h600 (kp_X10_read _ ty _ _ h600 (kp_X10_goOn _ ty h600 (kp_X10_wrong (ty := ty) _ _ h600 hx))))
    have k5 : zKe A (d_X10_replicas_5 M ty x) := by
      unfold d_X10_replicas_5
      exact kp_X10_goOn _ ty h600 k1
    have k13 : zKe A (d_X10_replicas_13 M ty x) := by
      unfold d_X10_replicas_13
      exact kp_X10_goOn _ ty h600 k2
    have k7 : zKe A (d_X10_replicas_7 M ty x) := by
      unfold d_X10_replicas_7 d_X10_replicas_6
      exact kp_X10_goOn _ ty h600 (zKe.of (fun o h1 h20 => fr_X10_addReplica _ _ _ _ o (by omega)) k1)
    have k15 : zKe A (d_X10_replicas_15 M ty x) := by
      unfold d_X10_replicas_15 d_X10_replicas_14
      exact kp_X10_goOn _ ty h600 (zKe.of (fun o h1 h20 => fr_X10_addReplica _ _ _ _ o (by omega)) k2)
    unfold f_X10_replicas_0 at hy
    generalize d_X10_replicas_5 M ty x = a5 at *
    generalize d_X10_replicas_13 M ty x = a13 at *
    generalize d_X10_replicas_7 M ty x = a7 at *
    generalize d_X10_replicas_15 M ty x = a15 at *
    generalize (d_X10_replicas_12 M ty x).1 = c12 at hy
    generalize (d_X10_replicas_4 M ty x).1 = c4 at hy
    generalize g_X10_isWord x ty 19 = c0 at hy
    (repeat' split at hy) <;> first
      | (cases hy; done)
      | (have e := Sum.inl.inj hy
         subst e
         first | exact k5 | exact k13 | exact k7 | exact k15)
  have key2 : ∀ (k : Nat) (x : zM), zKe A x → zKe A (zWr (fun m => m) (f_X10_replicas_0 M ty) k x) := by
    intro k
    induction k with
    | zero => exact fun x hx => hx
    | succ k ih =>
      intro x hx
      cases e : f_X10_replicas_0 M ty x with
      | inl y => rw [zWr, e]; exact ih y (key x hx y e)
      | inr b =>
        rw [zWr, e]
        have : b = x := by
          unfold f_X10_replicas_0 at e
          generalize d_X10_replicas_5 M ty x = a5 at e
          generalize d_X10_replicas_13 M ty x = a13 at e
          generalize d_X10_replicas_7 M ty x = a7 at e
          generalize d_X10_replicas_15 M ty x = a15 at e
          generalize (d_X10_replicas_12 M ty x).1 = c12 at e
          generalize (d_X10_replicas_4 M ty x).1 = c4 at e
          (repeat' split at e) <;> first
            | (cases e; done)
            | exact (Sum.inr.inj e).symm
        subst this
        exact hx
  exact key2 _ m h
/-- behind the replicas: a token, an office without a ballot -/
theorem e_X10_replicas {A : zM} (M : zM) (ty : Nat) (h600 : ty ≤ 600) (htk : zTkP ty M) (hrp0 : zRpW M) (hk : zKe A M) : zTkP ty (g_X10_replicas M ty) ∧ zRpW (g_X10_replicas M ty) ∧ zKe A (g_X10_replicas M ty) := by
  have hw := wr_replicas M ty h600 M ⟨htk, hrp0⟩
  have hk0 := kp_replicasW M ty h600 M hk
  have wr : ∀ (m : zM) (c : Int32), (zTkP ty m ∧ zRpW m ∧ zKe A m) → (zTkP ty (g_X10_wrong m c) ∧ zRpW (g_X10_wrong m c) ∧ zKe A (g_X10_wrong m c)) := fun m c h => ⟨tk_X10_wrong m c h600 h.1, zRpW.of (fr_X10_wrong m c 1 (by decide)) h.2.1, kp_X10_wrong (ty := ty) m c h600 h.2.2⟩
  unfold g_X10_replicas d_X10_replicas_19 d_X10_replicas_18 d_X10_replicas_17 d_X10_replicas_16
  have h0 : zTkP ty (w_X10_replicas_0 M ty M) ∧ zRpW (w_X10_replicas_0 M ty M) ∧ zKe A (w_X10_replicas_0 M ty M) := ⟨hw.1, hw.2, hk0⟩
  generalize w_X10_replicas_0 M ty M = w at h0 ⊢
  (repeat' split) <;> first
    | exact h0
    | exact wr _ _ h0
    | exact wr _ _ (wr _ _ h0)
theorem zRpW_begin (m : zM) : zRpW (g_X10_begin m) := by
  have h0 : ∀ k, k < 187 → (zIt (l_X10_begin_2 m) 187 m) 1 k = 0 := by
    refine zIt_inv (P := fun (i : Nat) (s : zM) => ∀ r, r < i → s 1 r = 0) 187 m (fun r h => absurd h (Nat.not_lt_zero r)) ?_
    intro i hi s h r hr
    simp only [l_X10_begin_2]
    by_cases e : r = i
    · subst e
      rw [zU_eq]
      exact if_pos rfl
    · rw [zU_k e]
      exact h r (by omega)
  have h1 : ∀ k, k < 187 → k ≠ 1 → k ≠ 2 → k ≠ 3 → k ≠ 6 → g_X10_begin m 1 k = 0 := by
    intro k hk h1 h2 h3 h6
    unfold g_X10_begin
    rw [zU_k h6, zU_k h3, zU_k h2, zU_k h1]
    exact h0 k hk
  refine ⟨?_, h1 9 (by decide) (by decide) (by decide) (by decide) (by decide), h1 4 (by decide) (by decide) (by decide) (by decide) (by decide), fun r hr => h1 _ (by omega) (by omega) (by omega) (by omega) (by omega)⟩
  rw [h1 0 (by decide) (by decide) (by decide) (by decide) (by decide)]
  exact ⟨rfl, Nat.zero_le _⟩
theorem zWn_rp {m : zM} (h : zRpW m) : zWn (m 1 0).toNatClampNeg m := by
  obtain ⟨h1, h2, h3, h4⟩ := h
  refine ⟨0, h1, ⟨h2, by decide⟩, Or.inl ?_, h4.v, fun q => ?_⟩
  · rw [h3]
    decide
  · rw [h3] at q
    exact absurd q (by decide)
/-! LOAD: the office as it was is kept; the text is read; where there was a fault, it comes back -/
noncomputable def zQ0 (M : zM) : zM := zU (zU (zCp (zU M 0 0 0) 1 17) 0 14 0) 0 18 0
noncomputable def zQ1 (M : zM) (ty : Nat) : zM := g_X10_scan (zQ0 M) ty
noncomputable def zQ2 (M : zM) (ty : Nat) : zM := if g_X10_isWord (zQ1 M ty) ty 18 = 0 then g_X10_wrong (zQ1 M ty) 1 else g_X10_replicas (g_X10_begin (g_X10_scan (zQ1 M ty) ty)) ty
noncomputable def zQd (ty : Nat) (m : zM) : zM := g_X10_deed m ty (m 1 0).toNatClampNeg (m 1 9).toNatClampNeg
noncomputable def zQg (ty : Nat) (m : zM) : zM ⊕ zM := if m 0 18 = 0 then (if m 0 16 = 0 then .inr m else .inl (g_X10_goOn (zQd ty m) ty)) else .inr m
noncomputable def zQw (ty : Nat) (m : zM) : zM := zWr (fun (m : zM) => m) (zQg ty) (1202 + ty) m
noncomputable def zQ4 (M : zM) (ty : Nat) : zM := zU (zQw ty (zQ2 M ty)) 0 8 0
noncomputable def g_X10_load (M : zM) (gq : Nat → Nat) (pc ty : Nat) : Int32 × zM := if zQ4 M ty 0 18 = 0 then (zKp (zQ4 M ty) gq pc 17 1 0, zKp (zQ4 M ty) gq pc 17) else (-30 - zQ4 M ty 0 18, zCp (zQ4 M ty) 17 1)
noncomputable def h_X10_load (M : zM) (gq : Nat → Nat) (pc ty : Nat) : Nat → Nat := if zQ4 M ty 0 18 = 0 then zKq gq pc else gq
noncomputable abbrev yy_X10_load : zY := (yX10_load, cX10_load, 1, (some Jvm.ClassFile.FieldType.int), 7, 161)
theorem zQg_P (ty : Nat) (h600 : ty ≤ 600) : ∀ x y : zM, (zTkP ty x ∧ zWn (x 1 0).toNatClampNeg x) → zQg ty x = .inl y → (zTkP ty y ∧ zWn (y 1 0).toNatClampNeg y) ∧ 2 * (ty - (y 0 14).toNatClampNeg) + (if y 0 18 = 0 then (if y 0 16 = 0 then 0 else 1) else 0) < 2 * (ty - (x 0 14).toNatClampNeg) + (if x 0 18 = 0 then (if x 0 16 = 0 then 0 else 1) else 0) := by
  rintro x y ⟨h1, oz, ⟨hn, h9⟩, ⟨hoz, h12⟩, hd, hv, hP⟩ e
  unfold zQg at e
  by_cases c1 : x 0 18 = 0
  · rw [if_pos c1] at e
    by_cases c2 : x 0 16 = 0
    · rw [if_pos c2] at e
      cases e
    · rw [if_neg c2] at e
      obtain rfl := Sum.inl.inj e
      have e9 : x 1 9 = nI (x 1 9).toNatClampNeg ∧ (x 1 9).toNatClampNeg = oz := by rw [hoz, nI_clamp (by omega)]; exact ⟨rfl, rfl⟩
      have hP' : x 1 4 = 3 → 0 < (x 1 9).toNatClampNeg := by rw [e9.2]; exact hP
      have h12' : (x 1 9).toNatClampNeg ≤ 12 := by rw [e9.2]; exact h12
      have hq : zTkQ ty (x 0 14).toNatClampNeg (zQd ty x) := tq_X10_deed x ty _ _ h600 ⟨h1, Nat.le_refl _⟩
      have hw : zWn (x 1 0).toNatClampNeg (zQd ty x) := wi_X10_deed x ty _ _ h600 h1 hn h9 hd hv e9.1 h12' hP'
      have hw2 : zWn (x 1 0).toNatClampNeg (g_X10_goOn (zQd ty x) ty) := zWn.of (fr_X10_goOn _ ty 1 (by decide)) hw
      have hq2 := tq_X10_goOn _ ty h600 hq
      have hg := zGo h600 hq
      generalize g_X10_goOn (zQd ty x) ty = z at hw2 hq2 hg ⊢
      have e0 : (z 1 0).toNatClampNeg = (x 1 0).toNatClampNeg := by
        obtain ⟨oz', ⟨hn', -⟩, -⟩ := hw2
        rw [hn', nI_clamp (by omega)]
      refine ⟨⟨hq2.1, by rw [e0]; exact hw2⟩, ?_⟩
      rw [if_pos c1, if_neg c2]
      have h3 := (zAtL hq2.1.at h600).2
      have h4 := hq2.2
      by_cases d1 : z 0 18 = 0
      · rw [if_pos d1]
        by_cases d2 : z 0 16 = 0
        · rw [if_pos d2]
          omega
        · rw [if_neg d2]
          have := hg d1 d2
          omega
      · rw [if_neg d1]
        omega
  · rw [if_neg c1] at e
    cases e
theorem zQ0_e (M : zM) (ty : Nat) (hty : M 0 8 = nI ty) : zAtP ty (zQ0 M) := ⟨hty, 0, Nat.zero_le _, rfl⟩
theorem zQ2_P (M : zM) (ty n : Nat) (h600 : ty ≤ 600) (hty : M 0 8 = nI ty) (hw : zWn n M) : (zTkP ty (zQ2 M ty) ∧ zWn (zQ2 M ty 1 0).toNatClampNeg (zQ2 M ty)) := by
  have a1 : zTkP ty (zQ1 M ty) := e_X10_scan _ ty h600 (zQ0_e M ty hty)
  unfold zQ2
  split
  · refine ⟨tk_X10_wrong _ _ h600 a1, ?_⟩
    have e : g_X10_wrong (zQ1 M ty) 1 1 = M 1 := by
      rw [fr_X10_wrong _ _ 1 (by decide)]
      unfold zQ1
      rw [fr_X10_scan _ ty 1 (by decide)]
      rfl
    have hw2 := zWn.of e hw
    have e0 : (g_X10_wrong (zQ1 M ty) 1 1 0).toNatClampNeg = n := by
      obtain ⟨oz', ⟨hn', h9'⟩, -⟩ := hw2
      rw [hn', nI_clamp (by omega)]
    rw [e0]
    exact hw2
  · have a2 := tk_X10_scan _ ty h600 a1
    have a3 : zTkP ty (g_X10_begin (g_X10_scan (zQ1 M ty) ty)) := zTkP.of (fr_X10_begin _ 0 (by decide)) a2
    have := e_X10_replicas (A := g_X10_begin (g_X10_scan (zQ1 M ty) ty)) _ ty h600 a3 (zRpW_begin _) zKe.rf
    exact ⟨this.1, zWn_rp this.2.1⟩
/-- what is left of the memory as it was -/
theorem zQ4_k (M : zM) (ty : Nat) (h600 : ty ≤ 600) : (∀ o, o ≠ 0 → o ≠ 1 → o ≠ 17 → o ≠ 20 → zQ4 M ty o = M o) ∧ (∀ k, k < 12 → k ≠ 0 → k ≠ 8 → zQ4 M ty 0 k = M 0 k) ∧ zQ4 M ty 0 0 = 0 ∧ zQ4 M ty 0 8 = 0 ∧ ∀ k, k < 187 → zQ4 M ty 17 k = M 1 k := by
  have k0 : zKe (zQ0 M) (zQ1 M ty) := kp_X10_scan _ ty h600 zKe.rf
  have k2 : zKe (zQ0 M) (zQ2 M ty) := by
    unfold zQ2
    split
    · exact kp_X10_wrong (ty := ty) _ _ h600 k0
    · have b := zKe.of (fun o h1 h20 => fr_X10_begin (g_X10_scan (zQ1 M ty) ty) o h1) (kp_X10_scan _ ty h600 k0)
      unfold g_X10_replicas d_X10_replicas_19 d_X10_replicas_18 d_X10_replicas_17 d_X10_replicas_16
      have h0 := kp_replicasW (g_X10_begin (g_X10_scan (zQ1 M ty) ty)) ty h600 _ b
      generalize w_X10_replicas_0 (g_X10_begin (g_X10_scan (zQ1 M ty) ty)) ty (g_X10_begin (g_X10_scan (zQ1 M ty) ty)) = w at h0 ⊢
      (repeat' split) <;> first
        | exact h0
        | exact kp_X10_wrong (ty := ty) _ _ h600 h0
        | exact kp_X10_wrong (ty := ty) _ _ h600 (kp_X10_wrong (ty := ty) _ _ h600 h0)
  have k3 : zKe (zQ0 M) (zQw ty (zQ2 M ty)) := by
    have : ∀ (k : Nat) (x : zM), zKe (zQ0 M) x → zKe (zQ0 M) (zWr (fun (m : zM) => m) (zQg ty) k x) := by
      intro k
      induction k with
      | zero => exact fun x hx => hx
      | succ k ih =>
        intro x hx
        cases e : zQg ty x with
        | inl y =>
          rw [zWr, e]
          refine ih y ?_
          unfold zQg at e
          (repeat' split at e) <;> first
            | (cases e; done)
            | (have e := Sum.inl.inj e
               subst e
               exact kp_X10_goOn _ ty h600 (kp_X10_deed x ty _ _ h600 hx))
        | inr b =>
          rw [zWr, e]
          unfold zQg at e
          (repeat' split at e) <;> first
            | (cases e; done)
            | (have e := Sum.inr.inj e
               subst e
               exact hx)
    exact this _ _ k2
  unfold zQ4
  generalize zQw ty (zQ2 M ty) = w at k3
  have z0 : ∀ o, o ≠ 0 → o ≠ 17 → zQ0 M o = M o := fun o h0 h17 => by
    unfold zQ0 zCp
    rw [zU_ne h0, zU_ne h0, zUa_ne h17, zU_ne h0]
  have z1 : ∀ k, k ≠ 0 → k ≠ 14 → k ≠ 18 → zQ0 M 0 k = M 0 k := fun k h0 h14 h18 => by
    unfold zQ0 zCp
    rw [zU_k h18, zU_k h14, zUa_ne (show 0 ≠ 17 by decide), zU_k h0]
  refine ⟨fun o h0 h1 h17 h20 => ?_, fun k hk h0 h8 => ?_, ?_, rfl, fun k hk => ?_⟩
  · rw [zU_ne h0, k3.1 o h0 h1 h20, z0 o h0 h17]
  · rw [zU_k h8, k3.2 k hk, z1 k h0 (by omega) (by omega)]
  · rw [zU_k (by decide), k3.2 0 (by decide)]
    rfl
  · rw [zU_ne (show 17 ≠ 0 by decide), k3.1 17 (by decide) (by decide) (by decide)]
    unfold zQ0 zCp
    rw [zU_ne (show 17 ≠ 0 by decide), zU_ne (show 17 ≠ 0 by decide), zUa_eq]
    exact if_pos hk
set_option maxRecDepth 100000 in
theorem c_X10_load (M : zM) (gq : Nat → Nat) (pc ty n : Nat) (hM : M 0 3 = nI pc) (hpc : pc ≤ 10) (hq : zPm gq) (hty : M 0 8 = nI ty) (h600 : ty ≤ 600) (hwn : zWn n M) : zC yy_X10_load 0 0 [.ref 0] (sh_Model (zGp gq)) M (some (.int (g_X10_load M gq pc ty).1)) (sh_Model (zGp (h_X10_load M gq pc ty))) (g_X10_load M gq pc ty).2 := by
  refine zC.of (by decide +kernel) rfl (Nat.le_of_ble_eq_true rfl) ?_
  refine zT.run [(.aload_n 0, 0, 0, 0), (.iconst 0, 0, 0, 0), (.putfield 61, 8, 0, 5149), (.aload_n 0, 0, 0, 0), (.getfield 9, 8, 1, 5150), (.aload_n 0, 0, 0, 0), (.getfield 25, 8, 6, 5155)] (pe := 13) (ls' := [some (.ref 0)]) (st' := [.ref 17, .ref 1]) (M' := (zU M 0 0 0)) (by decide +kernel) rfl ?_
  refine zT.cS_all (idx := 68) (av := [.ref 1, .ref 17]) (rv := none) (st := []) (S1 := []) (c_X10_copy _ (zU M 0 0 0) 1 17 (za := fun _ => 0) (zb := fun _ => 0) rfl rfl) k_X10_copy rfl (zIn (w := 6003) (by decide +kernel) rfl) (by decide +kernel) (by decide +kernel) rfl (Nat.le_of_ble_eq_true rfl) rfl ?_
  refine zT.run [(.aload_n 0, 0, 0, 0), (.iconst 0, 0, 0, 0), (.putfield 217, 8, 14, 5163), (.aload_n 0, 0, 0, 0), (.iconst 0, 0, 0, 0), (.putfield 235, 8, 18, 5167), (.aload_n 0, 0, 0, 0)] (pe := 27) (ls' := [some (.ref 0)]) (st' := [.ref 0]) (M' := (zQ0 M)) (by decide +kernel) rfl ?_
  have hat := zQ0_e M ty hty
  refine zT.cV_all (o := 0) (idx := 247) (av := []) (rv := none) (st := []) (S1 := []) (c_X10_scan (zQ0 M) _ ty h600 hat) k_X10_scan _ _ rfl rfl rfl (zIn (w := 6161) (by decide +kernel) rfl) (by decide +kernel) (by decide +kernel) rfl (Nat.le_of_ble_eq_true rfl) rfl ?_
  refine zT.eqM (M2 := zQ1 M ty) rfl ?_
  have a1 : zTkP ty (zQ1 M ty) := e_X10_scan _ ty h600 hat
  refine zT.run [(.aload_n 0, 0, 0, 0)] (pe := 31) (ls' := [some (.ref 0)]) (st' := [.ref 0]) (M' := (zQ1 M ty)) (by decide +kernel) rfl ?_
  refine zT.ldcSW 35 rfl rfl (by decide +kernel) ?_
  refine zT.cV_own (o := 0) (idx := 264) (av := [.retAddr 218]) (rv := (some (.int (g_X10_isWord (zQ1 M ty) ty 18)))) (st := []) (S1 := [.int (g_X10_isWord (zQ1 M ty) ty 18)]) (c_X10_isWord (zQ1 M ty) _ ty 18 h600 a1 (by decide)) k_X10_isWord _ _ rfl rfl rfl (zIn (w := 6174) (by decide +kernel) rfl) (by decide +kernel) (by decide +kernel) rfl (Nat.le_of_ble_eq_true rfl) rfl ?_
  have hP2 := zQ2_P M ty n h600 hty hwn
  refine zT.join (60, [some (.ref 0)], [], (sh_Model (zGp gq)), zQ2 M ty) ?_ ?_
  · refine zT.zeq (tgt := 55) (off := 18) (by decide +kernel) (by decide) (fun (c1 : (g_X10_isWord (zQ1 M ty) ty 18) = 0) => ?_) (fun (c1 : ¬ (g_X10_isWord (zQ1 M ty) ty 18) = 0) => ?_)
    · skip
      refine zT.run [(.aload_n 0, 0, 0, 0), (.iconst 1, 0, 0, 0)] (pe := 57) (ls' := [some (.ref 0)]) (st' := [.int 1, .ref 0]) (M' := (zQ1 M ty)) (by decide +kernel) rfl ?_
      refine zT.cV_all (o := 0) (idx := 250) (av := [.int 1]) (rv := none) (st := []) (S1 := []) (c_X10_wrong (zQ1 M ty) _ 1) k_X10_wrong _ _ rfl rfl rfl (zIn (w := 6185) (by decide +kernel) rfl) (by decide +kernel) (by decide +kernel) rfl (Nat.le_of_ble_eq_true rfl) rfl ?_
      refine zT.eqM (M2 := zQ2 M ty) (by unfold zQ2; exact (if_pos c1).symm) ?_
      generalize zQ2 M ty = w
      exact zT.here rfl
    · skip
      refine zT.run [(.aload_n 0, 0, 0, 0)] (pe := 41) (ls' := [some (.ref 0)]) (st' := [.ref 0]) (M' := (zQ1 M ty)) (by decide +kernel) rfl ?_
      refine zT.cV_all (o := 0) (idx := 247) (av := []) (rv := none) (st := []) (S1 := []) (c_X10_scan (zQ1 M ty) _ ty h600 a1.at) k_X10_scan _ _ rfl rfl rfl (zIn (w := 6161) (by decide +kernel) rfl) (by decide +kernel) (by decide +kernel) rfl (Nat.le_of_ble_eq_true rfl) rfl ?_
      refine zT.run [(.aload_n 0, 0, 0, 0)] (pe := 45) (ls' := [some (.ref 0)]) (st' := [.ref 0]) (M' := (g_X10_scan (zQ1 M ty) ty)) (by decide +kernel) rfl ?_
      refine zT.cV_all (o := 0) (idx := 38) (av := []) (rv := none) (st := []) (S1 := []) (c_X10_begin (g_X10_scan (zQ1 M ty) ty) _) k_X10_begin _ _ rfl rfl rfl (zIn (w := 5092) (by decide +kernel) rfl) (by decide +kernel) (by decide +kernel) rfl (Nat.le_of_ble_eq_true rfl) rfl ?_
      have a3 : zTkP ty (g_X10_begin (g_X10_scan (zQ1 M ty) ty)) := zTkP.of (fr_X10_begin _ 0 (by decide)) (tk_X10_scan _ ty h600 a1)
      refine zT.run [(.aload_n 0, 0, 0, 0)] (pe := 49) (ls' := [some (.ref 0)]) (st' := [.ref 0]) (M' := (g_X10_begin (g_X10_scan (zQ1 M ty) ty))) (by decide +kernel) rfl ?_
      refine zT.cV_all (o := 0) (idx := 298) (av := []) (rv := none) (st := []) (S1 := []) (c_X10_replicas (g_X10_begin (g_X10_scan (zQ1 M ty) ty)) _ ty h600 a3 (zRpW_begin _)) k_X10_replicas _ _ rfl rfl rfl (zIn (w := 6180) (by decide +kernel) rfl) (by decide +kernel) (by decide +kernel) rfl (Nat.le_of_ble_eq_true rfl) rfl ?_
      refine zT.eqM (M2 := zQ2 M ty) (by unfold zQ2; exact (if_neg c1).symm) ?_
      generalize zQ2 M ty = w
      refine zT.run [(.goto 8, 0, 0, 0)] (pe := 60) (ls' := [some (.ref 0)]) (st' := []) (M' := w) (by decide +kernel) rfl ?_
      exact zT.here rfl
  · refine zT.wx (fun (m : zM) => m) (zQg ty) (fun m => zTkP ty m ∧ zWn (m 1 0).toNatClampNeg m) (fun m => 2 * (ty - (m 0 14).toNatClampNeg) + (if m 0 18 = 0 then (if m 0 16 = 0 then 0 else 1) else 0)) (fun (m : zM) => (60, [some (.ref 0)], [], (sh_Model (zGp gq)), m)) (fun (m : zM) => (85, [some (.ref 0)], [], (sh_Model (zGp gq)), m)) (zQg_P ty h600) (fun m hp k1 kk1 => ?_) (1202 + ty) (zQ2 M ty) hP2 (by (repeat' split) <;> omega) ?_
    · show zT _ _ _ _ (60, [some (.ref 0)], [], (sh_Model (zGp gq)), m)
      obtain ⟨htk, oz, ⟨hn, h9⟩, ⟨hoz, h12⟩, hd, hv, hP⟩ := hp
      have e9 : m 1 9 = nI (m 1 9).toNatClampNeg ∧ (m 1 9).toNatClampNeg = oz := by rw [hoz, nI_clamp (by omega)]; exact ⟨rfl, rfl⟩
      refine zT.run [(.aload_n 0, 0, 0, 0), (.getfield 235, 8, 18, 5167)] (pe := 64) (ls' := [some (.ref 0)]) (st' := [.int (m 0 18)]) (M' := m) (by decide +kernel) rfl ?_
      refine zT.zne (tgt := 85) (off := 21) (by decide +kernel) (by decide) (fun (c1 : ¬ m 0 18 = 0) => ?_) (fun (c1 : m 0 18 = 0) => ?_)
      · exact kk1 m (by simp only [zQg, if_neg c1])
      · skip
        refine zT.run [(.aload_n 0, 0, 0, 0), (.getfield 223, 8, 16, 5165)] (pe := 71) (ls' := [some (.ref 0)]) (st' := [.int (m 0 16)]) (M' := m) (by decide +kernel) rfl ?_
        refine zT.zeq (tgt := 85) (off := 14) (by decide +kernel) (by decide) (fun (c2 : m 0 16 = 0) => ?_) (fun (c2 : ¬ m 0 16 = 0) => ?_)
        · exact kk1 m (by simp only [zQg, if_pos c1, if_pos c2])
        · skip
          refine zT.run [(.aload_n 0, 0, 0, 0)] (pe := 75) (ls' := [some (.ref 0)]) (st' := [.ref 0]) (M' := m) (by decide +kernel) rfl ?_
          refine zT.cV_all (o := 0) (idx := 301) (av := []) (rv := none) (st := []) (S1 := []) (c_X10_deed m _ ty (m 1 0).toNatClampNeg (m 1 9).toNatClampNeg h600 htk hn h9 hd hv e9.1 (by rw [e9.2]; exact h12) (by rw [e9.2]; exact hP)) k_X10_deed _ _ rfl rfl rfl (zIn (w := 6224) (by decide +kernel) rfl) (by decide +kernel) (by decide +kernel) rfl (Nat.le_of_ble_eq_true rfl) rfl ?_
          refine zT.eqM (M2 := zQd ty m) rfl ?_
          refine zT.run [(.aload_n 0, 0, 0, 0)] (pe := 79) (ls' := [some (.ref 0)]) (st' := [.ref 0]) (M' := (zQd ty m)) (by decide +kernel) rfl ?_
          refine zT.cV_all (o := 0) (idx := 256) (av := []) (rv := none) (st := []) (S1 := []) (c_X10_goOn (zQd ty m) _ ty h600 (tk_X10_deed m ty _ _ h600 htk)) k_X10_goOn _ _ rfl rfl rfl (zIn (w := 6189) (by decide +kernel) rfl) (by decide +kernel) (by decide +kernel) rfl (Nat.le_of_ble_eq_true rfl) rfl ?_
          refine zT.run [(.goto (-22), 0, 0, 0)] (pe := 60) (ls' := [some (.ref 0)]) (st' := []) (M' := (g_X10_goOn (zQd ty m) ty)) (by decide +kernel) rfl ?_
          exact k1 _ (by simp only [zQg, if_pos c1, if_neg c2])
    · show zT _ _ _ _ (85, [some (.ref 0)], [], (sh_Model (zGp gq)), zQw ty (zQ2 M ty))
      refine zT.run [(.aload_n 0, 0, 0, 0), (.iconst 0, 0, 0, 0), (.putfield 214, 8, 8, 5157)] (pe := 90) (ls' := [some (.ref 0)]) (st' := []) (M' := (zQ4 M ty)) (by decide +kernel) rfl ?_
      have hk4 := zQ4_k M ty h600
      refine zT.run [(.aload_n 0, 0, 0, 0), (.getfield 235, 8, 18, 5167)] (pe := 94) (ls' := [some (.ref 0)]) (st' := [.int (zQ4 M ty 0 18)]) (M' := (zQ4 M ty)) (by decide +kernel) rfl ?_
      refine zT.zeq (tgt := 116) (off := 22) (by decide +kernel) (by decide) (fun (c1 : zQ4 M ty 0 18 = 0) => ?_) (fun (c1 : ¬ zQ4 M ty 0 18 = 0) => ?_)
      · skip
        refine zT.run [(.aload_n 0, 0, 0, 0), (.aload_n 0, 0, 0, 0), (.getfield 25, 8, 6, 5155)] (pe := 121) (ls' := [some (.ref 0)]) (st' := [.ref 17, .ref 0]) (M' := (zQ4 M ty)) (by decide +kernel) rfl ?_
        have hM4 : zQ4 M ty 0 3 = nI pc := (hk4.2.1 3 (by decide) (by decide) (by decide)).trans hM
        refine zT.cV_out (o := 0) (idx := 156) (av := [.ref 17]) (rv := none) (st := []) (S1 := []) (c_X10_keepPast (zQ4 M ty) gq pc 17 hM4 hpc hq (fun gp => rfl)) rfl k_X10_keepPast _ _ rfl rfl rfl (zIn (w := 5239) (by decide +kernel) rfl) (by decide +kernel) (by decide +kernel) rfl (Nat.le_of_ble_eq_true rfl) rfl ?_
        refine zT.eqSh (sh2 := (sh_Model (zGp (h_X10_load M gq pc ty)))) (by simp only [h_X10_load, if_pos c1]) ?_
        refine zT.run [(.aload_n 0, 0, 0, 0), (.getfield 9, 8, 1, 5150), (.iconst 0, 0, 0, 0)] (pe := 129) (ls' := [some (.ref 0)]) (st' := [.int 0, .ref 1]) (M' := (zKp (zQ4 M ty) gq pc 17)) (by decide +kernel) rfl ?_
        refine zT.iald (n := 187) (k := 0) rfl rfl (by decide) (by decide) (by decide +kernel) ?_
        exact zT.iret (ty := Jvm.ClassFile.FieldType.int) (by simp only [g_X10_load, if_pos c1]) (by simp only [g_X10_load, if_pos c1]) rfl rfl (by decide +kernel)
      · skip
        refine zT.run [(.aload_n 0, 0, 0, 0), (.getfield 25, 8, 6, 5155), (.aload_n 0, 0, 0, 0), (.getfield 9, 8, 1, 5150)] (pe := 105) (ls' := [some (.ref 0)]) (st' := [.ref 1, .ref 17]) (M' := (zQ4 M ty)) (by decide +kernel) rfl ?_
        refine zT.cS_all (idx := 68) (av := [.ref 17, .ref 1]) (rv := none) (st := []) (S1 := []) (c_X10_copy _ (zQ4 M ty) 17 1 (za := fun _ => 0) (zb := fun _ => 0) rfl rfl) k_X10_copy rfl (zIn (w := 6003) (by decide +kernel) rfl) (by decide +kernel) (by decide +kernel) rfl (Nat.le_of_ble_eq_true rfl) rfl ?_
        refine zT.run [(.bipush (-30), 0, 0, 0), (.aload_n 0, 0, 0, 0), (.getfield 235, 8, 18, 5167), (.isub, 0, 0, 0)] (pe := 115) (ls' := [some (.ref 0)]) (st' := [.int (-30 - zQ4 M ty 0 18)]) (M' := (zCp (zQ4 M ty) 17 1)) (by decide +kernel) rfl ?_
        refine zT.eqSh (sh2 := (sh_Model (zGp (h_X10_load M gq pc ty)))) (by simp only [h_X10_load, if_neg c1]) ?_
        exact zT.iret (ty := Jvm.ClassFile.FieldType.int) (by simp only [g_X10_load, if_neg c1]) (by simp only [g_X10_load, if_neg c1]) rfl rfl (by decide +kernel)
theorem k_X10_load : zCal yy_X10_load 0 := ⟨⟨⟨⟨zIn (w := 6160) (by decide +kernel) rfl, zIn (w := 1012) (by decide +kernel) rfl⟩, by decide +kernel⟩, by decide +kernel⟩, ⟨zIn (w := 6158) (by decide +kernel) rfl, zIn (w := 6159) (by decide +kernel) rfl⟩⟩
