/-! EACH DEED of a text, on both sides -/
theorem rep_of {n : Nat} {v : Int32} (h1 : 1 ≤ n) (h9 : n ≤ 9) (hl : ¬ v < 0) (hh : v ≤ nI n - 1) : ∃ r, r < n ∧ v = nI r := by
  have e : nI n - 1 = nI (n - 1) := pk_sub (a := n) (b := 1) h1
  obtain ⟨j, hj, rfl⟩ := nI_of hl
  rw [e] at hh
  have := (nI_leI hj (by omega)).mp hh
  exact ⟨j, by omega, rfl⟩
theorem num_of {v : Int32} (b : Nat) (hb : b < 2 ^ 31) (hl : ¬ v < 0) (hh : v ≤ nI b) : ∃ r, r ≤ b ∧ v = nI r := by
  obtain ⟨j, hj, rfl⟩ := nI_of hl
  exact ⟨j, (nI_leI hj hb).mp hh, rfl⟩
theorem ens_0 (m : zM) : (if m 0 18 = 0 then (0 : Int32) else 0) = 0 := ite_self _
theorem Set_S {n oz T : Nat} {N M : zM} (h : rl n oz T N (M 1)) {w : Nat} {x : Int32} (hw : w < 3) (hx : ∃ v, v ≤ 9 ∧ x = nI v) : qStep n T N (g_X4_changeSetting N w x) 0 (M 1 (1 + w), zU M 1 (1 + w) x) := by
  obtain ⟨a, b, c⟩ := st_set h hw hx
  exact Or.inr ⟨rfl, a, b, oz, c⟩
section DEEDS
variable {ty f a k n oz T : Nat} {M m N : zM}
theorem deed_0 (h6 : ty ≤ 600) (hS : pS ty f a k M m) (hk : k ≠ 0) (hr : rl n oz T N (m 1)) (hT : T < 2 ^ 29) (h1 : 1 ≤ n) (hw : ∀ i, i < 15 → g_X10_isWord m ty i = bI (i == 0)) : dR ty f n (T + 1) (g_X5_readDeed M ty 0 (nI n)).1 (zPf N ((g_X5_readDeed M ty 0 (nI n)).2 3) 0) (g_X5_readDeed M ty 0 (nI n)).2 (g_X10_deed m ty n oz) := by
  have h9 : n ≤ 9 := hr.1.1
  have eN : N 0 0 = nI n := hr.1.2.1
  have e1 : m 1 0 = nI n := hr.1.2.2
  have h18 := hS.2
  have hs1 : g_X10_scan m ty 1 = m 1 := fr_X10_scan m ty 1 (by decide)
  have eD : g_X10_deed m ty n oz = d_X10_deed_1 m ty n oz := by
    unfold g_X10_deed
    rw [if_neg (show ¬ g_X10_isWord m ty 0 = 0 from fun q => absurd ((hw 0 (by decide)).symm.trans q) (by decide))]
  obtain ⟨q1, q2⟩ := rD_1 h6 hS hk 0 (nI n) (k0 := 0) (by decide) rfl rfl (fit_n (lo := 1) (hi := 9) (nI n) (by decide) rfl rfl)
  have eb : g_X10_leastOf (nI 0) = 1 ∧ g_X10_mostOf (nI 0) = 9 := by decide +kernel
  rw [eD]
  unfold d_X10_deed_1
  unfold g_X10_setting d_X10_setting_3 d_X10_setting_2 d_X10_setting_1
  rw [eb.1, eb.2]
  have hm : (g_X10_read (g_X10_scan m ty) ty 1 9).2 1 = m 1 := (fr_X10_read _ _ _ _ 1 (by decide)).trans hs1
  generalize g_X10_read (g_X10_scan m ty) ty 1 9 = R at *
  have := fin h6 q1 (zPf N ((g_X5_readDeed M ty 0 (nI n)).2 3) 0) 0 (fun Z => (Z 1 (1 + 0), zU Z 1 (1 + 0) R.1)) (n := n) (T := T + 1) (N := N) (fun hc => ?_) (fun o _ h _ => by dsimp only; exact zU_ne h) (fun j _ _ => by dsimp only; rw [zU_ne (show (0 : Nat) ≠ 1 by decide)])
  · rw [ens_0] at this
    exact this
  · obtain ⟨e, l1, l2⟩ := q2 hc
    show qStep n (T + 1) N (g_X4_changeSetting N 0 ((g_X5_readDeed M ty 0 (nI n)).2 3 0)) 0 _
    rw [e]
    obtain ⟨v, hv, ev⟩ : ∃ v, v ≤ 9 ∧ R.1 = nI v := by
      obtain ⟨v, hv, ev⟩ := num_of 9 (by decide) (fun q => l1 (Int32.lt_of_lt_of_le q (by decide))) l2
      exact ⟨v, by omega, ev⟩
    exact (Set_S (by rw [hm]; exact hr) (by decide) ⟨v, hv, ev⟩).up (by omega)
theorem deed_1 (h6 : ty ≤ 600) (hS : pS ty f a k M m) (hk : k ≠ 0) (hr : rl n oz T N (m 1)) (hT : T < 2 ^ 29) (h1 : 1 ≤ n) (hw : ∀ i, i < 15 → g_X10_isWord m ty i = bI (i == 1)) : dR ty f n (T + 1) (g_X5_readDeed M ty 1 (nI n)).1 (zPf N ((g_X5_readDeed M ty 1 (nI n)).2 3) 1) (g_X5_readDeed M ty 1 (nI n)).2 (g_X10_deed m ty n oz) := by
  have h9 : n ≤ 9 := hr.1.1
  have eN : N 0 0 = nI n := hr.1.2.1
  have e1 : m 1 0 = nI n := hr.1.2.2
  have h18 := hS.2
  have hs1 : g_X10_scan m ty 1 = m 1 := fr_X10_scan m ty 1 (by decide)
  have eD : g_X10_deed m ty n oz = d_X10_deed_2 m ty n oz := by
    unfold g_X10_deed
    rw [if_pos (show g_X10_isWord m ty 0 = 0 from hw 0 (by decide)), if_neg (show ¬ g_X10_isWord m ty 1 = 0 from fun q => absurd ((hw 1 (by decide)).symm.trans q) (by decide))]
  obtain ⟨q1, q2⟩ := rD_1 h6 hS hk 1 (nI n) (k0 := 1) (by decide) rfl rfl (fit_n (lo := 0) (hi := 1) (nI n) (by decide) rfl rfl)
  have eb : g_X10_leastOf (nI 1) = 0 ∧ g_X10_mostOf (nI 1) = 1 := by decide +kernel
  rw [eD]
  unfold d_X10_deed_2
  unfold g_X10_setting d_X10_setting_3 d_X10_setting_2 d_X10_setting_1
  rw [eb.1, eb.2]
  have hm : (g_X10_read (g_X10_scan m ty) ty 0 1).2 1 = m 1 := (fr_X10_read _ _ _ _ 1 (by decide)).trans hs1
  generalize g_X10_read (g_X10_scan m ty) ty 0 1 = R at *
  have := fin h6 q1 (zPf N ((g_X5_readDeed M ty 1 (nI n)).2 3) 1) 0 (fun Z => (Z 1 (1 + 1), zU Z 1 (1 + 1) R.1)) (n := n) (T := T + 1) (N := N) (fun hc => ?_) (fun o _ h _ => by dsimp only; exact zU_ne h) (fun j _ _ => by dsimp only; rw [zU_ne (show (0 : Nat) ≠ 1 by decide)])
  · rw [ens_0] at this
    exact this
  · obtain ⟨e, l1, l2⟩ := q2 hc
    show qStep n (T + 1) N (g_X4_changeSetting N 1 ((g_X5_readDeed M ty 1 (nI n)).2 3 0)) 0 _
    rw [e]
    obtain ⟨v, hv, ev⟩ : ∃ v, v ≤ 9 ∧ R.1 = nI v := by
      obtain ⟨v, hv, ev⟩ := num_of 1 (by decide) (fun q => l1 (Int32.lt_of_lt_of_le q (by decide))) l2
      exact ⟨v, by omega, ev⟩
    exact (Set_S (by rw [hm]; exact hr) (by decide) ⟨v, hv, ev⟩).up (by omega)
theorem deed_2 (h6 : ty ≤ 600) (hS : pS ty f a k M m) (hk : k ≠ 0) (hr : rl n oz T N (m 1)) (hT : T < 2 ^ 29) (h1 : 1 ≤ n) (hw : ∀ i, i < 15 → g_X10_isWord m ty i = bI (i == 2)) : dR ty f n (T + 1) (g_X5_readDeed M ty 2 (nI n)).1 (zPf N ((g_X5_readDeed M ty 2 (nI n)).2 3) 2) (g_X5_readDeed M ty 2 (nI n)).2 (g_X10_deed m ty n oz) := by
  have h9 : n ≤ 9 := hr.1.1
  have eN : N 0 0 = nI n := hr.1.2.1
  have e1 : m 1 0 = nI n := hr.1.2.2
  have h18 := hS.2
  have hs1 : g_X10_scan m ty 1 = m 1 := fr_X10_scan m ty 1 (by decide)
  have eD : g_X10_deed m ty n oz = d_X10_deed_46 m ty n oz := by
    unfold g_X10_deed
    rw [if_pos (show g_X10_isWord m ty 0 = 0 from hw 0 (by decide)), if_pos (show g_X10_isWord m ty 1 = 0 from hw 1 (by decide)), if_neg (show ¬ g_X10_isWord m ty 2 = 0 from fun q => absurd ((hw 2 (by decide)).symm.trans q) (by decide))]
  obtain ⟨q1, q2⟩ := rD_1 h6 hS hk 2 (nI n) (k0 := 2) (by decide) rfl rfl (fit_n (lo := 0) (hi := 3) (nI n) (by decide) rfl rfl)
  have eb : g_X10_leastOf (nI 2) = 0 ∧ g_X10_mostOf (nI 2) = 3 := by decide +kernel
  rw [eD]
  unfold d_X10_deed_46
  unfold g_X10_setting d_X10_setting_3 d_X10_setting_2 d_X10_setting_1
  rw [eb.1, eb.2]
  have hm : (g_X10_read (g_X10_scan m ty) ty 0 3).2 1 = m 1 := (fr_X10_read _ _ _ _ 1 (by decide)).trans hs1
  generalize g_X10_read (g_X10_scan m ty) ty 0 3 = R at *
  have := fin h6 q1 (zPf N ((g_X5_readDeed M ty 2 (nI n)).2 3) 2) 0 (fun Z => (Z 1 (1 + 2), zU Z 1 (1 + 2) R.1)) (n := n) (T := T + 1) (N := N) (fun hc => ?_) (fun o _ h _ => by dsimp only; exact zU_ne h) (fun j _ _ => by dsimp only; rw [zU_ne (show (0 : Nat) ≠ 1 by decide)])
  · rw [ens_0] at this
    exact this
  · obtain ⟨e, l1, l2⟩ := q2 hc
    show qStep n (T + 1) N (g_X4_changeSetting N 2 ((g_X5_readDeed M ty 2 (nI n)).2 3 0)) 0 _
    rw [e]
    obtain ⟨v, hv, ev⟩ : ∃ v, v ≤ 9 ∧ R.1 = nI v := by
      obtain ⟨v, hv, ev⟩ := num_of 3 (by decide) (fun q => l1 (Int32.lt_of_lt_of_le q (by decide))) l2
      exact ⟨v, by omega, ev⟩
    exact (Set_S (by rw [hm]; exact hr) (by decide) ⟨v, hv, ev⟩).up (by omega)
theorem deed_3 (h6 : ty ≤ 600) (hS : pS ty f a k M m) (hk : k ≠ 0) (hr : rl n oz T N (m 1)) (hT : T < 2 ^ 29) (h1 : 1 ≤ n) (hw : ∀ i, i < 15 → g_X10_isWord m ty i = bI (i == 3)) : dR ty f n (T + 1) (g_X5_readDeed M ty 3 (nI n)).1 (zPf N ((g_X5_readDeed M ty 3 (nI n)).2 3) 3) (g_X5_readDeed M ty 3 (nI n)).2 (g_X10_deed m ty n oz) := by
  have h9 : n ≤ 9 := hr.1.1
  have eN : N 0 0 = nI n := hr.1.2.1
  have e1 : m 1 0 = nI n := hr.1.2.2
  have h18 := hS.2
  have hs1 : g_X10_scan m ty 1 = m 1 := fr_X10_scan m ty 1 (by decide)
  have eD : g_X10_deed m ty n oz = if (d_X10_deed_43 m ty n oz).1 = 0 then (d_X10_deed_43 m ty n oz).2 else (d_X10_deed_45 m ty n oz).2 := by
    unfold g_X10_deed
    rw [if_pos (show g_X10_isWord m ty 0 = 0 from hw 0 (by decide)), if_pos (show g_X10_isWord m ty 1 = 0 from hw 1 (by decide)), if_pos (show g_X10_isWord m ty 2 = 0 from hw 2 (by decide)), if_neg (show ¬ g_X10_isWord m ty 3 = 0 from fun q => absurd ((hw 3 (by decide)).symm.trans q) (by decide))]
  obtain ⟨q1, q2⟩ := rD_1 h6 hS hk 3 (nI n) (k0 := 7) (by decide) rfl rfl (fit_7 h1 h9)
  have eR : d_X10_deed_42 m ty n oz = g_X10_read (g_X10_scan m ty) ty 0 (nI n - 1) := by
    unfold d_X10_deed_42 d_X10_deed_41 g_X10_replicaHere
    rw [hs1, e1]
  rw [eD]
  unfold d_X10_deed_45 d_X10_deed_43
  rw [eR]
  have hm : (g_X10_read (g_X10_scan m ty) ty 0 (nI n - 1)).2 1 = m 1 := (fr_X10_read _ _ _ _ 1 (by decide)).trans hs1
  generalize g_X10_read (g_X10_scan m ty) ty 0 (nI n - 1) = R at *
  refine fin h6 q1 (zPf N ((g_X5_readDeed M ty 3 (nI n)).2 3) 3) (g_X10_noCall R.2 n R.1.toNatClampNeg) (fun Z => g_X10_callIt Z n R.1.toNatClampNeg) (n := n) (T := T + 1) (N := N) (fun hc => ?_) (fun o _ h _ => fr_X10_callIt _ _ _ o h) (fun j _ _ => congrFun (fr_X10_callIt _ _ _ 0 (by decide)) j)
  obtain ⟨e, l1, l2⟩ := q2 hc
  show qStep n (T + 1) N (g_X4_callBallot N (N 0 0).toNatClampNeg ((g_X5_readDeed M ty 3 (nI n)).2 3 0).toNatClampNeg) _ _
  obtain ⟨r, hr9, er⟩ := rep_of h1 h9 l1 l2
  rw [eN, e, er, nI_clamp (by omega), nI_clamp (by omega)]
  exact st_call (by rw [hm]; exact hr) hT hr9
theorem deed_9 (h6 : ty ≤ 600) (hS : pS ty f a k M m) (hk : k ≠ 0) (hr : rl n oz T N (m 1)) (hT : T < 2 ^ 29) (h1 : 1 ≤ n) (hw : ∀ i, i < 15 → g_X10_isWord m ty i = bI (i == 9)) : dR ty f n (T + 1) (g_X5_readDeed M ty 9 (nI n)).1 (zPf N ((g_X5_readDeed M ty 9 (nI n)).2 3) 9) (g_X5_readDeed M ty 9 (nI n)).2 (g_X10_deed m ty n oz) := by
  have h9 : n ≤ 9 := hr.1.1
  have eN : N 0 0 = nI n := hr.1.2.1
  have e1 : m 1 0 = nI n := hr.1.2.2
  have h18 := hS.2
  have hs1 : g_X10_scan m ty 1 = m 1 := fr_X10_scan m ty 1 (by decide)
  have eD : g_X10_deed m ty n oz = if (d_X10_deed_30 m ty n oz).1 = 0 then (d_X10_deed_30 m ty n oz).2 else (d_X10_deed_32 m ty n oz).2 := by
    unfold g_X10_deed
    rw [if_pos (show g_X10_isWord m ty 0 = 0 from hw 0 (by decide)), if_pos (show g_X10_isWord m ty 1 = 0 from hw 1 (by decide)), if_pos (show g_X10_isWord m ty 2 = 0 from hw 2 (by decide)), if_pos (show g_X10_isWord m ty 3 = 0 from hw 3 (by decide)), if_pos (show g_X10_isWord m ty 4 = 0 from hw 4 (by decide)), if_pos (show g_X10_isWord m ty 7 = 0 from hw 7 (by decide)), if_pos (show g_X10_isWord m ty 5 = 0 from hw 5 (by decide)), if_neg (show ¬ g_X10_isWord m ty 9 = 0 from fun q => absurd ((hw 9 (by decide)).symm.trans q) (by decide))]
  obtain ⟨q1, q2⟩ := rD_1 h6 hS hk 9 (nI n) (k0 := 7) (by decide) rfl rfl (fit_7 h1 h9)
  have eR : d_X10_deed_29 m ty n oz = g_X10_read (g_X10_scan m ty) ty 0 (nI n - 1) := by
    unfold d_X10_deed_29 d_X10_deed_28 g_X10_replicaHere
    rw [hs1, e1]
  rw [eD]
  unfold d_X10_deed_32 d_X10_deed_30
  rw [eR]
  have hm : (g_X10_read (g_X10_scan m ty) ty 0 (nI n - 1)).2 1 = m 1 := (fr_X10_read _ _ _ _ 1 (by decide)).trans hs1
  generalize g_X10_read (g_X10_scan m ty) ty 0 (nI n - 1) = R at *
  refine fin h6 q1 (zPf N ((g_X5_readDeed M ty 9 (nI n)).2 3) 9) (g_X10_noRecount R.2 oz R.1.toNatClampNeg) (fun Z => g_X10_recountIt Z n oz) (n := n) (T := T + 1) (N := N) (fun hc => ?_) (fun o _ h _ => fr_X10_recountIt _ _ _ o h) (fun j _ _ => congrFun (fr_X10_recountIt _ _ _ 0 (by decide)) j)
  obtain ⟨e, l1, l2⟩ := q2 hc
  show qStep n (T + 1) N (g_X4_askRecount N (N 0 0).toNatClampNeg (N 10 0).toNatClampNeg ((g_X5_readDeed M ty 9 (nI n)).2 3 0).toNatClampNeg) _ _
  obtain ⟨r, hr9, er⟩ := rep_of h1 h9 l1 l2
  rw [eN, hr.2.2.2.2.2.2.2.2.2.2.2.2.1.2.1, e, er, nI_clamp (by omega), nI_clamp (by have := hr.2.2.2.2.2.2.2.2.2.2.2.2.1.1; omega), nI_clamp (by omega)]
  exact (st_recount (T := T) (by rw [hm]; exact hr) hr9).up (by omega)
theorem deed_12 (h6 : ty ≤ 600) (hS : pS ty f a k M m) (hk : k ≠ 0) (hr : rl n oz T N (m 1)) (hT : T < 2 ^ 29) (h1 : 1 ≤ n) (hw : ∀ i, i < 15 → g_X10_isWord m ty i = bI (i == 12)) : dR ty f n (T + 1) (g_X5_readDeed M ty 12 (nI n)).1 (zPf N ((g_X5_readDeed M ty 12 (nI n)).2 3) 12) (g_X5_readDeed M ty 12 (nI n)).2 (g_X10_deed m ty n oz) := by
  have h9 : n ≤ 9 := hr.1.1
  have eN : N 0 0 = nI n := hr.1.2.1
  have e1 : m 1 0 = nI n := hr.1.2.2
  have h18 := hS.2
  have hs1 : g_X10_scan m ty 1 = m 1 := fr_X10_scan m ty 1 (by decide)
  have eD : g_X10_deed m ty n oz = if (d_X10_deed_7 m ty n oz).1 = 0 then (d_X10_deed_7 m ty n oz).2 else (d_X10_deed_9 m ty n oz).2 := by
    unfold g_X10_deed
    rw [if_pos (show g_X10_isWord m ty 0 = 0 from hw 0 (by decide)), if_pos (show g_X10_isWord m ty 1 = 0 from hw 1 (by decide)), if_pos (show g_X10_isWord m ty 2 = 0 from hw 2 (by decide)), if_pos (show g_X10_isWord m ty 3 = 0 from hw 3 (by decide)), if_pos (show g_X10_isWord m ty 4 = 0 from hw 4 (by decide)), if_pos (show g_X10_isWord m ty 7 = 0 from hw 7 (by decide)), if_pos (show g_X10_isWord m ty 5 = 0 from hw 5 (by decide)), if_pos (show g_X10_isWord m ty 9 = 0 from hw 9 (by decide)), if_neg (show ¬ g_X10_isWord m ty 12 = 0 from fun q => absurd ((hw 12 (by decide)).symm.trans q) (by decide))]
  obtain ⟨q1, q2⟩ := rD_1 h6 hS hk 12 (nI n) (k0 := 7) (by decide) rfl rfl (fit_7 h1 h9)
  have eR : d_X10_deed_6 m ty n oz = g_X10_read (g_X10_scan m ty) ty 0 (nI n - 1) := by
    unfold d_X10_deed_6 d_X10_deed_5 g_X10_replicaHere
    rw [hs1, e1]
  rw [eD]
  unfold d_X10_deed_9 d_X10_deed_7
  rw [eR]
  rw [show g_X10_isWord m ty 12 = 1 from hw 12 (by decide)]
  have hm : (g_X10_read (g_X10_scan m ty) ty 0 (nI n - 1)).2 1 = m 1 := (fr_X10_read _ _ _ _ 1 (by decide)).trans hs1
  generalize g_X10_read (g_X10_scan m ty) ty 0 (nI n - 1) = R at *
  refine fin h6 q1 (zPf N ((g_X5_readDeed M ty 12 (nI n)).2 3) 12) (if g_X10_isUp R.2 R.1.toNatClampNeg = 1 then 16 else 0) (fun Z => g_X10_upIt Z n R.1.toNatClampNeg 1) (n := n) (T := T + 1) (N := N) (fun hc => ?_) (fun o _ h _ => fr_X10_upIt _ _ _ _ o h) (fun j _ _ => congrFun (fr_X10_upIt _ _ _ _ 0 (by decide)) j)
  obtain ⟨e, l1, l2⟩ := q2 hc
  show qStep n (T + 1) N (g_X4_changeUp N (N 0 0).toNatClampNeg ((g_X5_readDeed M ty 12 (nI n)).2 3 0).toNatClampNeg 1) _ _
  obtain ⟨r, hr9, er⟩ := rep_of h1 h9 l1 l2
  rw [eN, e, er, nI_clamp (by omega), nI_clamp (by omega)]
  exact (st_up (T := T) (by rw [hm]; exact hr) hr9 true).up (by omega)
theorem deed_11 (h6 : ty ≤ 600) (hS : pS ty f a k M m) (hk : k ≠ 0) (hr : rl n oz T N (m 1)) (hT : T < 2 ^ 29) (h1 : 1 ≤ n) (hw : ∀ i, i < 15 → g_X10_isWord m ty i = bI (i == 11)) : dR ty f n (T + 1) (g_X5_readDeed M ty 11 (nI n)).1 (zPf N ((g_X5_readDeed M ty 11 (nI n)).2 3) 11) (g_X5_readDeed M ty 11 (nI n)).2 (g_X10_deed m ty n oz) := by
  have h9 : n ≤ 9 := hr.1.1
  have eN : N 0 0 = nI n := hr.1.2.1
  have e1 : m 1 0 = nI n := hr.1.2.2
  have h18 := hS.2
  have hs1 : g_X10_scan m ty 1 = m 1 := fr_X10_scan m ty 1 (by decide)
  have eD : g_X10_deed m ty n oz = if (d_X10_deed_25 m ty n oz).1 = 0 then (d_X10_deed_25 m ty n oz).2 else (d_X10_deed_27 m ty n oz).2 := by
    unfold g_X10_deed
    rw [if_pos (show g_X10_isWord m ty 0 = 0 from hw 0 (by decide)), if_pos (show g_X10_isWord m ty 1 = 0 from hw 1 (by decide)), if_pos (show g_X10_isWord m ty 2 = 0 from hw 2 (by decide)), if_pos (show g_X10_isWord m ty 3 = 0 from hw 3 (by decide)), if_pos (show g_X10_isWord m ty 4 = 0 from hw 4 (by decide)), if_pos (show g_X10_isWord m ty 7 = 0 from hw 7 (by decide)), if_pos (show g_X10_isWord m ty 5 = 0 from hw 5 (by decide)), if_pos (show g_X10_isWord m ty 9 = 0 from hw 9 (by decide)), if_pos (show g_X10_isWord m ty 12 = 0 from hw 12 (by decide)), if_neg (show ¬ g_X10_isWord m ty 11 = 0 from fun q => absurd ((hw 11 (by decide)).symm.trans q) (by decide))]
  obtain ⟨q1, q2⟩ := rD_1 h6 hS hk 11 (nI n) (k0 := 7) (by decide) rfl rfl (fit_7 h1 h9)
  have eR : d_X10_deed_24 m ty n oz = g_X10_read (g_X10_scan m ty) ty 0 (nI n - 1) := by
    unfold d_X10_deed_24 d_X10_deed_23 g_X10_replicaHere
    rw [hs1, e1]
  rw [eD]
  unfold d_X10_deed_27 d_X10_deed_25
  rw [eR]
  rw [show g_X10_isWord m ty 12 = 0 from hw 12 (by decide)]
  have hm : (g_X10_read (g_X10_scan m ty) ty 0 (nI n - 1)).2 1 = m 1 := (fr_X10_read _ _ _ _ 1 (by decide)).trans hs1
  generalize g_X10_read (g_X10_scan m ty) ty 0 (nI n - 1) = R at *
  refine fin h6 q1 (zPf N ((g_X5_readDeed M ty 11 (nI n)).2 3) 11) (if g_X10_isUp R.2 R.1.toNatClampNeg = 0 then 16 else 0) (fun Z => g_X10_upIt Z n R.1.toNatClampNeg 0) (n := n) (T := T + 1) (N := N) (fun hc => ?_) (fun o _ h _ => fr_X10_upIt _ _ _ _ o h) (fun j _ _ => congrFun (fr_X10_upIt _ _ _ _ 0 (by decide)) j)
  obtain ⟨e, l1, l2⟩ := q2 hc
  show qStep n (T + 1) N (g_X4_changeUp N (N 0 0).toNatClampNeg ((g_X5_readDeed M ty 11 (nI n)).2 3 0).toNatClampNeg 0) _ _
  obtain ⟨r, hr9, er⟩ := rep_of h1 h9 l1 l2
  rw [eN, e, er, nI_clamp (by omega), nI_clamp (by omega)]
  exact (st_up (T := T) (by rw [hm]; exact hr) hr9 false).up (by omega)
theorem deed_5 (h6 : ty ≤ 600) (hS : pS ty f a k M m) (hk : k ≠ 0) (hr : rl n oz T N (m 1)) (hT : T < 2 ^ 29) (h1 : 1 ≤ n) (hw : ∀ i, i < 15 → g_X10_isWord m ty i = bI (i == 5)) : dR ty f n (T + 1) (g_X5_readDeed M ty 5 (nI n)).1 (zPf N ((g_X5_readDeed M ty 5 (nI n)).2 3) 5) (g_X5_readDeed M ty 5 (nI n)).2 (g_X10_deed m ty n oz) := by
  have h9 : n ≤ 9 := hr.1.1
  have eN : N 0 0 = nI n := hr.1.2.1
  have e1 : m 1 0 = nI n := hr.1.2.2
  have h18 := hS.2
  have hs1 : g_X10_scan m ty 1 = m 1 := fr_X10_scan m ty 1 (by decide)
  have eD : g_X10_deed m ty n oz = if (d_X10_deed_36 m ty n oz).1 = 0 then (d_X10_deed_36 m ty n oz).2 else (d_X10_deed_38 m ty n oz).2 := by
    unfold g_X10_deed
    rw [if_pos (show g_X10_isWord m ty 0 = 0 from hw 0 (by decide)), if_pos (show g_X10_isWord m ty 1 = 0 from hw 1 (by decide)), if_pos (show g_X10_isWord m ty 2 = 0 from hw 2 (by decide)), if_pos (show g_X10_isWord m ty 3 = 0 from hw 3 (by decide)), if_pos (show g_X10_isWord m ty 4 = 0 from hw 4 (by decide)), if_pos (show g_X10_isWord m ty 7 = 0 from hw 7 (by decide)), if_neg (show ¬ g_X10_isWord m ty 5 = 0 from fun q => absurd ((hw 5 (by decide)).symm.trans q) (by decide))]
  obtain ⟨q1, q2⟩ := rD_2 h6 hS hk 5 (nI n) (k0 := 7) (k1 := 4) (by decide) (by decide) rfl rfl rfl (lo1 := 0) (hi1 := 65535) (fit_7 h1 h9) (fit_n (nI n) (by decide) rfl rfl)
  have eR : d_X10_deed_34 m ty n oz = g_X10_read (g_X10_scan m ty) ty 0 (nI n - 1) := by
    unfold d_X10_deed_34 d_X10_deed_33 g_X10_replicaHere
    rw [hs1, e1]
  have eS : d_X10_deed_35 m ty n oz = g_X10_read (g_X10_read (g_X10_scan m ty) ty 0 (nI n - 1)).2 ty 0 (65535) := by
    unfold d_X10_deed_35
    rw [eR]
  rw [eD]
  unfold d_X10_deed_38 d_X10_deed_36
  rw [eS, eR]
  have hm : (g_X10_read (g_X10_read (g_X10_scan m ty) ty 0 (nI n - 1)).2 ty 0 (65535)).2 1 = m 1 := (fr_X10_read _ _ _ _ 1 (by decide)).trans ((fr_X10_read _ _ _ _ 1 (by decide)).trans hs1)
  generalize g_X10_read (g_X10_read (g_X10_scan m ty) ty 0 (nI n - 1)).2 ty 0 (65535) = S at *
  generalize g_X10_read (g_X10_scan m ty) ty 0 (nI n - 1) = R at *
  refine fin h6 q1 (zPf N ((g_X5_readDeed M ty 5 (nI n)).2 3) 5) (g_X10_noSeal S.2 R.1.toNatClampNeg) (fun Z => g_X10_sealIt Z n R.1.toNatClampNeg S.1) (n := n) (T := T + 1) (N := N) (fun hc => ?_) (fun o _ h _ => fr_X10_sealIt _ _ _ _ o h) (fun j _ _ => congrFun (fr_X10_sealIt _ _ _ _ 0 (by decide)) j)
  obtain ⟨⟨e, l1, l2⟩, s1, s2, s3⟩ := q2 hc
  show qStep n (T + 1) N (g_X4_sealWith N ((g_X5_readDeed M ty 5 (nI n)).2 3 0).toNatClampNeg ((g_X5_readDeed M ty 5 (nI n)).2 3 1)) _ _
  obtain ⟨r, hr9, er⟩ := rep_of h1 h9 l1 l2
  rw [e, er, s1, nI_clamp (by omega)]
  exact (st_seal (T := T) (by rw [hm]; exact hr) hr9 S.1).up (by omega)
theorem deed_14 (h6 : ty ≤ 600) (hS : pS ty f a k M m) (hk : k ≠ 0) (hr : rl n oz T N (m 1)) (hT : T < 2 ^ 29) (h1 : 1 ≤ n) (hw : ∀ i, i < 15 → g_X10_isWord m ty i = bI (i == 14)) : dR ty f n (T + 1) (g_X5_readDeed M ty 14 (nI n)).1 (zPf N ((g_X5_readDeed M ty 14 (nI n)).2 3) 14) (g_X5_readDeed M ty 14 (nI n)).2 (g_X10_deed m ty n oz) := by
  have h9 : n ≤ 9 := hr.1.1
  have eN : N 0 0 = nI n := hr.1.2.1
  have e1 : m 1 0 = nI n := hr.1.2.2
  have h18 := hS.2
  have hs1 : g_X10_scan m ty 1 = m 1 := fr_X10_scan m ty 1 (by decide)
  have eD : g_X10_deed m ty n oz = if (d_X10_deed_13 m ty n oz).1 = 0 then (d_X10_deed_13 m ty n oz).2 else (d_X10_deed_15 m ty n oz) := by
    unfold g_X10_deed
    rw [if_pos (show g_X10_isWord m ty 0 = 0 from hw 0 (by decide)), if_pos (show g_X10_isWord m ty 1 = 0 from hw 1 (by decide)), if_pos (show g_X10_isWord m ty 2 = 0 from hw 2 (by decide)), if_pos (show g_X10_isWord m ty 3 = 0 from hw 3 (by decide)), if_pos (show g_X10_isWord m ty 4 = 0 from hw 4 (by decide)), if_pos (show g_X10_isWord m ty 7 = 0 from hw 7 (by decide)), if_pos (show g_X10_isWord m ty 5 = 0 from hw 5 (by decide)), if_pos (show g_X10_isWord m ty 9 = 0 from hw 9 (by decide)), if_pos (show g_X10_isWord m ty 12 = 0 from hw 12 (by decide)), if_pos (show g_X10_isWord m ty 11 = 0 from hw 11 (by decide)), if_neg (show ¬ g_X10_isWord m ty 14 = 0 from fun q => absurd ((hw 14 (by decide)).symm.trans q) (by decide))]
  obtain ⟨q1, q2⟩ := rD_2 h6 hS hk 14 (nI n) (k0 := 7) (k1 := 7) (by decide) (by decide) rfl rfl rfl (lo1 := 0) (hi1 := nI n - 1) (fit_7 h1 h9) (fit_7 h1 h9)
  have eR : d_X10_deed_11 m ty n oz = g_X10_read (g_X10_scan m ty) ty 0 (nI n - 1) := by
    unfold d_X10_deed_11 d_X10_deed_10 g_X10_replicaHere
    rw [hs1, e1]
  have eS : d_X10_deed_12 m ty n oz = g_X10_read (g_X10_read (g_X10_scan m ty) ty 0 (nI n - 1)).2 ty 0 (nI n - 1) := by
    unfold d_X10_deed_12 g_X10_replicaHere
    rw [eR, (fr_X10_read _ _ _ _ 1 (by decide)).trans hs1, e1]
  rw [eD]
  unfold d_X10_deed_15 d_X10_deed_13
  rw [eS, eR]
  rw [show g_X10_isWord m ty 14 = 1 from hw 14 (by decide)]
  have hm : (g_X10_read (g_X10_read (g_X10_scan m ty) ty 0 (nI n - 1)).2 ty 0 (nI n - 1)).2 1 = m 1 := (fr_X10_read _ _ _ _ 1 (by decide)).trans ((fr_X10_read _ _ _ _ 1 (by decide)).trans hs1)
  generalize g_X10_read (g_X10_read (g_X10_scan m ty) ty 0 (nI n - 1)).2 ty 0 (nI n - 1) = S at *
  generalize g_X10_read (g_X10_scan m ty) ty 0 (nI n - 1) = R at *
  refine fin h6 q1 (zPf N ((g_X5_readDeed M ty 14 (nI n)).2 3) 14) (g_X10_noLink S.2 R.1.toNatClampNeg S.1 1) (fun Z => (g_X10_ones (g_X10_of (g_X10_link Z R.1.toNatClampNeg S.1.toNatClampNeg 1) R.1.toNatClampNeg 5), g_X10_link Z R.1.toNatClampNeg S.1.toNatClampNeg 1)) (n := n) (T := T + 1) (N := N) (fun hc => ?_) (fun o _ h _ => by dsimp only; exact fr_X10_link _ _ _ _ o h) (fun j _ _ => by dsimp only; rw [fr_X10_link _ _ _ _ 0 (by decide)])
  obtain ⟨⟨e, l1, l2⟩, s1, s2, s3⟩ := q2 hc
  show qStep n (T + 1) N (g_X4_changeLink N ((g_X5_readDeed M ty 14 (nI n)).2 3 0).toNatClampNeg ((g_X5_readDeed M ty 14 (nI n)).2 3 1).toNatClampNeg 1) _ _
  obtain ⟨r, hr9, er⟩ := rep_of h1 h9 l1 l2
  obtain ⟨o, ho, eo⟩ := rep_of h1 h9 s2 s3
  rw [e, er, s1, eo, nI_clamp (by omega), nI_clamp (by omega)]
  exact (st_link (T := T) (by rw [hm]; exact hr) hr9 ho true).up (by omega)
theorem deed_13 (h6 : ty ≤ 600) (hS : pS ty f a k M m) (hk : k ≠ 0) (hr : rl n oz T N (m 1)) (hT : T < 2 ^ 29) (h1 : 1 ≤ n) (hw : ∀ i, i < 15 → g_X10_isWord m ty i = bI (i == 13)) : dR ty f n (T + 1) (g_X5_readDeed M ty 13 (nI n)).1 (zPf N ((g_X5_readDeed M ty 13 (nI n)).2 3) 13) (g_X5_readDeed M ty 13 (nI n)).2 (g_X10_deed m ty n oz) := by
  have h9 : n ≤ 9 := hr.1.1
  have eN : N 0 0 = nI n := hr.1.2.1
  have e1 : m 1 0 = nI n := hr.1.2.2
  have h18 := hS.2
  have hs1 : g_X10_scan m ty 1 = m 1 := fr_X10_scan m ty 1 (by decide)
  have eD : g_X10_deed m ty n oz = if (d_X10_deed_20 m ty n oz).1 = 0 then (d_X10_deed_20 m ty n oz).2 else (d_X10_deed_22 m ty n oz) := by
    unfold g_X10_deed
    rw [if_pos (show g_X10_isWord m ty 0 = 0 from hw 0 (by decide)), if_pos (show g_X10_isWord m ty 1 = 0 from hw 1 (by decide)), if_pos (show g_X10_isWord m ty 2 = 0 from hw 2 (by decide)), if_pos (show g_X10_isWord m ty 3 = 0 from hw 3 (by decide)), if_pos (show g_X10_isWord m ty 4 = 0 from hw 4 (by decide)), if_pos (show g_X10_isWord m ty 7 = 0 from hw 7 (by decide)), if_pos (show g_X10_isWord m ty 5 = 0 from hw 5 (by decide)), if_pos (show g_X10_isWord m ty 9 = 0 from hw 9 (by decide)), if_pos (show g_X10_isWord m ty 12 = 0 from hw 12 (by decide)), if_pos (show g_X10_isWord m ty 11 = 0 from hw 11 (by decide)), if_pos (show g_X10_isWord m ty 14 = 0 from hw 14 (by decide)), if_neg (show ¬ g_X10_isWord m ty 13 = 0 from fun q => absurd ((hw 13 (by decide)).symm.trans q) (by decide))]
  obtain ⟨q1, q2⟩ := rD_2 h6 hS hk 13 (nI n) (k0 := 7) (k1 := 7) (by decide) (by decide) rfl rfl rfl (lo1 := 0) (hi1 := nI n - 1) (fit_7 h1 h9) (fit_7 h1 h9)
  have eR : d_X10_deed_18 m ty n oz = g_X10_read (g_X10_scan m ty) ty 0 (nI n - 1) := by
    unfold d_X10_deed_18 d_X10_deed_17 g_X10_replicaHere
    rw [hs1, e1]
  have eS : d_X10_deed_19 m ty n oz = g_X10_read (g_X10_read (g_X10_scan m ty) ty 0 (nI n - 1)).2 ty 0 (nI n - 1) := by
    unfold d_X10_deed_19 g_X10_replicaHere
    rw [eR, (fr_X10_read _ _ _ _ 1 (by decide)).trans hs1, e1]
  rw [eD]
  unfold d_X10_deed_22 d_X10_deed_20
  rw [eS, eR]
  rw [show g_X10_isWord m ty 14 = 0 from hw 14 (by decide)]
  have hm : (g_X10_read (g_X10_read (g_X10_scan m ty) ty 0 (nI n - 1)).2 ty 0 (nI n - 1)).2 1 = m 1 := (fr_X10_read _ _ _ _ 1 (by decide)).trans ((fr_X10_read _ _ _ _ 1 (by decide)).trans hs1)
  generalize g_X10_read (g_X10_read (g_X10_scan m ty) ty 0 (nI n - 1)).2 ty 0 (nI n - 1) = S at *
  generalize g_X10_read (g_X10_scan m ty) ty 0 (nI n - 1) = R at *
  refine fin h6 q1 (zPf N ((g_X5_readDeed M ty 13 (nI n)).2 3) 13) (g_X10_noLink S.2 R.1.toNatClampNeg S.1 0) (fun Z => (g_X10_ones (g_X10_of (g_X10_link Z R.1.toNatClampNeg S.1.toNatClampNeg 0) R.1.toNatClampNeg 5), g_X10_link Z R.1.toNatClampNeg S.1.toNatClampNeg 0)) (n := n) (T := T + 1) (N := N) (fun hc => ?_) (fun o _ h _ => by dsimp only; exact fr_X10_link _ _ _ _ o h) (fun j _ _ => by dsimp only; rw [fr_X10_link _ _ _ _ 0 (by decide)])
  obtain ⟨⟨e, l1, l2⟩, s1, s2, s3⟩ := q2 hc
  show qStep n (T + 1) N (g_X4_changeLink N ((g_X5_readDeed M ty 13 (nI n)).2 3 0).toNatClampNeg ((g_X5_readDeed M ty 13 (nI n)).2 3 1).toNatClampNeg 0) _ _
  obtain ⟨r, hr9, er⟩ := rep_of h1 h9 l1 l2
  obtain ⟨o, ho, eo⟩ := rep_of h1 h9 s2 s3
  rw [e, er, s1, eo, nI_clamp (by omega), nI_clamp (by omega)]
  exact (st_link (T := T) (by rw [hm]; exact hr) hr9 ho false).up (by omega)
theorem deed_4 (h6 : ty ≤ 600) (hS : pS ty f a k M m) (hk : k ≠ 0) (hr : rl n oz T N (m 1)) (hT : T < 2 ^ 29) (h1 : 1 ≤ n) (hw : ∀ i, i < 15 → g_X10_isWord m ty i = bI (i == 4)) : dR ty f n (T + 1) (g_X5_readDeed M ty 4 (nI n)).1 (zPf N ((g_X5_readDeed M ty 4 (nI n)).2 3) 4) (g_X5_readDeed M ty 4 (nI n)).2 (g_X10_deed m ty n oz) := by
  have h9 : n ≤ 9 := hr.1.1
  have eN : N 0 0 = nI n := hr.1.2.1
  have e1 : m 1 0 = nI n := hr.1.2.2
  have h18 := hS.2
  have hs1 : g_X10_scan m ty 1 = m 1 := fr_X10_scan m ty 1 (by decide)
  have eD : g_X10_deed m ty n oz = d_X10_deed_4 m ty n oz := by
    unfold g_X10_deed
    rw [if_pos (show g_X10_isWord m ty 0 = 0 from hw 0 (by decide)), if_pos (show g_X10_isWord m ty 1 = 0 from hw 1 (by decide)), if_pos (show g_X10_isWord m ty 2 = 0 from hw 2 (by decide)), if_pos (show g_X10_isWord m ty 3 = 0 from hw 3 (by decide)), if_neg (show ¬ g_X10_isWord m ty 4 = 0 from fun q => absurd ((hw 4 (by decide)).symm.trans q) (by decide))]
  obtain ⟨q1, q2⟩ := rD_3 h6 hS hk 4 (nI n) (k0 := 7) (k1 := 7) (k2 := 3) (by decide) (by decide) (by decide) rfl rfl rfl (lo2 := 0) (hi2 := 999) (fit_7 h1 h9) (fit_7 h1 h9) (fit_n (nI n) (by decide) rfl rfl) _ _ _ rfl rfl rfl
  have eR : g_X10_replicaHere (g_X10_scan m ty) ty = g_X10_read (g_X10_scan m ty) ty 0 (nI n - 1) := by
    unfold g_X10_replicaHere
    rw [hs1, e1]
  have hm1 : (g_X10_read (g_X10_scan m ty) ty 0 (nI n - 1)).2 1 = m 1 := (fr_X10_read _ _ _ _ 1 (by decide)).trans hs1
  have eS : g_X10_replicaHere (g_X10_read (g_X10_scan m ty) ty 0 (nI n - 1)).2 ty = g_X10_read (g_X10_read (g_X10_scan m ty) ty 0 (nI n - 1)).2 ty 0 (nI n - 1) := by
    unfold g_X10_replicaHere
    rw [hm1, e1]
  rw [eD]
  unfold d_X10_deed_4 d_X10_deed_3
  rw [show g_X10_isWord m ty 4 = 1 from hw 4 (by decide)]
  unfold g_X10_threeNumbers
  rw [if_neg (show ¬ (1 : Int32) = 0 by decide)]
  unfold d_X10_threeNumbers_8 d_X10_threeNumbers_4
  unfold d_X10_threeNumbers_3 d_X10_threeNumbers_2 d_X10_threeNumbers_1
  rw [eR]
  generalize g_X10_read (g_X10_scan m ty) ty 0 (nI n - 1) = R at *
  rw [eS, if_neg (show ¬ (1 : Int32) = 0 by decide)]
  have hm2 : (g_X10_read R.2 ty 0 (nI n - 1)).2 1 = m 1 := (fr_X10_read _ _ _ _ 1 (by decide)).trans hm1
  generalize g_X10_read R.2 ty 0 (nI n - 1) = S at *
  have hm : (g_X10_read S.2 ty 0 999).2 1 = m 1 := (fr_X10_read _ _ _ _ 1 (by decide)).trans hm2
  generalize g_X10_read S.2 ty 0 999 = U at *
  refine fin h6 q1 (zPf N ((g_X5_readDeed M ty 4 (nI n)).2 3) 4) (g_X10_noSeal U.2 R.1.toNatClampNeg) (fun Z => g_X10_sealIt Z n R.1.toNatClampNeg (g_X10_sealOf S.1 U.1 (Z 1 5))) (n := n) (T := T + 1) (N := N) (fun hc => ?_) (fun o _ h _ => fr_X10_sealIt _ _ _ _ o h) (fun j _ _ => congrFun (fr_X10_sealIt _ _ _ _ 0 (by decide)) j)
  obtain ⟨⟨e, l1, l2⟩, ⟨s1, s2, s3⟩, u1, u2, u3⟩ := q2 hc
  show qStep n (T + 1) N (g_X4_sealVote N ((g_X5_readDeed M ty 4 (nI n)).2 3 0).toNatClampNeg ((g_X5_readDeed M ty 4 (nI n)).2 3 1) ((g_X5_readDeed M ty 4 (nI n)).2 3 2)) _ _
  obtain ⟨r, hr9, er⟩ := rep_of h1 h9 l1 l2
  obtain ⟨s, hs9, es⟩ := rep_of h1 h9 s2 s3
  obtain ⟨u, hu9, eu⟩ := num_of 999 (by decide) u2 u3
  rw [e, er, s1, es, u1, eu, nI_clamp (by omega)]
  exact (st_vote (T := T) (by rw [hm]; exact hr) (by omega) hr9 hs9 hu9).up (by omega)
theorem deed_7 (h6 : ty ≤ 600) (hS : pS ty f a k M m) (hk : k ≠ 0) (hr : rl n oz T N (m 1)) (hT : T < 2 ^ 29) (h1 : 1 ≤ n) (hw : ∀ i, i < 15 → g_X10_isWord m ty i = bI (i == 7)) : dR ty f n (T + 1) (g_X5_readDeed M ty 7 (nI n)).1 (zPf N ((g_X5_readDeed M ty 7 (nI n)).2 3) 7) (g_X5_readDeed M ty 7 (nI n)).2 (g_X10_deed m ty n oz) := by
  have h9 : n ≤ 9 := hr.1.1
  have eN : N 0 0 = nI n := hr.1.2.1
  have e1 : m 1 0 = nI n := hr.1.2.2
  have h18 := hS.2
  have hs1 : g_X10_scan m ty 1 = m 1 := fr_X10_scan m ty 1 (by decide)
  have eD : g_X10_deed m ty n oz = d_X10_deed_40 m ty n oz := by
    unfold g_X10_deed
    rw [if_pos (show g_X10_isWord m ty 0 = 0 from hw 0 (by decide)), if_pos (show g_X10_isWord m ty 1 = 0 from hw 1 (by decide)), if_pos (show g_X10_isWord m ty 2 = 0 from hw 2 (by decide)), if_pos (show g_X10_isWord m ty 3 = 0 from hw 3 (by decide)), if_pos (show g_X10_isWord m ty 4 = 0 from hw 4 (by decide)), if_neg (show ¬ g_X10_isWord m ty 7 = 0 from fun q => absurd ((hw 7 (by decide)).symm.trans q) (by decide))]
  obtain ⟨q1, q2⟩ := rD_3 h6 hS hk 7 (nI n) (k0 := 7) (k1 := 7) (k2 := 3) (by decide) (by decide) (by decide) rfl rfl rfl (lo2 := 0) (hi2 := 999) (fit_7 h1 h9) (fit_7 h1 h9) (fit_n (nI n) (by decide) rfl rfl) _ _ _ rfl rfl rfl
  have eR : g_X10_replicaHere (g_X10_scan m ty) ty = g_X10_read (g_X10_scan m ty) ty 0 (nI n - 1) := by
    unfold g_X10_replicaHere
    rw [hs1, e1]
  have hm1 : (g_X10_read (g_X10_scan m ty) ty 0 (nI n - 1)).2 1 = m 1 := (fr_X10_read _ _ _ _ 1 (by decide)).trans hs1
  have eS : g_X10_replicaHere (g_X10_read (g_X10_scan m ty) ty 0 (nI n - 1)).2 ty = g_X10_read (g_X10_read (g_X10_scan m ty) ty 0 (nI n - 1)).2 ty 0 (nI n - 1) := by
    unfold g_X10_replicaHere
    rw [hm1, e1]
  rw [eD]
  unfold d_X10_deed_40 d_X10_deed_39
  rw [show g_X10_isWord m ty 4 = 0 from hw 4 (by decide)]
  unfold g_X10_threeNumbers
  rw [if_pos (show (0 : Int32) = 0 from rfl)]
  unfold d_X10_threeNumbers_7 d_X10_threeNumbers_4
  unfold d_X10_threeNumbers_3 d_X10_threeNumbers_2 d_X10_threeNumbers_1
  rw [eR]
  generalize g_X10_read (g_X10_scan m ty) ty 0 (nI n - 1) = R at *
  rw [eS, if_pos (show (0 : Int32) = 0 from rfl)]
  have hm2 : (g_X10_read R.2 ty 0 (nI n - 1)).2 1 = m 1 := (fr_X10_read _ _ _ _ 1 (by decide)).trans hm1
  generalize g_X10_read R.2 ty 0 (nI n - 1) = S at *
  have hm : (g_X10_read S.2 ty 0 999).2 1 = m 1 := (fr_X10_read _ _ _ _ 1 (by decide)).trans hm2
  generalize g_X10_read S.2 ty 0 999 = U at *
  refine fin h6 q1 (zPf N ((g_X5_readDeed M ty 7 (nI n)).2 3) 7) (g_X10_noBreak U.2 R.1.toNatClampNeg) (fun Z => g_X10_breakIt Z R.1.toNatClampNeg S.1.toNatClampNeg U.1) (n := n) (T := T + 1) (N := N) (fun hc => ?_) (fun o _ h _ => fr_X10_breakIt _ _ _ _ o h) (fun j _ _ => congrFun (fr_X10_breakIt _ _ _ _ 0 (by decide)) j)
  obtain ⟨⟨e, l1, l2⟩, ⟨s1, s2, s3⟩, u1, u2, u3⟩ := q2 hc
  show qStep n (T + 1) N (g_X4_breakVote N ((g_X5_readDeed M ty 7 (nI n)).2 3 0).toNatClampNeg ((g_X5_readDeed M ty 7 (nI n)).2 3 1).toNatClampNeg ((g_X5_readDeed M ty 7 (nI n)).2 3 2)) _ _
  obtain ⟨r, hr9, er⟩ := rep_of h1 h9 l1 l2
  obtain ⟨s, hs9, es⟩ := rep_of h1 h9 s2 s3
  obtain ⟨u, hu9, eu⟩ := num_of 999 (by decide) u2 u3
  rw [e, er, s1, es, u1, eu, nI_clamp (by omega), nI_clamp (by omega)]
  exact (st_break (T := T) (by rw [hm]; exact hr) (by omega) hr9 hs9 hu9).up (by omega)
theorem deed_6 (h6 : ty ≤ 600) (hS : pS ty f a k M m) (hk : k ≠ 0) (hr : rl n oz T N (m 1)) (hT : T < 2 ^ 29) (h1 : 1 ≤ n) (hw : ∀ i, i < 15 → g_X10_isWord m ty i = bI (i == 6)) : dR ty f n (T + 1) (g_X5_readDeed M ty 6 (nI n)).1 (zPf N ((g_X5_readDeed M ty 6 (nI n)).2 3) 6) (g_X5_readDeed M ty 6 (nI n)).2 (g_X10_deed m ty n oz) := by
  have h9 : n ≤ 9 := hr.1.1
  have eN : N 0 0 = nI n := hr.1.2.1
  have e1 : m 1 0 = nI n := hr.1.2.2
  have h18 := hS.2
  have hs1 : g_X10_scan m ty 1 = m 1 := fr_X10_scan m ty 1 (by decide)
  have eD : g_X10_deed m ty n oz = if (d_X10_bareDeed_2 m ty n oz).1 = 0 then (d_X10_bareDeed_2 m ty n oz).2 else (d_X10_bareDeed_3 m ty n oz).2 := by
    unfold g_X10_deed
    rw [if_pos (show g_X10_isWord m ty 0 = 0 from hw 0 (by decide)), if_pos (show g_X10_isWord m ty 1 = 0 from hw 1 (by decide)), if_pos (show g_X10_isWord m ty 2 = 0 from hw 2 (by decide)), if_pos (show g_X10_isWord m ty 3 = 0 from hw 3 (by decide)), if_pos (show g_X10_isWord m ty 4 = 0 from hw 4 (by decide)), if_pos (show g_X10_isWord m ty 7 = 0 from hw 7 (by decide)), if_pos (show g_X10_isWord m ty 5 = 0 from hw 5 (by decide)), if_pos (show g_X10_isWord m ty 9 = 0 from hw 9 (by decide)), if_pos (show g_X10_isWord m ty 12 = 0 from hw 12 (by decide)), if_pos (show g_X10_isWord m ty 11 = 0 from hw 11 (by decide)), if_pos (show g_X10_isWord m ty 14 = 0 from hw 14 (by decide)), if_pos (show g_X10_isWord m ty 13 = 0 from hw 13 (by decide))]
    unfold d_X10_deed_16 g_X10_bareDeed
    rw [if_neg (show ¬ g_X10_isWord m ty 6 = 0 from fun q => absurd ((hw 6 (by decide)).symm.trans q) (by decide))]
  have q1 := rD_0 h6 hS hk 6 (nI n) rfl
  have eg : g_X10_goOn m ty = g_X10_scan m ty := goOn_0 h18
  rw [eD]
  unfold d_X10_bareDeed_3 d_X10_bareDeed_2
  unfold d_X10_bareDeed_1
  rw [eg, if_neg (show ¬ g_X10_isWord m ty 6 = 0 from fun q => absurd ((hw 6 (by decide)).symm.trans q) (by decide))]
  refine fin h6 q1 (zPf N ((g_X5_readDeed M ty 6 (nI n)).2 3) 6) (g_X10_noClose (g_X10_scan m ty) n) (fun Z => g_X10_closeIt Z n) (n := n) (T := T + 1) (N := N) (fun hc => ?_) (fun o h0 h h2 => fr_X10_closeIt _ _ o h) (fun j c1 c2 => congrFun (fr_X10_closeIt _ _ 0 (by decide)) j)
  show qStep n (T + 1) N (g_X4_closeSealing N) _ _
  exact (st_close (T := T) (by rw [hs1]; exact hr)).up (by omega)
theorem deed_8 (h6 : ty ≤ 600) (hS : pS ty f a k M m) (hk : k ≠ 0) (hr : rl n oz T N (m 1)) (hT : T < 2 ^ 29) (h1 : 1 ≤ n) (hw : ∀ i, i < 15 → g_X10_isWord m ty i = bI (i == 8)) : dR ty f n (T + 1) (g_X5_readDeed M ty 8 (nI n)).1 (zPf N ((g_X5_readDeed M ty 8 (nI n)).2 3) 8) (g_X5_readDeed M ty 8 (nI n)).2 (g_X10_deed m ty n oz) := by
  have h9 : n ≤ 9 := hr.1.1
  have eN : N 0 0 = nI n := hr.1.2.1
  have e1 : m 1 0 = nI n := hr.1.2.2
  have h18 := hS.2
  have hs1 : g_X10_scan m ty 1 = m 1 := fr_X10_scan m ty 1 (by decide)
  have eD : g_X10_deed m ty n oz = if (d_X10_bareDeed_5 m ty n oz).1 = 0 then (d_X10_bareDeed_5 m ty n oz).2 else (d_X10_bareDeed_6 m ty n oz).2 := by
    unfold g_X10_deed
    rw [if_pos (show g_X10_isWord m ty 0 = 0 from hw 0 (by decide)), if_pos (show g_X10_isWord m ty 1 = 0 from hw 1 (by decide)), if_pos (show g_X10_isWord m ty 2 = 0 from hw 2 (by decide)), if_pos (show g_X10_isWord m ty 3 = 0 from hw 3 (by decide)), if_pos (show g_X10_isWord m ty 4 = 0 from hw 4 (by decide)), if_pos (show g_X10_isWord m ty 7 = 0 from hw 7 (by decide)), if_pos (show g_X10_isWord m ty 5 = 0 from hw 5 (by decide)), if_pos (show g_X10_isWord m ty 9 = 0 from hw 9 (by decide)), if_pos (show g_X10_isWord m ty 12 = 0 from hw 12 (by decide)), if_pos (show g_X10_isWord m ty 11 = 0 from hw 11 (by decide)), if_pos (show g_X10_isWord m ty 14 = 0 from hw 14 (by decide)), if_pos (show g_X10_isWord m ty 13 = 0 from hw 13 (by decide))]
    unfold d_X10_deed_16 g_X10_bareDeed
    rw [if_pos (show g_X10_isWord m ty 6 = 0 from hw 6 (by decide)), if_neg (show ¬ g_X10_isWord m ty 8 = 0 from fun q => absurd ((hw 8 (by decide)).symm.trans q) (by decide))]
  have q1 := rD_0 h6 hS hk 8 (nI n) rfl
  have eg : g_X10_goOn m ty = g_X10_scan m ty := goOn_0 h18
  rw [eD]
  unfold d_X10_bareDeed_6 d_X10_bareDeed_5
  unfold d_X10_bareDeed_4
  rw [eg, if_pos (show g_X10_isWord m ty 6 = 0 from hw 6 (by decide)), if_neg (show ¬ g_X10_isWord m ty 8 = 0 from fun q => absurd ((hw 8 (by decide)).symm.trans q) (by decide))]
  refine fin h6 q1 (zPf N ((g_X5_readDeed M ty 8 (nI n)).2 3) 8) (g_X10_noCount (g_X10_scan m ty) n) (fun Z => g_X10_countIt Z n oz) (n := n) (T := T + 1) (N := N) (fun hc => ?_) (fun o h0 h h2 => fr_X10_countIt _ _ _ o ⟨h0, h, h2⟩) (fun j c1 c2 => cnt0 _ _ _ j c1 c2)
  show qStep n (T + 1) N (g_X4_countVotes N (N 0 0).toNatClampNeg (N 10 0).toNatClampNeg) _ _
  rw [eN, hr.2.2.2.2.2.2.2.2.2.2.2.2.1.2.1, nI_clamp (by omega), nI_clamp (by have := hr.2.2.2.2.2.2.2.2.2.2.2.2.1.1; omega)]
  exact (st_count (T := T) (by rw [hs1]; exact hr)).up (by omega)
theorem deed_10 (h6 : ty ≤ 600) (hS : pS ty f a k M m) (hk : k ≠ 0) (hr : rl n oz T N (m 1)) (hT : T < 2 ^ 29) (h1 : 1 ≤ n) (hw : ∀ i, i < 15 → g_X10_isWord m ty i = bI (i == 10)) : dR ty f n (T + 1) (g_X5_readDeed M ty 10 (nI n)).1 (zPf N ((g_X5_readDeed M ty 10 (nI n)).2 3) 10) (g_X5_readDeed M ty 10 (nI n)).2 (g_X10_deed m ty n oz) := by
  have h9 : n ≤ 9 := hr.1.1
  have eN : N 0 0 = nI n := hr.1.2.1
  have e1 : m 1 0 = nI n := hr.1.2.2
  have h18 := hS.2
  have hs1 : g_X10_scan m ty 1 = m 1 := fr_X10_scan m ty 1 (by decide)
  have eD : g_X10_deed m ty n oz = if (d_X10_bareDeed_8 m ty n oz).1 = 0 then (d_X10_bareDeed_8 m ty n oz).2 else (d_X10_bareDeed_9 m ty n oz).2 := by
    unfold g_X10_deed
    rw [if_pos (show g_X10_isWord m ty 0 = 0 from hw 0 (by decide)), if_pos (show g_X10_isWord m ty 1 = 0 from hw 1 (by decide)), if_pos (show g_X10_isWord m ty 2 = 0 from hw 2 (by decide)), if_pos (show g_X10_isWord m ty 3 = 0 from hw 3 (by decide)), if_pos (show g_X10_isWord m ty 4 = 0 from hw 4 (by decide)), if_pos (show g_X10_isWord m ty 7 = 0 from hw 7 (by decide)), if_pos (show g_X10_isWord m ty 5 = 0 from hw 5 (by decide)), if_pos (show g_X10_isWord m ty 9 = 0 from hw 9 (by decide)), if_pos (show g_X10_isWord m ty 12 = 0 from hw 12 (by decide)), if_pos (show g_X10_isWord m ty 11 = 0 from hw 11 (by decide)), if_pos (show g_X10_isWord m ty 14 = 0 from hw 14 (by decide)), if_pos (show g_X10_isWord m ty 13 = 0 from hw 13 (by decide))]
    unfold d_X10_deed_16 g_X10_bareDeed
    rw [if_pos (show g_X10_isWord m ty 6 = 0 from hw 6 (by decide)), if_pos (show g_X10_isWord m ty 8 = 0 from hw 8 (by decide)), if_neg (show ¬ g_X10_isWord m ty 10 = 0 from fun q => absurd ((hw 10 (by decide)).symm.trans q) (by decide))]
  have q1 := rD_0 h6 hS hk 10 (nI n) rfl
  have eg : g_X10_goOn m ty = g_X10_scan m ty := goOn_0 h18
  rw [eD]
  unfold d_X10_bareDeed_9 d_X10_bareDeed_8
  unfold d_X10_bareDeed_7
  rw [eg, if_pos (show g_X10_isWord m ty 6 = 0 from hw 6 (by decide)), if_pos (show g_X10_isWord m ty 8 = 0 from hw 8 (by decide))]
  refine fin h6 q1 (zPf N ((g_X5_readDeed M ty 10 (nI n)).2 3) 10) (if g_X10_scan m ty 1 4 = 0 then 17 else 0) (fun Z => g_X10_giveIt Z) (n := n) (T := T + 1) (N := N) (fun hc => ?_) (fun o h0 h h2 => fr_X10_giveIt _ o h) (fun j c1 c2 => congrFun (fr_X10_giveIt _ 0 (by decide)) j)
  show qStep n (T + 1) N (g_X4_giveBallotUp N) _ _
  exact (st_give (T := T) (by rw [hs1]; exact hr) (by omega)).up (by omega)
end DEEDS
