theorem e_X10_ends {ty : Nat} (M : zM) (x : Int32) (h600 : ty ≤ 600) (htk : zTkP ty M) (h : ¬ (g_X10_ends M x).1 = 0) : M 0 18 = 0 ∧ x = 0 ∧ M 0 16 = 1 ∧ (g_X10_ends M x).2 = M := by
  by_cases c1 : M 0 18 = 0
  · by_cases c2 : M 0 16 = 1
    · have e20 : j_X10_ends_20 M x = M := by unfold j_X10_ends_20; rw [if_pos c1, if_pos c2]
      by_cases c3 : x = 0
      · have e36 : j_X10_ends_36 M x = M := by unfold j_X10_ends_36; rw [e20, if_pos c1, if_pos c3]
        refine ⟨c1, c3, c2, ?_⟩
        unfold g_X10_ends
        rw [e36, if_pos c1]
      · exfalso
        have hw : ¬ g_X10_wrong M 4 0 18 = 0 := e_X10_wrong (k := 4) M h600 htk (by decide) (by decide)
        have e36 : j_X10_ends_36 M x = g_X10_wrong M 4 := by unfold j_X10_ends_36; rw [e20, if_pos c1, if_neg c3]
        apply h
        unfold g_X10_ends
        rw [e36, if_neg hw]
    · exfalso
      have hw : ¬ g_X10_wrong M 1 0 18 = 0 := e_X10_wrong (k := 1) M h600 htk (by decide) (by decide)
      have e20 : j_X10_ends_20 M x = g_X10_wrong M 1 := by unfold j_X10_ends_20; rw [if_pos c1, if_neg c2]
      have e36 : j_X10_ends_36 M x = g_X10_wrong M 1 := by unfold j_X10_ends_36; rw [e20, if_neg hw]
      apply h
      unfold g_X10_ends
      rw [e36, if_neg hw]
  · exfalso
    have e20 : j_X10_ends_20 M x = M := by unfold j_X10_ends_20; rw [if_neg c1]
    have e36 : j_X10_ends_36 M x = M := by unfold j_X10_ends_36; rw [e20, if_neg c1]
    apply h
    unfold g_X10_ends
    rw [e36, if_neg c1]
noncomputable abbrev yy_X10_setting : zY := (yX10_setting, cX10_setting, 3, none, 4, 84)
noncomputable def d_X10_setting_1 (M : zM) (ty : Nat) (w : Nat) : zM := (g_X10_scan M ty)
noncomputable def d_X10_setting_2 (M : zM) (ty : Nat) (w : Nat) : Int32 × zM := (g_X10_read (d_X10_setting_1 M ty w) ty (g_X10_leastOf (nI w)) (g_X10_mostOf (nI w)))
noncomputable def d_X10_setting_3 (M : zM) (ty : Nat) (w : Nat) : Int32 × zM := (g_X10_ends (d_X10_setting_2 M ty w).2 0)
noncomputable def g_X10_setting (M : zM) (ty : Nat) (w : Nat) : zM := (if (d_X10_setting_3 M ty w).1 = 0 then (d_X10_setting_3 M ty w).2 else (zU (d_X10_setting_3 M ty w).2 1 (1 + w) (d_X10_setting_2 M ty w).1))
set_option maxRecDepth 100000 in
theorem c_X10_setting (M : zM) (gp : Nat → Option Nat) (ty : Nat) (w : Nat) (h600 : ty ≤ 600) (htk : zTkP ty M) (h_w : w < 3) : zC yy_X10_setting 0 0 [.ref 0, .int (nI w)] (sh_Model gp) M none (sh_Model gp) (g_X10_setting M ty w) := by
  refine zC.of (by decide +kernel) rfl (Nat.le_of_ble_eq_true rfl) ?_
  refine zT.run [(.aload_n 0, 0, 0, 0)] (pe := 1) (ls' := [some (.ref 0), some (.int (nI w)), none]) (st' := [.ref 0]) (M' := M) (by decide +kernel) rfl ?_
  refine zT.cV_all (o := 0) (idx := 247) (av := []) (rv := none) (st := []) (S1 := []) (c_X10_scan M gp ty h600 htk.at) k_X10_scan _ _ rfl rfl rfl (zIn (w := 6161) (by decide +kernel) rfl) (by decide +kernel) (by decide +kernel) rfl (Nat.le_of_ble_eq_true rfl) rfl ?_
  obtain ⟨v1, hv1⟩ : ∃ v, v = (g_X10_scan M ty) := ⟨_, rfl⟩
  rw [← hv1]
  have ev1 : (d_X10_setting_1 M ty w) = v1 := by unfold d_X10_setting_1; exact hv1.symm
  have tk1 : zTkP ty v1 := by rw [hv1]; exact (tk_X10_scan M ty h600 htk)
  have lw1 : v1 1 = M 1 := by rw [hv1]; exact (fr_X10_scan M ty 1 (by decide))
  refine zT.run [(.aload_n 0, 0, 0, 0), (.iload_n 1, 0, 0, 0)] (pe := 6) (ls' := [some (.ref 0), some (.int (nI w)), none]) (st' := [.int (nI w), .ref 0]) (M' := v1) (by decide +kernel) rfl ?_
  refine zT.cS_nil (idx := 208) (av := [.int (nI w)]) (rv := (some (.int (g_X10_leastOf (nI w))))) (st := [.ref 0]) (S1 := [.int (g_X10_leastOf (nI w)), .ref 0]) (c_X10_leastOf (nI w)) k_X10_leastOf rfl (zIn (w := 6139) (by decide +kernel) rfl) (by decide +kernel) (by decide +kernel) rfl (Nat.le_of_ble_eq_true rfl) rfl ?_
  refine zT.run [(.iload_n 1, 0, 0, 0)] (pe := 10) (ls' := [some (.ref 0), some (.int (nI w)), none]) (st' := [.int (nI w), .int (g_X10_leastOf (nI w)), .ref 0]) (M' := v1) (by decide +kernel) rfl ?_
  refine zT.cS_nil (idx := 211) (av := [.int (nI w)]) (rv := (some (.int (g_X10_mostOf (nI w))))) (st := [.int (g_X10_leastOf (nI w)), .ref 0]) (S1 := [.int (g_X10_mostOf (nI w)), .int (g_X10_leastOf (nI w)), .ref 0]) (c_X10_mostOf (nI w)) k_X10_mostOf rfl (zIn (w := 6142) (by decide +kernel) rfl) (by decide +kernel) (by decide +kernel) rfl (Nat.le_of_ble_eq_true rfl) rfl ?_
  refine zT.cV_all (o := 0) (idx := 259) (av := [.int (g_X10_leastOf (nI w)), .int (g_X10_mostOf (nI w))]) (rv := (some (.int (g_X10_read v1 ty (g_X10_leastOf (nI w)) (g_X10_mostOf (nI w))).1))) (st := []) (S1 := [.int (g_X10_read v1 ty (g_X10_leastOf (nI w)) (g_X10_mostOf (nI w))).1]) (c_X10_read v1 gp ty (g_X10_leastOf (nI w)) (g_X10_mostOf (nI w)) h600 tk1) k_X10_read _ _ rfl rfl rfl (zIn (w := 6193) (by decide +kernel) rfl) (by decide +kernel) (by decide +kernel) rfl (Nat.le_of_ble_eq_true rfl) rfl ?_
  obtain ⟨v2, hv2⟩ : ∃ v, v = (g_X10_read v1 ty (g_X10_leastOf (nI w)) (g_X10_mostOf (nI w))) := ⟨_, rfl⟩
  rw [← hv2]
  have ev2 : (d_X10_setting_2 M ty w) = v2 := by unfold d_X10_setting_2; (try rw [ev1]); exact hv2.symm
  have tk2 : zTkP ty v2.2 := by rw [hv2]; exact (tk_X10_read v1 ty (g_X10_leastOf (nI w)) (g_X10_mostOf (nI w)) h600 tk1)
  have lw2 : v2.2 1 = M 1 := by rw [hv2]; exact ((fr_X10_read v1 ty (g_X10_leastOf (nI w)) (g_X10_mostOf (nI w)) 1 (by decide)).trans lw1)
  have rd2 : v2.2 0 18 = 0 → v1 0 18 = 0 := by rw [hv2]; exact fun h => (e_X10_read v1 ty (g_X10_leastOf (nI w)) (g_X10_mostOf (nI w)) h600 tk1 h).2.2
  refine zT.run [(.istore_n 2, 0, 0, 0), (.aload_n 0, 0, 0, 0), (.iconst 0, 0, 0, 0)] (pe := 19) (ls' := [some (.ref 0), some (.int (nI w)), some (.int v2.1)]) (st' := [.int 0, .ref 0]) (M' := v2.2) (by decide +kernel) rfl ?_
  refine zT.cV_all (o := 0) (idx := 306) (av := [.int 0]) (rv := (some (.int (g_X10_ends v2.2 0).1))) (st := []) (S1 := [.int (g_X10_ends v2.2 0).1]) (c_X10_ends v2.2 gp 0) k_X10_ends _ _ rfl rfl rfl (zIn (w := 6201) (by decide +kernel) rfl) (by decide +kernel) (by decide +kernel) rfl (Nat.le_of_ble_eq_true rfl) rfl ?_
  obtain ⟨v3, hv3⟩ : ∃ v, v = (g_X10_ends v2.2 0) := ⟨_, rfl⟩
  rw [← hv3]
  have ev3 : (d_X10_setting_3 M ty w) = v3 := by unfold d_X10_setting_3; (try rw [ev2]); exact hv3.symm
  have tk3 : zTkP ty v3.2 := by rw [hv3]; exact (tk_X10_ends v2.2 0 h600 tk2)
  have lw3 : v3.2 1 = M 1 := by rw [hv3]; exact ((fr_X10_ends v2.2 0 1 (by decide)).trans lw2)
  have en3 : ¬ v3.1 = 0 → v2.2 0 18 = 0 ∧ (0 : Int32) = 0 ∧ v3.2 = v2.2 := by rw [hv3]; exact fun h => ⟨(e_X10_ends v2.2 0 h600 tk2 h).1, (e_X10_ends v2.2 0 h600 tk2 h).2.1, (e_X10_ends v2.2 0 h600 tk2 h).2.2.2⟩
  refine zT.zeq (tgt := 34) (off := 12) (by decide +kernel) (by decide) (fun (c1 : v3.1 = 0) => ?_) (fun (c1 : ¬ v3.1 = 0) => ?_)
  · skip
    exact zT.vret (by unfold g_X10_setting; (try rw [ev1]); (try rw [ev2]); (try rw [ev3]); first | done | rw [if_pos c1] | rfl) rfl (by decide +kernel)
  · skip
    refine zT.run [(.aload_n 0, 0, 0, 0), (.getfield 9, 8, 1, 5150), (.iconst 1, 0, 0, 0), (.iload_n 1, 0, 0, 0), (.iadd, 0, 0, 0), (.iload_n 2, 0, 0, 0)] (pe := 33) (ls' := [some (.ref 0), some (.int (nI w)), some (.int v2.1)]) (st' := [.int v2.1, .int (1 + (nI w)), .ref 1]) (M' := v3.2) (by decide +kernel) rfl ?_
    refine zT.iast (n := 187) (k := (1 + w)) rfl (by show ((nI 1) + (nI w)) = nI (1 + w); simp only [pk_mul, nI_add]) (by omega) (by decide) (by decide +kernel) ?_
    exact zT.vret (by unfold g_X10_setting; (try rw [ev1]); (try rw [ev2]); (try rw [ev3]); first | done | rw [if_neg c1] | rfl) rfl (by decide +kernel)
theorem fr_X10_setting (M : zM) (ty : Nat) (w : Nat) (o : Nat) (ho : o ≠ 0 ∧ o ≠ 1) : (g_X10_setting M ty w) o = M o := by
  simp only [g_X10_setting]
  (repeat' split) <;> simp only [zU_ne ho.1, zU_ne ho.2, zUa_ne ho.1, zUa_ne ho.2, d_X10_setting_3, (fun (MM : zM) (x : Int32) => fr_X10_ends MM x o (by omega)), d_X10_setting_2, (fun (MM : zM) (ty : Nat) (lo : Int32) (hi : Int32) => fr_X10_read MM ty lo hi o (by omega)), d_X10_setting_1, (fun (MM : zM) (ty : Nat) => fr_X10_scan MM ty o (by omega))]
theorem k_X10_setting : zCal yy_X10_setting 1 := ⟨⟨⟨⟨zIn (w := 6231) (by decide +kernel) rfl, zIn (w := 1012) (by decide +kernel) rfl⟩, by decide +kernel⟩, by decide +kernel⟩, ⟨zIn (w := 6230) (by decide +kernel) rfl, zIn (w := 71) (by decide +kernel) rfl⟩⟩
noncomputable abbrev yy_X10_threeNumbers : zY := (yX10_threeNumbers, cX10_threeNumbers, 7, none, 5, 104)
noncomputable def d_X10_threeNumbers_1 (M : zM) (ty : Nat) (n : Nat) (b : Int32) : Int32 × zM := (g_X10_replicaHere M ty)
noncomputable def d_X10_threeNumbers_2 (M : zM) (ty : Nat) (n : Nat) (b : Int32) : Int32 × zM := (g_X10_replicaHere (d_X10_threeNumbers_1 M ty n b).2 ty)
noncomputable def d_X10_threeNumbers_3 (M : zM) (ty : Nat) (n : Nat) (b : Int32) : Int32 × zM := (g_X10_read (d_X10_threeNumbers_2 M ty n b).2 ty 0 999)
noncomputable def d_X10_threeNumbers_4 (M : zM) (ty : Nat) (n : Nat) (b : Int32) : Int32 × zM := (g_X10_ends (d_X10_threeNumbers_3 M ty n b).2 (if ((d_X10_threeNumbers_3 M ty n b).2 0 18) = 0 then (if b = 0 then (g_X10_noBreak (d_X10_threeNumbers_3 M ty n b).2 (d_X10_threeNumbers_1 M ty n b).1.toNatClampNeg) else (g_X10_noSeal (d_X10_threeNumbers_3 M ty n b).2 (d_X10_threeNumbers_1 M ty n b).1.toNatClampNeg)) else (0 : Int32)))
noncomputable def d_X10_threeNumbers_7 (M : zM) (ty : Nat) (n : Nat) (b : Int32) : Int32 × zM := (g_X10_breakIt (d_X10_threeNumbers_4 M ty n b).2 (d_X10_threeNumbers_1 M ty n b).1.toNatClampNeg (d_X10_threeNumbers_2 M ty n b).1.toNatClampNeg (d_X10_threeNumbers_3 M ty n b).1)
noncomputable def d_X10_threeNumbers_8 (M : zM) (ty : Nat) (n : Nat) (b : Int32) : Int32 × zM := (g_X10_sealIt (d_X10_threeNumbers_4 M ty n b).2 n (d_X10_threeNumbers_1 M ty n b).1.toNatClampNeg (g_X10_sealOf (d_X10_threeNumbers_2 M ty n b).1 (d_X10_threeNumbers_3 M ty n b).1 ((d_X10_threeNumbers_4 M ty n b).2 1 5)))
noncomputable def g_X10_threeNumbers (M : zM) (ty : Nat) (n : Nat) (b : Int32) : zM := (if (d_X10_threeNumbers_4 M ty n b).1 = 0 then (d_X10_threeNumbers_4 M ty n b).2 else (if b = 0 then (d_X10_threeNumbers_7 M ty n b).2 else (d_X10_threeNumbers_8 M ty n b).2))
set_option maxRecDepth 100000 in
theorem c_X10_threeNumbers (M : zM) (gp : Nat → Option Nat) (ty : Nat) (n : Nat) (b : Int32) (h600 : ty ≤ 600) (htk : zTkP ty M) (hn : M 1 0 = nI n) (h9 : n ≤ 9) (hd : zHd M) : zC yy_X10_threeNumbers 0 0 [.ref 0, .int b] (sh_Model gp) M none (sh_Model gp) (g_X10_threeNumbers M ty n b) := by
  refine zC.of (by decide +kernel) rfl (Nat.le_of_ble_eq_true rfl) ?_
  refine zT.run [(.aload_n 0, 0, 0, 0)] (pe := 1) (ls' := [some (.ref 0), some (.int b), none, none, none, none, none]) (st' := [.ref 0]) (M' := M) (by decide +kernel) rfl ?_
  refine zT.cV_all (o := 0) (idx := 316) (av := []) (rv := (some (.int (g_X10_replicaHere M ty).1))) (st := []) (S1 := [.int (g_X10_replicaHere M ty).1]) (c_X10_replicaHere M gp ty h600 htk) k_X10_replicaHere _ _ rfl rfl rfl (zIn (w := 6232) (by decide +kernel) rfl) (by decide +kernel) (by decide +kernel) rfl (Nat.le_of_ble_eq_true rfl) rfl ?_
  obtain ⟨v1, hv1⟩ : ∃ v, v = (g_X10_replicaHere M ty) := ⟨_, rfl⟩
  rw [← hv1]
  have ev1 : (d_X10_threeNumbers_1 M ty n b) = v1 := by unfold d_X10_threeNumbers_1; exact hv1.symm
  have tk1 : zTkP ty v1.2 := by rw [hv1]; exact (tk_X10_replicaHere M ty h600 htk)
  have lw1 : v1.2 1 = M 1 := by rw [hv1]; exact (fr_X10_replicaHere M ty 1 (by decide))
  have rh1 : v1.2 0 18 = 0 → v1.1 = nI v1.1.toNatClampNeg ∧ v1.1.toNatClampNeg < n ∧ M 0 18 = 0 := by rw [hv1]; exact e_X10_replicaHere M ty n h600 htk hn h9
  refine zT.run [(.istore_n 2, 0, 0, 0), (.aload_n 0, 0, 0, 0)] (pe := 6) (ls' := [some (.ref 0), some (.int b), some (.int v1.1), none, none, none, none]) (st' := [.ref 0]) (M' := v1.2) (by decide +kernel) rfl ?_
  refine zT.cV_all (o := 0) (idx := 316) (av := []) (rv := (some (.int (g_X10_replicaHere v1.2 ty).1))) (st := []) (S1 := [.int (g_X10_replicaHere v1.2 ty).1]) (c_X10_replicaHere v1.2 gp ty h600 tk1) k_X10_replicaHere _ _ rfl rfl rfl (zIn (w := 6232) (by decide +kernel) rfl) (by decide +kernel) (by decide +kernel) rfl (Nat.le_of_ble_eq_true rfl) rfl ?_
  obtain ⟨v2, hv2⟩ : ∃ v, v = (g_X10_replicaHere v1.2 ty) := ⟨_, rfl⟩
  rw [← hv2]
  have ev2 : (d_X10_threeNumbers_2 M ty n b) = v2 := by unfold d_X10_threeNumbers_2; (try rw [ev1]); exact hv2.symm
  have tk2 : zTkP ty v2.2 := by rw [hv2]; exact (tk_X10_replicaHere v1.2 ty h600 tk1)
  have lw2 : v2.2 1 = M 1 := by rw [hv2]; exact ((fr_X10_replicaHere v1.2 ty 1 (by decide)).trans lw1)
  have rh2 : v2.2 0 18 = 0 → v2.1 = nI v2.1.toNatClampNeg ∧ v2.1.toNatClampNeg < n ∧ v1.2 0 18 = 0 := by rw [hv2]; exact e_X10_replicaHere v1.2 ty n h600 tk1 ((congrFun lw1 0).trans hn) h9
  refine zT.run [(.istore_n 3, 0, 0, 0), (.aload_n 0, 0, 0, 0), (.iconst 0, 0, 0, 0), (.sipush 999, 0, 0, 0)] (pe := 15) (ls' := [some (.ref 0), some (.int b), some (.int v1.1), some (.int v2.1), none, none, none]) (st' := [.int 999, .int 0, .ref 0]) (M' := v2.2) (by decide +kernel) rfl ?_
  refine zT.cV_all (o := 0) (idx := 259) (av := [.int 0, .int 999]) (rv := (some (.int (g_X10_read v2.2 ty 0 999).1))) (st := []) (S1 := [.int (g_X10_read v2.2 ty 0 999).1]) (c_X10_read v2.2 gp ty 0 999 h600 tk2) k_X10_read _ _ rfl rfl rfl (zIn (w := 6193) (by decide +kernel) rfl) (by decide +kernel) (by decide +kernel) rfl (Nat.le_of_ble_eq_true rfl) rfl ?_
  obtain ⟨v3, hv3⟩ : ∃ v, v = (g_X10_read v2.2 ty 0 999) := ⟨_, rfl⟩
  rw [← hv3]
  have ev3 : (d_X10_threeNumbers_3 M ty n b) = v3 := by unfold d_X10_threeNumbers_3; (try rw [ev2]); exact hv3.symm
  have tk3 : zTkP ty v3.2 := by rw [hv3]; exact (tk_X10_read v2.2 ty 0 999 h600 tk2)
  have lw3 : v3.2 1 = M 1 := by rw [hv3]; exact ((fr_X10_read v2.2 ty 0 999 1 (by decide)).trans lw2)
  have rd3 : v3.2 0 18 = 0 → v2.2 0 18 = 0 := by rw [hv3]; exact fun h => (e_X10_read v2.2 ty 0 999 h600 tk2 h).2.2
  refine zT.run [(.istore 4, 0, 0, 0), (.aload_n 0, 0, 0, 0), (.getfield 235, 8, 18, 5167)] (pe := 24) (ls' := [some (.ref 0), some (.int b), some (.int v1.1), some (.int v2.1), some (.int v3.1), none, none]) (st' := [.int (v3.2 0 18)]) (M' := v3.2) (by decide +kernel) rfl ?_
  refine zT.join (48, [some (.ref 0), some (.int b), some (.int v1.1), some (.int v2.1), some (.int v3.1), none, none], [.int (if (v3.2 0 18) = 0 then (if b = 0 then (g_X10_noBreak v3.2 v1.1.toNatClampNeg) else (g_X10_noSeal v3.2 v1.1.toNatClampNeg)) else (0 : Int32))], (sh_Model gp), v3.2) ?_ ?_
  · refine zT.zeq (tgt := 31) (off := 7) (by decide +kernel) (by decide) (fun (c1 : (v3.2 0 18) = 0) => ?_) (fun (c1 : ¬ (v3.2 0 18) = 0) => ?_)
    · skip
      refine zT.run [(.iload_n 1, 0, 0, 0)] (pe := 32) (ls' := [some (.ref 0), some (.int b), some (.int v1.1), some (.int v2.1), some (.int v3.1), none, none]) (st' := [.int b]) (M' := v3.2) (by decide +kernel) rfl ?_
      refine zT.zeq (tgt := 43) (off := 11) (by decide +kernel) (by decide) (fun (c2 : b = 0) => ?_) (fun (c2 : ¬ b = 0) => ?_)
      · skip
        refine zT.run [(.aload_n 0, 0, 0, 0), (.iload_n 2, 0, 0, 0)] (pe := 45) (ls' := [some (.ref 0), some (.int b), some (.int v1.1), some (.int v2.1), some (.int v3.1), none, none]) (st' := [.int v1.1, .ref 0]) (M' := v3.2) (by decide +kernel) rfl ?_
        refine zT.eqS (congrArg (fun v : Int32 => ([.int v, .ref 0] : List Value)) (rh1 (rh2 (rd3 c1)).2.2).1) ?_
        refine zT.cV_own (o := 0) (idx := 179) (av := [.int (nI v1.1.toNatClampNeg)]) (rv := (some (.int (g_X10_noBreak v3.2 v1.1.toNatClampNeg)))) (st := []) (S1 := [.int (g_X10_noBreak v3.2 v1.1.toNatClampNeg)]) (c_X10_noBreak v3.2 gp v1.1.toNatClampNeg (zHd.of2 (congrFun lw3 4) (congrFun lw3 6) hd) (Nat.lt_of_lt_of_le (rh1 (rh2 (rd3 c1)).2.2).2.1 h9)) k_X10_noBreak _ _ rfl rfl rfl (zIn (w := 6043) (by decide +kernel) rfl) (by decide +kernel) (by decide +kernel) rfl (Nat.le_of_ble_eq_true rfl) rfl ?_
        exact zT.here (by simp only [if_pos c1, if_pos c2]; try rfl)
      · skip
        refine zT.run [(.aload_n 0, 0, 0, 0), (.iload_n 2, 0, 0, 0)] (pe := 37) (ls' := [some (.ref 0), some (.int b), some (.int v1.1), some (.int v2.1), some (.int v3.1), none, none]) (st' := [.int v1.1, .ref 0]) (M' := v3.2) (by decide +kernel) rfl ?_
        refine zT.eqS (congrArg (fun v : Int32 => ([.int v, .ref 0] : List Value)) (rh1 (rh2 (rd3 c1)).2.2).1) ?_
        refine zT.cV_own (o := 0) (idx := 170) (av := [.int (nI v1.1.toNatClampNeg)]) (rv := (some (.int (g_X10_noSeal v3.2 v1.1.toNatClampNeg)))) (st := []) (S1 := [.int (g_X10_noSeal v3.2 v1.1.toNatClampNeg)]) (c_X10_noSeal v3.2 gp v1.1.toNatClampNeg (zHd.of2 (congrFun lw3 4) (congrFun lw3 6) hd) (Nat.lt_of_lt_of_le (rh1 (rh2 (rd3 c1)).2.2).2.1 h9)) k_X10_noSeal _ _ rfl rfl rfl (zIn (w := 6011) (by decide +kernel) rfl) (by decide +kernel) (by decide +kernel) rfl (Nat.le_of_ble_eq_true rfl) rfl ?_
        refine zT.run [(.goto 8, 0, 0, 0)] (pe := 48) (ls' := [some (.ref 0), some (.int b), some (.int v1.1), some (.int v2.1), some (.int v3.1), none, none]) (st' := [.int (g_X10_noSeal v3.2 v1.1.toNatClampNeg)]) (M' := v3.2) (by decide +kernel) rfl ?_
        exact zT.here (by simp only [if_pos c1, if_neg c2]; try rfl)
    · skip
      refine zT.run [(.iconst 0, 0, 0, 0), (.goto 20, 0, 0, 0)] (pe := 48) (ls' := [some (.ref 0), some (.int b), some (.int v1.1), some (.int v2.1), some (.int v3.1), none, none]) (st' := [.int 0]) (M' := v3.2) (by decide +kernel) rfl ?_
      exact zT.here (by simp only [if_neg c1]; try rfl)
  · skip
    refine zT.run [(.istore 5, 0, 0, 0), (.aload_n 0, 0, 0, 0), (.iload 5, 0, 0, 0)] (pe := 53) (ls' := [some (.ref 0), some (.int b), some (.int v1.1), some (.int v2.1), some (.int v3.1), some (.int (if (v3.2 0 18) = 0 then (if b = 0 then (g_X10_noBreak v3.2 v1.1.toNatClampNeg) else (g_X10_noSeal v3.2 v1.1.toNatClampNeg)) else (0 : Int32))), none]) (st' := [.int (if (v3.2 0 18) = 0 then (if b = 0 then (g_X10_noBreak v3.2 v1.1.toNatClampNeg) else (g_X10_noSeal v3.2 v1.1.toNatClampNeg)) else (0 : Int32)), .ref 0]) (M' := v3.2) (by decide +kernel) rfl ?_
    refine zT.cV_all (o := 0) (idx := 306) (av := [.int (if (v3.2 0 18) = 0 then (if b = 0 then (g_X10_noBreak v3.2 v1.1.toNatClampNeg) else (g_X10_noSeal v3.2 v1.1.toNatClampNeg)) else (0 : Int32))]) (rv := (some (.int (g_X10_ends v3.2 (if (v3.2 0 18) = 0 then (if b = 0 then (g_X10_noBreak v3.2 v1.1.toNatClampNeg) else (g_X10_noSeal v3.2 v1.1.toNatClampNeg)) else (0 : Int32))).1))) (st := []) (S1 := [.int (g_X10_ends v3.2 (if (v3.2 0 18) = 0 then (if b = 0 then (g_X10_noBreak v3.2 v1.1.toNatClampNeg) else (g_X10_noSeal v3.2 v1.1.toNatClampNeg)) else (0 : Int32))).1]) (c_X10_ends v3.2 gp (if (v3.2 0 18) = 0 then (if b = 0 then (g_X10_noBreak v3.2 v1.1.toNatClampNeg) else (g_X10_noSeal v3.2 v1.1.toNatClampNeg)) else (0 : Int32))) k_X10_ends _ _ rfl rfl rfl (zIn (w := 6201) (by decide +kernel) rfl) (by decide +kernel) (by decide +kernel) rfl (Nat.le_of_ble_eq_true rfl) rfl ?_
    obtain ⟨v4, hv4⟩ : ∃ v, v = (g_X10_ends v3.2 (if (v3.2 0 18) = 0 then (if b = 0 then (g_X10_noBreak v3.2 v1.1.toNatClampNeg) else (g_X10_noSeal v3.2 v1.1.toNatClampNeg)) else (0 : Int32))) := ⟨_, rfl⟩
    rw [← hv4]
    have ev4 : (d_X10_threeNumbers_4 M ty n b) = v4 := by unfold d_X10_threeNumbers_4; (try rw [ev1]); (try rw [ev3]); exact hv4.symm
    have tk4 : zTkP ty v4.2 := by rw [hv4]; exact (tk_X10_ends v3.2 (if (v3.2 0 18) = 0 then (if b = 0 then (g_X10_noBreak v3.2 v1.1.toNatClampNeg) else (g_X10_noSeal v3.2 v1.1.toNatClampNeg)) else (0 : Int32)) h600 tk3)
    have lw4 : v4.2 1 = M 1 := by rw [hv4]; exact ((fr_X10_ends v3.2 (if (v3.2 0 18) = 0 then (if b = 0 then (g_X10_noBreak v3.2 v1.1.toNatClampNeg) else (g_X10_noSeal v3.2 v1.1.toNatClampNeg)) else (0 : Int32)) 1 (by decide)).trans lw3)
    have en4 : ¬ v4.1 = 0 → v3.2 0 18 = 0 ∧ ((if (v3.2 0 18) = 0 then (if b = 0 then (g_X10_noBreak v3.2 v1.1.toNatClampNeg) else (g_X10_noSeal v3.2 v1.1.toNatClampNeg)) else (0 : Int32)) : Int32) = 0 ∧ v4.2 = v3.2 := by rw [hv4]; exact fun h => ⟨(e_X10_ends v3.2 (if (v3.2 0 18) = 0 then (if b = 0 then (g_X10_noBreak v3.2 v1.1.toNatClampNeg) else (g_X10_noSeal v3.2 v1.1.toNatClampNeg)) else (0 : Int32)) h600 tk3 h).1, (e_X10_ends v3.2 (if (v3.2 0 18) = 0 then (if b = 0 then (g_X10_noBreak v3.2 v1.1.toNatClampNeg) else (g_X10_noSeal v3.2 v1.1.toNatClampNeg)) else (0 : Int32)) h600 tk3 h).2.1, (e_X10_ends v3.2 (if (v3.2 0 18) = 0 then (if b = 0 then (g_X10_noBreak v3.2 v1.1.toNatClampNeg) else (g_X10_noSeal v3.2 v1.1.toNatClampNeg)) else (0 : Int32)) h600 tk3 h).2.2.2⟩
    refine zT.zeq (tgt := 93) (off := 37) (by decide +kernel) (by decide) (fun (c3 : v4.1 = 0) => ?_) (fun (c3 : ¬ v4.1 = 0) => ?_)
    · skip
      exact zT.vret (by unfold g_X10_threeNumbers; (try rw [ev1]); (try rw [ev2]); (try rw [ev3]); (try rw [ev4]); first | done | rw [if_pos c3] | rfl) rfl (by decide +kernel)
    · skip
      refine zT.run [(.iload_n 1, 0, 0, 0)] (pe := 60) (ls' := [some (.ref 0), some (.int b), some (.int v1.1), some (.int v2.1), some (.int v3.1), some (.int (if (v3.2 0 18) = 0 then (if b = 0 then (g_X10_noBreak v3.2 v1.1.toNatClampNeg) else (g_X10_noSeal v3.2 v1.1.toNatClampNeg)) else (0 : Int32))), none]) (st' := [.int b]) (M' := v4.2) (by decide +kernel) rfl ?_
      refine zT.zeq (tgt := 83) (off := 23) (by decide +kernel) (by decide) (fun (c4 : b = 0) => ?_) (fun (c4 : ¬ b = 0) => ?_)
      · skip
        refine zT.run [(.aload_n 0, 0, 0, 0), (.iload_n 2, 0, 0, 0), (.iload_n 3, 0, 0, 0), (.iload 4, 0, 0, 0)] (pe := 88) (ls' := [some (.ref 0), some (.int b), some (.int v1.1), some (.int v2.1), some (.int v3.1), some (.int (if (v3.2 0 18) = 0 then (if b = 0 then (g_X10_noBreak v3.2 v1.1.toNatClampNeg) else (g_X10_noSeal v3.2 v1.1.toNatClampNeg)) else (0 : Int32))), none]) (st' := [.int v3.1, .int v2.1, .int v1.1, .ref 0]) (M' := v4.2) (by decide +kernel) rfl ?_
        refine zT.eqS (congrArg (fun v : Int32 => ([.int v3.1, .int v2.1, .int v, .ref 0] : List Value)) (rh1 (rh2 (rd3 (en4 c3).1)).2.2).1) ?_
        refine zT.eqS (congrArg (fun v : Int32 => ([.int v3.1, .int v, .int (nI v1.1.toNatClampNeg), .ref 0] : List Value)) (rh2 (rd3 (en4 c3).1)).1) ?_
        refine zT.cV_all (o := 0) (idx := 182) (av := [.int (nI v1.1.toNatClampNeg), .int (nI v2.1.toNatClampNeg), .int v3.1]) (rv := (some (.int (g_X10_breakIt v4.2 v1.1.toNatClampNeg v2.1.toNatClampNeg v3.1).1))) (st := []) (S1 := [.int (g_X10_breakIt v4.2 v1.1.toNatClampNeg v2.1.toNatClampNeg v3.1).1]) (c_X10_breakIt v4.2 gp v1.1.toNatClampNeg v2.1.toNatClampNeg v3.1 (Nat.lt_of_lt_of_le (rh1 (rh2 (rd3 (en4 c3).1)).2.2).2.1 h9) (Nat.lt_of_lt_of_le (rh2 (rd3 (en4 c3).1)).2.1 h9)) k_X10_breakIt _ _ rfl rfl rfl (zIn (w := 6047) (by decide +kernel) rfl) (by decide +kernel) (by decide +kernel) rfl (Nat.le_of_ble_eq_true rfl) rfl ?_
        obtain ⟨v7, hv7⟩ : ∃ v, v = (g_X10_breakIt v4.2 v1.1.toNatClampNeg v2.1.toNatClampNeg v3.1) := ⟨_, rfl⟩
        rw [← hv7]
        have ev7 : (d_X10_threeNumbers_7 M ty n b) = v7 := by unfold d_X10_threeNumbers_7; (try rw [ev1]); (try rw [ev2]); (try rw [ev3]); (try rw [ev4]); exact hv7.symm
        have tk7 : zTkP ty v7.2 := by rw [hv7]; exact zTkP.of (fr_X10_breakIt v4.2 v1.1.toNatClampNeg v2.1.toNatClampNeg v3.1 0 (by decide)) tk4
        refine zT.run [(.istore 6, 0, 0, 0)] (pe := 93) (ls' := [some (.ref 0), some (.int b), some (.int v1.1), some (.int v2.1), some (.int v3.1), some (.int (if (v3.2 0 18) = 0 then (if b = 0 then (g_X10_noBreak v3.2 v1.1.toNatClampNeg) else (g_X10_noSeal v3.2 v1.1.toNatClampNeg)) else (0 : Int32))), some (.int v7.1)]) (st' := []) (M' := v7.2) (by decide +kernel) rfl ?_
        exact zT.vret (by unfold g_X10_threeNumbers; (try rw [ev1]); (try rw [ev2]); (try rw [ev3]); (try rw [ev4]); (try rw [ev7]); first | done | rw [if_neg c3, if_pos c4] | rfl) rfl (by decide +kernel)
      · skip
        refine zT.run [(.aload_n 0, 0, 0, 0), (.iload_n 2, 0, 0, 0), (.iload_n 3, 0, 0, 0), (.iload 4, 0, 0, 0), (.aload_n 0, 0, 0, 0), (.getfield 9, 8, 1, 5150), (.iconst 5, 0, 0, 0)] (pe := 73) (ls' := [some (.ref 0), some (.int b), some (.int v1.1), some (.int v2.1), some (.int v3.1), some (.int (if (v3.2 0 18) = 0 then (if b = 0 then (g_X10_noBreak v3.2 v1.1.toNatClampNeg) else (g_X10_noSeal v3.2 v1.1.toNatClampNeg)) else (0 : Int32))), none]) (st' := [.int 5, .ref 1, .int v3.1, .int v2.1, .int v1.1, .ref 0]) (M' := v4.2) (by decide +kernel) rfl ?_
        refine zT.iald (n := 187) (k := 5) rfl rfl (by decide) (by decide) (by decide +kernel) ?_
        refine zT.cS_nil (idx := 53) (av := [.int v2.1, .int v3.1, .int (v4.2 1 5)]) (rv := (some (.int (g_X10_sealOf v2.1 v3.1 (v4.2 1 5))))) (st := [.int v1.1, .ref 0]) (S1 := [.int (g_X10_sealOf v2.1 v3.1 (v4.2 1 5)), .int v1.1, .ref 0]) (c_X10_sealOf v2.1 v3.1 (v4.2 1 5)) k_X10_sealOf rfl (zIn (w := 5128) (by decide +kernel) rfl) (by decide +kernel) (by decide +kernel) rfl (Nat.le_of_ble_eq_true rfl) rfl ?_
        refine zT.eqS (congrArg (fun v : Int32 => ([.int (g_X10_sealOf v2.1 v3.1 (v4.2 1 5)), .int v, .ref 0] : List Value)) (rh1 (rh2 (rd3 (en4 c3).1)).2.2).1) ?_
        refine zT.cV_all (o := 0) (idx := 57) (av := [.int (nI v1.1.toNatClampNeg), .int (g_X10_sealOf v2.1 v3.1 (v4.2 1 5))]) (rv := (some (.int (g_X10_sealIt v4.2 n v1.1.toNatClampNeg (g_X10_sealOf v2.1 v3.1 (v4.2 1 5))).1))) (st := []) (S1 := [.int (g_X10_sealIt v4.2 n v1.1.toNatClampNeg (g_X10_sealOf v2.1 v3.1 (v4.2 1 5))).1]) (c_X10_sealIt v4.2 gp n v1.1.toNatClampNeg (g_X10_sealOf v2.1 v3.1 (v4.2 1 5)) ((congrFun lw4 0).trans hn) h9 (Nat.lt_of_lt_of_le (rh1 (rh2 (rd3 (en4 c3).1)).2.2).2.1 h9)) k_X10_sealIt _ _ rfl rfl rfl (zIn (w := 5137) (by decide +kernel) rfl) (by decide +kernel) (by decide +kernel) rfl (Nat.le_of_ble_eq_true rfl) rfl ?_
        obtain ⟨v8, hv8⟩ : ∃ v, v = (g_X10_sealIt v4.2 n v1.1.toNatClampNeg (g_X10_sealOf v2.1 v3.1 (v4.2 1 5))) := ⟨_, rfl⟩
        rw [← hv8]
        have ev8 : (d_X10_threeNumbers_8 M ty n b) = v8 := by unfold d_X10_threeNumbers_8; (try rw [ev1]); (try rw [ev2]); (try rw [ev3]); (try rw [ev4]); exact hv8.symm
        have tk8 : zTkP ty v8.2 := by rw [hv8]; exact zTkP.of (fr_X10_sealIt v4.2 n v1.1.toNatClampNeg (g_X10_sealOf v2.1 v3.1 (v4.2 1 5)) 0 (by decide)) tk4
        refine zT.run [(.goto 11, 0, 0, 0), (.istore 6, 0, 0, 0)] (pe := 93) (ls' := [some (.ref 0), some (.int b), some (.int v1.1), some (.int v2.1), some (.int v3.1), some (.int (if (v3.2 0 18) = 0 then (if b = 0 then (g_X10_noBreak v3.2 v1.1.toNatClampNeg) else (g_X10_noSeal v3.2 v1.1.toNatClampNeg)) else (0 : Int32))), some (.int v8.1)]) (st' := []) (M' := v8.2) (by decide +kernel) rfl ?_
        exact zT.vret (by unfold g_X10_threeNumbers; (try rw [ev1]); (try rw [ev2]); (try rw [ev3]); (try rw [ev4]); (try rw [ev8]); first | done | rw [if_neg c3, if_neg c4] | rfl) rfl (by decide +kernel)
theorem fr_X10_threeNumbers (M : zM) (ty : Nat) (n : Nat) (b : Int32) (o : Nat) (ho : o ≠ 0 ∧ o ≠ 1) : (g_X10_threeNumbers M ty n b) o = M o := by
  simp only [g_X10_threeNumbers]
  (repeat' split) <;> simp only [zU_ne ho.1, zU_ne ho.2, zUa_ne ho.1, zUa_ne ho.2, d_X10_threeNumbers_4, (fun (MM : zM) (x : Int32) => fr_X10_ends MM x o (by omega)), d_X10_threeNumbers_3, (fun (MM : zM) (ty : Nat) (lo : Int32) (hi : Int32) => fr_X10_read MM ty lo hi o (by omega)), d_X10_threeNumbers_2, (fun (MM : zM) (ty : Nat) => fr_X10_replicaHere MM ty o (by omega)), d_X10_threeNumbers_1, d_X10_threeNumbers_7, (fun (MM : zM) (r : Nat) (cd : Nat) (x : Int32) => fr_X10_breakIt MM r cd x o (by omega)), d_X10_threeNumbers_8, (fun (MM : zM) (n : Nat) (r : Nat) (x : Int32) => fr_X10_sealIt MM n r x o (by omega))]
theorem lo_X10_threeNumbers (M : zM) (ty : Nat) (n : Nat) (b : Int32) (o : Nat) (ho : o < 10) : (g_X10_threeNumbers M ty n b) 1 o = M 1 o := by
  simp only [g_X10_threeNumbers]
  (repeat' split) <;> (try simp only [d_X10_threeNumbers_4, (fun (MM : zM) (x : Int32) => fr_X10_ends MM x 1 (by decide)), d_X10_threeNumbers_3, (fun (MM : zM) (ty : Nat) (lo : Int32) (hi : Int32) => fr_X10_read MM ty lo hi 1 (by decide)), d_X10_threeNumbers_2, (fun (MM : zM) (ty : Nat) => fr_X10_replicaHere MM ty 1 (by decide)), d_X10_threeNumbers_1, d_X10_threeNumbers_7, (fun (MM : zM) (r : Nat) (cd : Nat) (x : Int32) => lo_X10_breakIt MM r cd x o (by omega)), d_X10_threeNumbers_8, (fun (MM : zM) (n : Nat) (r : Nat) (x : Int32) => lo_X10_sealIt MM n r x o (by omega))])
theorem k_X10_threeNumbers : zCal yy_X10_threeNumbers 1 := ⟨⟨⟨⟨zIn (w := 6239) (by decide +kernel) rfl, zIn (w := 1012) (by decide +kernel) rfl⟩, by decide +kernel⟩, by decide +kernel⟩, ⟨zIn (w := 6238) (by decide +kernel) rfl, zIn (w := 73) (by decide +kernel) rfl⟩⟩
