noncomputable abbrev yy_X10_deed : zY := (yX10_deed, cX10_deed, 8, none, 6, 134)
noncomputable def d_X10_deed_1 (M : zM) (ty : Nat) (n : Nat) (oz : Nat) : zM := (g_X10_setting M ty 0)
noncomputable def d_X10_deed_2 (M : zM) (ty : Nat) (n : Nat) (oz : Nat) : zM := (g_X10_setting M ty 1)
noncomputable def d_X10_deed_3 (M : zM) (ty : Nat) (n : Nat) (oz : Nat) : zM := (g_X10_scan M ty)
noncomputable def d_X10_deed_4 (M : zM) (ty : Nat) (n : Nat) (oz : Nat) : zM := (g_X10_threeNumbers (d_X10_deed_3 M ty n oz) ty n (g_X10_isWord M ty 4))
noncomputable def d_X10_deed_5 (M : zM) (ty : Nat) (n : Nat) (oz : Nat) : zM := (g_X10_scan M ty)
noncomputable def d_X10_deed_6 (M : zM) (ty : Nat) (n : Nat) (oz : Nat) : Int32 × zM := (g_X10_replicaHere (d_X10_deed_5 M ty n oz) ty)
noncomputable def d_X10_deed_7 (M : zM) (ty : Nat) (n : Nat) (oz : Nat) : Int32 × zM := (g_X10_ends (d_X10_deed_6 M ty n oz).2 (if ((d_X10_deed_6 M ty n oz).2 0 18) = 0 then (if (g_X10_isUp (d_X10_deed_6 M ty n oz).2 (d_X10_deed_6 M ty n oz).1.toNatClampNeg) = (g_X10_isWord M ty 12) then (16 : Int32) else (0 : Int32)) else (0 : Int32)))
noncomputable def d_X10_deed_9 (M : zM) (ty : Nat) (n : Nat) (oz : Nat) : Int32 × zM := (g_X10_upIt (d_X10_deed_7 M ty n oz).2 n (d_X10_deed_6 M ty n oz).1.toNatClampNeg (g_X10_isWord M ty 12))
noncomputable def d_X10_deed_10 (M : zM) (ty : Nat) (n : Nat) (oz : Nat) : zM := (g_X10_scan M ty)
noncomputable def d_X10_deed_11 (M : zM) (ty : Nat) (n : Nat) (oz : Nat) : Int32 × zM := (g_X10_replicaHere (d_X10_deed_10 M ty n oz) ty)
noncomputable def d_X10_deed_12 (M : zM) (ty : Nat) (n : Nat) (oz : Nat) : Int32 × zM := (g_X10_replicaHere (d_X10_deed_11 M ty n oz).2 ty)
noncomputable def d_X10_deed_13 (M : zM) (ty : Nat) (n : Nat) (oz : Nat) : Int32 × zM := (g_X10_ends (d_X10_deed_12 M ty n oz).2 (if ((d_X10_deed_12 M ty n oz).2 0 18) = 0 then (g_X10_noLink (d_X10_deed_12 M ty n oz).2 (d_X10_deed_11 M ty n oz).1.toNatClampNeg (d_X10_deed_12 M ty n oz).1 (g_X10_isWord M ty 14)) else (0 : Int32)))
noncomputable def d_X10_deed_15 (M : zM) (ty : Nat) (n : Nat) (oz : Nat) : zM := (g_X10_link (d_X10_deed_13 M ty n oz).2 (d_X10_deed_11 M ty n oz).1.toNatClampNeg (d_X10_deed_12 M ty n oz).1.toNatClampNeg (g_X10_isWord M ty 14))
noncomputable def d_X10_deed_16 (M : zM) (ty : Nat) (n : Nat) (oz : Nat) : zM := (g_X10_bareDeed M ty n oz)
noncomputable def d_X10_deed_17 (M : zM) (ty : Nat) (n : Nat) (oz : Nat) : zM := (g_X10_scan M ty)
noncomputable def d_X10_deed_18 (M : zM) (ty : Nat) (n : Nat) (oz : Nat) : Int32 × zM := (g_X10_replicaHere (d_X10_deed_17 M ty n oz) ty)
noncomputable def d_X10_deed_19 (M : zM) (ty : Nat) (n : Nat) (oz : Nat) : Int32 × zM := (g_X10_replicaHere (d_X10_deed_18 M ty n oz).2 ty)
noncomputable def d_X10_deed_20 (M : zM) (ty : Nat) (n : Nat) (oz : Nat) : Int32 × zM := (g_X10_ends (d_X10_deed_19 M ty n oz).2 (if ((d_X10_deed_19 M ty n oz).2 0 18) = 0 then (g_X10_noLink (d_X10_deed_19 M ty n oz).2 (d_X10_deed_18 M ty n oz).1.toNatClampNeg (d_X10_deed_19 M ty n oz).1 (g_X10_isWord M ty 14)) else (0 : Int32)))
noncomputable def d_X10_deed_22 (M : zM) (ty : Nat) (n : Nat) (oz : Nat) : zM := (g_X10_link (d_X10_deed_20 M ty n oz).2 (d_X10_deed_18 M ty n oz).1.toNatClampNeg (d_X10_deed_19 M ty n oz).1.toNatClampNeg (g_X10_isWord M ty 14))
noncomputable def d_X10_deed_23 (M : zM) (ty : Nat) (n : Nat) (oz : Nat) : zM := (g_X10_scan M ty)
noncomputable def d_X10_deed_24 (M : zM) (ty : Nat) (n : Nat) (oz : Nat) : Int32 × zM := (g_X10_replicaHere (d_X10_deed_23 M ty n oz) ty)
noncomputable def d_X10_deed_25 (M : zM) (ty : Nat) (n : Nat) (oz : Nat) : Int32 × zM := (g_X10_ends (d_X10_deed_24 M ty n oz).2 (if ((d_X10_deed_24 M ty n oz).2 0 18) = 0 then (if (g_X10_isUp (d_X10_deed_24 M ty n oz).2 (d_X10_deed_24 M ty n oz).1.toNatClampNeg) = (g_X10_isWord M ty 12) then (16 : Int32) else (0 : Int32)) else (0 : Int32)))
noncomputable def d_X10_deed_27 (M : zM) (ty : Nat) (n : Nat) (oz : Nat) : Int32 × zM := (g_X10_upIt (d_X10_deed_25 M ty n oz).2 n (d_X10_deed_24 M ty n oz).1.toNatClampNeg (g_X10_isWord M ty 12))
noncomputable def d_X10_deed_28 (M : zM) (ty : Nat) (n : Nat) (oz : Nat) : zM := (g_X10_scan M ty)
noncomputable def d_X10_deed_29 (M : zM) (ty : Nat) (n : Nat) (oz : Nat) : Int32 × zM := (g_X10_replicaHere (d_X10_deed_28 M ty n oz) ty)
noncomputable def d_X10_deed_30 (M : zM) (ty : Nat) (n : Nat) (oz : Nat) : Int32 × zM := (g_X10_ends (d_X10_deed_29 M ty n oz).2 (if ((d_X10_deed_29 M ty n oz).2 0 18) = 0 then (g_X10_noRecount (d_X10_deed_29 M ty n oz).2 oz (d_X10_deed_29 M ty n oz).1.toNatClampNeg) else (0 : Int32)))
noncomputable def d_X10_deed_32 (M : zM) (ty : Nat) (n : Nat) (oz : Nat) : Int32 × zM := (g_X10_recountIt (d_X10_deed_30 M ty n oz).2 n oz)
noncomputable def d_X10_deed_33 (M : zM) (ty : Nat) (n : Nat) (oz : Nat) : zM := (g_X10_scan M ty)
noncomputable def d_X10_deed_34 (M : zM) (ty : Nat) (n : Nat) (oz : Nat) : Int32 × zM := (g_X10_replicaHere (d_X10_deed_33 M ty n oz) ty)
noncomputable def d_X10_deed_35 (M : zM) (ty : Nat) (n : Nat) (oz : Nat) : Int32 × zM := (g_X10_read (d_X10_deed_34 M ty n oz).2 ty 0 65535)
noncomputable def d_X10_deed_36 (M : zM) (ty : Nat) (n : Nat) (oz : Nat) : Int32 × zM := (g_X10_ends (d_X10_deed_35 M ty n oz).2 (if ((d_X10_deed_35 M ty n oz).2 0 18) = 0 then (g_X10_noSeal (d_X10_deed_35 M ty n oz).2 (d_X10_deed_34 M ty n oz).1.toNatClampNeg) else (0 : Int32)))
noncomputable def d_X10_deed_38 (M : zM) (ty : Nat) (n : Nat) (oz : Nat) : Int32 × zM := (g_X10_sealIt (d_X10_deed_36 M ty n oz).2 n (d_X10_deed_34 M ty n oz).1.toNatClampNeg (d_X10_deed_35 M ty n oz).1)
noncomputable def d_X10_deed_39 (M : zM) (ty : Nat) (n : Nat) (oz : Nat) : zM := (g_X10_scan M ty)
noncomputable def d_X10_deed_40 (M : zM) (ty : Nat) (n : Nat) (oz : Nat) : zM := (g_X10_threeNumbers (d_X10_deed_39 M ty n oz) ty n (g_X10_isWord M ty 4))
noncomputable def d_X10_deed_41 (M : zM) (ty : Nat) (n : Nat) (oz : Nat) : zM := (g_X10_scan M ty)
noncomputable def d_X10_deed_42 (M : zM) (ty : Nat) (n : Nat) (oz : Nat) : Int32 × zM := (g_X10_replicaHere (d_X10_deed_41 M ty n oz) ty)
noncomputable def d_X10_deed_43 (M : zM) (ty : Nat) (n : Nat) (oz : Nat) : Int32 × zM := (g_X10_ends (d_X10_deed_42 M ty n oz).2 (if ((d_X10_deed_42 M ty n oz).2 0 18) = 0 then (g_X10_noCall (d_X10_deed_42 M ty n oz).2 n (d_X10_deed_42 M ty n oz).1.toNatClampNeg) else (0 : Int32)))
noncomputable def d_X10_deed_45 (M : zM) (ty : Nat) (n : Nat) (oz : Nat) : Int32 × zM := (g_X10_callIt (d_X10_deed_43 M ty n oz).2 n (d_X10_deed_42 M ty n oz).1.toNatClampNeg)
noncomputable def d_X10_deed_46 (M : zM) (ty : Nat) (n : Nat) (oz : Nat) : zM := (g_X10_setting M ty 2)
noncomputable def g_X10_deed (M : zM) (ty : Nat) (n : Nat) (oz : Nat) : zM := (if (g_X10_isWord M ty 0) = 0 then (if (g_X10_isWord M ty 1) = 0 then (if (g_X10_isWord M ty 2) = 0 then (if (g_X10_isWord M ty 3) = 0 then (if (g_X10_isWord M ty 4) = 0 then (if (g_X10_isWord M ty 7) = 0 then (if (g_X10_isWord M ty 5) = 0 then (if (g_X10_isWord M ty 9) = 0 then (if (g_X10_isWord M ty 12) = 0 then (if (g_X10_isWord M ty 11) = 0 then (if (g_X10_isWord M ty 14) = 0 then (if (g_X10_isWord M ty 13) = 0 then (d_X10_deed_16 M ty n oz) else (if (d_X10_deed_20 M ty n oz).1 = 0 then (d_X10_deed_20 M ty n oz).2 else (d_X10_deed_22 M ty n oz))) else (if (d_X10_deed_13 M ty n oz).1 = 0 then (d_X10_deed_13 M ty n oz).2 else (d_X10_deed_15 M ty n oz))) else (if (d_X10_deed_25 M ty n oz).1 = 0 then (d_X10_deed_25 M ty n oz).2 else (d_X10_deed_27 M ty n oz).2)) else (if (d_X10_deed_7 M ty n oz).1 = 0 then (d_X10_deed_7 M ty n oz).2 else (d_X10_deed_9 M ty n oz).2)) else (if (d_X10_deed_30 M ty n oz).1 = 0 then (d_X10_deed_30 M ty n oz).2 else (d_X10_deed_32 M ty n oz).2)) else (if (d_X10_deed_36 M ty n oz).1 = 0 then (d_X10_deed_36 M ty n oz).2 else (d_X10_deed_38 M ty n oz).2)) else (d_X10_deed_40 M ty n oz)) else (d_X10_deed_4 M ty n oz)) else (if (d_X10_deed_43 M ty n oz).1 = 0 then (d_X10_deed_43 M ty n oz).2 else (d_X10_deed_45 M ty n oz).2)) else (d_X10_deed_46 M ty n oz)) else (d_X10_deed_2 M ty n oz)) else (d_X10_deed_1 M ty n oz))
set_option maxRecDepth 100000 in
theorem c_X10_deed (M : zM) (gp : Nat → Option Nat) (ty : Nat) (n : Nat) (oz : Nat) (h600 : ty ≤ 600) (htk : zTkP ty M) (hn : M 1 0 = nI n) (h9 : n ≤ 9) (hd : zHd M) (hv : zHv M) (hoz : M 1 9 = nI oz) (h12 : oz ≤ 12) (hP : M 1 4 = 3 → 0 < oz) : zC yy_X10_deed 0 0 [.ref 0] (sh_Model gp) M none (sh_Model gp) (g_X10_deed M ty n oz) := by
  refine zC.of (by decide +kernel) rfl (Nat.le_of_ble_eq_true rfl) ?_
  refine zT.run [(.aload_n 0, 0, 0, 0)] (pe := 1) (ls' := [some (.ref 0), none, none, none, none, none, none, none]) (st' := [.ref 0]) (M' := M) (by decide +kernel) rfl ?_
  refine zT.ldcSW 24 rfl rfl (by decide +kernel) ?_
  refine zT.cV_own (o := 0) (idx := 264) (av := [.retAddr 204]) (rv := (some (.int (g_X10_isWord M ty 4)))) (st := []) (S1 := [.int (g_X10_isWord M ty 4)]) (c_X10_isWord M gp ty 4 h600 htk (by decide)) k_X10_isWord _ _ rfl rfl rfl (zIn (w := 6174) (by decide +kernel) rfl) (by decide +kernel) (by decide +kernel) rfl (Nat.le_of_ble_eq_true rfl) rfl ?_
  refine zT.run [(.istore_n 1, 0, 0, 0), (.aload_n 0, 0, 0, 0)] (pe := 9) (ls' := [some (.ref 0), some (.int (g_X10_isWord M ty 4)), none, none, none, none, none, none]) (st' := [.ref 0]) (M' := M) (by decide +kernel) rfl ?_
  refine zT.ldcSW 32 rfl rfl (by decide +kernel) ?_
  refine zT.cV_own (o := 0) (idx := 264) (av := [.retAddr 212]) (rv := (some (.int (g_X10_isWord M ty 12)))) (st := []) (S1 := [.int (g_X10_isWord M ty 12)]) (c_X10_isWord M gp ty 12 h600 htk (by decide)) k_X10_isWord _ _ rfl rfl rfl (zIn (w := 6174) (by decide +kernel) rfl) (by decide +kernel) (by decide +kernel) rfl (Nat.le_of_ble_eq_true rfl) rfl ?_
  refine zT.run [(.istore_n 2, 0, 0, 0), (.aload_n 0, 0, 0, 0)] (pe := 17) (ls' := [some (.ref 0), some (.int (g_X10_isWord M ty 4)), some (.int (g_X10_isWord M ty 12)), none, none, none, none, none]) (st' := [.ref 0]) (M' := M) (by decide +kernel) rfl ?_
  refine zT.ldcSW 34 rfl rfl (by decide +kernel) ?_
  refine zT.cV_own (o := 0) (idx := 264) (av := [.retAddr 214]) (rv := (some (.int (g_X10_isWord M ty 14)))) (st := []) (S1 := [.int (g_X10_isWord M ty 14)]) (c_X10_isWord M gp ty 14 h600 htk (by decide)) k_X10_isWord _ _ rfl rfl rfl (zIn (w := 6174) (by decide +kernel) rfl) (by decide +kernel) (by decide +kernel) rfl (Nat.le_of_ble_eq_true rfl) rfl ?_
  refine zT.run [(.istore_n 3, 0, 0, 0), (.aload_n 0, 0, 0, 0)] (pe := 25) (ls' := [some (.ref 0), some (.int (g_X10_isWord M ty 4)), some (.int (g_X10_isWord M ty 12)), some (.int (g_X10_isWord M ty 14)), none, none, none, none]) (st' := [.ref 0]) (M' := M) (by decide +kernel) rfl ?_
  refine zT.ldcSW 29 rfl rfl (by decide +kernel) ?_
  refine zT.cV_own (o := 0) (idx := 264) (av := [.retAddr 209]) (rv := (some (.int (g_X10_isWord M ty 9)))) (st := []) (S1 := [.int (g_X10_isWord M ty 9)]) (c_X10_isWord M gp ty 9 h600 htk (by decide)) k_X10_isWord _ _ rfl rfl rfl (zIn (w := 6174) (by decide +kernel) rfl) (by decide +kernel) (by decide +kernel) rfl (Nat.le_of_ble_eq_true rfl) rfl ?_
  refine zT.run [(.istore 4, 0, 0, 0), (.aload_n 0, 0, 0, 0)] (pe := 34) (ls' := [some (.ref 0), some (.int (g_X10_isWord M ty 4)), some (.int (g_X10_isWord M ty 12)), some (.int (g_X10_isWord M ty 14)), some (.int (g_X10_isWord M ty 9)), none, none, none]) (st' := [.ref 0]) (M' := M) (by decide +kernel) rfl ?_
  refine zT.ldcSW 20 rfl rfl (by decide +kernel) ?_
  refine zT.cV_own (o := 0) (idx := 264) (av := [.retAddr 200]) (rv := (some (.int (g_X10_isWord M ty 0)))) (st := []) (S1 := [.int (g_X10_isWord M ty 0)]) (c_X10_isWord M gp ty 0 h600 htk (by decide)) k_X10_isWord _ _ rfl rfl rfl (zIn (w := 6174) (by decide +kernel) rfl) (by decide +kernel) (by decide +kernel) rfl (Nat.le_of_ble_eq_true rfl) rfl ?_
  refine zT.zne (tgt := 63) (off := 23) (by decide +kernel) (by decide) (fun (c1 : ¬ (g_X10_isWord M ty 0) = 0) => ?_) (fun (c1 : (g_X10_isWord M ty 0) = 0) => ?_)
  · skip
    refine zT.run [(.aload_n 0, 0, 0, 0), (.aload_n 0, 0, 0, 0)] (pe := 65) (ls' := [some (.ref 0), some (.int (g_X10_isWord M ty 4)), some (.int (g_X10_isWord M ty 12)), some (.int (g_X10_isWord M ty 14)), some (.int (g_X10_isWord M ty 9)), none, none, none]) (st' := [.ref 0, .ref 0]) (M' := M) (by decide +kernel) rfl ?_
    refine zT.ldcSW 20 rfl rfl (by decide +kernel) ?_
    refine zT.cV_own (o := 0) (idx := 264) (av := [.retAddr 200]) (rv := (some (.int (g_X10_isWord M ty 0)))) (st := [.ref 0]) (S1 := [.int (g_X10_isWord M ty 0), .ref 0]) (c_X10_isWord M gp ty 0 h600 htk (by decide)) k_X10_isWord _ _ rfl rfl rfl (zIn (w := 6174) (by decide +kernel) rfl) (by decide +kernel) (by decide +kernel) rfl (Nat.le_of_ble_eq_true rfl) rfl ?_
    refine zT.zeq (tgt := 78) (off := 7) (by decide +kernel) (by decide) (fun c => absurd c c1) (fun _ => ?_)
    refine zT.run [(.iconst 0, 0, 0, 0), (.goto 18, 0, 0, 0)] (pe := 93) (ls' := [some (.ref 0), some (.int (g_X10_isWord M ty 4)), some (.int (g_X10_isWord M ty 12)), some (.int (g_X10_isWord M ty 14)), some (.int (g_X10_isWord M ty 9)), none, none, none]) (st' := [.int 0, .ref 0]) (M' := M) (by decide +kernel) rfl ?_
    refine zT.cV_all (o := 0) (idx := 313) (av := [.int (nI 0)]) (rv := none) (st := []) (S1 := []) (c_X10_setting M gp ty 0 h600 htk (by decide)) k_X10_setting _ _ rfl rfl rfl (zIn (w := 6228) (by decide +kernel) rfl) (by decide +kernel) (by decide +kernel) rfl (Nat.le_of_ble_eq_true rfl) rfl ?_
    obtain ⟨v1, hv1⟩ : ∃ v, v = (g_X10_setting M ty 0) := ⟨_, rfl⟩
    rw [← hv1]
    have ev1 : (d_X10_deed_1 M ty n oz) = v1 := by unfold d_X10_deed_1; exact hv1.symm
    have tk1 : zTkP ty v1 := by rw [hv1]; exact (tk_X10_setting M ty 0 h600 htk)
    refine zT.run [(.goto 337, 0, 0, 0)] (pe := 433) (ls' := [some (.ref 0), some (.int (g_X10_isWord M ty 4)), some (.int (g_X10_isWord M ty 12)), some (.int (g_X10_isWord M ty 14)), some (.int (g_X10_isWord M ty 9)), none, none, none]) (st' := []) (M' := v1) (by decide +kernel) rfl ?_
    exact zT.vret (by unfold g_X10_deed; (try rw [ev1]); first | done | rw [if_neg c1] | rfl) rfl (by decide +kernel)
  · skip
    refine zT.run [(.aload_n 0, 0, 0, 0)] (pe := 44) (ls' := [some (.ref 0), some (.int (g_X10_isWord M ty 4)), some (.int (g_X10_isWord M ty 12)), some (.int (g_X10_isWord M ty 14)), some (.int (g_X10_isWord M ty 9)), none, none, none]) (st' := [.ref 0]) (M' := M) (by decide +kernel) rfl ?_
    refine zT.ldcSW 21 rfl rfl (by decide +kernel) ?_
    refine zT.cV_own (o := 0) (idx := 264) (av := [.retAddr 201]) (rv := (some (.int (g_X10_isWord M ty 1)))) (st := []) (S1 := [.int (g_X10_isWord M ty 1)]) (c_X10_isWord M gp ty 1 h600 htk (by decide)) k_X10_isWord _ _ rfl rfl rfl (zIn (w := 6174) (by decide +kernel) rfl) (by decide +kernel) (by decide +kernel) rfl (Nat.le_of_ble_eq_true rfl) rfl ?_
    refine zT.zne (tgt := 63) (off := 13) (by decide +kernel) (by decide) (fun (c2 : ¬ (g_X10_isWord M ty 1) = 0) => ?_) (fun (c2 : (g_X10_isWord M ty 1) = 0) => ?_)
    · skip
      refine zT.run [(.aload_n 0, 0, 0, 0), (.aload_n 0, 0, 0, 0)] (pe := 65) (ls' := [some (.ref 0), some (.int (g_X10_isWord M ty 4)), some (.int (g_X10_isWord M ty 12)), some (.int (g_X10_isWord M ty 14)), some (.int (g_X10_isWord M ty 9)), none, none, none]) (st' := [.ref 0, .ref 0]) (M' := M) (by decide +kernel) rfl ?_
      refine zT.ldcSW 20 rfl rfl (by decide +kernel) ?_
      refine zT.cV_own (o := 0) (idx := 264) (av := [.retAddr 200]) (rv := (some (.int (g_X10_isWord M ty 0)))) (st := [.ref 0]) (S1 := [.int (g_X10_isWord M ty 0), .ref 0]) (c_X10_isWord M gp ty 0 h600 htk (by decide)) k_X10_isWord _ _ rfl rfl rfl (zIn (w := 6174) (by decide +kernel) rfl) (by decide +kernel) (by decide +kernel) rfl (Nat.le_of_ble_eq_true rfl) rfl ?_
      refine zT.zeq (tgt := 78) (off := 7) (by decide +kernel) (by decide) (fun _ => ?_) (fun c => absurd c1 c)
      refine zT.run [(.aload_n 0, 0, 0, 0)] (pe := 79) (ls' := [some (.ref 0), some (.int (g_X10_isWord M ty 4)), some (.int (g_X10_isWord M ty 12)), some (.int (g_X10_isWord M ty 14)), some (.int (g_X10_isWord M ty 9)), none, none, none]) (st' := [.ref 0, .ref 0]) (M' := M) (by decide +kernel) rfl ?_
      refine zT.ldcSW 21 rfl rfl (by decide +kernel) ?_
      refine zT.cV_own (o := 0) (idx := 264) (av := [.retAddr 201]) (rv := (some (.int (g_X10_isWord M ty 1)))) (st := [.ref 0]) (S1 := [.int (g_X10_isWord M ty 1), .ref 0]) (c_X10_isWord M gp ty 1 h600 htk (by decide)) k_X10_isWord _ _ rfl rfl rfl (zIn (w := 6174) (by decide +kernel) rfl) (by decide +kernel) (by decide +kernel) rfl (Nat.le_of_ble_eq_true rfl) rfl ?_
      refine zT.zeq (tgt := 92) (off := 7) (by decide +kernel) (by decide) (fun c => absurd c c2) (fun _ => ?_)
      refine zT.run [(.iconst 1, 0, 0, 0), (.goto 4, 0, 0, 0)] (pe := 93) (ls' := [some (.ref 0), some (.int (g_X10_isWord M ty 4)), some (.int (g_X10_isWord M ty 12)), some (.int (g_X10_isWord M ty 14)), some (.int (g_X10_isWord M ty 9)), none, none, none]) (st' := [.int 1, .ref 0]) (M' := M) (by decide +kernel) rfl ?_
      refine zT.cV_all (o := 0) (idx := 313) (av := [.int (nI 1)]) (rv := none) (st := []) (S1 := []) (c_X10_setting M gp ty 1 h600 htk (by decide)) k_X10_setting _ _ rfl rfl rfl (zIn (w := 6228) (by decide +kernel) rfl) (by decide +kernel) (by decide +kernel) rfl (Nat.le_of_ble_eq_true rfl) rfl ?_
      obtain ⟨v2, hv2⟩ : ∃ v, v = (g_X10_setting M ty 1) := ⟨_, rfl⟩
      rw [← hv2]
      have ev2 : (d_X10_deed_2 M ty n oz) = v2 := by unfold d_X10_deed_2; exact hv2.symm
      have tk2 : zTkP ty v2 := by rw [hv2]; exact (tk_X10_setting M ty 1 h600 htk)
      refine zT.run [(.goto 337, 0, 0, 0)] (pe := 433) (ls' := [some (.ref 0), some (.int (g_X10_isWord M ty 4)), some (.int (g_X10_isWord M ty 12)), some (.int (g_X10_isWord M ty 14)), some (.int (g_X10_isWord M ty 9)), none, none, none]) (st' := []) (M' := v2) (by decide +kernel) rfl ?_
      exact zT.vret (by unfold g_X10_deed; (try rw [ev2]); first | done | rw [if_pos c1, if_neg c2] | rfl) rfl (by decide +kernel)
    · skip
      refine zT.run [(.aload_n 0, 0, 0, 0)] (pe := 54) (ls' := [some (.ref 0), some (.int (g_X10_isWord M ty 4)), some (.int (g_X10_isWord M ty 12)), some (.int (g_X10_isWord M ty 14)), some (.int (g_X10_isWord M ty 9)), none, none, none]) (st' := [.ref 0]) (M' := M) (by decide +kernel) rfl ?_
      refine zT.ldcSW 22 rfl rfl (by decide +kernel) ?_
      refine zT.cV_own (o := 0) (idx := 264) (av := [.retAddr 202]) (rv := (some (.int (g_X10_isWord M ty 2)))) (st := []) (S1 := [.int (g_X10_isWord M ty 2)]) (c_X10_isWord M gp ty 2 h600 htk (by decide)) k_X10_isWord _ _ rfl rfl rfl (zIn (w := 6174) (by decide +kernel) rfl) (by decide +kernel) (by decide +kernel) rfl (Nat.le_of_ble_eq_true rfl) rfl ?_
      refine zT.zeq (tgt := 99) (off := 39) (by decide +kernel) (by decide) (fun (c3 : (g_X10_isWord M ty 2) = 0) => ?_) (fun (c3 : ¬ (g_X10_isWord M ty 2) = 0) => ?_)
      · skip
        refine zT.run [(.aload_n 0, 0, 0, 0)] (pe := 100) (ls' := [some (.ref 0), some (.int (g_X10_isWord M ty 4)), some (.int (g_X10_isWord M ty 12)), some (.int (g_X10_isWord M ty 14)), some (.int (g_X10_isWord M ty 9)), none, none, none]) (st' := [.ref 0]) (M' := M) (by decide +kernel) rfl ?_
        refine zT.ldcSW 23 rfl rfl (by decide +kernel) ?_
        refine zT.cV_own (o := 0) (idx := 264) (av := [.retAddr 203]) (rv := (some (.int (g_X10_isWord M ty 3)))) (st := []) (S1 := [.int (g_X10_isWord M ty 3)]) (c_X10_isWord M gp ty 3 h600 htk (by decide)) k_X10_isWord _ _ rfl rfl rfl (zIn (w := 6174) (by decide +kernel) rfl) (by decide +kernel) (by decide +kernel) rfl (Nat.le_of_ble_eq_true rfl) rfl ?_
        refine zT.zeq (tgt := 154) (off := 48) (by decide +kernel) (by decide) (fun (c4 : (g_X10_isWord M ty 3) = 0) => ?_) (fun (c4 : ¬ (g_X10_isWord M ty 3) = 0) => ?_)
        · skip
          refine zT.run [(.iload_n 1, 0, 0, 0)] (pe := 155) (ls' := [some (.ref 0), some (.int (g_X10_isWord M ty 4)), some (.int (g_X10_isWord M ty 12)), some (.int (g_X10_isWord M ty 14)), some (.int (g_X10_isWord M ty 9)), none, none, none]) (st' := [.int (g_X10_isWord M ty 4)]) (M' := M) (by decide +kernel) rfl ?_
          refine zT.zne (tgt := 168) (off := 13) (by decide +kernel) (by decide) (fun (c5 : ¬ (g_X10_isWord M ty 4) = 0) => ?_) (fun (c5 : (g_X10_isWord M ty 4) = 0) => ?_)
          · skip
            refine zT.run [(.aload_n 0, 0, 0, 0)] (pe := 169) (ls' := [some (.ref 0), some (.int (g_X10_isWord M ty 4)), some (.int (g_X10_isWord M ty 12)), some (.int (g_X10_isWord M ty 14)), some (.int (g_X10_isWord M ty 9)), none, none, none]) (st' := [.ref 0]) (M' := M) (by decide +kernel) rfl ?_
            refine zT.cV_all (o := 0) (idx := 247) (av := []) (rv := none) (st := []) (S1 := []) (c_X10_scan M gp ty h600 htk.at) k_X10_scan _ _ rfl rfl rfl (zIn (w := 6161) (by decide +kernel) rfl) (by decide +kernel) (by decide +kernel) rfl (Nat.le_of_ble_eq_true rfl) rfl ?_
            obtain ⟨v3, hv3⟩ : ∃ v, v = (g_X10_scan M ty) := ⟨_, rfl⟩
            rw [← hv3]
            have ev3 : (d_X10_deed_3 M ty n oz) = v3 := by unfold d_X10_deed_3; exact hv3.symm
            have tk3 : zTkP ty v3 := by rw [hv3]; exact (tk_X10_scan M ty h600 htk)
            have lw3 : v3 1 = M 1 := by rw [hv3]; exact (fr_X10_scan M ty 1 (by decide))
            refine zT.run [(.aload_n 0, 0, 0, 0), (.iload_n 1, 0, 0, 0)] (pe := 174) (ls' := [some (.ref 0), some (.int (g_X10_isWord M ty 4)), some (.int (g_X10_isWord M ty 12)), some (.int (g_X10_isWord M ty 14)), some (.int (g_X10_isWord M ty 9)), none, none, none]) (st' := [.int (g_X10_isWord M ty 4), .ref 0]) (M' := v3) (by decide +kernel) rfl ?_
            refine zT.cV_all (o := 0) (idx := 319) (av := [.int (g_X10_isWord M ty 4)]) (rv := none) (st := []) (S1 := []) (c_X10_threeNumbers v3 gp ty n (g_X10_isWord M ty 4) h600 tk3 ((congrFun lw3 0).trans hn) h9 (zHd.of2 (congrFun lw3 4) (congrFun lw3 6) hd)) k_X10_threeNumbers _ _ rfl rfl rfl (zIn (w := 6236) (by decide +kernel) rfl) (by decide +kernel) (by decide +kernel) rfl (Nat.le_of_ble_eq_true rfl) rfl ?_
            obtain ⟨v4, hv4⟩ : ∃ v, v = (g_X10_threeNumbers v3 ty n (g_X10_isWord M ty 4)) := ⟨_, rfl⟩
            rw [← hv4]
            have ev4 : (d_X10_deed_4 M ty n oz) = v4 := by unfold d_X10_deed_4; (try rw [ev3]); exact hv4.symm
            have tk4 : zTkP ty v4 := by rw [hv4]; exact (tk_X10_threeNumbers v3 ty n (g_X10_isWord M ty 4) h600 tk3)
            refine zT.run [(.goto 256, 0, 0, 0)] (pe := 433) (ls' := [some (.ref 0), some (.int (g_X10_isWord M ty 4)), some (.int (g_X10_isWord M ty 12)), some (.int (g_X10_isWord M ty 14)), some (.int (g_X10_isWord M ty 9)), none, none, none]) (st' := []) (M' := v4) (by decide +kernel) rfl ?_
            exact zT.vret (by unfold g_X10_deed; (try rw [ev3]); (try rw [ev4]); first | done | rw [if_pos c1, if_pos c2, if_pos c3, if_pos c4, if_neg c5] | rfl) rfl (by decide +kernel)
          · skip
            refine zT.run [(.aload_n 0, 0, 0, 0)] (pe := 159) (ls' := [some (.ref 0), some (.int (g_X10_isWord M ty 4)), some (.int (g_X10_isWord M ty 12)), some (.int (g_X10_isWord M ty 14)), some (.int (g_X10_isWord M ty 9)), none, none, none]) (st' := [.ref 0]) (M' := M) (by decide +kernel) rfl ?_
            refine zT.ldcSW 27 rfl rfl (by decide +kernel) ?_
            refine zT.cV_own (o := 0) (idx := 264) (av := [.retAddr 207]) (rv := (some (.int (g_X10_isWord M ty 7)))) (st := []) (S1 := [.int (g_X10_isWord M ty 7)]) (c_X10_isWord M gp ty 7 h600 htk (by decide)) k_X10_isWord _ _ rfl rfl rfl (zIn (w := 6174) (by decide +kernel) rfl) (by decide +kernel) (by decide +kernel) rfl (Nat.le_of_ble_eq_true rfl) rfl ?_
            refine zT.zeq (tgt := 180) (off := 15) (by decide +kernel) (by decide) (fun (c6 : (g_X10_isWord M ty 7) = 0) => ?_) (fun (c6 : ¬ (g_X10_isWord M ty 7) = 0) => ?_)
            · skip
              refine zT.run [(.aload_n 0, 0, 0, 0)] (pe := 181) (ls' := [some (.ref 0), some (.int (g_X10_isWord M ty 4)), some (.int (g_X10_isWord M ty 12)), some (.int (g_X10_isWord M ty 14)), some (.int (g_X10_isWord M ty 9)), none, none, none]) (st' := [.ref 0]) (M' := M) (by decide +kernel) rfl ?_
              refine zT.ldcSW 25 rfl rfl (by decide +kernel) ?_
              refine zT.cV_own (o := 0) (idx := 264) (av := [.retAddr 205]) (rv := (some (.int (g_X10_isWord M ty 5)))) (st := []) (S1 := [.int (g_X10_isWord M ty 5)]) (c_X10_isWord M gp ty 5 h600 htk (by decide)) k_X10_isWord _ _ rfl rfl rfl (zIn (w := 6174) (by decide +kernel) rfl) (by decide +kernel) (by decide +kernel) rfl (Nat.le_of_ble_eq_true rfl) rfl ?_
              refine zT.zeq (tgt := 246) (off := 59) (by decide +kernel) (by decide) (fun (c7 : (g_X10_isWord M ty 5) = 0) => ?_) (fun (c7 : ¬ (g_X10_isWord M ty 5) = 0) => ?_)
              · skip
                refine zT.run [(.iload 4, 0, 0, 0)] (pe := 248) (ls' := [some (.ref 0), some (.int (g_X10_isWord M ty 4)), some (.int (g_X10_isWord M ty 12)), some (.int (g_X10_isWord M ty 14)), some (.int (g_X10_isWord M ty 9)), none, none, none]) (st' := [.int (g_X10_isWord M ty 9)]) (M' := M) (by decide +kernel) rfl ?_
                refine zT.zeq (tgt := 294) (off := 46) (by decide +kernel) (by decide) (fun (c8 : (g_X10_isWord M ty 9) = 0) => ?_) (fun (c8 : ¬ (g_X10_isWord M ty 9) = 0) => ?_)
                · skip
                  refine zT.run [(.iload_n 2, 0, 0, 0)] (pe := 295) (ls' := [some (.ref 0), some (.int (g_X10_isWord M ty 4)), some (.int (g_X10_isWord M ty 12)), some (.int (g_X10_isWord M ty 14)), some (.int (g_X10_isWord M ty 9)), none, none, none]) (st' := [.int (g_X10_isWord M ty 12)]) (M' := M) (by decide +kernel) rfl ?_
                  refine zT.zne (tgt := 308) (off := 13) (by decide +kernel) (by decide) (fun (c9 : ¬ (g_X10_isWord M ty 12) = 0) => ?_) (fun (c9 : (g_X10_isWord M ty 12) = 0) => ?_)
                  · skip
                    refine zT.run [(.aload_n 0, 0, 0, 0)] (pe := 309) (ls' := [some (.ref 0), some (.int (g_X10_isWord M ty 4)), some (.int (g_X10_isWord M ty 12)), some (.int (g_X10_isWord M ty 14)), some (.int (g_X10_isWord M ty 9)), none, none, none]) (st' := [.ref 0]) (M' := M) (by decide +kernel) rfl ?_
                    refine zT.cV_all (o := 0) (idx := 247) (av := []) (rv := none) (st := []) (S1 := []) (c_X10_scan M gp ty h600 htk.at) k_X10_scan _ _ rfl rfl rfl (zIn (w := 6161) (by decide +kernel) rfl) (by decide +kernel) (by decide +kernel) rfl (Nat.le_of_ble_eq_true rfl) rfl ?_
                    obtain ⟨v5, hv5⟩ : ∃ v, v = (g_X10_scan M ty) := ⟨_, rfl⟩
                    rw [← hv5]
                    have ev5 : (d_X10_deed_5 M ty n oz) = v5 := by unfold d_X10_deed_5; exact hv5.symm
                    have tk5 : zTkP ty v5 := by rw [hv5]; exact (tk_X10_scan M ty h600 htk)
                    have lw5 : v5 1 = M 1 := by rw [hv5]; exact (fr_X10_scan M ty 1 (by decide))
                    refine zT.run [(.aload_n 0, 0, 0, 0)] (pe := 313) (ls' := [some (.ref 0), some (.int (g_X10_isWord M ty 4)), some (.int (g_X10_isWord M ty 12)), some (.int (g_X10_isWord M ty 14)), some (.int (g_X10_isWord M ty 9)), none, none, none]) (st' := [.ref 0]) (M' := v5) (by decide +kernel) rfl ?_
                    refine zT.cV_all (o := 0) (idx := 316) (av := []) (rv := (some (.int (g_X10_replicaHere v5 ty).1))) (st := []) (S1 := [.int (g_X10_replicaHere v5 ty).1]) (c_X10_replicaHere v5 gp ty h600 tk5) k_X10_replicaHere _ _ rfl rfl rfl (zIn (w := 6232) (by decide +kernel) rfl) (by decide +kernel) (by decide +kernel) rfl (Nat.le_of_ble_eq_true rfl) rfl ?_
                    obtain ⟨v6, hv6⟩ : ∃ v, v = (g_X10_replicaHere v5 ty) := ⟨_, rfl⟩
                    rw [← hv6]
                    have ev6 : (d_X10_deed_6 M ty n oz) = v6 := by unfold d_X10_deed_6; (try rw [ev5]); exact hv6.symm
                    have tk6 : zTkP ty v6.2 := by rw [hv6]; exact (tk_X10_replicaHere v5 ty h600 tk5)
                    have lw6 : v6.2 1 = M 1 := by rw [hv6]; exact ((fr_X10_replicaHere v5 ty 1 (by decide)).trans lw5)
                    have rh6 : v6.2 0 18 = 0 → v6.1 = nI v6.1.toNatClampNeg ∧ v6.1.toNatClampNeg < n ∧ v5 0 18 = 0 := by rw [hv6]; exact e_X10_replicaHere v5 ty n h600 tk5 ((congrFun lw5 0).trans hn) h9
                    refine zT.run [(.istore 5, 0, 0, 0), (.aload_n 0, 0, 0, 0), (.aload_n 0, 0, 0, 0), (.getfield 235, 8, 18, 5167)] (pe := 323) (ls' := [some (.ref 0), some (.int (g_X10_isWord M ty 4)), some (.int (g_X10_isWord M ty 12)), some (.int (g_X10_isWord M ty 14)), some (.int (g_X10_isWord M ty 9)), some (.int v6.1), none, none]) (st' := [.int (v6.2 0 18), .ref 0]) (M' := v6.2) (by decide +kernel) rfl ?_
                    refine zT.join (342, [some (.ref 0), some (.int (g_X10_isWord M ty 4)), some (.int (g_X10_isWord M ty 12)), some (.int (g_X10_isWord M ty 14)), some (.int (g_X10_isWord M ty 9)), some (.int v6.1), none, none], [.int (if (v6.2 0 18) = 0 then (if (g_X10_isUp v6.2 v6.1.toNatClampNeg) = (g_X10_isWord M ty 12) then (16 : Int32) else (0 : Int32)) else (0 : Int32)), .ref 0], (sh_Model gp), v6.2) ?_ ?_
                    · refine zT.zne (tgt := 341) (off := 18) (by decide +kernel) (by decide) (fun (c10 : ¬ (v6.2 0 18) = 0) => ?_) (fun (c10 : (v6.2 0 18) = 0) => ?_)
                      · skip
                        refine zT.run [(.iconst 0, 0, 0, 0)] (pe := 342) (ls' := [some (.ref 0), some (.int (g_X10_isWord M ty 4)), some (.int (g_X10_isWord M ty 12)), some (.int (g_X10_isWord M ty 14)), some (.int (g_X10_isWord M ty 9)), some (.int v6.1), none, none]) (st' := [.int 0, .ref 0]) (M' := v6.2) (by decide +kernel) rfl ?_
                        exact zT.here (by simp only [if_neg c10]; try rfl)
                      · skip
                        refine zT.run [(.aload_n 0, 0, 0, 0), (.iload 5, 0, 0, 0)] (pe := 329) (ls' := [some (.ref 0), some (.int (g_X10_isWord M ty 4)), some (.int (g_X10_isWord M ty 12)), some (.int (g_X10_isWord M ty 14)), some (.int (g_X10_isWord M ty 9)), some (.int v6.1), none, none]) (st' := [.int v6.1, .ref 0, .ref 0]) (M' := v6.2) (by decide +kernel) rfl ?_
                        refine zT.eqS (congrArg (fun v : Int32 => ([.int v, .ref 0, .ref 0] : List Value)) (rh6 c10).1) ?_
                        refine zT.cV_own (o := 0) (idx := 86) (av := [.int (nI v6.1.toNatClampNeg)]) (rv := (some (.int (g_X10_isUp v6.2 v6.1.toNatClampNeg)))) (st := [.ref 0]) (S1 := [.int (g_X10_isUp v6.2 v6.1.toNatClampNeg), .ref 0]) (c_X10_isUp v6.2 gp v6.1.toNatClampNeg (Nat.lt_of_lt_of_le (rh6 c10).2.1 h9)) k_X10_isUp _ _ rfl rfl rfl (zIn (w := 5120) (by decide +kernel) rfl) (by decide +kernel) (by decide +kernel) rfl (Nat.le_of_ble_eq_true rfl) rfl ?_
                        refine zT.run [(.iload_n 2, 0, 0, 0)] (pe := 333) (ls' := [some (.ref 0), some (.int (g_X10_isWord M ty 4)), some (.int (g_X10_isWord M ty 12)), some (.int (g_X10_isWord M ty 14)), some (.int (g_X10_isWord M ty 9)), some (.int v6.1), none, none]) (st' := [.int (g_X10_isWord M ty 12), .int (g_X10_isUp v6.2 v6.1.toNatClampNeg), .ref 0]) (M' := v6.2) (by decide +kernel) rfl ?_
                        refine zT.cne (tgt := 341) (off := 8) (by decide +kernel) (by decide) (fun (c11 : ¬ (g_X10_isUp v6.2 v6.1.toNatClampNeg) = (g_X10_isWord M ty 12)) => ?_) (fun (c11 : (g_X10_isUp v6.2 v6.1.toNatClampNeg) = (g_X10_isWord M ty 12)) => ?_)
                        · skip
                          refine zT.run [(.iconst 0, 0, 0, 0)] (pe := 342) (ls' := [some (.ref 0), some (.int (g_X10_isWord M ty 4)), some (.int (g_X10_isWord M ty 12)), some (.int (g_X10_isWord M ty 14)), some (.int (g_X10_isWord M ty 9)), some (.int v6.1), none, none]) (st' := [.int 0, .ref 0]) (M' := v6.2) (by decide +kernel) rfl ?_
                          exact zT.here (by simp only [if_pos c10, if_neg c11]; try rfl)
                        · skip
                          refine zT.run [(.bipush 16, 0, 0, 0), (.goto 4, 0, 0, 0)] (pe := 342) (ls' := [some (.ref 0), some (.int (g_X10_isWord M ty 4)), some (.int (g_X10_isWord M ty 12)), some (.int (g_X10_isWord M ty 14)), some (.int (g_X10_isWord M ty 9)), some (.int v6.1), none, none]) (st' := [.int 16, .ref 0]) (M' := v6.2) (by decide +kernel) rfl ?_
                          exact zT.here (by simp only [if_pos c10, if_pos c11]; try rfl)
                    · skip
                      refine zT.cV_all (o := 0) (idx := 306) (av := [.int (if (v6.2 0 18) = 0 then (if (g_X10_isUp v6.2 v6.1.toNatClampNeg) = (g_X10_isWord M ty 12) then (16 : Int32) else (0 : Int32)) else (0 : Int32))]) (rv := (some (.int (g_X10_ends v6.2 (if (v6.2 0 18) = 0 then (if (g_X10_isUp v6.2 v6.1.toNatClampNeg) = (g_X10_isWord M ty 12) then (16 : Int32) else (0 : Int32)) else (0 : Int32))).1))) (st := []) (S1 := [.int (g_X10_ends v6.2 (if (v6.2 0 18) = 0 then (if (g_X10_isUp v6.2 v6.1.toNatClampNeg) = (g_X10_isWord M ty 12) then (16 : Int32) else (0 : Int32)) else (0 : Int32))).1]) (c_X10_ends v6.2 gp (if (v6.2 0 18) = 0 then (if (g_X10_isUp v6.2 v6.1.toNatClampNeg) = (g_X10_isWord M ty 12) then (16 : Int32) else (0 : Int32)) else (0 : Int32))) k_X10_ends _ _ rfl rfl rfl (zIn (w := 6201) (by decide +kernel) rfl) (by decide +kernel) (by decide +kernel) rfl (Nat.le_of_ble_eq_true rfl) rfl ?_
                      obtain ⟨v7, hv7⟩ : ∃ v, v = (g_X10_ends v6.2 (if (v6.2 0 18) = 0 then (if (g_X10_isUp v6.2 v6.1.toNatClampNeg) = (g_X10_isWord M ty 12) then (16 : Int32) else (0 : Int32)) else (0 : Int32))) := ⟨_, rfl⟩
                      rw [← hv7]
                      have ev7 : (d_X10_deed_7 M ty n oz) = v7 := by unfold d_X10_deed_7; (try rw [ev6]); exact hv7.symm
                      have tk7 : zTkP ty v7.2 := by rw [hv7]; exact (tk_X10_ends v6.2 (if (v6.2 0 18) = 0 then (if (g_X10_isUp v6.2 v6.1.toNatClampNeg) = (g_X10_isWord M ty 12) then (16 : Int32) else (0 : Int32)) else (0 : Int32)) h600 tk6)
                      have lw7 : v7.2 1 = M 1 := by rw [hv7]; exact ((fr_X10_ends v6.2 (if (v6.2 0 18) = 0 then (if (g_X10_isUp v6.2 v6.1.toNatClampNeg) = (g_X10_isWord M ty 12) then (16 : Int32) else (0 : Int32)) else (0 : Int32)) 1 (by decide)).trans lw6)
                      have en7 : ¬ v7.1 = 0 → v6.2 0 18 = 0 ∧ ((if (v6.2 0 18) = 0 then (if (g_X10_isUp v6.2 v6.1.toNatClampNeg) = (g_X10_isWord M ty 12) then (16 : Int32) else (0 : Int32)) else (0 : Int32)) : Int32) = 0 ∧ v7.2 = v6.2 := by rw [hv7]; exact fun h => ⟨(e_X10_ends v6.2 (if (v6.2 0 18) = 0 then (if (g_X10_isUp v6.2 v6.1.toNatClampNeg) = (g_X10_isWord M ty 12) then (16 : Int32) else (0 : Int32)) else (0 : Int32)) h600 tk6 h).1, (e_X10_ends v6.2 (if (v6.2 0 18) = 0 then (if (g_X10_isUp v6.2 v6.1.toNatClampNeg) = (g_X10_isWord M ty 12) then (16 : Int32) else (0 : Int32)) else (0 : Int32)) h600 tk6 h).2.1, (e_X10_ends v6.2 (if (v6.2 0 18) = 0 then (if (g_X10_isUp v6.2 v6.1.toNatClampNeg) = (g_X10_isWord M ty 12) then (16 : Int32) else (0 : Int32)) else (0 : Int32)) h600 tk6 h).2.2.2⟩
                      refine zT.zeq (tgt := 357) (off := 12) (by decide +kernel) (by decide) (fun (c12 : v7.1 = 0) => ?_) (fun (c12 : ¬ v7.1 = 0) => ?_)
                      · skip
                        refine zT.run [(.goto 76, 0, 0, 0)] (pe := 433) (ls' := [some (.ref 0), some (.int (g_X10_isWord M ty 4)), some (.int (g_X10_isWord M ty 12)), some (.int (g_X10_isWord M ty 14)), some (.int (g_X10_isWord M ty 9)), some (.int v6.1), none, none]) (st' := []) (M' := v7.2) (by decide +kernel) rfl ?_
                        exact zT.vret (by unfold g_X10_deed; (try rw [ev5]); (try rw [ev6]); (try rw [ev7]); first | done | rw [if_pos c1, if_pos c2, if_pos c3, if_pos c4, if_pos c5, if_pos c6, if_pos c7, if_pos c8, if_neg c9, if_pos c12] | rfl) rfl (by decide +kernel)
                      · skip
                        refine zT.run [(.aload_n 0, 0, 0, 0), (.iload 5, 0, 0, 0), (.iload_n 2, 0, 0, 0)] (pe := 352) (ls' := [some (.ref 0), some (.int (g_X10_isWord M ty 4)), some (.int (g_X10_isWord M ty 12)), some (.int (g_X10_isWord M ty 14)), some (.int (g_X10_isWord M ty 9)), some (.int v6.1), none, none]) (st' := [.int (g_X10_isWord M ty 12), .int v6.1, .ref 0]) (M' := v7.2) (by decide +kernel) rfl ?_
                        refine zT.eqS (congrArg (fun v : Int32 => ([.int (g_X10_isWord M ty 12), .int v, .ref 0] : List Value)) (rh6 (en7 c12).1).1) ?_
                        refine zT.cV_all (o := 0) (idx := 200) (av := [.int (nI v6.1.toNatClampNeg), .int (g_X10_isWord M ty 12)]) (rv := (some (.int (g_X10_upIt v7.2 n v6.1.toNatClampNeg (g_X10_isWord M ty 12)).1))) (st := []) (S1 := [.int (g_X10_upIt v7.2 n v6.1.toNatClampNeg (g_X10_isWord M ty 12)).1]) (c_X10_upIt v7.2 gp n v6.1.toNatClampNeg (g_X10_isWord M ty 12) ((congrFun lw7 0).trans hn) h9 (Nat.lt_of_lt_of_le (rh6 (en7 c12).1).2.1 h9)) k_X10_upIt _ _ rfl rfl rfl (zIn (w := 6115) (by decide +kernel) rfl) (by decide +kernel) (by decide +kernel) rfl (Nat.le_of_ble_eq_true rfl) rfl ?_
                        obtain ⟨v9, hv9⟩ : ∃ v, v = (g_X10_upIt v7.2 n v6.1.toNatClampNeg (g_X10_isWord M ty 12)) := ⟨_, rfl⟩
                        rw [← hv9]
                        have ev9 : (d_X10_deed_9 M ty n oz) = v9 := by unfold d_X10_deed_9; (try rw [ev6]); (try rw [ev7]); exact hv9.symm
                        have tk9 : zTkP ty v9.2 := by rw [hv9]; exact zTkP.of (fr_X10_upIt v7.2 n v6.1.toNatClampNeg (g_X10_isWord M ty 12) 0 (by decide)) tk7
                        refine zT.run [(.istore 6, 0, 0, 0), (.goto 76, 0, 0, 0)] (pe := 433) (ls' := [some (.ref 0), some (.int (g_X10_isWord M ty 4)), some (.int (g_X10_isWord M ty 12)), some (.int (g_X10_isWord M ty 14)), some (.int (g_X10_isWord M ty 9)), some (.int v6.1), some (.int v9.1), none]) (st' := []) (M' := v9.2) (by decide +kernel) rfl ?_
                        exact zT.vret (by unfold g_X10_deed; (try rw [ev5]); (try rw [ev6]); (try rw [ev7]); (try rw [ev9]); first | done | rw [if_pos c1, if_pos c2, if_pos c3, if_pos c4, if_pos c5, if_pos c6, if_pos c7, if_pos c8, if_neg c9, if_neg c12] | rfl) rfl (by decide +kernel)
                  · skip
                    refine zT.run [(.aload_n 0, 0, 0, 0)] (pe := 299) (ls' := [some (.ref 0), some (.int (g_X10_isWord M ty 4)), some (.int (g_X10_isWord M ty 12)), some (.int (g_X10_isWord M ty 14)), some (.int (g_X10_isWord M ty 9)), none, none, none]) (st' := [.ref 0]) (M' := M) (by decide +kernel) rfl ?_
                    refine zT.ldcSW 31 rfl rfl (by decide +kernel) ?_
                    refine zT.cV_own (o := 0) (idx := 264) (av := [.retAddr 211]) (rv := (some (.int (g_X10_isWord M ty 11)))) (st := []) (S1 := [.int (g_X10_isWord M ty 11)]) (c_X10_isWord M gp ty 11 h600 htk (by decide)) k_X10_isWord _ _ rfl rfl rfl (zIn (w := 6174) (by decide +kernel) rfl) (by decide +kernel) (by decide +kernel) rfl (Nat.le_of_ble_eq_true rfl) rfl ?_
                    refine zT.zeq (tgt := 360) (off := 55) (by decide +kernel) (by decide) (fun (c13 : (g_X10_isWord M ty 11) = 0) => ?_) (fun (c13 : ¬ (g_X10_isWord M ty 11) = 0) => ?_)
                    · skip
                      refine zT.run [(.iload_n 3, 0, 0, 0)] (pe := 361) (ls' := [some (.ref 0), some (.int (g_X10_isWord M ty 4)), some (.int (g_X10_isWord M ty 12)), some (.int (g_X10_isWord M ty 14)), some (.int (g_X10_isWord M ty 9)), none, none, none]) (st' := [.int (g_X10_isWord M ty 14)]) (M' := M) (by decide +kernel) rfl ?_
                      refine zT.zne (tgt := 374) (off := 13) (by decide +kernel) (by decide) (fun (c14 : ¬ (g_X10_isWord M ty 14) = 0) => ?_) (fun (c14 : (g_X10_isWord M ty 14) = 0) => ?_)
                      · skip
                        refine zT.run [(.aload_n 0, 0, 0, 0)] (pe := 375) (ls' := [some (.ref 0), some (.int (g_X10_isWord M ty 4)), some (.int (g_X10_isWord M ty 12)), some (.int (g_X10_isWord M ty 14)), some (.int (g_X10_isWord M ty 9)), none, none, none]) (st' := [.ref 0]) (M' := M) (by decide +kernel) rfl ?_
                        refine zT.cV_all (o := 0) (idx := 247) (av := []) (rv := none) (st := []) (S1 := []) (c_X10_scan M gp ty h600 htk.at) k_X10_scan _ _ rfl rfl rfl (zIn (w := 6161) (by decide +kernel) rfl) (by decide +kernel) (by decide +kernel) rfl (Nat.le_of_ble_eq_true rfl) rfl ?_
                        obtain ⟨v10, hv10⟩ : ∃ v, v = (g_X10_scan M ty) := ⟨_, rfl⟩
                        rw [← hv10]
                        have ev10 : (d_X10_deed_10 M ty n oz) = v10 := by unfold d_X10_deed_10; exact hv10.symm
                        have tk10 : zTkP ty v10 := by rw [hv10]; exact (tk_X10_scan M ty h600 htk)
                        have lw10 : v10 1 = M 1 := by rw [hv10]; exact (fr_X10_scan M ty 1 (by decide))
                        refine zT.run [(.aload_n 0, 0, 0, 0)] (pe := 379) (ls' := [some (.ref 0), some (.int (g_X10_isWord M ty 4)), some (.int (g_X10_isWord M ty 12)), some (.int (g_X10_isWord M ty 14)), some (.int (g_X10_isWord M ty 9)), none, none, none]) (st' := [.ref 0]) (M' := v10) (by decide +kernel) rfl ?_
                        refine zT.cV_all (o := 0) (idx := 316) (av := []) (rv := (some (.int (g_X10_replicaHere v10 ty).1))) (st := []) (S1 := [.int (g_X10_replicaHere v10 ty).1]) (c_X10_replicaHere v10 gp ty h600 tk10) k_X10_replicaHere _ _ rfl rfl rfl (zIn (w := 6232) (by decide +kernel) rfl) (by decide +kernel) (by decide +kernel) rfl (Nat.le_of_ble_eq_true rfl) rfl ?_
                        obtain ⟨v11, hv11⟩ : ∃ v, v = (g_X10_replicaHere v10 ty) := ⟨_, rfl⟩
                        rw [← hv11]
                        have ev11 : (d_X10_deed_11 M ty n oz) = v11 := by unfold d_X10_deed_11; (try rw [ev10]); exact hv11.symm
                        have tk11 : zTkP ty v11.2 := by rw [hv11]; exact (tk_X10_replicaHere v10 ty h600 tk10)
                        have lw11 : v11.2 1 = M 1 := by rw [hv11]; exact ((fr_X10_replicaHere v10 ty 1 (by decide)).trans lw10)
                        have rh11 : v11.2 0 18 = 0 → v11.1 = nI v11.1.toNatClampNeg ∧ v11.1.toNatClampNeg < n ∧ v10 0 18 = 0 := by rw [hv11]; exact e_X10_replicaHere v10 ty n h600 tk10 ((congrFun lw10 0).trans hn) h9
                        refine zT.run [(.istore 5, 0, 0, 0), (.aload_n 0, 0, 0, 0)] (pe := 385) (ls' := [some (.ref 0), some (.int (g_X10_isWord M ty 4)), some (.int (g_X10_isWord M ty 12)), some (.int (g_X10_isWord M ty 14)), some (.int (g_X10_isWord M ty 9)), some (.int v11.1), none, none]) (st' := [.ref 0]) (M' := v11.2) (by decide +kernel) rfl ?_
                        refine zT.cV_all (o := 0) (idx := 316) (av := []) (rv := (some (.int (g_X10_replicaHere v11.2 ty).1))) (st := []) (S1 := [.int (g_X10_replicaHere v11.2 ty).1]) (c_X10_replicaHere v11.2 gp ty h600 tk11) k_X10_replicaHere _ _ rfl rfl rfl (zIn (w := 6232) (by decide +kernel) rfl) (by decide +kernel) (by decide +kernel) rfl (Nat.le_of_ble_eq_true rfl) rfl ?_
                        obtain ⟨v12, hv12⟩ : ∃ v, v = (g_X10_replicaHere v11.2 ty) := ⟨_, rfl⟩
                        rw [← hv12]
                        have ev12 : (d_X10_deed_12 M ty n oz) = v12 := by unfold d_X10_deed_12; (try rw [ev11]); exact hv12.symm
                        have tk12 : zTkP ty v12.2 := by rw [hv12]; exact (tk_X10_replicaHere v11.2 ty h600 tk11)
                        have lw12 : v12.2 1 = M 1 := by rw [hv12]; exact ((fr_X10_replicaHere v11.2 ty 1 (by decide)).trans lw11)
                        have rh12 : v12.2 0 18 = 0 → v12.1 = nI v12.1.toNatClampNeg ∧ v12.1.toNatClampNeg < n ∧ v11.2 0 18 = 0 := by rw [hv12]; exact e_X10_replicaHere v11.2 ty n h600 tk11 ((congrFun lw11 0).trans hn) h9
                        refine zT.run [(.istore 6, 0, 0, 0), (.aload_n 0, 0, 0, 0), (.aload_n 0, 0, 0, 0), (.getfield 235, 8, 18, 5167)] (pe := 395) (ls' := [some (.ref 0), some (.int (g_X10_isWord M ty 4)), some (.int (g_X10_isWord M ty 12)), some (.int (g_X10_isWord M ty 14)), some (.int (g_X10_isWord M ty 9)), some (.int v11.1), some (.int v12.1), none]) (st' := [.int (v12.2 0 18), .ref 0]) (M' := v12.2) (by decide +kernel) rfl ?_
                        refine zT.join (411, [some (.ref 0), some (.int (g_X10_isWord M ty 4)), some (.int (g_X10_isWord M ty 12)), some (.int (g_X10_isWord M ty 14)), some (.int (g_X10_isWord M ty 9)), some (.int v11.1), some (.int v12.1), none], [.int (if (v12.2 0 18) = 0 then (g_X10_noLink v12.2 v11.1.toNatClampNeg v12.1 (g_X10_isWord M ty 14)) else (0 : Int32)), .ref 0], (sh_Model gp), v12.2) ?_ ?_
                        · refine zT.zne (tgt := 410) (off := 15) (by decide +kernel) (by decide) (fun (c15 : ¬ (v12.2 0 18) = 0) => ?_) (fun (c15 : (v12.2 0 18) = 0) => ?_)
                          · skip
                            refine zT.run [(.iconst 0, 0, 0, 0)] (pe := 411) (ls' := [some (.ref 0), some (.int (g_X10_isWord M ty 4)), some (.int (g_X10_isWord M ty 12)), some (.int (g_X10_isWord M ty 14)), some (.int (g_X10_isWord M ty 9)), some (.int v11.1), some (.int v12.1), none]) (st' := [.int 0, .ref 0]) (M' := v12.2) (by decide +kernel) rfl ?_
                            exact zT.here (by simp only [if_neg c15]; try rfl)
                          · skip
                            refine zT.run [(.aload_n 0, 0, 0, 0), (.iload 5, 0, 0, 0), (.iload 6, 0, 0, 0), (.iload_n 3, 0, 0, 0)] (pe := 404) (ls' := [some (.ref 0), some (.int (g_X10_isWord M ty 4)), some (.int (g_X10_isWord M ty 12)), some (.int (g_X10_isWord M ty 14)), some (.int (g_X10_isWord M ty 9)), some (.int v11.1), some (.int v12.1), none]) (st' := [.int (g_X10_isWord M ty 14), .int v12.1, .int v11.1, .ref 0, .ref 0]) (M' := v12.2) (by decide +kernel) rfl ?_
                            refine zT.eqS (congrArg (fun v : Int32 => ([.int (g_X10_isWord M ty 14), .int v12.1, .int v, .ref 0, .ref 0] : List Value)) (rh11 (rh12 c15).2.2).1) ?_
                            refine zT.cV_own (o := 0) (idx := 204) (av := [.int (nI v11.1.toNatClampNeg), .int v12.1, .int (g_X10_isWord M ty 14)]) (rv := (some (.int (g_X10_noLink v12.2 v11.1.toNatClampNeg v12.1 (g_X10_isWord M ty 14))))) (st := [.ref 0]) (S1 := [.int (g_X10_noLink v12.2 v11.1.toNatClampNeg v12.1 (g_X10_isWord M ty 14)), .ref 0]) (c_X10_noLink v12.2 gp v11.1.toNatClampNeg v12.1 (g_X10_isWord M ty 14) (Nat.lt_of_lt_of_le (rh11 (rh12 c15).2.2).2.1 h9)) k_X10_noLink _ _ rfl rfl rfl (zIn (w := 6127) (by decide +kernel) rfl) (by decide +kernel) (by decide +kernel) rfl (Nat.le_of_ble_eq_true rfl) rfl ?_
                            refine zT.run [(.goto 4, 0, 0, 0)] (pe := 411) (ls' := [some (.ref 0), some (.int (g_X10_isWord M ty 4)), some (.int (g_X10_isWord M ty 12)), some (.int (g_X10_isWord M ty 14)), some (.int (g_X10_isWord M ty 9)), some (.int v11.1), some (.int v12.1), none]) (st' := [.int (g_X10_noLink v12.2 v11.1.toNatClampNeg v12.1 (g_X10_isWord M ty 14)), .ref 0]) (M' := v12.2) (by decide +kernel) rfl ?_
                            exact zT.here (by simp only [if_pos c15]; try rfl)
                        · skip
                          refine zT.cV_all (o := 0) (idx := 306) (av := [.int (if (v12.2 0 18) = 0 then (g_X10_noLink v12.2 v11.1.toNatClampNeg v12.1 (g_X10_isWord M ty 14)) else (0 : Int32))]) (rv := (some (.int (g_X10_ends v12.2 (if (v12.2 0 18) = 0 then (g_X10_noLink v12.2 v11.1.toNatClampNeg v12.1 (g_X10_isWord M ty 14)) else (0 : Int32))).1))) (st := []) (S1 := [.int (g_X10_ends v12.2 (if (v12.2 0 18) = 0 then (g_X10_noLink v12.2 v11.1.toNatClampNeg v12.1 (g_X10_isWord M ty 14)) else (0 : Int32))).1]) (c_X10_ends v12.2 gp (if (v12.2 0 18) = 0 then (g_X10_noLink v12.2 v11.1.toNatClampNeg v12.1 (g_X10_isWord M ty 14)) else (0 : Int32))) k_X10_ends _ _ rfl rfl rfl (zIn (w := 6201) (by decide +kernel) rfl) (by decide +kernel) (by decide +kernel) rfl (Nat.le_of_ble_eq_true rfl) rfl ?_
                          obtain ⟨v13, hv13⟩ : ∃ v, v = (g_X10_ends v12.2 (if (v12.2 0 18) = 0 then (g_X10_noLink v12.2 v11.1.toNatClampNeg v12.1 (g_X10_isWord M ty 14)) else (0 : Int32))) := ⟨_, rfl⟩
                          rw [← hv13]
                          have ev13 : (d_X10_deed_13 M ty n oz) = v13 := by unfold d_X10_deed_13; (try rw [ev11]); (try rw [ev12]); exact hv13.symm
                          have tk13 : zTkP ty v13.2 := by rw [hv13]; exact (tk_X10_ends v12.2 (if (v12.2 0 18) = 0 then (g_X10_noLink v12.2 v11.1.toNatClampNeg v12.1 (g_X10_isWord M ty 14)) else (0 : Int32)) h600 tk12)
                          have lw13 : v13.2 1 = M 1 := by rw [hv13]; exact ((fr_X10_ends v12.2 (if (v12.2 0 18) = 0 then (g_X10_noLink v12.2 v11.1.toNatClampNeg v12.1 (g_X10_isWord M ty 14)) else (0 : Int32)) 1 (by decide)).trans lw12)
                          have en13 : ¬ v13.1 = 0 → v12.2 0 18 = 0 ∧ ((if (v12.2 0 18) = 0 then (g_X10_noLink v12.2 v11.1.toNatClampNeg v12.1 (g_X10_isWord M ty 14)) else (0 : Int32)) : Int32) = 0 ∧ v13.2 = v12.2 := by rw [hv13]; exact fun h => ⟨(e_X10_ends v12.2 (if (v12.2 0 18) = 0 then (g_X10_noLink v12.2 v11.1.toNatClampNeg v12.1 (g_X10_isWord M ty 14)) else (0 : Int32)) h600 tk12 h).1, (e_X10_ends v12.2 (if (v12.2 0 18) = 0 then (g_X10_noLink v12.2 v11.1.toNatClampNeg v12.1 (g_X10_isWord M ty 14)) else (0 : Int32)) h600 tk12 h).2.1, (e_X10_ends v12.2 (if (v12.2 0 18) = 0 then (g_X10_noLink v12.2 v11.1.toNatClampNeg v12.1 (g_X10_isWord M ty 14)) else (0 : Int32)) h600 tk12 h).2.2.2⟩
                          refine zT.zeq (tgt := 426) (off := 12) (by decide +kernel) (by decide) (fun (c16 : v13.1 = 0) => ?_) (fun (c16 : ¬ v13.1 = 0) => ?_)
                          · skip
                            refine zT.run [(.goto 7, 0, 0, 0)] (pe := 433) (ls' := [some (.ref 0), some (.int (g_X10_isWord M ty 4)), some (.int (g_X10_isWord M ty 12)), some (.int (g_X10_isWord M ty 14)), some (.int (g_X10_isWord M ty 9)), some (.int v11.1), some (.int v12.1), none]) (st' := []) (M' := v13.2) (by decide +kernel) rfl ?_
                            exact zT.vret (by unfold g_X10_deed; (try rw [ev10]); (try rw [ev11]); (try rw [ev12]); (try rw [ev13]); first | done | rw [if_pos c1, if_pos c2, if_pos c3, if_pos c4, if_pos c5, if_pos c6, if_pos c7, if_pos c8, if_pos c9, if_pos c13, if_neg c14, if_pos c16] | rfl) rfl (by decide +kernel)
                          · skip
                            refine zT.run [(.aload_n 0, 0, 0, 0), (.iload 5, 0, 0, 0), (.iload 6, 0, 0, 0), (.iload_n 3, 0, 0, 0)] (pe := 423) (ls' := [some (.ref 0), some (.int (g_X10_isWord M ty 4)), some (.int (g_X10_isWord M ty 12)), some (.int (g_X10_isWord M ty 14)), some (.int (g_X10_isWord M ty 9)), some (.int v11.1), some (.int v12.1), none]) (st' := [.int (g_X10_isWord M ty 14), .int v12.1, .int v11.1, .ref 0]) (M' := v13.2) (by decide +kernel) rfl ?_
                            refine zT.eqS (congrArg (fun v : Int32 => ([.int (g_X10_isWord M ty 14), .int v12.1, .int v, .ref 0] : List Value)) (rh11 (rh12 (en13 c16).1).2.2).1) ?_
                            refine zT.eqS (congrArg (fun v : Int32 => ([.int (g_X10_isWord M ty 14), .int v, .int (nI v11.1.toNatClampNeg), .ref 0] : List Value)) (rh12 (en13 c16).1).1) ?_
                            refine zT.cV_all (o := 0) (idx := 45) (av := [.int (nI v11.1.toNatClampNeg), .int (nI v12.1.toNatClampNeg), .int (g_X10_isWord M ty 14)]) (rv := none) (st := []) (S1 := []) (c_X10_link v13.2 gp v11.1.toNatClampNeg v12.1.toNatClampNeg (g_X10_isWord M ty 14) (Nat.lt_of_lt_of_le (rh11 (rh12 (en13 c16).1).2.2).2.1 h9) (Nat.lt_of_lt_of_le (rh12 (en13 c16).1).2.1 h9)) k_X10_link _ _ rfl rfl rfl (zIn (w := 5104) (by decide +kernel) rfl) (by decide +kernel) (by decide +kernel) rfl (Nat.le_of_ble_eq_true rfl) rfl ?_
                            obtain ⟨v15, hv15⟩ : ∃ v, v = (g_X10_link v13.2 v11.1.toNatClampNeg v12.1.toNatClampNeg (g_X10_isWord M ty 14)) := ⟨_, rfl⟩
                            rw [← hv15]
                            have ev15 : (d_X10_deed_15 M ty n oz) = v15 := by unfold d_X10_deed_15; (try rw [ev11]); (try rw [ev12]); (try rw [ev13]); exact hv15.symm
                            have tk15 : zTkP ty v15 := by rw [hv15]; exact zTkP.of (fr_X10_link v13.2 v11.1.toNatClampNeg v12.1.toNatClampNeg (g_X10_isWord M ty 14) 0 (by decide)) tk13
                            refine zT.run [(.goto 7, 0, 0, 0)] (pe := 433) (ls' := [some (.ref 0), some (.int (g_X10_isWord M ty 4)), some (.int (g_X10_isWord M ty 12)), some (.int (g_X10_isWord M ty 14)), some (.int (g_X10_isWord M ty 9)), some (.int v11.1), some (.int v12.1), none]) (st' := []) (M' := v15) (by decide +kernel) rfl ?_
                            exact zT.vret (by unfold g_X10_deed; (try rw [ev10]); (try rw [ev11]); (try rw [ev12]); (try rw [ev13]); (try rw [ev15]); first | done | rw [if_pos c1, if_pos c2, if_pos c3, if_pos c4, if_pos c5, if_pos c6, if_pos c7, if_pos c8, if_pos c9, if_pos c13, if_neg c14, if_neg c16] | rfl) rfl (by decide +kernel)
                      · skip
                        refine zT.run [(.aload_n 0, 0, 0, 0)] (pe := 365) (ls' := [some (.ref 0), some (.int (g_X10_isWord M ty 4)), some (.int (g_X10_isWord M ty 12)), some (.int (g_X10_isWord M ty 14)), some (.int (g_X10_isWord M ty 9)), none, none, none]) (st' := [.ref 0]) (M' := M) (by decide +kernel) rfl ?_
                        refine zT.ldcSW 33 rfl rfl (by decide +kernel) ?_
                        refine zT.cV_own (o := 0) (idx := 264) (av := [.retAddr 213]) (rv := (some (.int (g_X10_isWord M ty 13)))) (st := []) (S1 := [.int (g_X10_isWord M ty 13)]) (c_X10_isWord M gp ty 13 h600 htk (by decide)) k_X10_isWord _ _ rfl rfl rfl (zIn (w := 6174) (by decide +kernel) rfl) (by decide +kernel) (by decide +kernel) rfl (Nat.le_of_ble_eq_true rfl) rfl ?_
                        refine zT.zeq (tgt := 429) (off := 58) (by decide +kernel) (by decide) (fun (c17 : (g_X10_isWord M ty 13) = 0) => ?_) (fun (c17 : ¬ (g_X10_isWord M ty 13) = 0) => ?_)
                        · skip
                          refine zT.run [(.aload_n 0, 0, 0, 0)] (pe := 430) (ls' := [some (.ref 0), some (.int (g_X10_isWord M ty 4)), some (.int (g_X10_isWord M ty 12)), some (.int (g_X10_isWord M ty 14)), some (.int (g_X10_isWord M ty 9)), none, none, none]) (st' := [.ref 0]) (M' := M) (by decide +kernel) rfl ?_
                          refine zT.cV_all (o := 0) (idx := 323) (av := []) (rv := none) (st := []) (S1 := []) (c_X10_bareDeed M gp ty n oz h600 htk hn h9 hd hv hoz h12 hP) k_X10_bareDeed _ _ rfl rfl rfl (zIn (w := 7000) (by decide +kernel) rfl) (by decide +kernel) (by decide +kernel) rfl (Nat.le_of_ble_eq_true rfl) rfl ?_
                          obtain ⟨v16, hv16⟩ : ∃ v, v = (g_X10_bareDeed M ty n oz) := ⟨_, rfl⟩
                          rw [← hv16]
                          have ev16 : (d_X10_deed_16 M ty n oz) = v16 := by unfold d_X10_deed_16; exact hv16.symm
                          have tk16 : zTkP ty v16 := by rw [hv16]; exact (tk_X10_bareDeed M ty n oz h600 htk)
                          exact zT.vret (by unfold g_X10_deed; (try rw [ev16]); first | done | rw [if_pos c1, if_pos c2, if_pos c3, if_pos c4, if_pos c5, if_pos c6, if_pos c7, if_pos c8, if_pos c9, if_pos c13, if_pos c14, if_pos c17] | rfl) rfl (by decide +kernel)
                        · skip
                          refine zT.run [(.aload_n 0, 0, 0, 0)] (pe := 375) (ls' := [some (.ref 0), some (.int (g_X10_isWord M ty 4)), some (.int (g_X10_isWord M ty 12)), some (.int (g_X10_isWord M ty 14)), some (.int (g_X10_isWord M ty 9)), none, none, none]) (st' := [.ref 0]) (M' := M) (by decide +kernel) rfl ?_
                          refine zT.cV_all (o := 0) (idx := 247) (av := []) (rv := none) (st := []) (S1 := []) (c_X10_scan M gp ty h600 htk.at) k_X10_scan _ _ rfl rfl rfl (zIn (w := 6161) (by decide +kernel) rfl) (by decide +kernel) (by decide +kernel) rfl (Nat.le_of_ble_eq_true rfl) rfl ?_
                          obtain ⟨v17, hv17⟩ : ∃ v, v = (g_X10_scan M ty) := ⟨_, rfl⟩
                          rw [← hv17]
                          have ev17 : (d_X10_deed_17 M ty n oz) = v17 := by unfold d_X10_deed_17; exact hv17.symm
                          have tk17 : zTkP ty v17 := by rw [hv17]; exact (tk_X10_scan M ty h600 htk)
                          have lw17 : v17 1 = M 1 := by rw [hv17]; exact (fr_X10_scan M ty 1 (by decide))
                          refine zT.run [(.aload_n 0, 0, 0, 0)] (pe := 379) (ls' := [some (.ref 0), some (.int (g_X10_isWord M ty 4)), some (.int (g_X10_isWord M ty 12)), some (.int (g_X10_isWord M ty 14)), some (.int (g_X10_isWord M ty 9)), none, none, none]) (st' := [.ref 0]) (M' := v17) (by decide +kernel) rfl ?_
                          refine zT.cV_all (o := 0) (idx := 316) (av := []) (rv := (some (.int (g_X10_replicaHere v17 ty).1))) (st := []) (S1 := [.int (g_X10_replicaHere v17 ty).1]) (c_X10_replicaHere v17 gp ty h600 tk17) k_X10_replicaHere _ _ rfl rfl rfl (zIn (w := 6232) (by decide +kernel) rfl) (by decide +kernel) (by decide +kernel) rfl (Nat.le_of_ble_eq_true rfl) rfl ?_
                          obtain ⟨v18, hv18⟩ : ∃ v, v = (g_X10_replicaHere v17 ty) := ⟨_, rfl⟩
                          rw [← hv18]
                          have ev18 : (d_X10_deed_18 M ty n oz) = v18 := by unfold d_X10_deed_18; (try rw [ev17]); exact hv18.symm
                          have tk18 : zTkP ty v18.2 := by rw [hv18]; exact (tk_X10_replicaHere v17 ty h600 tk17)
                          have lw18 : v18.2 1 = M 1 := by rw [hv18]; exact ((fr_X10_replicaHere v17 ty 1 (by decide)).trans lw17)
                          have rh18 : v18.2 0 18 = 0 → v18.1 = nI v18.1.toNatClampNeg ∧ v18.1.toNatClampNeg < n ∧ v17 0 18 = 0 := by rw [hv18]; exact e_X10_replicaHere v17 ty n h600 tk17 ((congrFun lw17 0).trans hn) h9
                          refine zT.run [(.istore 5, 0, 0, 0), (.aload_n 0, 0, 0, 0)] (pe := 385) (ls' := [some (.ref 0), some (.int (g_X10_isWord M ty 4)), some (.int (g_X10_isWord M ty 12)), some (.int (g_X10_isWord M ty 14)), some (.int (g_X10_isWord M ty 9)), some (.int v18.1), none, none]) (st' := [.ref 0]) (M' := v18.2) (by decide +kernel) rfl ?_
                          refine zT.cV_all (o := 0) (idx := 316) (av := []) (rv := (some (.int (g_X10_replicaHere v18.2 ty).1))) (st := []) (S1 := [.int (g_X10_replicaHere v18.2 ty).1]) (c_X10_replicaHere v18.2 gp ty h600 tk18) k_X10_replicaHere _ _ rfl rfl rfl (zIn (w := 6232) (by decide +kernel) rfl) (by decide +kernel) (by decide +kernel) rfl (Nat.le_of_ble_eq_true rfl) rfl ?_
                          obtain ⟨v19, hv19⟩ : ∃ v, v = (g_X10_replicaHere v18.2 ty) := ⟨_, rfl⟩
                          rw [← hv19]
                          have ev19 : (d_X10_deed_19 M ty n oz) = v19 := by unfold d_X10_deed_19; (try rw [ev18]); exact hv19.symm
                          have tk19 : zTkP ty v19.2 := by rw [hv19]; exact (tk_X10_replicaHere v18.2 ty h600 tk18)
                          have lw19 : v19.2 1 = M 1 := by rw [hv19]; exact ((fr_X10_replicaHere v18.2 ty 1 (by decide)).trans lw18)
                          have rh19 : v19.2 0 18 = 0 → v19.1 = nI v19.1.toNatClampNeg ∧ v19.1.toNatClampNeg < n ∧ v18.2 0 18 = 0 := by rw [hv19]; exact e_X10_replicaHere v18.2 ty n h600 tk18 ((congrFun lw18 0).trans hn) h9
                          refine zT.run [(.istore 6, 0, 0, 0), (.aload_n 0, 0, 0, 0), (.aload_n 0, 0, 0, 0), (.getfield 235, 8, 18, 5167)] (pe := 395) (ls' := [some (.ref 0), some (.int (g_X10_isWord M ty 4)), some (.int (g_X10_isWord M ty 12)), some (.int (g_X10_isWord M ty 14)), some (.int (g_X10_isWord M ty 9)), some (.int v18.1), some (.int v19.1), none]) (st' := [.int (v19.2 0 18), .ref 0]) (M' := v19.2) (by decide +kernel) rfl ?_
                          refine zT.join (411, [some (.ref 0), some (.int (g_X10_isWord M ty 4)), some (.int (g_X10_isWord M ty 12)), some (.int (g_X10_isWord M ty 14)), some (.int (g_X10_isWord M ty 9)), some (.int v18.1), some (.int v19.1), none], [.int (if (v19.2 0 18) = 0 then (g_X10_noLink v19.2 v18.1.toNatClampNeg v19.1 (g_X10_isWord M ty 14)) else (0 : Int32)), .ref 0], (sh_Model gp), v19.2) ?_ ?_
                          · refine zT.zne (tgt := 410) (off := 15) (by decide +kernel) (by decide) (fun (c18 : ¬ (v19.2 0 18) = 0) => ?_) (fun (c18 : (v19.2 0 18) = 0) => ?_)
                            · skip
                              refine zT.run [(.iconst 0, 0, 0, 0)] (pe := 411) (ls' := [some (.ref 0), some (.int (g_X10_isWord M ty 4)), some (.int (g_X10_isWord M ty 12)), some (.int (g_X10_isWord M ty 14)), some (.int (g_X10_isWord M ty 9)), some (.int v18.1), some (.int v19.1), none]) (st' := [.int 0, .ref 0]) (M' := v19.2) (by decide +kernel) rfl ?_
                              exact zT.here (by simp only [if_neg c18]; try rfl)
                            · skip
                              refine zT.run [(.aload_n 0, 0, 0, 0), (.iload 5, 0, 0, 0), (.iload 6, 0, 0, 0), (.iload_n 3, 0, 0, 0)] (pe := 404) (ls' := [some (.ref 0), some (.int (g_X10_isWord M ty 4)), some (.int (g_X10_isWord M ty 12)), some (.int (g_X10_isWord M ty 14)), some (.int (g_X10_isWord M ty 9)), some (.int v18.1), some (.int v19.1), none]) (st' := [.int (g_X10_isWord M ty 14), .int v19.1, .int v18.1, .ref 0, .ref 0]) (M' := v19.2) (by decide +kernel) rfl ?_
                              refine zT.eqS (congrArg (fun v : Int32 => ([.int (g_X10_isWord M ty 14), .int v19.1, .int v, .ref 0, .ref 0] : List Value)) (rh18 (rh19 c18).2.2).1) ?_
                              refine zT.cV_own (o := 0) (idx := 204) (av := [.int (nI v18.1.toNatClampNeg), .int v19.1, .int (g_X10_isWord M ty 14)]) (rv := (some (.int (g_X10_noLink v19.2 v18.1.toNatClampNeg v19.1 (g_X10_isWord M ty 14))))) (st := [.ref 0]) (S1 := [.int (g_X10_noLink v19.2 v18.1.toNatClampNeg v19.1 (g_X10_isWord M ty 14)), .ref 0]) (c_X10_noLink v19.2 gp v18.1.toNatClampNeg v19.1 (g_X10_isWord M ty 14) (Nat.lt_of_lt_of_le (rh18 (rh19 c18).2.2).2.1 h9)) k_X10_noLink _ _ rfl rfl rfl (zIn (w := 6127) (by decide +kernel) rfl) (by decide +kernel) (by decide +kernel) rfl (Nat.le_of_ble_eq_true rfl) rfl ?_
                              refine zT.run [(.goto 4, 0, 0, 0)] (pe := 411) (ls' := [some (.ref 0), some (.int (g_X10_isWord M ty 4)), some (.int (g_X10_isWord M ty 12)), some (.int (g_X10_isWord M ty 14)), some (.int (g_X10_isWord M ty 9)), some (.int v18.1), some (.int v19.1), none]) (st' := [.int (g_X10_noLink v19.2 v18.1.toNatClampNeg v19.1 (g_X10_isWord M ty 14)), .ref 0]) (M' := v19.2) (by decide +kernel) rfl ?_
                              exact zT.here (by simp only [if_pos c18]; try rfl)
                          · skip
                            refine zT.cV_all (o := 0) (idx := 306) (av := [.int (if (v19.2 0 18) = 0 then (g_X10_noLink v19.2 v18.1.toNatClampNeg v19.1 (g_X10_isWord M ty 14)) else (0 : Int32))]) (rv := (some (.int (g_X10_ends v19.2 (if (v19.2 0 18) = 0 then (g_X10_noLink v19.2 v18.1.toNatClampNeg v19.1 (g_X10_isWord M ty 14)) else (0 : Int32))).1))) (st := []) (S1 := [.int (g_X10_ends v19.2 (if (v19.2 0 18) = 0 then (g_X10_noLink v19.2 v18.1.toNatClampNeg v19.1 (g_X10_isWord M ty 14)) else (0 : Int32))).1]) (c_X10_ends v19.2 gp (if (v19.2 0 18) = 0 then (g_X10_noLink v19.2 v18.1.toNatClampNeg v19.1 (g_X10_isWord M ty 14)) else (0 : Int32))) k_X10_ends _ _ rfl rfl rfl (zIn (w := 6201) (by decide +kernel) rfl) (by decide +kernel) (by decide +kernel) rfl (Nat.le_of_ble_eq_true rfl) rfl ?_
                            obtain ⟨v20, hv20⟩ : ∃ v, v = (g_X10_ends v19.2 (if (v19.2 0 18) = 0 then (g_X10_noLink v19.2 v18.1.toNatClampNeg v19.1 (g_X10_isWord M ty 14)) else (0 : Int32))) := ⟨_, rfl⟩
                            rw [← hv20]
                            have ev20 : (d_X10_deed_20 M ty n oz) = v20 := by unfold d_X10_deed_20; (try rw [ev18]); (try rw [ev19]); exact hv20.symm
                            have tk20 : zTkP ty v20.2 := by rw [hv20]; exact (tk_X10_ends v19.2 (if (v19.2 0 18) = 0 then (g_X10_noLink v19.2 v18.1.toNatClampNeg v19.1 (g_X10_isWord M ty 14)) else (0 : Int32)) h600 tk19)
                            have lw20 : v20.2 1 = M 1 := by rw [hv20]; exact ((fr_X10_ends v19.2 (if (v19.2 0 18) = 0 then (g_X10_noLink v19.2 v18.1.toNatClampNeg v19.1 (g_X10_isWord M ty 14)) else (0 : Int32)) 1 (by decide)).trans lw19)
                            have en20 : ¬ v20.1 = 0 → v19.2 0 18 = 0 ∧ ((if (v19.2 0 18) = 0 then (g_X10_noLink v19.2 v18.1.toNatClampNeg v19.1 (g_X10_isWord M ty 14)) else (0 : Int32)) : Int32) = 0 ∧ v20.2 = v19.2 := by rw [hv20]; exact fun h => ⟨(e_X10_ends v19.2 (if (v19.2 0 18) = 0 then (g_X10_noLink v19.2 v18.1.toNatClampNeg v19.1 (g_X10_isWord M ty 14)) else (0 : Int32)) h600 tk19 h).1, (e_X10_ends v19.2 (if (v19.2 0 18) = 0 then (g_X10_noLink v19.2 v18.1.toNatClampNeg v19.1 (g_X10_isWord M ty 14)) else (0 : Int32)) h600 tk19 h).2.1, (e_X10_ends v19.2 (if (v19.2 0 18) = 0 then (g_X10_noLink v19.2 v18.1.toNatClampNeg v19.1 (g_X10_isWord M ty 14)) else (0 : Int32)) h600 tk19 h).2.2.2⟩
                            refine zT.zeq (tgt := 426) (off := 12) (by decide +kernel) (by decide) (fun (c19 : v20.1 = 0) => ?_) (fun (c19 : ¬ v20.1 = 0) => ?_)
                            · skip
                              refine zT.run [(.goto 7, 0, 0, 0)] (pe := 433) (ls' := [some (.ref 0), some (.int (g_X10_isWord M ty 4)), some (.int (g_X10_isWord M ty 12)), some (.int (g_X10_isWord M ty 14)), some (.int (g_X10_isWord M ty 9)), some (.int v18.1), some (.int v19.1), none]) (st' := []) (M' := v20.2) (by decide +kernel) rfl ?_
                              exact zT.vret (by unfold g_X10_deed; (try rw [ev17]); (try rw [ev18]); (try rw [ev19]); (try rw [ev20]); first | done | rw [if_pos c1, if_pos c2, if_pos c3, if_pos c4, if_pos c5, if_pos c6, if_pos c7, if_pos c8, if_pos c9, if_pos c13, if_pos c14, if_neg c17, if_pos c19] | rfl) rfl (by decide +kernel)
                            · skip
                              refine zT.run [(.aload_n 0, 0, 0, 0), (.iload 5, 0, 0, 0), (.iload 6, 0, 0, 0), (.iload_n 3, 0, 0, 0)] (pe := 423) (ls' := [some (.ref 0), some (.int (g_X10_isWord M ty 4)), some (.int (g_X10_isWord M ty 12)), some (.int (g_X10_isWord M ty 14)), some (.int (g_X10_isWord M ty 9)), some (.int v18.1), some (.int v19.1), none]) (st' := [.int (g_X10_isWord M ty 14), .int v19.1, .int v18.1, .ref 0]) (M' := v20.2) (by decide +kernel) rfl ?_
                              refine zT.eqS (congrArg (fun v : Int32 => ([.int (g_X10_isWord M ty 14), .int v19.1, .int v, .ref 0] : List Value)) (rh18 (rh19 (en20 c19).1).2.2).1) ?_
                              refine zT.eqS (congrArg (fun v : Int32 => ([.int (g_X10_isWord M ty 14), .int v, .int (nI v18.1.toNatClampNeg), .ref 0] : List Value)) (rh19 (en20 c19).1).1) ?_
                              refine zT.cV_all (o := 0) (idx := 45) (av := [.int (nI v18.1.toNatClampNeg), .int (nI v19.1.toNatClampNeg), .int (g_X10_isWord M ty 14)]) (rv := none) (st := []) (S1 := []) (c_X10_link v20.2 gp v18.1.toNatClampNeg v19.1.toNatClampNeg (g_X10_isWord M ty 14) (Nat.lt_of_lt_of_le (rh18 (rh19 (en20 c19).1).2.2).2.1 h9) (Nat.lt_of_lt_of_le (rh19 (en20 c19).1).2.1 h9)) k_X10_link _ _ rfl rfl rfl (zIn (w := 5104) (by decide +kernel) rfl) (by decide +kernel) (by decide +kernel) rfl (Nat.le_of_ble_eq_true rfl) rfl ?_
                              obtain ⟨v22, hv22⟩ : ∃ v, v = (g_X10_link v20.2 v18.1.toNatClampNeg v19.1.toNatClampNeg (g_X10_isWord M ty 14)) := ⟨_, rfl⟩
                              rw [← hv22]
                              have ev22 : (d_X10_deed_22 M ty n oz) = v22 := by unfold d_X10_deed_22; (try rw [ev18]); (try rw [ev19]); (try rw [ev20]); exact hv22.symm
                              have tk22 : zTkP ty v22 := by rw [hv22]; exact zTkP.of (fr_X10_link v20.2 v18.1.toNatClampNeg v19.1.toNatClampNeg (g_X10_isWord M ty 14) 0 (by decide)) tk20
                              refine zT.run [(.goto 7, 0, 0, 0)] (pe := 433) (ls' := [some (.ref 0), some (.int (g_X10_isWord M ty 4)), some (.int (g_X10_isWord M ty 12)), some (.int (g_X10_isWord M ty 14)), some (.int (g_X10_isWord M ty 9)), some (.int v18.1), some (.int v19.1), none]) (st' := []) (M' := v22) (by decide +kernel) rfl ?_
                              exact zT.vret (by unfold g_X10_deed; (try rw [ev17]); (try rw [ev18]); (try rw [ev19]); (try rw [ev20]); (try rw [ev22]); first | done | rw [if_pos c1, if_pos c2, if_pos c3, if_pos c4, if_pos c5, if_pos c6, if_pos c7, if_pos c8, if_pos c9, if_pos c13, if_pos c14, if_neg c17, if_neg c19] | rfl) rfl (by decide +kernel)
                    · skip
                      refine zT.run [(.aload_n 0, 0, 0, 0)] (pe := 309) (ls' := [some (.ref 0), some (.int (g_X10_isWord M ty 4)), some (.int (g_X10_isWord M ty 12)), some (.int (g_X10_isWord M ty 14)), some (.int (g_X10_isWord M ty 9)), none, none, none]) (st' := [.ref 0]) (M' := M) (by decide +kernel) rfl ?_
                      refine zT.cV_all (o := 0) (idx := 247) (av := []) (rv := none) (st := []) (S1 := []) (c_X10_scan M gp ty h600 htk.at) k_X10_scan _ _ rfl rfl rfl (zIn (w := 6161) (by decide +kernel) rfl) (by decide +kernel) (by decide +kernel) rfl (Nat.le_of_ble_eq_true rfl) rfl ?_
                      obtain ⟨v23, hv23⟩ : ∃ v, v = (g_X10_scan M ty) := ⟨_, rfl⟩
                      rw [← hv23]
                      have ev23 : (d_X10_deed_23 M ty n oz) = v23 := by unfold d_X10_deed_23; exact hv23.symm
                      have tk23 : zTkP ty v23 := by rw [hv23]; exact (tk_X10_scan M ty h600 htk)
                      have lw23 : v23 1 = M 1 := by rw [hv23]; exact (fr_X10_scan M ty 1 (by decide))
                      refine zT.run [(.aload_n 0, 0, 0, 0)] (pe := 313) (ls' := [some (.ref 0), some (.int (g_X10_isWord M ty 4)), some (.int (g_X10_isWord M ty 12)), some (.int (g_X10_isWord M ty 14)), some (.int (g_X10_isWord M ty 9)), none, none, none]) (st' := [.ref 0]) (M' := v23) (by decide +kernel) rfl ?_
                      refine zT.cV_all (o := 0) (idx := 316) (av := []) (rv := (some (.int (g_X10_replicaHere v23 ty).1))) (st := []) (S1 := [.int (g_X10_replicaHere v23 ty).1]) (c_X10_replicaHere v23 gp ty h600 tk23) k_X10_replicaHere _ _ rfl rfl rfl (zIn (w := 6232) (by decide +kernel) rfl) (by decide +kernel) (by decide +kernel) rfl (Nat.le_of_ble_eq_true rfl) rfl ?_
                      obtain ⟨v24, hv24⟩ : ∃ v, v = (g_X10_replicaHere v23 ty) := ⟨_, rfl⟩
                      rw [← hv24]
                      have ev24 : (d_X10_deed_24 M ty n oz) = v24 := by unfold d_X10_deed_24; (try rw [ev23]); exact hv24.symm
                      have tk24 : zTkP ty v24.2 := by rw [hv24]; exact (tk_X10_replicaHere v23 ty h600 tk23)
                      have lw24 : v24.2 1 = M 1 := by rw [hv24]; exact ((fr_X10_replicaHere v23 ty 1 (by decide)).trans lw23)
                      have rh24 : v24.2 0 18 = 0 → v24.1 = nI v24.1.toNatClampNeg ∧ v24.1.toNatClampNeg < n ∧ v23 0 18 = 0 := by rw [hv24]; exact e_X10_replicaHere v23 ty n h600 tk23 ((congrFun lw23 0).trans hn) h9
                      refine zT.run [(.istore 5, 0, 0, 0), (.aload_n 0, 0, 0, 0), (.aload_n 0, 0, 0, 0), (.getfield 235, 8, 18, 5167)] (pe := 323) (ls' := [some (.ref 0), some (.int (g_X10_isWord M ty 4)), some (.int (g_X10_isWord M ty 12)), some (.int (g_X10_isWord M ty 14)), some (.int (g_X10_isWord M ty 9)), some (.int v24.1), none, none]) (st' := [.int (v24.2 0 18), .ref 0]) (M' := v24.2) (by decide +kernel) rfl ?_
                      refine zT.join (342, [some (.ref 0), some (.int (g_X10_isWord M ty 4)), some (.int (g_X10_isWord M ty 12)), some (.int (g_X10_isWord M ty 14)), some (.int (g_X10_isWord M ty 9)), some (.int v24.1), none, none], [.int (if (v24.2 0 18) = 0 then (if (g_X10_isUp v24.2 v24.1.toNatClampNeg) = (g_X10_isWord M ty 12) then (16 : Int32) else (0 : Int32)) else (0 : Int32)), .ref 0], (sh_Model gp), v24.2) ?_ ?_
                      · refine zT.zne (tgt := 341) (off := 18) (by decide +kernel) (by decide) (fun (c20 : ¬ (v24.2 0 18) = 0) => ?_) (fun (c20 : (v24.2 0 18) = 0) => ?_)
                        · skip
                          refine zT.run [(.iconst 0, 0, 0, 0)] (pe := 342) (ls' := [some (.ref 0), some (.int (g_X10_isWord M ty 4)), some (.int (g_X10_isWord M ty 12)), some (.int (g_X10_isWord M ty 14)), some (.int (g_X10_isWord M ty 9)), some (.int v24.1), none, none]) (st' := [.int 0, .ref 0]) (M' := v24.2) (by decide +kernel) rfl ?_
                          exact zT.here (by simp only [if_neg c20]; try rfl)
                        · skip
                          refine zT.run [(.aload_n 0, 0, 0, 0), (.iload 5, 0, 0, 0)] (pe := 329) (ls' := [some (.ref 0), some (.int (g_X10_isWord M ty 4)), some (.int (g_X10_isWord M ty 12)), some (.int (g_X10_isWord M ty 14)), some (.int (g_X10_isWord M ty 9)), some (.int v24.1), none, none]) (st' := [.int v24.1, .ref 0, .ref 0]) (M' := v24.2) (by decide +kernel) rfl ?_
                          refine zT.eqS (congrArg (fun v : Int32 => ([.int v, .ref 0, .ref 0] : List Value)) (rh24 c20).1) ?_
                          refine zT.cV_own (o := 0) (idx := 86) (av := [.int (nI v24.1.toNatClampNeg)]) (rv := (some (.int (g_X10_isUp v24.2 v24.1.toNatClampNeg)))) (st := [.ref 0]) (S1 := [.int (g_X10_isUp v24.2 v24.1.toNatClampNeg), .ref 0]) (c_X10_isUp v24.2 gp v24.1.toNatClampNeg (Nat.lt_of_lt_of_le (rh24 c20).2.1 h9)) k_X10_isUp _ _ rfl rfl rfl (zIn (w := 5120) (by decide +kernel) rfl) (by decide +kernel) (by decide +kernel) rfl (Nat.le_of_ble_eq_true rfl) rfl ?_
                          refine zT.run [(.iload_n 2, 0, 0, 0)] (pe := 333) (ls' := [some (.ref 0), some (.int (g_X10_isWord M ty 4)), some (.int (g_X10_isWord M ty 12)), some (.int (g_X10_isWord M ty 14)), some (.int (g_X10_isWord M ty 9)), some (.int v24.1), none, none]) (st' := [.int (g_X10_isWord M ty 12), .int (g_X10_isUp v24.2 v24.1.toNatClampNeg), .ref 0]) (M' := v24.2) (by decide +kernel) rfl ?_
                          refine zT.cne (tgt := 341) (off := 8) (by decide +kernel) (by decide) (fun (c21 : ¬ (g_X10_isUp v24.2 v24.1.toNatClampNeg) = (g_X10_isWord M ty 12)) => ?_) (fun (c21 : (g_X10_isUp v24.2 v24.1.toNatClampNeg) = (g_X10_isWord M ty 12)) => ?_)
                          · skip
                            refine zT.run [(.iconst 0, 0, 0, 0)] (pe := 342) (ls' := [some (.ref 0), some (.int (g_X10_isWord M ty 4)), some (.int (g_X10_isWord M ty 12)), some (.int (g_X10_isWord M ty 14)), some (.int (g_X10_isWord M ty 9)), some (.int v24.1), none, none]) (st' := [.int 0, .ref 0]) (M' := v24.2) (by decide +kernel) rfl ?_
                            exact zT.here (by simp only [if_pos c20, if_neg c21]; try rfl)
                          · skip
                            refine zT.run [(.bipush 16, 0, 0, 0), (.goto 4, 0, 0, 0)] (pe := 342) (ls' := [some (.ref 0), some (.int (g_X10_isWord M ty 4)), some (.int (g_X10_isWord M ty 12)), some (.int (g_X10_isWord M ty 14)), some (.int (g_X10_isWord M ty 9)), some (.int v24.1), none, none]) (st' := [.int 16, .ref 0]) (M' := v24.2) (by decide +kernel) rfl ?_
                            exact zT.here (by simp only [if_pos c20, if_pos c21]; try rfl)
                      · skip
                        refine zT.cV_all (o := 0) (idx := 306) (av := [.int (if (v24.2 0 18) = 0 then (if (g_X10_isUp v24.2 v24.1.toNatClampNeg) = (g_X10_isWord M ty 12) then (16 : Int32) else (0 : Int32)) else (0 : Int32))]) (rv := (some (.int (g_X10_ends v24.2 (if (v24.2 0 18) = 0 then (if (g_X10_isUp v24.2 v24.1.toNatClampNeg) = (g_X10_isWord M ty 12) then (16 : Int32) else (0 : Int32)) else (0 : Int32))).1))) (st := []) (S1 := [.int (g_X10_ends v24.2 (if (v24.2 0 18) = 0 then (if (g_X10_isUp v24.2 v24.1.toNatClampNeg) = (g_X10_isWord M ty 12) then (16 : Int32) else (0 : Int32)) else (0 : Int32))).1]) (c_X10_ends v24.2 gp (if (v24.2 0 18) = 0 then (if (g_X10_isUp v24.2 v24.1.toNatClampNeg) = (g_X10_isWord M ty 12) then (16 : Int32) else (0 : Int32)) else (0 : Int32))) k_X10_ends _ _ rfl rfl rfl (zIn (w := 6201) (by decide +kernel) rfl) (by decide +kernel) (by decide +kernel) rfl (Nat.le_of_ble_eq_true rfl) rfl ?_
                        obtain ⟨v25, hv25⟩ : ∃ v, v = (g_X10_ends v24.2 (if (v24.2 0 18) = 0 then (if (g_X10_isUp v24.2 v24.1.toNatClampNeg) = (g_X10_isWord M ty 12) then (16 : Int32) else (0 : Int32)) else (0 : Int32))) := ⟨_, rfl⟩
                        rw [← hv25]
                        have ev25 : (d_X10_deed_25 M ty n oz) = v25 := by unfold d_X10_deed_25; (try rw [ev24]); exact hv25.symm
                        have tk25 : zTkP ty v25.2 := by rw [hv25]; exact (tk_X10_ends v24.2 (if (v24.2 0 18) = 0 then (if (g_X10_isUp v24.2 v24.1.toNatClampNeg) = (g_X10_isWord M ty 12) then (16 : Int32) else (0 : Int32)) else (0 : Int32)) h600 tk24)
                        have lw25 : v25.2 1 = M 1 := by rw [hv25]; exact ((fr_X10_ends v24.2 (if (v24.2 0 18) = 0 then (if (g_X10_isUp v24.2 v24.1.toNatClampNeg) = (g_X10_isWord M ty 12) then (16 : Int32) else (0 : Int32)) else (0 : Int32)) 1 (by decide)).trans lw24)
                        have en25 : ¬ v25.1 = 0 → v24.2 0 18 = 0 ∧ ((if (v24.2 0 18) = 0 then (if (g_X10_isUp v24.2 v24.1.toNatClampNeg) = (g_X10_isWord M ty 12) then (16 : Int32) else (0 : Int32)) else (0 : Int32)) : Int32) = 0 ∧ v25.2 = v24.2 := by rw [hv25]; exact fun h => ⟨(e_X10_ends v24.2 (if (v24.2 0 18) = 0 then (if (g_X10_isUp v24.2 v24.1.toNatClampNeg) = (g_X10_isWord M ty 12) then (16 : Int32) else (0 : Int32)) else (0 : Int32)) h600 tk24 h).1, (e_X10_ends v24.2 (if (v24.2 0 18) = 0 then (if (g_X10_isUp v24.2 v24.1.toNatClampNeg) = (g_X10_isWord M ty 12) then (16 : Int32) else (0 : Int32)) else (0 : Int32)) h600 tk24 h).2.1, (e_X10_ends v24.2 (if (v24.2 0 18) = 0 then (if (g_X10_isUp v24.2 v24.1.toNatClampNeg) = (g_X10_isWord M ty 12) then (16 : Int32) else (0 : Int32)) else (0 : Int32)) h600 tk24 h).2.2.2⟩
                        refine zT.zeq (tgt := 357) (off := 12) (by decide +kernel) (by decide) (fun (c22 : v25.1 = 0) => ?_) (fun (c22 : ¬ v25.1 = 0) => ?_)
                        · skip
                          refine zT.run [(.goto 76, 0, 0, 0)] (pe := 433) (ls' := [some (.ref 0), some (.int (g_X10_isWord M ty 4)), some (.int (g_X10_isWord M ty 12)), some (.int (g_X10_isWord M ty 14)), some (.int (g_X10_isWord M ty 9)), some (.int v24.1), none, none]) (st' := []) (M' := v25.2) (by decide +kernel) rfl ?_
                          exact zT.vret (by unfold g_X10_deed; (try rw [ev23]); (try rw [ev24]); (try rw [ev25]); first | done | rw [if_pos c1, if_pos c2, if_pos c3, if_pos c4, if_pos c5, if_pos c6, if_pos c7, if_pos c8, if_pos c9, if_neg c13, if_pos c22] | rfl) rfl (by decide +kernel)
                        · skip
                          refine zT.run [(.aload_n 0, 0, 0, 0), (.iload 5, 0, 0, 0), (.iload_n 2, 0, 0, 0)] (pe := 352) (ls' := [some (.ref 0), some (.int (g_X10_isWord M ty 4)), some (.int (g_X10_isWord M ty 12)), some (.int (g_X10_isWord M ty 14)), some (.int (g_X10_isWord M ty 9)), some (.int v24.1), none, none]) (st' := [.int (g_X10_isWord M ty 12), .int v24.1, .ref 0]) (M' := v25.2) (by decide +kernel) rfl ?_
                          refine zT.eqS (congrArg (fun v : Int32 => ([.int (g_X10_isWord M ty 12), .int v, .ref 0] : List Value)) (rh24 (en25 c22).1).1) ?_
                          refine zT.cV_all (o := 0) (idx := 200) (av := [.int (nI v24.1.toNatClampNeg), .int (g_X10_isWord M ty 12)]) (rv := (some (.int (g_X10_upIt v25.2 n v24.1.toNatClampNeg (g_X10_isWord M ty 12)).1))) (st := []) (S1 := [.int (g_X10_upIt v25.2 n v24.1.toNatClampNeg (g_X10_isWord M ty 12)).1]) (c_X10_upIt v25.2 gp n v24.1.toNatClampNeg (g_X10_isWord M ty 12) ((congrFun lw25 0).trans hn) h9 (Nat.lt_of_lt_of_le (rh24 (en25 c22).1).2.1 h9)) k_X10_upIt _ _ rfl rfl rfl (zIn (w := 6115) (by decide +kernel) rfl) (by decide +kernel) (by decide +kernel) rfl (Nat.le_of_ble_eq_true rfl) rfl ?_
                          obtain ⟨v27, hv27⟩ : ∃ v, v = (g_X10_upIt v25.2 n v24.1.toNatClampNeg (g_X10_isWord M ty 12)) := ⟨_, rfl⟩
                          rw [← hv27]
                          have ev27 : (d_X10_deed_27 M ty n oz) = v27 := by unfold d_X10_deed_27; (try rw [ev24]); (try rw [ev25]); exact hv27.symm
                          have tk27 : zTkP ty v27.2 := by rw [hv27]; exact zTkP.of (fr_X10_upIt v25.2 n v24.1.toNatClampNeg (g_X10_isWord M ty 12) 0 (by decide)) tk25
                          refine zT.run [(.istore 6, 0, 0, 0), (.goto 76, 0, 0, 0)] (pe := 433) (ls' := [some (.ref 0), some (.int (g_X10_isWord M ty 4)), some (.int (g_X10_isWord M ty 12)), some (.int (g_X10_isWord M ty 14)), some (.int (g_X10_isWord M ty 9)), some (.int v24.1), some (.int v27.1), none]) (st' := []) (M' := v27.2) (by decide +kernel) rfl ?_
                          exact zT.vret (by unfold g_X10_deed; (try rw [ev23]); (try rw [ev24]); (try rw [ev25]); (try rw [ev27]); first | done | rw [if_pos c1, if_pos c2, if_pos c3, if_pos c4, if_pos c5, if_pos c6, if_pos c7, if_pos c8, if_pos c9, if_neg c13, if_neg c22] | rfl) rfl (by decide +kernel)
                · skip
                  refine zT.run [(.aload_n 0, 0, 0, 0)] (pe := 252) (ls' := [some (.ref 0), some (.int (g_X10_isWord M ty 4)), some (.int (g_X10_isWord M ty 12)), some (.int (g_X10_isWord M ty 14)), some (.int (g_X10_isWord M ty 9)), none, none, none]) (st' := [.ref 0]) (M' := M) (by decide +kernel) rfl ?_
                  refine zT.cV_all (o := 0) (idx := 247) (av := []) (rv := none) (st := []) (S1 := []) (c_X10_scan M gp ty h600 htk.at) k_X10_scan _ _ rfl rfl rfl (zIn (w := 6161) (by decide +kernel) rfl) (by decide +kernel) (by decide +kernel) rfl (Nat.le_of_ble_eq_true rfl) rfl ?_
                  obtain ⟨v28, hv28⟩ : ∃ v, v = (g_X10_scan M ty) := ⟨_, rfl⟩
                  rw [← hv28]
                  have ev28 : (d_X10_deed_28 M ty n oz) = v28 := by unfold d_X10_deed_28; exact hv28.symm
                  have tk28 : zTkP ty v28 := by rw [hv28]; exact (tk_X10_scan M ty h600 htk)
                  have lw28 : v28 1 = M 1 := by rw [hv28]; exact (fr_X10_scan M ty 1 (by decide))
                  refine zT.run [(.aload_n 0, 0, 0, 0)] (pe := 256) (ls' := [some (.ref 0), some (.int (g_X10_isWord M ty 4)), some (.int (g_X10_isWord M ty 12)), some (.int (g_X10_isWord M ty 14)), some (.int (g_X10_isWord M ty 9)), none, none, none]) (st' := [.ref 0]) (M' := v28) (by decide +kernel) rfl ?_
                  refine zT.cV_all (o := 0) (idx := 316) (av := []) (rv := (some (.int (g_X10_replicaHere v28 ty).1))) (st := []) (S1 := [.int (g_X10_replicaHere v28 ty).1]) (c_X10_replicaHere v28 gp ty h600 tk28) k_X10_replicaHere _ _ rfl rfl rfl (zIn (w := 6232) (by decide +kernel) rfl) (by decide +kernel) (by decide +kernel) rfl (Nat.le_of_ble_eq_true rfl) rfl ?_
                  obtain ⟨v29, hv29⟩ : ∃ v, v = (g_X10_replicaHere v28 ty) := ⟨_, rfl⟩
                  rw [← hv29]
                  have ev29 : (d_X10_deed_29 M ty n oz) = v29 := by unfold d_X10_deed_29; (try rw [ev28]); exact hv29.symm
                  have tk29 : zTkP ty v29.2 := by rw [hv29]; exact (tk_X10_replicaHere v28 ty h600 tk28)
                  have lw29 : v29.2 1 = M 1 := by rw [hv29]; exact ((fr_X10_replicaHere v28 ty 1 (by decide)).trans lw28)
                  have rh29 : v29.2 0 18 = 0 → v29.1 = nI v29.1.toNatClampNeg ∧ v29.1.toNatClampNeg < n ∧ v28 0 18 = 0 := by rw [hv29]; exact e_X10_replicaHere v28 ty n h600 tk28 ((congrFun lw28 0).trans hn) h9
                  refine zT.run [(.istore 5, 0, 0, 0), (.aload_n 0, 0, 0, 0), (.aload_n 0, 0, 0, 0), (.getfield 235, 8, 18, 5167)] (pe := 266) (ls' := [some (.ref 0), some (.int (g_X10_isWord M ty 4)), some (.int (g_X10_isWord M ty 12)), some (.int (g_X10_isWord M ty 14)), some (.int (g_X10_isWord M ty 9)), some (.int v29.1), none, none]) (st' := [.int (v29.2 0 18), .ref 0]) (M' := v29.2) (by decide +kernel) rfl ?_
                  refine zT.join (279, [some (.ref 0), some (.int (g_X10_isWord M ty 4)), some (.int (g_X10_isWord M ty 12)), some (.int (g_X10_isWord M ty 14)), some (.int (g_X10_isWord M ty 9)), some (.int v29.1), none, none], [.int (if (v29.2 0 18) = 0 then (g_X10_noRecount v29.2 oz v29.1.toNatClampNeg) else (0 : Int32)), .ref 0], (sh_Model gp), v29.2) ?_ ?_
                  · refine zT.zne (tgt := 278) (off := 12) (by decide +kernel) (by decide) (fun (c23 : ¬ (v29.2 0 18) = 0) => ?_) (fun (c23 : (v29.2 0 18) = 0) => ?_)
                    · skip
                      refine zT.run [(.iconst 0, 0, 0, 0)] (pe := 279) (ls' := [some (.ref 0), some (.int (g_X10_isWord M ty 4)), some (.int (g_X10_isWord M ty 12)), some (.int (g_X10_isWord M ty 14)), some (.int (g_X10_isWord M ty 9)), some (.int v29.1), none, none]) (st' := [.int 0, .ref 0]) (M' := v29.2) (by decide +kernel) rfl ?_
                      exact zT.here (by simp only [if_neg c23]; try rfl)
                    · skip
                      refine zT.run [(.aload_n 0, 0, 0, 0), (.iload 5, 0, 0, 0)] (pe := 272) (ls' := [some (.ref 0), some (.int (g_X10_isWord M ty 4)), some (.int (g_X10_isWord M ty 12)), some (.int (g_X10_isWord M ty 14)), some (.int (g_X10_isWord M ty 9)), some (.int v29.1), none, none]) (st' := [.int v29.1, .ref 0, .ref 0]) (M' := v29.2) (by decide +kernel) rfl ?_
                      refine zT.eqS (congrArg (fun v : Int32 => ([.int v, .ref 0, .ref 0] : List Value)) (rh29 c23).1) ?_
                      refine zT.cV_own (o := 0) (idx := 191) (av := [.int (nI v29.1.toNatClampNeg)]) (rv := (some (.int (g_X10_noRecount v29.2 oz v29.1.toNatClampNeg)))) (st := [.ref 0]) (S1 := [.int (g_X10_noRecount v29.2 oz v29.1.toNatClampNeg), .ref 0]) (c_X10_noRecount v29.2 gp oz v29.1.toNatClampNeg ((congrFun lw29 9).trans hoz) h12 (fun e => hP (((congrFun lw29 4)).symm.trans e)) (Nat.lt_of_lt_of_le (rh29 c23).2.1 h9)) k_X10_noRecount _ _ rfl rfl rfl (zIn (w := 6091) (by decide +kernel) rfl) (by decide +kernel) (by decide +kernel) rfl (Nat.le_of_ble_eq_true rfl) rfl ?_
                      refine zT.run [(.goto 4, 0, 0, 0)] (pe := 279) (ls' := [some (.ref 0), some (.int (g_X10_isWord M ty 4)), some (.int (g_X10_isWord M ty 12)), some (.int (g_X10_isWord M ty 14)), some (.int (g_X10_isWord M ty 9)), some (.int v29.1), none, none]) (st' := [.int (g_X10_noRecount v29.2 oz v29.1.toNatClampNeg), .ref 0]) (M' := v29.2) (by decide +kernel) rfl ?_
                      exact zT.here (by simp only [if_pos c23]; try rfl)
                  · skip
                    refine zT.cV_all (o := 0) (idx := 306) (av := [.int (if (v29.2 0 18) = 0 then (g_X10_noRecount v29.2 oz v29.1.toNatClampNeg) else (0 : Int32))]) (rv := (some (.int (g_X10_ends v29.2 (if (v29.2 0 18) = 0 then (g_X10_noRecount v29.2 oz v29.1.toNatClampNeg) else (0 : Int32))).1))) (st := []) (S1 := [.int (g_X10_ends v29.2 (if (v29.2 0 18) = 0 then (g_X10_noRecount v29.2 oz v29.1.toNatClampNeg) else (0 : Int32))).1]) (c_X10_ends v29.2 gp (if (v29.2 0 18) = 0 then (g_X10_noRecount v29.2 oz v29.1.toNatClampNeg) else (0 : Int32))) k_X10_ends _ _ rfl rfl rfl (zIn (w := 6201) (by decide +kernel) rfl) (by decide +kernel) (by decide +kernel) rfl (Nat.le_of_ble_eq_true rfl) rfl ?_
                    obtain ⟨v30, hv30⟩ : ∃ v, v = (g_X10_ends v29.2 (if (v29.2 0 18) = 0 then (g_X10_noRecount v29.2 oz v29.1.toNatClampNeg) else (0 : Int32))) := ⟨_, rfl⟩
                    rw [← hv30]
                    have ev30 : (d_X10_deed_30 M ty n oz) = v30 := by unfold d_X10_deed_30; (try rw [ev29]); exact hv30.symm
                    have tk30 : zTkP ty v30.2 := by rw [hv30]; exact (tk_X10_ends v29.2 (if (v29.2 0 18) = 0 then (g_X10_noRecount v29.2 oz v29.1.toNatClampNeg) else (0 : Int32)) h600 tk29)
                    have lw30 : v30.2 1 = M 1 := by rw [hv30]; exact ((fr_X10_ends v29.2 (if (v29.2 0 18) = 0 then (g_X10_noRecount v29.2 oz v29.1.toNatClampNeg) else (0 : Int32)) 1 (by decide)).trans lw29)
                    have en30 : ¬ v30.1 = 0 → v29.2 0 18 = 0 ∧ ((if (v29.2 0 18) = 0 then (g_X10_noRecount v29.2 oz v29.1.toNatClampNeg) else (0 : Int32)) : Int32) = 0 ∧ v30.2 = v29.2 := by rw [hv30]; exact fun h => ⟨(e_X10_ends v29.2 (if (v29.2 0 18) = 0 then (g_X10_noRecount v29.2 oz v29.1.toNatClampNeg) else (0 : Int32)) h600 tk29 h).1, (e_X10_ends v29.2 (if (v29.2 0 18) = 0 then (g_X10_noRecount v29.2 oz v29.1.toNatClampNeg) else (0 : Int32)) h600 tk29 h).2.1, (e_X10_ends v29.2 (if (v29.2 0 18) = 0 then (g_X10_noRecount v29.2 oz v29.1.toNatClampNeg) else (0 : Int32)) h600 tk29 h).2.2.2⟩
                    refine zT.zeq (tgt := 291) (off := 9) (by decide +kernel) (by decide) (fun (c24 : v30.1 = 0) => ?_) (fun (c24 : ¬ v30.1 = 0) => ?_)
                    · skip
                      refine zT.run [(.goto 142, 0, 0, 0)] (pe := 433) (ls' := [some (.ref 0), some (.int (g_X10_isWord M ty 4)), some (.int (g_X10_isWord M ty 12)), some (.int (g_X10_isWord M ty 14)), some (.int (g_X10_isWord M ty 9)), some (.int v29.1), none, none]) (st' := []) (M' := v30.2) (by decide +kernel) rfl ?_
                      exact zT.vret (by unfold g_X10_deed; (try rw [ev28]); (try rw [ev29]); (try rw [ev30]); first | done | rw [if_pos c1, if_pos c2, if_pos c3, if_pos c4, if_pos c5, if_pos c6, if_pos c7, if_neg c8, if_pos c24] | rfl) rfl (by decide +kernel)
                    · skip
                      refine zT.run [(.aload_n 0, 0, 0, 0)] (pe := 286) (ls' := [some (.ref 0), some (.int (g_X10_isWord M ty 4)), some (.int (g_X10_isWord M ty 12)), some (.int (g_X10_isWord M ty 14)), some (.int (g_X10_isWord M ty 9)), some (.int v29.1), none, none]) (st' := [.ref 0]) (M' := v30.2) (by decide +kernel) rfl ?_
                      refine zT.cV_all (o := 0) (idx := 194) (av := []) (rv := (some (.int (g_X10_recountIt v30.2 n oz).1))) (st := []) (S1 := [.int (g_X10_recountIt v30.2 n oz).1]) (c_X10_recountIt v30.2 gp n oz ((congrFun lw30 0).trans hn) h9 ((congrFun lw30 9).trans hoz) h12 (zHp_rec (M := v29.2) (fun e => hP (((congrFun lw29 4)).symm.trans e)) (by have h := (en30 c24).2.1; rw [if_pos (en30 c24).1] at h; exact h))) k_X10_recountIt _ _ rfl rfl rfl (zIn (w := 6099) (by decide +kernel) rfl) (by decide +kernel) (by decide +kernel) rfl (Nat.le_of_ble_eq_true rfl) rfl ?_
                      obtain ⟨v32, hv32⟩ : ∃ v, v = (g_X10_recountIt v30.2 n oz) := ⟨_, rfl⟩
                      rw [← hv32]
                      have ev32 : (d_X10_deed_32 M ty n oz) = v32 := by unfold d_X10_deed_32; (try rw [ev30]); exact hv32.symm
                      have tk32 : zTkP ty v32.2 := by rw [hv32]; exact zTkP.of (fr_X10_recountIt v30.2 n oz 0 (by decide)) tk30
                      refine zT.run [(.istore 6, 0, 0, 0), (.goto 142, 0, 0, 0)] (pe := 433) (ls' := [some (.ref 0), some (.int (g_X10_isWord M ty 4)), some (.int (g_X10_isWord M ty 12)), some (.int (g_X10_isWord M ty 14)), some (.int (g_X10_isWord M ty 9)), some (.int v29.1), some (.int v32.1), none]) (st' := []) (M' := v32.2) (by decide +kernel) rfl ?_
                      exact zT.vret (by unfold g_X10_deed; (try rw [ev28]); (try rw [ev29]); (try rw [ev30]); (try rw [ev32]); first | done | rw [if_pos c1, if_pos c2, if_pos c3, if_pos c4, if_pos c5, if_pos c6, if_pos c7, if_neg c8, if_neg c24] | rfl) rfl (by decide +kernel)
              · skip
                refine zT.run [(.aload_n 0, 0, 0, 0)] (pe := 191) (ls' := [some (.ref 0), some (.int (g_X10_isWord M ty 4)), some (.int (g_X10_isWord M ty 12)), some (.int (g_X10_isWord M ty 14)), some (.int (g_X10_isWord M ty 9)), none, none, none]) (st' := [.ref 0]) (M' := M) (by decide +kernel) rfl ?_
                refine zT.cV_all (o := 0) (idx := 247) (av := []) (rv := none) (st := []) (S1 := []) (c_X10_scan M gp ty h600 htk.at) k_X10_scan _ _ rfl rfl rfl (zIn (w := 6161) (by decide +kernel) rfl) (by decide +kernel) (by decide +kernel) rfl (Nat.le_of_ble_eq_true rfl) rfl ?_
                obtain ⟨v33, hv33⟩ : ∃ v, v = (g_X10_scan M ty) := ⟨_, rfl⟩
                rw [← hv33]
                have ev33 : (d_X10_deed_33 M ty n oz) = v33 := by unfold d_X10_deed_33; exact hv33.symm
                have tk33 : zTkP ty v33 := by rw [hv33]; exact (tk_X10_scan M ty h600 htk)
                have lw33 : v33 1 = M 1 := by rw [hv33]; exact (fr_X10_scan M ty 1 (by decide))
                refine zT.run [(.aload_n 0, 0, 0, 0)] (pe := 195) (ls' := [some (.ref 0), some (.int (g_X10_isWord M ty 4)), some (.int (g_X10_isWord M ty 12)), some (.int (g_X10_isWord M ty 14)), some (.int (g_X10_isWord M ty 9)), none, none, none]) (st' := [.ref 0]) (M' := v33) (by decide +kernel) rfl ?_
                refine zT.cV_all (o := 0) (idx := 316) (av := []) (rv := (some (.int (g_X10_replicaHere v33 ty).1))) (st := []) (S1 := [.int (g_X10_replicaHere v33 ty).1]) (c_X10_replicaHere v33 gp ty h600 tk33) k_X10_replicaHere _ _ rfl rfl rfl (zIn (w := 6232) (by decide +kernel) rfl) (by decide +kernel) (by decide +kernel) rfl (Nat.le_of_ble_eq_true rfl) rfl ?_
                obtain ⟨v34, hv34⟩ : ∃ v, v = (g_X10_replicaHere v33 ty) := ⟨_, rfl⟩
                rw [← hv34]
                have ev34 : (d_X10_deed_34 M ty n oz) = v34 := by unfold d_X10_deed_34; (try rw [ev33]); exact hv34.symm
                have tk34 : zTkP ty v34.2 := by rw [hv34]; exact (tk_X10_replicaHere v33 ty h600 tk33)
                have lw34 : v34.2 1 = M 1 := by rw [hv34]; exact ((fr_X10_replicaHere v33 ty 1 (by decide)).trans lw33)
                have rh34 : v34.2 0 18 = 0 → v34.1 = nI v34.1.toNatClampNeg ∧ v34.1.toNatClampNeg < n ∧ v33 0 18 = 0 := by rw [hv34]; exact e_X10_replicaHere v33 ty n h600 tk33 ((congrFun lw33 0).trans hn) h9
                refine zT.run [(.istore 5, 0, 0, 0), (.aload_n 0, 0, 0, 0), (.iconst 0, 0, 0, 0), (.ldc 169, 65535, 0, 6010)] (pe := 204) (ls' := [some (.ref 0), some (.int (g_X10_isWord M ty 4)), some (.int (g_X10_isWord M ty 12)), some (.int (g_X10_isWord M ty 14)), some (.int (g_X10_isWord M ty 9)), some (.int v34.1), none, none]) (st' := [.int 65535, .int 0, .ref 0]) (M' := v34.2) (by decide +kernel) rfl ?_
                refine zT.cV_all (o := 0) (idx := 259) (av := [.int 0, .int 65535]) (rv := (some (.int (g_X10_read v34.2 ty 0 65535).1))) (st := []) (S1 := [.int (g_X10_read v34.2 ty 0 65535).1]) (c_X10_read v34.2 gp ty 0 65535 h600 tk34) k_X10_read _ _ rfl rfl rfl (zIn (w := 6193) (by decide +kernel) rfl) (by decide +kernel) (by decide +kernel) rfl (Nat.le_of_ble_eq_true rfl) rfl ?_
                obtain ⟨v35, hv35⟩ : ∃ v, v = (g_X10_read v34.2 ty 0 65535) := ⟨_, rfl⟩
                rw [← hv35]
                have ev35 : (d_X10_deed_35 M ty n oz) = v35 := by unfold d_X10_deed_35; (try rw [ev34]); exact hv35.symm
                have tk35 : zTkP ty v35.2 := by rw [hv35]; exact (tk_X10_read v34.2 ty 0 65535 h600 tk34)
                have lw35 : v35.2 1 = M 1 := by rw [hv35]; exact ((fr_X10_read v34.2 ty 0 65535 1 (by decide)).trans lw34)
                have rd35 : v35.2 0 18 = 0 → v34.2 0 18 = 0 := by rw [hv35]; exact fun h => (e_X10_read v34.2 ty 0 65535 h600 tk34 h).2.2
                refine zT.run [(.istore 6, 0, 0, 0), (.aload_n 0, 0, 0, 0), (.aload_n 0, 0, 0, 0), (.getfield 235, 8, 18, 5167)] (pe := 214) (ls' := [some (.ref 0), some (.int (g_X10_isWord M ty 4)), some (.int (g_X10_isWord M ty 12)), some (.int (g_X10_isWord M ty 14)), some (.int (g_X10_isWord M ty 9)), some (.int v34.1), some (.int v35.1), none]) (st' := [.int (v35.2 0 18), .ref 0]) (M' := v35.2) (by decide +kernel) rfl ?_
                refine zT.join (227, [some (.ref 0), some (.int (g_X10_isWord M ty 4)), some (.int (g_X10_isWord M ty 12)), some (.int (g_X10_isWord M ty 14)), some (.int (g_X10_isWord M ty 9)), some (.int v34.1), some (.int v35.1), none], [.int (if (v35.2 0 18) = 0 then (g_X10_noSeal v35.2 v34.1.toNatClampNeg) else (0 : Int32)), .ref 0], (sh_Model gp), v35.2) ?_ ?_
                · refine zT.zne (tgt := 226) (off := 12) (by decide +kernel) (by decide) (fun (c25 : ¬ (v35.2 0 18) = 0) => ?_) (fun (c25 : (v35.2 0 18) = 0) => ?_)
                  · skip
                    refine zT.run [(.iconst 0, 0, 0, 0)] (pe := 227) (ls' := [some (.ref 0), some (.int (g_X10_isWord M ty 4)), some (.int (g_X10_isWord M ty 12)), some (.int (g_X10_isWord M ty 14)), some (.int (g_X10_isWord M ty 9)), some (.int v34.1), some (.int v35.1), none]) (st' := [.int 0, .ref 0]) (M' := v35.2) (by decide +kernel) rfl ?_
                    exact zT.here (by simp only [if_neg c25]; try rfl)
                  · skip
                    refine zT.run [(.aload_n 0, 0, 0, 0), (.iload 5, 0, 0, 0)] (pe := 220) (ls' := [some (.ref 0), some (.int (g_X10_isWord M ty 4)), some (.int (g_X10_isWord M ty 12)), some (.int (g_X10_isWord M ty 14)), some (.int (g_X10_isWord M ty 9)), some (.int v34.1), some (.int v35.1), none]) (st' := [.int v34.1, .ref 0, .ref 0]) (M' := v35.2) (by decide +kernel) rfl ?_
                    refine zT.eqS (congrArg (fun v : Int32 => ([.int v, .ref 0, .ref 0] : List Value)) (rh34 (rd35 c25)).1) ?_
                    refine zT.cV_own (o := 0) (idx := 170) (av := [.int (nI v34.1.toNatClampNeg)]) (rv := (some (.int (g_X10_noSeal v35.2 v34.1.toNatClampNeg)))) (st := [.ref 0]) (S1 := [.int (g_X10_noSeal v35.2 v34.1.toNatClampNeg), .ref 0]) (c_X10_noSeal v35.2 gp v34.1.toNatClampNeg (zHd.of2 (congrFun lw35 4) (congrFun lw35 6) hd) (Nat.lt_of_lt_of_le (rh34 (rd35 c25)).2.1 h9)) k_X10_noSeal _ _ rfl rfl rfl (zIn (w := 6011) (by decide +kernel) rfl) (by decide +kernel) (by decide +kernel) rfl (Nat.le_of_ble_eq_true rfl) rfl ?_
                    refine zT.run [(.goto 4, 0, 0, 0)] (pe := 227) (ls' := [some (.ref 0), some (.int (g_X10_isWord M ty 4)), some (.int (g_X10_isWord M ty 12)), some (.int (g_X10_isWord M ty 14)), some (.int (g_X10_isWord M ty 9)), some (.int v34.1), some (.int v35.1), none]) (st' := [.int (g_X10_noSeal v35.2 v34.1.toNatClampNeg), .ref 0]) (M' := v35.2) (by decide +kernel) rfl ?_
                    exact zT.here (by simp only [if_pos c25]; try rfl)
                · skip
                  refine zT.cV_all (o := 0) (idx := 306) (av := [.int (if (v35.2 0 18) = 0 then (g_X10_noSeal v35.2 v34.1.toNatClampNeg) else (0 : Int32))]) (rv := (some (.int (g_X10_ends v35.2 (if (v35.2 0 18) = 0 then (g_X10_noSeal v35.2 v34.1.toNatClampNeg) else (0 : Int32))).1))) (st := []) (S1 := [.int (g_X10_ends v35.2 (if (v35.2 0 18) = 0 then (g_X10_noSeal v35.2 v34.1.toNatClampNeg) else (0 : Int32))).1]) (c_X10_ends v35.2 gp (if (v35.2 0 18) = 0 then (g_X10_noSeal v35.2 v34.1.toNatClampNeg) else (0 : Int32))) k_X10_ends _ _ rfl rfl rfl (zIn (w := 6201) (by decide +kernel) rfl) (by decide +kernel) (by decide +kernel) rfl (Nat.le_of_ble_eq_true rfl) rfl ?_
                  obtain ⟨v36, hv36⟩ : ∃ v, v = (g_X10_ends v35.2 (if (v35.2 0 18) = 0 then (g_X10_noSeal v35.2 v34.1.toNatClampNeg) else (0 : Int32))) := ⟨_, rfl⟩
                  rw [← hv36]
                  have ev36 : (d_X10_deed_36 M ty n oz) = v36 := by unfold d_X10_deed_36; (try rw [ev34]); (try rw [ev35]); exact hv36.symm
                  have tk36 : zTkP ty v36.2 := by rw [hv36]; exact (tk_X10_ends v35.2 (if (v35.2 0 18) = 0 then (g_X10_noSeal v35.2 v34.1.toNatClampNeg) else (0 : Int32)) h600 tk35)
                  have lw36 : v36.2 1 = M 1 := by rw [hv36]; exact ((fr_X10_ends v35.2 (if (v35.2 0 18) = 0 then (g_X10_noSeal v35.2 v34.1.toNatClampNeg) else (0 : Int32)) 1 (by decide)).trans lw35)
                  have en36 : ¬ v36.1 = 0 → v35.2 0 18 = 0 ∧ ((if (v35.2 0 18) = 0 then (g_X10_noSeal v35.2 v34.1.toNatClampNeg) else (0 : Int32)) : Int32) = 0 ∧ v36.2 = v35.2 := by rw [hv36]; exact fun h => ⟨(e_X10_ends v35.2 (if (v35.2 0 18) = 0 then (g_X10_noSeal v35.2 v34.1.toNatClampNeg) else (0 : Int32)) h600 tk35 h).1, (e_X10_ends v35.2 (if (v35.2 0 18) = 0 then (g_X10_noSeal v35.2 v34.1.toNatClampNeg) else (0 : Int32)) h600 tk35 h).2.1, (e_X10_ends v35.2 (if (v35.2 0 18) = 0 then (g_X10_noSeal v35.2 v34.1.toNatClampNeg) else (0 : Int32)) h600 tk35 h).2.2.2⟩
                  refine zT.zeq (tgt := 243) (off := 13) (by decide +kernel) (by decide) (fun (c26 : v36.1 = 0) => ?_) (fun (c26 : ¬ v36.1 = 0) => ?_)
                  · skip
                    refine zT.run [(.goto 190, 0, 0, 0)] (pe := 433) (ls' := [some (.ref 0), some (.int (g_X10_isWord M ty 4)), some (.int (g_X10_isWord M ty 12)), some (.int (g_X10_isWord M ty 14)), some (.int (g_X10_isWord M ty 9)), some (.int v34.1), some (.int v35.1), none]) (st' := []) (M' := v36.2) (by decide +kernel) rfl ?_
                    exact zT.vret (by unfold g_X10_deed; (try rw [ev33]); (try rw [ev34]); (try rw [ev35]); (try rw [ev36]); first | done | rw [if_pos c1, if_pos c2, if_pos c3, if_pos c4, if_pos c5, if_pos c6, if_neg c7, if_pos c26] | rfl) rfl (by decide +kernel)
                  · skip
                    refine zT.run [(.aload_n 0, 0, 0, 0), (.iload 5, 0, 0, 0), (.iload 6, 0, 0, 0)] (pe := 238) (ls' := [some (.ref 0), some (.int (g_X10_isWord M ty 4)), some (.int (g_X10_isWord M ty 12)), some (.int (g_X10_isWord M ty 14)), some (.int (g_X10_isWord M ty 9)), some (.int v34.1), some (.int v35.1), none]) (st' := [.int v35.1, .int v34.1, .ref 0]) (M' := v36.2) (by decide +kernel) rfl ?_
                    refine zT.eqS (congrArg (fun v : Int32 => ([.int v35.1, .int v, .ref 0] : List Value)) (rh34 (rd35 (en36 c26).1)).1) ?_
                    refine zT.cV_all (o := 0) (idx := 57) (av := [.int (nI v34.1.toNatClampNeg), .int v35.1]) (rv := (some (.int (g_X10_sealIt v36.2 n v34.1.toNatClampNeg v35.1).1))) (st := []) (S1 := [.int (g_X10_sealIt v36.2 n v34.1.toNatClampNeg v35.1).1]) (c_X10_sealIt v36.2 gp n v34.1.toNatClampNeg v35.1 ((congrFun lw36 0).trans hn) h9 (Nat.lt_of_lt_of_le (rh34 (rd35 (en36 c26).1)).2.1 h9)) k_X10_sealIt _ _ rfl rfl rfl (zIn (w := 5137) (by decide +kernel) rfl) (by decide +kernel) (by decide +kernel) rfl (Nat.le_of_ble_eq_true rfl) rfl ?_
                    obtain ⟨v38, hv38⟩ : ∃ v, v = (g_X10_sealIt v36.2 n v34.1.toNatClampNeg v35.1) := ⟨_, rfl⟩
                    rw [← hv38]
                    have ev38 : (d_X10_deed_38 M ty n oz) = v38 := by unfold d_X10_deed_38; (try rw [ev34]); (try rw [ev35]); (try rw [ev36]); exact hv38.symm
                    have tk38 : zTkP ty v38.2 := by rw [hv38]; exact zTkP.of (fr_X10_sealIt v36.2 n v34.1.toNatClampNeg v35.1 0 (by decide)) tk36
                    refine zT.run [(.istore 7, 0, 0, 0), (.goto 190, 0, 0, 0)] (pe := 433) (ls' := [some (.ref 0), some (.int (g_X10_isWord M ty 4)), some (.int (g_X10_isWord M ty 12)), some (.int (g_X10_isWord M ty 14)), some (.int (g_X10_isWord M ty 9)), some (.int v34.1), some (.int v35.1), some (.int v38.1)]) (st' := []) (M' := v38.2) (by decide +kernel) rfl ?_
                    exact zT.vret (by unfold g_X10_deed; (try rw [ev33]); (try rw [ev34]); (try rw [ev35]); (try rw [ev36]); (try rw [ev38]); first | done | rw [if_pos c1, if_pos c2, if_pos c3, if_pos c4, if_pos c5, if_pos c6, if_neg c7, if_neg c26] | rfl) rfl (by decide +kernel)
            · skip
              refine zT.run [(.aload_n 0, 0, 0, 0)] (pe := 169) (ls' := [some (.ref 0), some (.int (g_X10_isWord M ty 4)), some (.int (g_X10_isWord M ty 12)), some (.int (g_X10_isWord M ty 14)), some (.int (g_X10_isWord M ty 9)), none, none, none]) (st' := [.ref 0]) (M' := M) (by decide +kernel) rfl ?_
              refine zT.cV_all (o := 0) (idx := 247) (av := []) (rv := none) (st := []) (S1 := []) (c_X10_scan M gp ty h600 htk.at) k_X10_scan _ _ rfl rfl rfl (zIn (w := 6161) (by decide +kernel) rfl) (by decide +kernel) (by decide +kernel) rfl (Nat.le_of_ble_eq_true rfl) rfl ?_
              obtain ⟨v39, hv39⟩ : ∃ v, v = (g_X10_scan M ty) := ⟨_, rfl⟩
              rw [← hv39]
              have ev39 : (d_X10_deed_39 M ty n oz) = v39 := by unfold d_X10_deed_39; exact hv39.symm
              have tk39 : zTkP ty v39 := by rw [hv39]; exact (tk_X10_scan M ty h600 htk)
              have lw39 : v39 1 = M 1 := by rw [hv39]; exact (fr_X10_scan M ty 1 (by decide))
              refine zT.run [(.aload_n 0, 0, 0, 0), (.iload_n 1, 0, 0, 0)] (pe := 174) (ls' := [some (.ref 0), some (.int (g_X10_isWord M ty 4)), some (.int (g_X10_isWord M ty 12)), some (.int (g_X10_isWord M ty 14)), some (.int (g_X10_isWord M ty 9)), none, none, none]) (st' := [.int (g_X10_isWord M ty 4), .ref 0]) (M' := v39) (by decide +kernel) rfl ?_
              refine zT.cV_all (o := 0) (idx := 319) (av := [.int (g_X10_isWord M ty 4)]) (rv := none) (st := []) (S1 := []) (c_X10_threeNumbers v39 gp ty n (g_X10_isWord M ty 4) h600 tk39 ((congrFun lw39 0).trans hn) h9 (zHd.of2 (congrFun lw39 4) (congrFun lw39 6) hd)) k_X10_threeNumbers _ _ rfl rfl rfl (zIn (w := 6236) (by decide +kernel) rfl) (by decide +kernel) (by decide +kernel) rfl (Nat.le_of_ble_eq_true rfl) rfl ?_
              obtain ⟨v40, hv40⟩ : ∃ v, v = (g_X10_threeNumbers v39 ty n (g_X10_isWord M ty 4)) := ⟨_, rfl⟩
              rw [← hv40]
              have ev40 : (d_X10_deed_40 M ty n oz) = v40 := by unfold d_X10_deed_40; (try rw [ev39]); exact hv40.symm
              have tk40 : zTkP ty v40 := by rw [hv40]; exact (tk_X10_threeNumbers v39 ty n (g_X10_isWord M ty 4) h600 tk39)
              refine zT.run [(.goto 256, 0, 0, 0)] (pe := 433) (ls' := [some (.ref 0), some (.int (g_X10_isWord M ty 4)), some (.int (g_X10_isWord M ty 12)), some (.int (g_X10_isWord M ty 14)), some (.int (g_X10_isWord M ty 9)), none, none, none]) (st' := []) (M' := v40) (by decide +kernel) rfl ?_
              exact zT.vret (by unfold g_X10_deed; (try rw [ev39]); (try rw [ev40]); first | done | rw [if_pos c1, if_pos c2, if_pos c3, if_pos c4, if_pos c5, if_neg c6] | rfl) rfl (by decide +kernel)
        · skip
          refine zT.run [(.aload_n 0, 0, 0, 0)] (pe := 110) (ls' := [some (.ref 0), some (.int (g_X10_isWord M ty 4)), some (.int (g_X10_isWord M ty 12)), some (.int (g_X10_isWord M ty 14)), some (.int (g_X10_isWord M ty 9)), none, none, none]) (st' := [.ref 0]) (M' := M) (by decide +kernel) rfl ?_
          refine zT.cV_all (o := 0) (idx := 247) (av := []) (rv := none) (st := []) (S1 := []) (c_X10_scan M gp ty h600 htk.at) k_X10_scan _ _ rfl rfl rfl (zIn (w := 6161) (by decide +kernel) rfl) (by decide +kernel) (by decide +kernel) rfl (Nat.le_of_ble_eq_true rfl) rfl ?_
          obtain ⟨v41, hv41⟩ : ∃ v, v = (g_X10_scan M ty) := ⟨_, rfl⟩
          rw [← hv41]
          have ev41 : (d_X10_deed_41 M ty n oz) = v41 := by unfold d_X10_deed_41; exact hv41.symm
          have tk41 : zTkP ty v41 := by rw [hv41]; exact (tk_X10_scan M ty h600 htk)
          have lw41 : v41 1 = M 1 := by rw [hv41]; exact (fr_X10_scan M ty 1 (by decide))
          refine zT.run [(.aload_n 0, 0, 0, 0)] (pe := 114) (ls' := [some (.ref 0), some (.int (g_X10_isWord M ty 4)), some (.int (g_X10_isWord M ty 12)), some (.int (g_X10_isWord M ty 14)), some (.int (g_X10_isWord M ty 9)), none, none, none]) (st' := [.ref 0]) (M' := v41) (by decide +kernel) rfl ?_
          refine zT.cV_all (o := 0) (idx := 316) (av := []) (rv := (some (.int (g_X10_replicaHere v41 ty).1))) (st := []) (S1 := [.int (g_X10_replicaHere v41 ty).1]) (c_X10_replicaHere v41 gp ty h600 tk41) k_X10_replicaHere _ _ rfl rfl rfl (zIn (w := 6232) (by decide +kernel) rfl) (by decide +kernel) (by decide +kernel) rfl (Nat.le_of_ble_eq_true rfl) rfl ?_
          obtain ⟨v42, hv42⟩ : ∃ v, v = (g_X10_replicaHere v41 ty) := ⟨_, rfl⟩
          rw [← hv42]
          have ev42 : (d_X10_deed_42 M ty n oz) = v42 := by unfold d_X10_deed_42; (try rw [ev41]); exact hv42.symm
          have tk42 : zTkP ty v42.2 := by rw [hv42]; exact (tk_X10_replicaHere v41 ty h600 tk41)
          have lw42 : v42.2 1 = M 1 := by rw [hv42]; exact ((fr_X10_replicaHere v41 ty 1 (by decide)).trans lw41)
          have rh42 : v42.2 0 18 = 0 → v42.1 = nI v42.1.toNatClampNeg ∧ v42.1.toNatClampNeg < n ∧ v41 0 18 = 0 := by rw [hv42]; exact e_X10_replicaHere v41 ty n h600 tk41 ((congrFun lw41 0).trans hn) h9
          refine zT.run [(.istore 5, 0, 0, 0), (.aload_n 0, 0, 0, 0), (.aload_n 0, 0, 0, 0), (.getfield 235, 8, 18, 5167)] (pe := 124) (ls' := [some (.ref 0), some (.int (g_X10_isWord M ty 4)), some (.int (g_X10_isWord M ty 12)), some (.int (g_X10_isWord M ty 14)), some (.int (g_X10_isWord M ty 9)), some (.int v42.1), none, none]) (st' := [.int (v42.2 0 18), .ref 0]) (M' := v42.2) (by decide +kernel) rfl ?_
          refine zT.join (137, [some (.ref 0), some (.int (g_X10_isWord M ty 4)), some (.int (g_X10_isWord M ty 12)), some (.int (g_X10_isWord M ty 14)), some (.int (g_X10_isWord M ty 9)), some (.int v42.1), none, none], [.int (if (v42.2 0 18) = 0 then (g_X10_noCall v42.2 n v42.1.toNatClampNeg) else (0 : Int32)), .ref 0], (sh_Model gp), v42.2) ?_ ?_
          · refine zT.zne (tgt := 136) (off := 12) (by decide +kernel) (by decide) (fun (c27 : ¬ (v42.2 0 18) = 0) => ?_) (fun (c27 : (v42.2 0 18) = 0) => ?_)
            · skip
              refine zT.run [(.iconst 0, 0, 0, 0)] (pe := 137) (ls' := [some (.ref 0), some (.int (g_X10_isWord M ty 4)), some (.int (g_X10_isWord M ty 12)), some (.int (g_X10_isWord M ty 14)), some (.int (g_X10_isWord M ty 9)), some (.int v42.1), none, none]) (st' := [.int 0, .ref 0]) (M' := v42.2) (by decide +kernel) rfl ?_
              exact zT.here (by simp only [if_neg c27]; try rfl)
            · skip
              refine zT.run [(.aload_n 0, 0, 0, 0), (.iload 5, 0, 0, 0)] (pe := 130) (ls' := [some (.ref 0), some (.int (g_X10_isWord M ty 4)), some (.int (g_X10_isWord M ty 12)), some (.int (g_X10_isWord M ty 14)), some (.int (g_X10_isWord M ty 9)), some (.int v42.1), none, none]) (st' := [.int v42.1, .ref 0, .ref 0]) (M' := v42.2) (by decide +kernel) rfl ?_
              refine zT.eqS (congrArg (fun v : Int32 => ([.int v, .ref 0, .ref 0] : List Value)) (rh42 c27).1) ?_
              refine zT.cV_own (o := 0) (idx := 163) (av := [.int (nI v42.1.toNatClampNeg)]) (rv := (some (.int (g_X10_noCall v42.2 n v42.1.toNatClampNeg)))) (st := [.ref 0]) (S1 := [.int (g_X10_noCall v42.2 n v42.1.toNatClampNeg), .ref 0]) (c_X10_noCall v42.2 gp n v42.1.toNatClampNeg ((congrFun lw42 0).trans hn) h9 (Nat.lt_of_lt_of_le (rh42 c27).2.1 h9)) k_X10_noCall _ _ rfl rfl rfl (zIn (w := 5224) (by decide +kernel) rfl) (by decide +kernel) (by decide +kernel) rfl (Nat.le_of_ble_eq_true rfl) rfl ?_
              refine zT.run [(.goto 4, 0, 0, 0)] (pe := 137) (ls' := [some (.ref 0), some (.int (g_X10_isWord M ty 4)), some (.int (g_X10_isWord M ty 12)), some (.int (g_X10_isWord M ty 14)), some (.int (g_X10_isWord M ty 9)), some (.int v42.1), none, none]) (st' := [.int (g_X10_noCall v42.2 n v42.1.toNatClampNeg), .ref 0]) (M' := v42.2) (by decide +kernel) rfl ?_
              exact zT.here (by simp only [if_pos c27]; try rfl)
          · skip
            refine zT.cV_all (o := 0) (idx := 306) (av := [.int (if (v42.2 0 18) = 0 then (g_X10_noCall v42.2 n v42.1.toNatClampNeg) else (0 : Int32))]) (rv := (some (.int (g_X10_ends v42.2 (if (v42.2 0 18) = 0 then (g_X10_noCall v42.2 n v42.1.toNatClampNeg) else (0 : Int32))).1))) (st := []) (S1 := [.int (g_X10_ends v42.2 (if (v42.2 0 18) = 0 then (g_X10_noCall v42.2 n v42.1.toNatClampNeg) else (0 : Int32))).1]) (c_X10_ends v42.2 gp (if (v42.2 0 18) = 0 then (g_X10_noCall v42.2 n v42.1.toNatClampNeg) else (0 : Int32))) k_X10_ends _ _ rfl rfl rfl (zIn (w := 6201) (by decide +kernel) rfl) (by decide +kernel) (by decide +kernel) rfl (Nat.le_of_ble_eq_true rfl) rfl ?_
            obtain ⟨v43, hv43⟩ : ∃ v, v = (g_X10_ends v42.2 (if (v42.2 0 18) = 0 then (g_X10_noCall v42.2 n v42.1.toNatClampNeg) else (0 : Int32))) := ⟨_, rfl⟩
            rw [← hv43]
            have ev43 : (d_X10_deed_43 M ty n oz) = v43 := by unfold d_X10_deed_43; (try rw [ev42]); exact hv43.symm
            have tk43 : zTkP ty v43.2 := by rw [hv43]; exact (tk_X10_ends v42.2 (if (v42.2 0 18) = 0 then (g_X10_noCall v42.2 n v42.1.toNatClampNeg) else (0 : Int32)) h600 tk42)
            have lw43 : v43.2 1 = M 1 := by rw [hv43]; exact ((fr_X10_ends v42.2 (if (v42.2 0 18) = 0 then (g_X10_noCall v42.2 n v42.1.toNatClampNeg) else (0 : Int32)) 1 (by decide)).trans lw42)
            have en43 : ¬ v43.1 = 0 → v42.2 0 18 = 0 ∧ ((if (v42.2 0 18) = 0 then (g_X10_noCall v42.2 n v42.1.toNatClampNeg) else (0 : Int32)) : Int32) = 0 ∧ v43.2 = v42.2 := by rw [hv43]; exact fun h => ⟨(e_X10_ends v42.2 (if (v42.2 0 18) = 0 then (g_X10_noCall v42.2 n v42.1.toNatClampNeg) else (0 : Int32)) h600 tk42 h).1, (e_X10_ends v42.2 (if (v42.2 0 18) = 0 then (g_X10_noCall v42.2 n v42.1.toNatClampNeg) else (0 : Int32)) h600 tk42 h).2.1, (e_X10_ends v42.2 (if (v42.2 0 18) = 0 then (g_X10_noCall v42.2 n v42.1.toNatClampNeg) else (0 : Int32)) h600 tk42 h).2.2.2⟩
            refine zT.zeq (tgt := 151) (off := 11) (by decide +kernel) (by decide) (fun (c28 : v43.1 = 0) => ?_) (fun (c28 : ¬ v43.1 = 0) => ?_)
            · skip
              refine zT.run [(.goto 282, 0, 0, 0)] (pe := 433) (ls' := [some (.ref 0), some (.int (g_X10_isWord M ty 4)), some (.int (g_X10_isWord M ty 12)), some (.int (g_X10_isWord M ty 14)), some (.int (g_X10_isWord M ty 9)), some (.int v42.1), none, none]) (st' := []) (M' := v43.2) (by decide +kernel) rfl ?_
              exact zT.vret (by unfold g_X10_deed; (try rw [ev41]); (try rw [ev42]); (try rw [ev43]); first | done | rw [if_pos c1, if_pos c2, if_pos c3, if_neg c4, if_pos c28] | rfl) rfl (by decide +kernel)
            · skip
              refine zT.run [(.aload_n 0, 0, 0, 0), (.iload 5, 0, 0, 0)] (pe := 146) (ls' := [some (.ref 0), some (.int (g_X10_isWord M ty 4)), some (.int (g_X10_isWord M ty 12)), some (.int (g_X10_isWord M ty 14)), some (.int (g_X10_isWord M ty 9)), some (.int v42.1), none, none]) (st' := [.int v42.1, .ref 0]) (M' := v43.2) (by decide +kernel) rfl ?_
              refine zT.eqS (congrArg (fun v : Int32 => ([.int v, .ref 0] : List Value)) (rh42 (en43 c28).1).1) ?_
              refine zT.cV_all (o := 0) (idx := 49) (av := [.int (nI v42.1.toNatClampNeg)]) (rv := (some (.int (g_X10_callIt v43.2 n v42.1.toNatClampNeg).1))) (st := []) (S1 := [.int (g_X10_callIt v43.2 n v42.1.toNatClampNeg).1]) (c_X10_callIt v43.2 gp n v42.1.toNatClampNeg ((congrFun lw43 0).trans hn) h9 (Nat.lt_of_lt_of_le (rh42 (en43 c28).1).2.1 h9)) k_X10_callIt _ _ rfl rfl rfl (zIn (w := 5112) (by decide +kernel) rfl) (by decide +kernel) (by decide +kernel) rfl (Nat.le_of_ble_eq_true rfl) rfl ?_
              obtain ⟨v45, hv45⟩ : ∃ v, v = (g_X10_callIt v43.2 n v42.1.toNatClampNeg) := ⟨_, rfl⟩
              rw [← hv45]
              have ev45 : (d_X10_deed_45 M ty n oz) = v45 := by unfold d_X10_deed_45; (try rw [ev42]); (try rw [ev43]); exact hv45.symm
              have tk45 : zTkP ty v45.2 := by rw [hv45]; exact zTkP.of (fr_X10_callIt v43.2 n v42.1.toNatClampNeg 0 (by decide)) tk43
              refine zT.run [(.istore 6, 0, 0, 0), (.goto 282, 0, 0, 0)] (pe := 433) (ls' := [some (.ref 0), some (.int (g_X10_isWord M ty 4)), some (.int (g_X10_isWord M ty 12)), some (.int (g_X10_isWord M ty 14)), some (.int (g_X10_isWord M ty 9)), some (.int v42.1), some (.int v45.1), none]) (st' := []) (M' := v45.2) (by decide +kernel) rfl ?_
              exact zT.vret (by unfold g_X10_deed; (try rw [ev41]); (try rw [ev42]); (try rw [ev43]); (try rw [ev45]); first | done | rw [if_pos c1, if_pos c2, if_pos c3, if_neg c4, if_neg c28] | rfl) rfl (by decide +kernel)
      · skip
        refine zT.run [(.aload_n 0, 0, 0, 0), (.aload_n 0, 0, 0, 0)] (pe := 65) (ls' := [some (.ref 0), some (.int (g_X10_isWord M ty 4)), some (.int (g_X10_isWord M ty 12)), some (.int (g_X10_isWord M ty 14)), some (.int (g_X10_isWord M ty 9)), none, none, none]) (st' := [.ref 0, .ref 0]) (M' := M) (by decide +kernel) rfl ?_
        refine zT.ldcSW 20 rfl rfl (by decide +kernel) ?_
        refine zT.cV_own (o := 0) (idx := 264) (av := [.retAddr 200]) (rv := (some (.int (g_X10_isWord M ty 0)))) (st := [.ref 0]) (S1 := [.int (g_X10_isWord M ty 0), .ref 0]) (c_X10_isWord M gp ty 0 h600 htk (by decide)) k_X10_isWord _ _ rfl rfl rfl (zIn (w := 6174) (by decide +kernel) rfl) (by decide +kernel) (by decide +kernel) rfl (Nat.le_of_ble_eq_true rfl) rfl ?_
        refine zT.zeq (tgt := 78) (off := 7) (by decide +kernel) (by decide) (fun _ => ?_) (fun c => absurd c1 c)
        refine zT.run [(.aload_n 0, 0, 0, 0)] (pe := 79) (ls' := [some (.ref 0), some (.int (g_X10_isWord M ty 4)), some (.int (g_X10_isWord M ty 12)), some (.int (g_X10_isWord M ty 14)), some (.int (g_X10_isWord M ty 9)), none, none, none]) (st' := [.ref 0, .ref 0]) (M' := M) (by decide +kernel) rfl ?_
        refine zT.ldcSW 21 rfl rfl (by decide +kernel) ?_
        refine zT.cV_own (o := 0) (idx := 264) (av := [.retAddr 201]) (rv := (some (.int (g_X10_isWord M ty 1)))) (st := [.ref 0]) (S1 := [.int (g_X10_isWord M ty 1), .ref 0]) (c_X10_isWord M gp ty 1 h600 htk (by decide)) k_X10_isWord _ _ rfl rfl rfl (zIn (w := 6174) (by decide +kernel) rfl) (by decide +kernel) (by decide +kernel) rfl (Nat.le_of_ble_eq_true rfl) rfl ?_
        refine zT.zeq (tgt := 92) (off := 7) (by decide +kernel) (by decide) (fun _ => ?_) (fun c => absurd c2 c)
        refine zT.run [(.iconst 2, 0, 0, 0)] (pe := 93) (ls' := [some (.ref 0), some (.int (g_X10_isWord M ty 4)), some (.int (g_X10_isWord M ty 12)), some (.int (g_X10_isWord M ty 14)), some (.int (g_X10_isWord M ty 9)), none, none, none]) (st' := [.int 2, .ref 0]) (M' := M) (by decide +kernel) rfl ?_
        refine zT.cV_all (o := 0) (idx := 313) (av := [.int (nI 2)]) (rv := none) (st := []) (S1 := []) (c_X10_setting M gp ty 2 h600 htk (by decide)) k_X10_setting _ _ rfl rfl rfl (zIn (w := 6228) (by decide +kernel) rfl) (by decide +kernel) (by decide +kernel) rfl (Nat.le_of_ble_eq_true rfl) rfl ?_
        obtain ⟨v46, hv46⟩ : ∃ v, v = (g_X10_setting M ty 2) := ⟨_, rfl⟩
        rw [← hv46]
        have ev46 : (d_X10_deed_46 M ty n oz) = v46 := by unfold d_X10_deed_46; exact hv46.symm
        have tk46 : zTkP ty v46 := by rw [hv46]; exact (tk_X10_setting M ty 2 h600 htk)
        refine zT.run [(.goto 337, 0, 0, 0)] (pe := 433) (ls' := [some (.ref 0), some (.int (g_X10_isWord M ty 4)), some (.int (g_X10_isWord M ty 12)), some (.int (g_X10_isWord M ty 14)), some (.int (g_X10_isWord M ty 9)), none, none, none]) (st' := []) (M' := v46) (by decide +kernel) rfl ?_
        exact zT.vret (by unfold g_X10_deed; (try rw [ev46]); first | done | rw [if_pos c1, if_pos c2, if_neg c3] | rfl) rfl (by decide +kernel)
theorem k_X10_deed : zCal yy_X10_deed 0 := ⟨⟨⟨⟨zIn (w := 6227) (by decide +kernel) rfl, zIn (w := 1012) (by decide +kernel) rfl⟩, by decide +kernel⟩, by decide +kernel⟩, ⟨zIn (w := 6226) (by decide +kernel) rfl, zIn (w := 70) (by decide +kernel) rfl⟩⟩
theorem tk_X10_deed (M : zM) (ty : Nat) (n : Nat) (oz : Nat) (h600 : ty ≤ 600) (htk : zTkP ty M) : zTkP ty (g_X10_deed M ty n oz) := by
  obtain ⟨v1, hv1⟩ : ∃ v, v = (g_X10_setting M ty 0) := ⟨_, rfl⟩
  have ev1 : (d_X10_deed_1 M ty n oz) = v1 := by unfold d_X10_deed_1; exact hv1.symm
  have tkv1 : zTkP ty v1 := by rw [hv1]; exact (tk_X10_setting M ty 0 h600 htk)
  obtain ⟨v2, hv2⟩ : ∃ v, v = (g_X10_setting M ty 1) := ⟨_, rfl⟩
  have ev2 : (d_X10_deed_2 M ty n oz) = v2 := by unfold d_X10_deed_2; exact hv2.symm
  have tkv2 : zTkP ty v2 := by rw [hv2]; exact (tk_X10_setting M ty 1 h600 htk)
  obtain ⟨v3, hv3⟩ : ∃ v, v = (g_X10_scan M ty) := ⟨_, rfl⟩
  have ev3 : (d_X10_deed_3 M ty n oz) = v3 := by unfold d_X10_deed_3; exact hv3.symm
  have tkv3 : zTkP ty v3 := by rw [hv3]; exact (tk_X10_scan M ty h600 htk)
  obtain ⟨v4, hv4⟩ : ∃ v, v = (g_X10_threeNumbers v3 ty n (g_X10_isWord M ty 4)) := ⟨_, rfl⟩
  have ev4 : (d_X10_deed_4 M ty n oz) = v4 := by unfold d_X10_deed_4; (try rw [ev3]); exact hv4.symm
  have tkv4 : zTkP ty v4 := by rw [hv4]; exact (tk_X10_threeNumbers v3 ty n (g_X10_isWord M ty 4) h600 tkv3)
  obtain ⟨v5, hv5⟩ : ∃ v, v = (g_X10_scan M ty) := ⟨_, rfl⟩
  have ev5 : (d_X10_deed_5 M ty n oz) = v5 := by unfold d_X10_deed_5; exact hv5.symm
  have tkv5 : zTkP ty v5 := by rw [hv5]; exact (tk_X10_scan M ty h600 htk)
  obtain ⟨v6, hv6⟩ : ∃ v, v = (g_X10_replicaHere v5 ty) := ⟨_, rfl⟩
  have ev6 : (d_X10_deed_6 M ty n oz) = v6 := by unfold d_X10_deed_6; (try rw [ev5]); exact hv6.symm
  have tkv6 : zTkP ty v6.2 := by rw [hv6]; exact (tk_X10_replicaHere v5 ty h600 tkv5)
  obtain ⟨v7, hv7⟩ : ∃ v, v = (g_X10_ends v6.2 (if (v6.2 0 18) = 0 then (if (g_X10_isUp v6.2 v6.1.toNatClampNeg) = (g_X10_isWord M ty 12) then (16 : Int32) else (0 : Int32)) else (0 : Int32))) := ⟨_, rfl⟩
  have ev7 : (d_X10_deed_7 M ty n oz) = v7 := by unfold d_X10_deed_7; (try rw [ev6]); exact hv7.symm
  have tkv7 : zTkP ty v7.2 := by rw [hv7]; exact (tk_X10_ends v6.2 (if (v6.2 0 18) = 0 then (if (g_X10_isUp v6.2 v6.1.toNatClampNeg) = (g_X10_isWord M ty 12) then (16 : Int32) else (0 : Int32)) else (0 : Int32)) h600 tkv6)
  obtain ⟨v9, hv9⟩ : ∃ v, v = (g_X10_upIt v7.2 n v6.1.toNatClampNeg (g_X10_isWord M ty 12)) := ⟨_, rfl⟩
  have ev9 : (d_X10_deed_9 M ty n oz) = v9 := by unfold d_X10_deed_9; (try rw [ev6]); (try rw [ev7]); exact hv9.symm
  have tkv9 : zTkP ty v9.2 := by rw [hv9]; exact zTkP.of (fr_X10_upIt v7.2 n v6.1.toNatClampNeg (g_X10_isWord M ty 12) 0 (by decide)) tkv7
  obtain ⟨v10, hv10⟩ : ∃ v, v = (g_X10_scan M ty) := ⟨_, rfl⟩
  have ev10 : (d_X10_deed_10 M ty n oz) = v10 := by unfold d_X10_deed_10; exact hv10.symm
  have tkv10 : zTkP ty v10 := by rw [hv10]; exact (tk_X10_scan M ty h600 htk)
  obtain ⟨v11, hv11⟩ : ∃ v, v = (g_X10_replicaHere v10 ty) := ⟨_, rfl⟩
  have ev11 : (d_X10_deed_11 M ty n oz) = v11 := by unfold d_X10_deed_11; (try rw [ev10]); exact hv11.symm
  have tkv11 : zTkP ty v11.2 := by rw [hv11]; exact (tk_X10_replicaHere v10 ty h600 tkv10)
  obtain ⟨v12, hv12⟩ : ∃ v, v = (g_X10_replicaHere v11.2 ty) := ⟨_, rfl⟩
  have ev12 : (d_X10_deed_12 M ty n oz) = v12 := by unfold d_X10_deed_12; (try rw [ev11]); exact hv12.symm
  have tkv12 : zTkP ty v12.2 := by rw [hv12]; exact (tk_X10_replicaHere v11.2 ty h600 tkv11)
  obtain ⟨v13, hv13⟩ : ∃ v, v = (g_X10_ends v12.2 (if (v12.2 0 18) = 0 then (g_X10_noLink v12.2 v11.1.toNatClampNeg v12.1 (g_X10_isWord M ty 14)) else (0 : Int32))) := ⟨_, rfl⟩
  have ev13 : (d_X10_deed_13 M ty n oz) = v13 := by unfold d_X10_deed_13; (try rw [ev11]); (try rw [ev12]); exact hv13.symm
  have tkv13 : zTkP ty v13.2 := by rw [hv13]; exact (tk_X10_ends v12.2 (if (v12.2 0 18) = 0 then (g_X10_noLink v12.2 v11.1.toNatClampNeg v12.1 (g_X10_isWord M ty 14)) else (0 : Int32)) h600 tkv12)
  obtain ⟨v15, hv15⟩ : ∃ v, v = (g_X10_link v13.2 v11.1.toNatClampNeg v12.1.toNatClampNeg (g_X10_isWord M ty 14)) := ⟨_, rfl⟩
  have ev15 : (d_X10_deed_15 M ty n oz) = v15 := by unfold d_X10_deed_15; (try rw [ev11]); (try rw [ev12]); (try rw [ev13]); exact hv15.symm
  have tkv15 : zTkP ty v15 := by rw [hv15]; exact zTkP.of (fr_X10_link v13.2 v11.1.toNatClampNeg v12.1.toNatClampNeg (g_X10_isWord M ty 14) 0 (by decide)) tkv13
  obtain ⟨v16, hv16⟩ : ∃ v, v = (g_X10_bareDeed M ty n oz) := ⟨_, rfl⟩
  have ev16 : (d_X10_deed_16 M ty n oz) = v16 := by unfold d_X10_deed_16; exact hv16.symm
  have tkv16 : zTkP ty v16 := by rw [hv16]; exact (tk_X10_bareDeed M ty n oz h600 htk)
  obtain ⟨v17, hv17⟩ : ∃ v, v = (g_X10_scan M ty) := ⟨_, rfl⟩
  have ev17 : (d_X10_deed_17 M ty n oz) = v17 := by unfold d_X10_deed_17; exact hv17.symm
  have tkv17 : zTkP ty v17 := by rw [hv17]; exact (tk_X10_scan M ty h600 htk)
  obtain ⟨v18, hv18⟩ : ∃ v, v = (g_X10_replicaHere v17 ty) := ⟨_, rfl⟩
  have ev18 : (d_X10_deed_18 M ty n oz) = v18 := by unfold d_X10_deed_18; (try rw [ev17]); exact hv18.symm
  have tkv18 : zTkP ty v18.2 := by rw [hv18]; exact (tk_X10_replicaHere v17 ty h600 tkv17)
  obtain ⟨v19, hv19⟩ : ∃ v, v = (g_X10_replicaHere v18.2 ty) := ⟨_, rfl⟩
  have ev19 : (d_X10_deed_19 M ty n oz) = v19 := by unfold d_X10_deed_19; (try rw [ev18]); exact hv19.symm
  have tkv19 : zTkP ty v19.2 := by rw [hv19]; exact (tk_X10_replicaHere v18.2 ty h600 tkv18)
  obtain ⟨v20, hv20⟩ : ∃ v, v = (g_X10_ends v19.2 (if (v19.2 0 18) = 0 then (g_X10_noLink v19.2 v18.1.toNatClampNeg v19.1 (g_X10_isWord M ty 14)) else (0 : Int32))) := ⟨_, rfl⟩
  have ev20 : (d_X10_deed_20 M ty n oz) = v20 := by unfold d_X10_deed_20; (try rw [ev18]); (try rw [ev19]); exact hv20.symm
  have tkv20 : zTkP ty v20.2 := by rw [hv20]; exact (tk_X10_ends v19.2 (if (v19.2 0 18) = 0 then (g_X10_noLink v19.2 v18.1.toNatClampNeg v19.1 (g_X10_isWord M ty 14)) else (0 : Int32)) h600 tkv19)
  obtain ⟨v22, hv22⟩ : ∃ v, v = (g_X10_link v20.2 v18.1.toNatClampNeg v19.1.toNatClampNeg (g_X10_isWord M ty 14)) := ⟨_, rfl⟩
  have ev22 : (d_X10_deed_22 M ty n oz) = v22 := by unfold d_X10_deed_22; (try rw [ev18]); (try rw [ev19]); (try rw [ev20]); exact hv22.symm
  have tkv22 : zTkP ty v22 := by rw [hv22]; exact zTkP.of (fr_X10_link v20.2 v18.1.toNatClampNeg v19.1.toNatClampNeg (g_X10_isWord M ty 14) 0 (by decide)) tkv20
  obtain ⟨v23, hv23⟩ : ∃ v, v = (g_X10_scan M ty) := ⟨_, rfl⟩
  have ev23 : (d_X10_deed_23 M ty n oz) = v23 := by unfold d_X10_deed_23; exact hv23.symm
  have tkv23 : zTkP ty v23 := by rw [hv23]; exact (tk_X10_scan M ty h600 htk)
  obtain ⟨v24, hv24⟩ : ∃ v, v = (g_X10_replicaHere v23 ty) := ⟨_, rfl⟩
  have ev24 : (d_X10_deed_24 M ty n oz) = v24 := by unfold d_X10_deed_24; (try rw [ev23]); exact hv24.symm
  have tkv24 : zTkP ty v24.2 := by rw [hv24]; exact (tk_X10_replicaHere v23 ty h600 tkv23)
  obtain ⟨v25, hv25⟩ : ∃ v, v = (g_X10_ends v24.2 (if (v24.2 0 18) = 0 then (if (g_X10_isUp v24.2 v24.1.toNatClampNeg) = (g_X10_isWord M ty 12) then (16 : Int32) else (0 : Int32)) else (0 : Int32))) := ⟨_, rfl⟩
  have ev25 : (d_X10_deed_25 M ty n oz) = v25 := by unfold d_X10_deed_25; (try rw [ev24]); exact hv25.symm
  have tkv25 : zTkP ty v25.2 := by rw [hv25]; exact (tk_X10_ends v24.2 (if (v24.2 0 18) = 0 then (if (g_X10_isUp v24.2 v24.1.toNatClampNeg) = (g_X10_isWord M ty 12) then (16 : Int32) else (0 : Int32)) else (0 : Int32)) h600 tkv24)
  obtain ⟨v27, hv27⟩ : ∃ v, v = (g_X10_upIt v25.2 n v24.1.toNatClampNeg (g_X10_isWord M ty 12)) := ⟨_, rfl⟩
  have ev27 : (d_X10_deed_27 M ty n oz) = v27 := by unfold d_X10_deed_27; (try rw [ev24]); (try rw [ev25]); exact hv27.symm
  have tkv27 : zTkP ty v27.2 := by rw [hv27]; exact zTkP.of (fr_X10_upIt v25.2 n v24.1.toNatClampNeg (g_X10_isWord M ty 12) 0 (by decide)) tkv25
  obtain ⟨v28, hv28⟩ : ∃ v, v = (g_X10_scan M ty) := ⟨_, rfl⟩
  have ev28 : (d_X10_deed_28 M ty n oz) = v28 := by unfold d_X10_deed_28; exact hv28.symm
  have tkv28 : zTkP ty v28 := by rw [hv28]; exact (tk_X10_scan M ty h600 htk)
  obtain ⟨v29, hv29⟩ : ∃ v, v = (g_X10_replicaHere v28 ty) := ⟨_, rfl⟩
  have ev29 : (d_X10_deed_29 M ty n oz) = v29 := by unfold d_X10_deed_29; (try rw [ev28]); exact hv29.symm
  have tkv29 : zTkP ty v29.2 := by rw [hv29]; exact (tk_X10_replicaHere v28 ty h600 tkv28)
  obtain ⟨v30, hv30⟩ : ∃ v, v = (g_X10_ends v29.2 (if (v29.2 0 18) = 0 then (g_X10_noRecount v29.2 oz v29.1.toNatClampNeg) else (0 : Int32))) := ⟨_, rfl⟩
  have ev30 : (d_X10_deed_30 M ty n oz) = v30 := by unfold d_X10_deed_30; (try rw [ev29]); exact hv30.symm
  have tkv30 : zTkP ty v30.2 := by rw [hv30]; exact (tk_X10_ends v29.2 (if (v29.2 0 18) = 0 then (g_X10_noRecount v29.2 oz v29.1.toNatClampNeg) else (0 : Int32)) h600 tkv29)
  obtain ⟨v32, hv32⟩ : ∃ v, v = (g_X10_recountIt v30.2 n oz) := ⟨_, rfl⟩
  have ev32 : (d_X10_deed_32 M ty n oz) = v32 := by unfold d_X10_deed_32; (try rw [ev30]); exact hv32.symm
  have tkv32 : zTkP ty v32.2 := by rw [hv32]; exact zTkP.of (fr_X10_recountIt v30.2 n oz 0 (by decide)) tkv30
  obtain ⟨v33, hv33⟩ : ∃ v, v = (g_X10_scan M ty) := ⟨_, rfl⟩
  have ev33 : (d_X10_deed_33 M ty n oz) = v33 := by unfold d_X10_deed_33; exact hv33.symm
  have tkv33 : zTkP ty v33 := by rw [hv33]; exact (tk_X10_scan M ty h600 htk)
  obtain ⟨v34, hv34⟩ : ∃ v, v = (g_X10_replicaHere v33 ty) := ⟨_, rfl⟩
  have ev34 : (d_X10_deed_34 M ty n oz) = v34 := by unfold d_X10_deed_34; (try rw [ev33]); exact hv34.symm
  have tkv34 : zTkP ty v34.2 := by rw [hv34]; exact (tk_X10_replicaHere v33 ty h600 tkv33)
  obtain ⟨v35, hv35⟩ : ∃ v, v = (g_X10_read v34.2 ty 0 65535) := ⟨_, rfl⟩
  have ev35 : (d_X10_deed_35 M ty n oz) = v35 := by unfold d_X10_deed_35; (try rw [ev34]); exact hv35.symm
  have tkv35 : zTkP ty v35.2 := by rw [hv35]; exact (tk_X10_read v34.2 ty 0 65535 h600 tkv34)
  obtain ⟨v36, hv36⟩ : ∃ v, v = (g_X10_ends v35.2 (if (v35.2 0 18) = 0 then (g_X10_noSeal v35.2 v34.1.toNatClampNeg) else (0 : Int32))) := ⟨_, rfl⟩
  have ev36 : (d_X10_deed_36 M ty n oz) = v36 := by unfold d_X10_deed_36; (try rw [ev34]); (try rw [ev35]); exact hv36.symm
  have tkv36 : zTkP ty v36.2 := by rw [hv36]; exact (tk_X10_ends v35.2 (if (v35.2 0 18) = 0 then (g_X10_noSeal v35.2 v34.1.toNatClampNeg) else (0 : Int32)) h600 tkv35)
  obtain ⟨v38, hv38⟩ : ∃ v, v = (g_X10_sealIt v36.2 n v34.1.toNatClampNeg v35.1) := ⟨_, rfl⟩
  have ev38 : (d_X10_deed_38 M ty n oz) = v38 := by unfold d_X10_deed_38; (try rw [ev34]); (try rw [ev35]); (try rw [ev36]); exact hv38.symm
  have tkv38 : zTkP ty v38.2 := by rw [hv38]; exact zTkP.of (fr_X10_sealIt v36.2 n v34.1.toNatClampNeg v35.1 0 (by decide)) tkv36
  obtain ⟨v39, hv39⟩ : ∃ v, v = (g_X10_scan M ty) := ⟨_, rfl⟩
  have ev39 : (d_X10_deed_39 M ty n oz) = v39 := by unfold d_X10_deed_39; exact hv39.symm
  have tkv39 : zTkP ty v39 := by rw [hv39]; exact (tk_X10_scan M ty h600 htk)
  obtain ⟨v40, hv40⟩ : ∃ v, v = (g_X10_threeNumbers v39 ty n (g_X10_isWord M ty 4)) := ⟨_, rfl⟩
  have ev40 : (d_X10_deed_40 M ty n oz) = v40 := by unfold d_X10_deed_40; (try rw [ev39]); exact hv40.symm
  have tkv40 : zTkP ty v40 := by rw [hv40]; exact (tk_X10_threeNumbers v39 ty n (g_X10_isWord M ty 4) h600 tkv39)
  obtain ⟨v41, hv41⟩ : ∃ v, v = (g_X10_scan M ty) := ⟨_, rfl⟩
  have ev41 : (d_X10_deed_41 M ty n oz) = v41 := by unfold d_X10_deed_41; exact hv41.symm
  have tkv41 : zTkP ty v41 := by rw [hv41]; exact (tk_X10_scan M ty h600 htk)
  obtain ⟨v42, hv42⟩ : ∃ v, v = (g_X10_replicaHere v41 ty) := ⟨_, rfl⟩
  have ev42 : (d_X10_deed_42 M ty n oz) = v42 := by unfold d_X10_deed_42; (try rw [ev41]); exact hv42.symm
  have tkv42 : zTkP ty v42.2 := by rw [hv42]; exact (tk_X10_replicaHere v41 ty h600 tkv41)
  obtain ⟨v43, hv43⟩ : ∃ v, v = (g_X10_ends v42.2 (if (v42.2 0 18) = 0 then (g_X10_noCall v42.2 n v42.1.toNatClampNeg) else (0 : Int32))) := ⟨_, rfl⟩
  have ev43 : (d_X10_deed_43 M ty n oz) = v43 := by unfold d_X10_deed_43; (try rw [ev42]); exact hv43.symm
  have tkv43 : zTkP ty v43.2 := by rw [hv43]; exact (tk_X10_ends v42.2 (if (v42.2 0 18) = 0 then (g_X10_noCall v42.2 n v42.1.toNatClampNeg) else (0 : Int32)) h600 tkv42)
  obtain ⟨v45, hv45⟩ : ∃ v, v = (g_X10_callIt v43.2 n v42.1.toNatClampNeg) := ⟨_, rfl⟩
  have ev45 : (d_X10_deed_45 M ty n oz) = v45 := by unfold d_X10_deed_45; (try rw [ev42]); (try rw [ev43]); exact hv45.symm
  have tkv45 : zTkP ty v45.2 := by rw [hv45]; exact zTkP.of (fr_X10_callIt v43.2 n v42.1.toNatClampNeg 0 (by decide)) tkv43
  obtain ⟨v46, hv46⟩ : ∃ v, v = (g_X10_setting M ty 2) := ⟨_, rfl⟩
  have ev46 : (d_X10_deed_46 M ty n oz) = v46 := by unfold d_X10_deed_46; exact hv46.symm
  have tkv46 : zTkP ty v46 := by rw [hv46]; exact (tk_X10_setting M ty 2 h600 htk)
  unfold g_X10_deed
  (try rw [ev1])
  (try rw [ev2])
  (try rw [ev3])
  (try rw [ev4])
  (try rw [ev5])
  (try rw [ev6])
  (try rw [ev7])
  (try rw [ev9])
  (try rw [ev10])
  (try rw [ev11])
  (try rw [ev12])
  (try rw [ev13])
  (try rw [ev15])
  (try rw [ev16])
  (try rw [ev17])
  (try rw [ev18])
  (try rw [ev19])
  (try rw [ev20])
  (try rw [ev22])
  (try rw [ev23])
  (try rw [ev24])
  (try rw [ev25])
  (try rw [ev27])
  (try rw [ev28])
  (try rw [ev29])
  (try rw [ev30])
  (try rw [ev32])
  (try rw [ev33])
  (try rw [ev34])
  (try rw [ev35])
  (try rw [ev36])
  (try rw [ev38])
  (try rw [ev39])
  (try rw [ev40])
  (try rw [ev41])
  (try rw [ev42])
  (try rw [ev43])
  (try rw [ev45])
  (try rw [ev46])
  by_cases q1 : (g_X10_isWord M ty 0) = 0
  · rw [if_pos q1]
    by_cases q2 : (g_X10_isWord M ty 1) = 0
    · rw [if_pos q2]
      by_cases q3 : (g_X10_isWord M ty 2) = 0
      · rw [if_pos q3]
        by_cases q4 : (g_X10_isWord M ty 3) = 0
        · rw [if_pos q4]
          by_cases q5 : (g_X10_isWord M ty 4) = 0
          · rw [if_pos q5]
            by_cases q6 : (g_X10_isWord M ty 7) = 0
            · rw [if_pos q6]
              by_cases q7 : (g_X10_isWord M ty 5) = 0
              · rw [if_pos q7]
                by_cases q8 : (g_X10_isWord M ty 9) = 0
                · rw [if_pos q8]
                  by_cases q9 : (g_X10_isWord M ty 12) = 0
                  · rw [if_pos q9]
                    by_cases q10 : (g_X10_isWord M ty 11) = 0
                    · rw [if_pos q10]
                      by_cases q11 : (g_X10_isWord M ty 14) = 0
                      · rw [if_pos q11]
                        by_cases q12 : (g_X10_isWord M ty 13) = 0
                        · rw [if_pos q12]
                          exact tkv16
                        · rw [if_neg q12]
                          by_cases q13 : v20.1 = 0
                          · rw [if_pos q13]
                            exact tkv20
                          · rw [if_neg q13]
                            exact tkv22
                      · rw [if_neg q11]
                        by_cases q14 : v13.1 = 0
                        · rw [if_pos q14]
                          exact tkv13
                        · rw [if_neg q14]
                          exact tkv15
                    · rw [if_neg q10]
                      by_cases q15 : v25.1 = 0
                      · rw [if_pos q15]
                        exact tkv25
                      · rw [if_neg q15]
                        exact tkv27
                  · rw [if_neg q9]
                    by_cases q16 : v7.1 = 0
                    · rw [if_pos q16]
                      exact tkv7
                    · rw [if_neg q16]
                      exact tkv9
                · rw [if_neg q8]
                  by_cases q17 : v30.1 = 0
                  · rw [if_pos q17]
                    exact tkv30
                  · rw [if_neg q17]
                    exact tkv32
              · rw [if_neg q7]
                by_cases q18 : v36.1 = 0
                · rw [if_pos q18]
                  exact tkv36
                · rw [if_neg q18]
                  exact tkv38
            · rw [if_neg q6]
              exact tkv40
          · rw [if_neg q5]
            exact tkv4
        · rw [if_neg q4]
          by_cases q19 : v43.1 = 0
          · rw [if_pos q19]
            exact tkv43
          · rw [if_neg q19]
            exact tkv45
      · rw [if_neg q3]
        exact tkv46
    · rw [if_neg q2]
      exact tkv2
  · rw [if_neg q1]
    exact tkv1
theorem fr_X10_deed (M : zM) (ty : Nat) (n : Nat) (oz : Nat) (o : Nat) (ho : o ≠ 0 ∧ o ≠ 1 ∧ o ≠ 20) : (g_X10_deed M ty n oz) o = M o := by
  obtain ⟨v1, hv1⟩ : ∃ v, v = (g_X10_setting M ty 0) := ⟨_, rfl⟩
  have ev1 : (d_X10_deed_1 M ty n oz) = v1 := by unfold d_X10_deed_1; exact hv1.symm
  have fov1 : v1 o = M o := by rw [hv1]; exact ((fr_X10_setting M ty 0 o (by omega))).trans rfl
  obtain ⟨v2, hv2⟩ : ∃ v, v = (g_X10_setting M ty 1) := ⟨_, rfl⟩
  have ev2 : (d_X10_deed_2 M ty n oz) = v2 := by unfold d_X10_deed_2; exact hv2.symm
  have fov2 : v2 o = M o := by rw [hv2]; exact ((fr_X10_setting M ty 1 o (by omega))).trans rfl
  obtain ⟨v3, hv3⟩ : ∃ v, v = (g_X10_scan M ty) := ⟨_, rfl⟩
  have ev3 : (d_X10_deed_3 M ty n oz) = v3 := by unfold d_X10_deed_3; exact hv3.symm
  have fov3 : v3 o = M o := by rw [hv3]; exact ((fr_X10_scan M ty o (by omega))).trans rfl
  obtain ⟨v4, hv4⟩ : ∃ v, v = (g_X10_threeNumbers v3 ty n (g_X10_isWord M ty 4)) := ⟨_, rfl⟩
  have ev4 : (d_X10_deed_4 M ty n oz) = v4 := by unfold d_X10_deed_4; (try rw [ev3]); exact hv4.symm
  have fov4 : v4 o = M o := by rw [hv4]; exact ((fr_X10_threeNumbers v3 ty n (g_X10_isWord M ty 4) o (by omega))).trans fov3
  obtain ⟨v5, hv5⟩ : ∃ v, v = (g_X10_scan M ty) := ⟨_, rfl⟩
  have ev5 : (d_X10_deed_5 M ty n oz) = v5 := by unfold d_X10_deed_5; exact hv5.symm
  have fov5 : v5 o = M o := by rw [hv5]; exact ((fr_X10_scan M ty o (by omega))).trans rfl
  obtain ⟨v6, hv6⟩ : ∃ v, v = (g_X10_replicaHere v5 ty) := ⟨_, rfl⟩
  have ev6 : (d_X10_deed_6 M ty n oz) = v6 := by unfold d_X10_deed_6; (try rw [ev5]); exact hv6.symm
  have fov6 : v6.2 o = M o := by rw [hv6]; exact ((fr_X10_replicaHere v5 ty o (by omega))).trans fov5
  obtain ⟨v7, hv7⟩ : ∃ v, v = (g_X10_ends v6.2 (if (v6.2 0 18) = 0 then (if (g_X10_isUp v6.2 v6.1.toNatClampNeg) = (g_X10_isWord M ty 12) then (16 : Int32) else (0 : Int32)) else (0 : Int32))) := ⟨_, rfl⟩
  have ev7 : (d_X10_deed_7 M ty n oz) = v7 := by unfold d_X10_deed_7; (try rw [ev6]); exact hv7.symm
  have fov7 : v7.2 o = M o := by rw [hv7]; exact ((fr_X10_ends v6.2 (if (v6.2 0 18) = 0 then (if (g_X10_isUp v6.2 v6.1.toNatClampNeg) = (g_X10_isWord M ty 12) then (16 : Int32) else (0 : Int32)) else (0 : Int32)) o (by omega))).trans fov6
  obtain ⟨v9, hv9⟩ : ∃ v, v = (g_X10_upIt v7.2 n v6.1.toNatClampNeg (g_X10_isWord M ty 12)) := ⟨_, rfl⟩
  have ev9 : (d_X10_deed_9 M ty n oz) = v9 := by unfold d_X10_deed_9; (try rw [ev6]); (try rw [ev7]); exact hv9.symm
  have fov9 : v9.2 o = M o := by rw [hv9]; exact ((fr_X10_upIt v7.2 n v6.1.toNatClampNeg (g_X10_isWord M ty 12) o (by omega))).trans fov7
  obtain ⟨v10, hv10⟩ : ∃ v, v = (g_X10_scan M ty) := ⟨_, rfl⟩
  have ev10 : (d_X10_deed_10 M ty n oz) = v10 := by unfold d_X10_deed_10; exact hv10.symm
  have fov10 : v10 o = M o := by rw [hv10]; exact ((fr_X10_scan M ty o (by omega))).trans rfl
  obtain ⟨v11, hv11⟩ : ∃ v, v = (g_X10_replicaHere v10 ty) := ⟨_, rfl⟩
  have ev11 : (d_X10_deed_11 M ty n oz) = v11 := by unfold d_X10_deed_11; (try rw [ev10]); exact hv11.symm
  have fov11 : v11.2 o = M o := by rw [hv11]; exact ((fr_X10_replicaHere v10 ty o (by omega))).trans fov10
  obtain ⟨v12, hv12⟩ : ∃ v, v = (g_X10_replicaHere v11.2 ty) := ⟨_, rfl⟩
  have ev12 : (d_X10_deed_12 M ty n oz) = v12 := by unfold d_X10_deed_12; (try rw [ev11]); exact hv12.symm
  have fov12 : v12.2 o = M o := by rw [hv12]; exact ((fr_X10_replicaHere v11.2 ty o (by omega))).trans fov11
  obtain ⟨v13, hv13⟩ : ∃ v, v = (g_X10_ends v12.2 (if (v12.2 0 18) = 0 then (g_X10_noLink v12.2 v11.1.toNatClampNeg v12.1 (g_X10_isWord M ty 14)) else (0 : Int32))) := ⟨_, rfl⟩
  have ev13 : (d_X10_deed_13 M ty n oz) = v13 := by unfold d_X10_deed_13; (try rw [ev11]); (try rw [ev12]); exact hv13.symm
  have fov13 : v13.2 o = M o := by rw [hv13]; exact ((fr_X10_ends v12.2 (if (v12.2 0 18) = 0 then (g_X10_noLink v12.2 v11.1.toNatClampNeg v12.1 (g_X10_isWord M ty 14)) else (0 : Int32)) o (by omega))).trans fov12
  obtain ⟨v15, hv15⟩ : ∃ v, v = (g_X10_link v13.2 v11.1.toNatClampNeg v12.1.toNatClampNeg (g_X10_isWord M ty 14)) := ⟨_, rfl⟩
  have ev15 : (d_X10_deed_15 M ty n oz) = v15 := by unfold d_X10_deed_15; (try rw [ev11]); (try rw [ev12]); (try rw [ev13]); exact hv15.symm
  have fov15 : v15 o = M o := by rw [hv15]; exact ((fr_X10_link v13.2 v11.1.toNatClampNeg v12.1.toNatClampNeg (g_X10_isWord M ty 14) o (by omega))).trans fov13
  obtain ⟨v16, hv16⟩ : ∃ v, v = (g_X10_bareDeed M ty n oz) := ⟨_, rfl⟩
  have ev16 : (d_X10_deed_16 M ty n oz) = v16 := by unfold d_X10_deed_16; exact hv16.symm
  have fov16 : v16 o = M o := by rw [hv16]; exact ((fr_X10_bareDeed M ty n oz o (by omega))).trans rfl
  obtain ⟨v17, hv17⟩ : ∃ v, v = (g_X10_scan M ty) := ⟨_, rfl⟩
  have ev17 : (d_X10_deed_17 M ty n oz) = v17 := by unfold d_X10_deed_17; exact hv17.symm
  have fov17 : v17 o = M o := by rw [hv17]; exact ((fr_X10_scan M ty o (by omega))).trans rfl
  obtain ⟨v18, hv18⟩ : ∃ v, v = (g_X10_replicaHere v17 ty) := ⟨_, rfl⟩
  have ev18 : (d_X10_deed_18 M ty n oz) = v18 := by unfold d_X10_deed_18; (try rw [ev17]); exact hv18.symm
  have fov18 : v18.2 o = M o := by rw [hv18]; exact ((fr_X10_replicaHere v17 ty o (by omega))).trans fov17
  obtain ⟨v19, hv19⟩ : ∃ v, v = (g_X10_replicaHere v18.2 ty) := ⟨_, rfl⟩
  have ev19 : (d_X10_deed_19 M ty n oz) = v19 := by unfold d_X10_deed_19; (try rw [ev18]); exact hv19.symm
  have fov19 : v19.2 o = M o := by rw [hv19]; exact ((fr_X10_replicaHere v18.2 ty o (by omega))).trans fov18
  obtain ⟨v20, hv20⟩ : ∃ v, v = (g_X10_ends v19.2 (if (v19.2 0 18) = 0 then (g_X10_noLink v19.2 v18.1.toNatClampNeg v19.1 (g_X10_isWord M ty 14)) else (0 : Int32))) := ⟨_, rfl⟩
  have ev20 : (d_X10_deed_20 M ty n oz) = v20 := by unfold d_X10_deed_20; (try rw [ev18]); (try rw [ev19]); exact hv20.symm
  have fov20 : v20.2 o = M o := by rw [hv20]; exact ((fr_X10_ends v19.2 (if (v19.2 0 18) = 0 then (g_X10_noLink v19.2 v18.1.toNatClampNeg v19.1 (g_X10_isWord M ty 14)) else (0 : Int32)) o (by omega))).trans fov19
  obtain ⟨v22, hv22⟩ : ∃ v, v = (g_X10_link v20.2 v18.1.toNatClampNeg v19.1.toNatClampNeg (g_X10_isWord M ty 14)) := ⟨_, rfl⟩
  have ev22 : (d_X10_deed_22 M ty n oz) = v22 := by unfold d_X10_deed_22; (try rw [ev18]); (try rw [ev19]); (try rw [ev20]); exact hv22.symm
  have fov22 : v22 o = M o := by rw [hv22]; exact ((fr_X10_link v20.2 v18.1.toNatClampNeg v19.1.toNatClampNeg (g_X10_isWord M ty 14) o (by omega))).trans fov20
  obtain ⟨v23, hv23⟩ : ∃ v, v = (g_X10_scan M ty) := ⟨_, rfl⟩
  have ev23 : (d_X10_deed_23 M ty n oz) = v23 := by unfold d_X10_deed_23; exact hv23.symm
  have fov23 : v23 o = M o := by rw [hv23]; exact ((fr_X10_scan M ty o (by omega))).trans rfl
  obtain ⟨v24, hv24⟩ : ∃ v, v = (g_X10_replicaHere v23 ty) := ⟨_, rfl⟩
  have ev24 : (d_X10_deed_24 M ty n oz) = v24 := by unfold d_X10_deed_24; (try rw [ev23]); exact hv24.symm
  have fov24 : v24.2 o = M o := by rw [hv24]; exact ((fr_X10_replicaHere v23 ty o (by omega))).trans fov23
  obtain ⟨v25, hv25⟩ : ∃ v, v = (g_X10_ends v24.2 (if (v24.2 0 18) = 0 then (if (g_X10_isUp v24.2 v24.1.toNatClampNeg) = (g_X10_isWord M ty 12) then (16 : Int32) else (0 : Int32)) else (0 : Int32))) := ⟨_, rfl⟩
  have ev25 : (d_X10_deed_25 M ty n oz) = v25 := by unfold d_X10_deed_25; (try rw [ev24]); exact hv25.symm
  have fov25 : v25.2 o = M o := by rw [hv25]; exact ((fr_X10_ends v24.2 (if (v24.2 0 18) = 0 then (if (g_X10_isUp v24.2 v24.1.toNatClampNeg) = (g_X10_isWord M ty 12) then (16 : Int32) else (0 : Int32)) else (0 : Int32)) o (by omega))).trans fov24
  obtain ⟨v27, hv27⟩ : ∃ v, v = (g_X10_upIt v25.2 n v24.1.toNatClampNeg (g_X10_isWord M ty 12)) := ⟨_, rfl⟩
  have ev27 : (d_X10_deed_27 M ty n oz) = v27 := by unfold d_X10_deed_27; (try rw [ev24]); (try rw [ev25]); exact hv27.symm
  have fov27 : v27.2 o = M o := by rw [hv27]; exact ((fr_X10_upIt v25.2 n v24.1.toNatClampNeg (g_X10_isWord M ty 12) o (by omega))).trans fov25
  obtain ⟨v28, hv28⟩ : ∃ v, v = (g_X10_scan M ty) := ⟨_, rfl⟩
  have ev28 : (d_X10_deed_28 M ty n oz) = v28 := by unfold d_X10_deed_28; exact hv28.symm
  have fov28 : v28 o = M o := by rw [hv28]; exact ((fr_X10_scan M ty o (by omega))).trans rfl
  obtain ⟨v29, hv29⟩ : ∃ v, v = (g_X10_replicaHere v28 ty) := ⟨_, rfl⟩
  have ev29 : (d_X10_deed_29 M ty n oz) = v29 := by unfold d_X10_deed_29; (try rw [ev28]); exact hv29.symm
  have fov29 : v29.2 o = M o := by rw [hv29]; exact ((fr_X10_replicaHere v28 ty o (by omega))).trans fov28
  obtain ⟨v30, hv30⟩ : ∃ v, v = (g_X10_ends v29.2 (if (v29.2 0 18) = 0 then (g_X10_noRecount v29.2 oz v29.1.toNatClampNeg) else (0 : Int32))) := ⟨_, rfl⟩
  have ev30 : (d_X10_deed_30 M ty n oz) = v30 := by unfold d_X10_deed_30; (try rw [ev29]); exact hv30.symm
  have fov30 : v30.2 o = M o := by rw [hv30]; exact ((fr_X10_ends v29.2 (if (v29.2 0 18) = 0 then (g_X10_noRecount v29.2 oz v29.1.toNatClampNeg) else (0 : Int32)) o (by omega))).trans fov29
  obtain ⟨v32, hv32⟩ : ∃ v, v = (g_X10_recountIt v30.2 n oz) := ⟨_, rfl⟩
  have ev32 : (d_X10_deed_32 M ty n oz) = v32 := by unfold d_X10_deed_32; (try rw [ev30]); exact hv32.symm
  have fov32 : v32.2 o = M o := by rw [hv32]; exact ((fr_X10_recountIt v30.2 n oz o (by omega))).trans fov30
  obtain ⟨v33, hv33⟩ : ∃ v, v = (g_X10_scan M ty) := ⟨_, rfl⟩
  have ev33 : (d_X10_deed_33 M ty n oz) = v33 := by unfold d_X10_deed_33; exact hv33.symm
  have fov33 : v33 o = M o := by rw [hv33]; exact ((fr_X10_scan M ty o (by omega))).trans rfl
  obtain ⟨v34, hv34⟩ : ∃ v, v = (g_X10_replicaHere v33 ty) := ⟨_, rfl⟩
  have ev34 : (d_X10_deed_34 M ty n oz) = v34 := by unfold d_X10_deed_34; (try rw [ev33]); exact hv34.symm
  have fov34 : v34.2 o = M o := by rw [hv34]; exact ((fr_X10_replicaHere v33 ty o (by omega))).trans fov33
  obtain ⟨v35, hv35⟩ : ∃ v, v = (g_X10_read v34.2 ty 0 65535) := ⟨_, rfl⟩
  have ev35 : (d_X10_deed_35 M ty n oz) = v35 := by unfold d_X10_deed_35; (try rw [ev34]); exact hv35.symm
  have fov35 : v35.2 o = M o := by rw [hv35]; exact ((fr_X10_read v34.2 ty 0 65535 o (by omega))).trans fov34
  obtain ⟨v36, hv36⟩ : ∃ v, v = (g_X10_ends v35.2 (if (v35.2 0 18) = 0 then (g_X10_noSeal v35.2 v34.1.toNatClampNeg) else (0 : Int32))) := ⟨_, rfl⟩
  have ev36 : (d_X10_deed_36 M ty n oz) = v36 := by unfold d_X10_deed_36; (try rw [ev34]); (try rw [ev35]); exact hv36.symm
  have fov36 : v36.2 o = M o := by rw [hv36]; exact ((fr_X10_ends v35.2 (if (v35.2 0 18) = 0 then (g_X10_noSeal v35.2 v34.1.toNatClampNeg) else (0 : Int32)) o (by omega))).trans fov35
  obtain ⟨v38, hv38⟩ : ∃ v, v = (g_X10_sealIt v36.2 n v34.1.toNatClampNeg v35.1) := ⟨_, rfl⟩
  have ev38 : (d_X10_deed_38 M ty n oz) = v38 := by unfold d_X10_deed_38; (try rw [ev34]); (try rw [ev35]); (try rw [ev36]); exact hv38.symm
  have fov38 : v38.2 o = M o := by rw [hv38]; exact ((fr_X10_sealIt v36.2 n v34.1.toNatClampNeg v35.1 o (by omega))).trans fov36
  obtain ⟨v39, hv39⟩ : ∃ v, v = (g_X10_scan M ty) := ⟨_, rfl⟩
  have ev39 : (d_X10_deed_39 M ty n oz) = v39 := by unfold d_X10_deed_39; exact hv39.symm
  have fov39 : v39 o = M o := by rw [hv39]; exact ((fr_X10_scan M ty o (by omega))).trans rfl
  obtain ⟨v40, hv40⟩ : ∃ v, v = (g_X10_threeNumbers v39 ty n (g_X10_isWord M ty 4)) := ⟨_, rfl⟩
  have ev40 : (d_X10_deed_40 M ty n oz) = v40 := by unfold d_X10_deed_40; (try rw [ev39]); exact hv40.symm
  have fov40 : v40 o = M o := by rw [hv40]; exact ((fr_X10_threeNumbers v39 ty n (g_X10_isWord M ty 4) o (by omega))).trans fov39
  obtain ⟨v41, hv41⟩ : ∃ v, v = (g_X10_scan M ty) := ⟨_, rfl⟩
  have ev41 : (d_X10_deed_41 M ty n oz) = v41 := by unfold d_X10_deed_41; exact hv41.symm
  have fov41 : v41 o = M o := by rw [hv41]; exact ((fr_X10_scan M ty o (by omega))).trans rfl
  obtain ⟨v42, hv42⟩ : ∃ v, v = (g_X10_replicaHere v41 ty) := ⟨_, rfl⟩
  have ev42 : (d_X10_deed_42 M ty n oz) = v42 := by unfold d_X10_deed_42; (try rw [ev41]); exact hv42.symm
  have fov42 : v42.2 o = M o := by rw [hv42]; exact ((fr_X10_replicaHere v41 ty o (by omega))).trans fov41
  obtain ⟨v43, hv43⟩ : ∃ v, v = (g_X10_ends v42.2 (if (v42.2 0 18) = 0 then (g_X10_noCall v42.2 n v42.1.toNatClampNeg) else (0 : Int32))) := ⟨_, rfl⟩
  have ev43 : (d_X10_deed_43 M ty n oz) = v43 := by unfold d_X10_deed_43; (try rw [ev42]); exact hv43.symm
  have fov43 : v43.2 o = M o := by rw [hv43]; exact ((fr_X10_ends v42.2 (if (v42.2 0 18) = 0 then (g_X10_noCall v42.2 n v42.1.toNatClampNeg) else (0 : Int32)) o (by omega))).trans fov42
  obtain ⟨v45, hv45⟩ : ∃ v, v = (g_X10_callIt v43.2 n v42.1.toNatClampNeg) := ⟨_, rfl⟩
  have ev45 : (d_X10_deed_45 M ty n oz) = v45 := by unfold d_X10_deed_45; (try rw [ev42]); (try rw [ev43]); exact hv45.symm
  have fov45 : v45.2 o = M o := by rw [hv45]; exact ((fr_X10_callIt v43.2 n v42.1.toNatClampNeg o (by omega))).trans fov43
  obtain ⟨v46, hv46⟩ : ∃ v, v = (g_X10_setting M ty 2) := ⟨_, rfl⟩
  have ev46 : (d_X10_deed_46 M ty n oz) = v46 := by unfold d_X10_deed_46; exact hv46.symm
  have fov46 : v46 o = M o := by rw [hv46]; exact ((fr_X10_setting M ty 2 o (by omega))).trans rfl
  unfold g_X10_deed
  (try rw [ev1])
  (try rw [ev2])
  (try rw [ev3])
  (try rw [ev4])
  (try rw [ev5])
  (try rw [ev6])
  (try rw [ev7])
  (try rw [ev9])
  (try rw [ev10])
  (try rw [ev11])
  (try rw [ev12])
  (try rw [ev13])
  (try rw [ev15])
  (try rw [ev16])
  (try rw [ev17])
  (try rw [ev18])
  (try rw [ev19])
  (try rw [ev20])
  (try rw [ev22])
  (try rw [ev23])
  (try rw [ev24])
  (try rw [ev25])
  (try rw [ev27])
  (try rw [ev28])
  (try rw [ev29])
  (try rw [ev30])
  (try rw [ev32])
  (try rw [ev33])
  (try rw [ev34])
  (try rw [ev35])
  (try rw [ev36])
  (try rw [ev38])
  (try rw [ev39])
  (try rw [ev40])
  (try rw [ev41])
  (try rw [ev42])
  (try rw [ev43])
  (try rw [ev45])
  (try rw [ev46])
  by_cases q1 : (g_X10_isWord M ty 0) = 0
  · rw [if_pos q1]
    by_cases q2 : (g_X10_isWord M ty 1) = 0
    · rw [if_pos q2]
      by_cases q3 : (g_X10_isWord M ty 2) = 0
      · rw [if_pos q3]
        by_cases q4 : (g_X10_isWord M ty 3) = 0
        · rw [if_pos q4]
          by_cases q5 : (g_X10_isWord M ty 4) = 0
          · rw [if_pos q5]
            by_cases q6 : (g_X10_isWord M ty 7) = 0
            · rw [if_pos q6]
              by_cases q7 : (g_X10_isWord M ty 5) = 0
              · rw [if_pos q7]
                by_cases q8 : (g_X10_isWord M ty 9) = 0
                · rw [if_pos q8]
                  by_cases q9 : (g_X10_isWord M ty 12) = 0
                  · rw [if_pos q9]
                    by_cases q10 : (g_X10_isWord M ty 11) = 0
                    · rw [if_pos q10]
                      by_cases q11 : (g_X10_isWord M ty 14) = 0
                      · rw [if_pos q11]
                        by_cases q12 : (g_X10_isWord M ty 13) = 0
                        · rw [if_pos q12]
                          exact fov16
                        · rw [if_neg q12]
                          by_cases q13 : v20.1 = 0
                          · rw [if_pos q13]
                            exact fov20
                          · rw [if_neg q13]
                            exact fov22
                      · rw [if_neg q11]
                        by_cases q14 : v13.1 = 0
                        · rw [if_pos q14]
                          exact fov13
                        · rw [if_neg q14]
                          exact fov15
                    · rw [if_neg q10]
                      by_cases q15 : v25.1 = 0
                      · rw [if_pos q15]
                        exact fov25
                      · rw [if_neg q15]
                        exact fov27
                  · rw [if_neg q9]
                    by_cases q16 : v7.1 = 0
                    · rw [if_pos q16]
                      exact fov7
                    · rw [if_neg q16]
                      exact fov9
                · rw [if_neg q8]
                  by_cases q17 : v30.1 = 0
                  · rw [if_pos q17]
                    exact fov30
                  · rw [if_neg q17]
                    exact fov32
              · rw [if_neg q7]
                by_cases q18 : v36.1 = 0
                · rw [if_pos q18]
                  exact fov36
                · rw [if_neg q18]
                  exact fov38
            · rw [if_neg q6]
              exact fov40
          · rw [if_neg q5]
            exact fov4
        · rw [if_neg q4]
          by_cases q19 : v43.1 = 0
          · rw [if_pos q19]
            exact fov43
          · rw [if_neg q19]
            exact fov45
      · rw [if_neg q3]
        exact fov46
    · rw [if_neg q2]
      exact fov2
  · rw [if_neg q1]
    exact fov1
