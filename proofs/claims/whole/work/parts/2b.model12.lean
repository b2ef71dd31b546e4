noncomputable def g_X10_call_b1 (M : zM) (n : Nat) (r : Int32) : Int32 × zM := (0, (zU (zU M 0 0 0) 0 0 1))
set_option maxRecDepth 100000 in
theorem c_X10_call_b1 (M : zM) (gp : Nat → Option Nat) (n : Nat) (r : Int32) (hn : M 1 0 = nI n) (h9 : n ≤ 9) (h0 : 0 < n) (hb : r < 0 ∨ nI n ≤ r) : zC yy_X10_call 0 0 [.ref 0, .int r] (sh_Model gp) M (some (.int (g_X10_call_b1 M n r).1)) (sh_Model gp) (g_X10_call_b1 M n r).2 := by
  refine zC.of (by decide +kernel) rfl (Nat.le_of_ble_eq_true rfl) ?_
  refine zT.run [(.aload_n 0, 0, 0, 0), (.iconst 0, 0, 0, 0), (.putfield 61, 8, 0, 5149), (.aload_n 0, 0, 0, 0), (.iload_n 1, 0, 0, 0)] (pe := 7) (ls' := [some (.ref 0), some (.int r), none]) (st' := [.int r, .ref 0]) (M' := (zU M 0 0 0)) (by decide +kernel) rfl ?_
  refine zT.cV_all (o := 0) (idx := 160) (av := [.int r]) (rv := (some (.int 1))) (st := []) (S1 := [.int 1]) (c_X10_noReplica_bad (zU M 0 0 0) gp n r hn h9 h0 hb) k_X10_noReplica _ _ rfl rfl rfl (zIn (w := 5216) (by decide +kernel) rfl) (by decide +kernel) (by decide +kernel) rfl (Nat.le_of_ble_eq_true rfl) rfl ?_
  refine zT.zeq (tgt := 15) (off := 5) (by decide +kernel) (by decide) (fun c => absurd c (by decide)) (fun _ => ?_)
  refine zT.run [(.iconst 0, 0, 0, 0)] (pe := 14) (ls' := [some (.ref 0), some (.int r), none]) (st' := [.int 0]) (M' := (zU (zU M 0 0 0) 0 0 1)) (by decide +kernel) rfl ?_
  exact zT.iret (ty := Jvm.ClassFile.FieldType.int) (by simp only [g_X10_call_b1]; try rfl) (by simp only [g_X10_call_b1]; try rfl) rfl rfl (by decide +kernel)
noncomputable def g_X10_seal_b1 (M : zM) (n : Nat) (r : Int32) (x : Int32) : Int32 × zM := (0, (zU (zU M 0 0 0) 0 0 1))
set_option maxRecDepth 100000 in
theorem c_X10_seal_b1 (M : zM) (gp : Nat → Option Nat) (n : Nat) (r : Int32) (x : Int32) (hn : M 1 0 = nI n) (h9 : n ≤ 9) (h0 : 0 < n) (hb : r < 0 ∨ nI n ≤ r) : zC yy_X10_seal 0 0 [.ref 0, .int r, .int x] (sh_Model gp) M (some (.int (g_X10_seal_b1 M n r x).1)) (sh_Model gp) (g_X10_seal_b1 M n r x).2 := by
  refine zC.of (by decide +kernel) rfl (Nat.le_of_ble_eq_true rfl) ?_
  refine zT.run [(.aload_n 0, 0, 0, 0), (.iconst 0, 0, 0, 0), (.putfield 61, 8, 0, 5149), (.aload_n 0, 0, 0, 0), (.iload_n 1, 0, 0, 0)] (pe := 7) (ls' := [some (.ref 0), some (.int r), some (.int x), none]) (st' := [.int r, .ref 0]) (M' := (zU M 0 0 0)) (by decide +kernel) rfl ?_
  refine zT.cV_all (o := 0) (idx := 160) (av := [.int r]) (rv := (some (.int 1))) (st := []) (S1 := [.int 1]) (c_X10_noReplica_bad (zU M 0 0 0) gp n r hn h9 h0 hb) k_X10_noReplica _ _ rfl rfl rfl (zIn (w := 5216) (by decide +kernel) rfl) (by decide +kernel) (by decide +kernel) rfl (Nat.le_of_ble_eq_true rfl) rfl ?_
  refine zT.zne (tgt := 25) (off := 15) (by decide +kernel) (by decide) (fun _ => ?_) (fun c => absurd c (by decide))
  refine zT.run [(.iconst 0, 0, 0, 0)] (pe := 26) (ls' := [some (.ref 0), some (.int r), some (.int x), none]) (st' := [.int 0]) (M' := (zU (zU M 0 0 0) 0 0 1)) (by decide +kernel) rfl ?_
  exact zT.iret (ty := Jvm.ClassFile.FieldType.int) (by simp only [g_X10_seal_b1]; try rfl) (by simp only [g_X10_seal_b1]; try rfl) rfl rfl (by decide +kernel)
noncomputable def g_X10_seal_b2 (M : zM) (n : Nat) (r : Nat) (x : Int32) : Int32 × zM := (0, (zU (zU M 0 0 0) 0 0 2))
set_option maxRecDepth 100000 in
theorem c_X10_seal_b2 (M : zM) (gp : Nat → Option Nat) (n : Nat) (r : Nat) (x : Int32) (hn : M 1 0 = nI n) (h9 : n ≤ 9) (h_r : r < n) (hb : x < 0 ∨ ¬ x ≤ 65535) : zC yy_X10_seal 0 0 [.ref 0, .int (nI r), .int x] (sh_Model gp) M (some (.int (g_X10_seal_b2 M n r x).1)) (sh_Model gp) (g_X10_seal_b2 M n r x).2 := by
  refine zC.of (by decide +kernel) rfl (Nat.le_of_ble_eq_true rfl) ?_
  refine zT.run [(.aload_n 0, 0, 0, 0), (.iconst 0, 0, 0, 0), (.putfield 61, 8, 0, 5149), (.aload_n 0, 0, 0, 0), (.iload_n 1, 0, 0, 0)] (pe := 7) (ls' := [some (.ref 0), some (.int (nI r)), some (.int x), none]) (st' := [.int (nI r), .ref 0]) (M' := (zU M 0 0 0)) (by decide +kernel) rfl ?_
  refine zT.cV_own (o := 0) (idx := 160) (av := [.int (nI r)]) (rv := (some (.int 0))) (st := []) (S1 := [.int 0]) (c_X10_noReplica_ok (zU M 0 0 0) gp n r hn h9 h_r) k_X10_noReplica _ _ rfl rfl rfl (zIn (w := 5216) (by decide +kernel) rfl) (by decide +kernel) (by decide +kernel) rfl (Nat.le_of_ble_eq_true rfl) rfl ?_
  refine zT.zne (tgt := 25) (off := 15) (by decide +kernel) (by decide) (fun c => absurd (by decide) c) (fun _ => ?_)
  refine zT.run [(.aload_n 0, 0, 0, 0), (.iload_n 2, 0, 0, 0), (.iconst 0, 0, 0, 0), (.ldc 169, 65535, 0, 6010), (.iconst 2, 0, 0, 0)] (pe := 19) (ls' := [some (.ref 0), some (.int (nI r)), some (.int x), none]) (st' := [.int 2, .int 65535, .int 0, .int x, .ref 0]) (M' := (zU M 0 0 0)) (by decide +kernel) rfl ?_
  refine zT.cV_all (o := 0) (idx := 72) (av := [.int x, .int 0, .int 65535, .int 2]) (rv := (some (.int 1))) (st := []) (S1 := [.int 1]) (c_X10_bad_bad (zU M 0 0 0) gp x 0 65535 2 hb) k_X10_bad _ _ rfl rfl rfl (zIn (w := 5220) (by decide +kernel) rfl) (by decide +kernel) (by decide +kernel) rfl (Nat.le_of_ble_eq_true rfl) rfl ?_
  refine zT.zeq (tgt := 27) (off := 5) (by decide +kernel) (by decide) (fun c => absurd c (by decide)) (fun _ => ?_)
  refine zT.run [(.iconst 0, 0, 0, 0)] (pe := 26) (ls' := [some (.ref 0), some (.int (nI r)), some (.int x), none]) (st' := [.int 0]) (M' := (zU (zU M 0 0 0) 0 0 2)) (by decide +kernel) rfl ?_
  exact zT.iret (ty := Jvm.ClassFile.FieldType.int) (by simp only [g_X10_seal_b2]; try rfl) (by simp only [g_X10_seal_b2]; try rfl) rfl rfl (by decide +kernel)
noncomputable def g_X10_vote_b1 (M : zM) (n : Nat) (r : Int32) (cd : Int32) (x : Int32) : Int32 × zM := (0, (zU (zU M 0 0 0) 0 0 1))
set_option maxRecDepth 100000 in
theorem c_X10_vote_b1 (M : zM) (gp : Nat → Option Nat) (n : Nat) (r : Int32) (cd : Int32) (x : Int32) (hn : M 1 0 = nI n) (h9 : n ≤ 9) (h0 : 0 < n) (hb : r < 0 ∨ nI n ≤ r) : zC yy_X10_vote 0 0 [.ref 0, .int r, .int cd, .int x] (sh_Model gp) M (some (.int (g_X10_vote_b1 M n r cd x).1)) (sh_Model gp) (g_X10_vote_b1 M n r cd x).2 := by
  refine zC.of (by decide +kernel) rfl (Nat.le_of_ble_eq_true rfl) ?_
  refine zT.run [(.aload_n 0, 0, 0, 0), (.iconst 0, 0, 0, 0), (.putfield 61, 8, 0, 5149), (.aload_n 0, 0, 0, 0), (.iload_n 1, 0, 0, 0)] (pe := 7) (ls' := [some (.ref 0), some (.int r), some (.int cd), some (.int x), none]) (st' := [.int r, .ref 0]) (M' := (zU M 0 0 0)) (by decide +kernel) rfl ?_
  refine zT.cV_all (o := 0) (idx := 160) (av := [.int r]) (rv := (some (.int 1))) (st := []) (S1 := [.int 1]) (c_X10_noReplica_bad (zU M 0 0 0) gp n r hn h9 h0 hb) k_X10_noReplica _ _ rfl rfl rfl (zIn (w := 5216) (by decide +kernel) rfl) (by decide +kernel) (by decide +kernel) rfl (Nat.le_of_ble_eq_true rfl) rfl ?_
  refine zT.zne (tgt := 34) (off := 24) (by decide +kernel) (by decide) (fun _ => ?_) (fun c => absurd c (by decide))
  refine zT.run [(.iconst 0, 0, 0, 0)] (pe := 35) (ls' := [some (.ref 0), some (.int r), some (.int cd), some (.int x), none]) (st' := [.int 0]) (M' := (zU (zU M 0 0 0) 0 0 1)) (by decide +kernel) rfl ?_
  exact zT.iret (ty := Jvm.ClassFile.FieldType.int) (by simp only [g_X10_vote_b1]; try rfl) (by simp only [g_X10_vote_b1]; try rfl) rfl rfl (by decide +kernel)
noncomputable def g_X10_vote_b2 (M : zM) (n : Nat) (r : Nat) (cd : Int32) (x : Int32) : Int32 × zM := (0, (zU (zU M 0 0 0) 0 0 1))
set_option maxRecDepth 100000 in
theorem c_X10_vote_b2 (M : zM) (gp : Nat → Option Nat) (n : Nat) (r : Nat) (cd : Int32) (x : Int32) (hn : M 1 0 = nI n) (h9 : n ≤ 9) (h0 : 0 < n) (h_r : r < n) (hb : cd < 0 ∨ nI n ≤ cd) : zC yy_X10_vote 0 0 [.ref 0, .int (nI r), .int cd, .int x] (sh_Model gp) M (some (.int (g_X10_vote_b2 M n r cd x).1)) (sh_Model gp) (g_X10_vote_b2 M n r cd x).2 := by
  refine zC.of (by decide +kernel) rfl (Nat.le_of_ble_eq_true rfl) ?_
  refine zT.run [(.aload_n 0, 0, 0, 0), (.iconst 0, 0, 0, 0), (.putfield 61, 8, 0, 5149), (.aload_n 0, 0, 0, 0), (.iload_n 1, 0, 0, 0)] (pe := 7) (ls' := [some (.ref 0), some (.int (nI r)), some (.int cd), some (.int x), none]) (st' := [.int (nI r), .ref 0]) (M' := (zU M 0 0 0)) (by decide +kernel) rfl ?_
  refine zT.cV_own (o := 0) (idx := 160) (av := [.int (nI r)]) (rv := (some (.int 0))) (st := []) (S1 := [.int 0]) (c_X10_noReplica_ok (zU M 0 0 0) gp n r hn h9 h_r) k_X10_noReplica _ _ rfl rfl rfl (zIn (w := 5216) (by decide +kernel) rfl) (by decide +kernel) (by decide +kernel) rfl (Nat.le_of_ble_eq_true rfl) rfl ?_
  refine zT.zne (tgt := 34) (off := 24) (by decide +kernel) (by decide) (fun c => absurd (by decide) c) (fun _ => ?_)
  refine zT.run [(.aload_n 0, 0, 0, 0), (.iload_n 2, 0, 0, 0)] (pe := 15) (ls' := [some (.ref 0), some (.int (nI r)), some (.int cd), some (.int x), none]) (st' := [.int cd, .ref 0]) (M' := (zU M 0 0 0)) (by decide +kernel) rfl ?_
  refine zT.cV_all (o := 0) (idx := 160) (av := [.int cd]) (rv := (some (.int 1))) (st := []) (S1 := [.int 1]) (c_X10_noReplica_bad (zU M 0 0 0) gp n cd hn h9 h0 hb) k_X10_noReplica _ _ rfl rfl rfl (zIn (w := 5216) (by decide +kernel) rfl) (by decide +kernel) (by decide +kernel) rfl (Nat.le_of_ble_eq_true rfl) rfl ?_
  refine zT.zne (tgt := 34) (off := 16) (by decide +kernel) (by decide) (fun _ => ?_) (fun c => absurd c (by decide))
  refine zT.run [(.iconst 0, 0, 0, 0)] (pe := 35) (ls' := [some (.ref 0), some (.int (nI r)), some (.int cd), some (.int x), none]) (st' := [.int 0]) (M' := (zU (zU M 0 0 0) 0 0 1)) (by decide +kernel) rfl ?_
  exact zT.iret (ty := Jvm.ClassFile.FieldType.int) (by simp only [g_X10_vote_b2]; try rfl) (by simp only [g_X10_vote_b2]; try rfl) rfl rfl (by decide +kernel)
noncomputable def g_X10_vote_b3 (M : zM) (n : Nat) (r : Nat) (cd : Nat) (x : Int32) : Int32 × zM := (0, (zU (zU M 0 0 0) 0 0 2))
set_option maxRecDepth 100000 in
theorem c_X10_vote_b3 (M : zM) (gp : Nat → Option Nat) (n : Nat) (r : Nat) (cd : Nat) (x : Int32) (hn : M 1 0 = nI n) (h9 : n ≤ 9) (h_r : r < n) (h_cd : cd < n) (hb : x < 0 ∨ ¬ x ≤ 999) : zC yy_X10_vote 0 0 [.ref 0, .int (nI r), .int (nI cd), .int x] (sh_Model gp) M (some (.int (g_X10_vote_b3 M n r cd x).1)) (sh_Model gp) (g_X10_vote_b3 M n r cd x).2 := by
  refine zC.of (by decide +kernel) rfl (Nat.le_of_ble_eq_true rfl) ?_
  refine zT.run [(.aload_n 0, 0, 0, 0), (.iconst 0, 0, 0, 0), (.putfield 61, 8, 0, 5149), (.aload_n 0, 0, 0, 0), (.iload_n 1, 0, 0, 0)] (pe := 7) (ls' := [some (.ref 0), some (.int (nI r)), some (.int (nI cd)), some (.int x), none]) (st' := [.int (nI r), .ref 0]) (M' := (zU M 0 0 0)) (by decide +kernel) rfl ?_
  refine zT.cV_own (o := 0) (idx := 160) (av := [.int (nI r)]) (rv := (some (.int 0))) (st := []) (S1 := [.int 0]) (c_X10_noReplica_ok (zU M 0 0 0) gp n r hn h9 h_r) k_X10_noReplica _ _ rfl rfl rfl (zIn (w := 5216) (by decide +kernel) rfl) (by decide +kernel) (by decide +kernel) rfl (Nat.le_of_ble_eq_true rfl) rfl ?_
  refine zT.zne (tgt := 34) (off := 24) (by decide +kernel) (by decide) (fun c => absurd (by decide) c) (fun _ => ?_)
  refine zT.run [(.aload_n 0, 0, 0, 0), (.iload_n 2, 0, 0, 0)] (pe := 15) (ls' := [some (.ref 0), some (.int (nI r)), some (.int (nI cd)), some (.int x), none]) (st' := [.int (nI cd), .ref 0]) (M' := (zU M 0 0 0)) (by decide +kernel) rfl ?_
  refine zT.cV_own (o := 0) (idx := 160) (av := [.int (nI cd)]) (rv := (some (.int 0))) (st := []) (S1 := [.int 0]) (c_X10_noReplica_ok (zU M 0 0 0) gp n cd hn h9 h_cd) k_X10_noReplica _ _ rfl rfl rfl (zIn (w := 5216) (by decide +kernel) rfl) (by decide +kernel) (by decide +kernel) rfl (Nat.le_of_ble_eq_true rfl) rfl ?_
  refine zT.zne (tgt := 34) (off := 16) (by decide +kernel) (by decide) (fun c => absurd (by decide) c) (fun _ => ?_)
  refine zT.run [(.aload_n 0, 0, 0, 0), (.iload_n 3, 0, 0, 0), (.iconst 0, 0, 0, 0), (.sipush 999, 0, 0, 0), (.iconst 2, 0, 0, 0)] (pe := 28) (ls' := [some (.ref 0), some (.int (nI r)), some (.int (nI cd)), some (.int x), none]) (st' := [.int 2, .int 999, .int 0, .int x, .ref 0]) (M' := (zU M 0 0 0)) (by decide +kernel) rfl ?_
  refine zT.cV_all (o := 0) (idx := 72) (av := [.int x, .int 0, .int 999, .int 2]) (rv := (some (.int 1))) (st := []) (S1 := [.int 1]) (c_X10_bad_bad (zU M 0 0 0) gp x 0 999 2 hb) k_X10_bad _ _ rfl rfl rfl (zIn (w := 5220) (by decide +kernel) rfl) (by decide +kernel) (by decide +kernel) rfl (Nat.le_of_ble_eq_true rfl) rfl ?_
  refine zT.zeq (tgt := 36) (off := 5) (by decide +kernel) (by decide) (fun c => absurd c (by decide)) (fun _ => ?_)
  refine zT.run [(.iconst 0, 0, 0, 0)] (pe := 35) (ls' := [some (.ref 0), some (.int (nI r)), some (.int (nI cd)), some (.int x), none]) (st' := [.int 0]) (M' := (zU (zU M 0 0 0) 0 0 2)) (by decide +kernel) rfl ?_
  exact zT.iret (ty := Jvm.ClassFile.FieldType.int) (by simp only [g_X10_vote_b3]; try rfl) (by simp only [g_X10_vote_b3]; try rfl) rfl rfl (by decide +kernel)
noncomputable def g_X10_breakSeal_b1 (M : zM) (n : Nat) (r : Int32) (cd : Int32) (x : Int32) : Int32 × zM := (0, (zU (zU M 0 0 0) 0 0 1))
set_option maxRecDepth 100000 in
theorem c_X10_breakSeal_b1 (M : zM) (gp : Nat → Option Nat) (n : Nat) (r : Int32) (cd : Int32) (x : Int32) (hn : M 1 0 = nI n) (h9 : n ≤ 9) (h0 : 0 < n) (hb : r < 0 ∨ nI n ≤ r) : zC yy_X10_breakSeal 0 0 [.ref 0, .int r, .int cd, .int x] (sh_Model gp) M (some (.int (g_X10_breakSeal_b1 M n r cd x).1)) (sh_Model gp) (g_X10_breakSeal_b1 M n r cd x).2 := by
  refine zC.of (by decide +kernel) rfl (Nat.le_of_ble_eq_true rfl) ?_
  refine zT.run [(.aload_n 0, 0, 0, 0), (.iconst 0, 0, 0, 0), (.putfield 61, 8, 0, 5149), (.aload_n 0, 0, 0, 0), (.iload_n 1, 0, 0, 0)] (pe := 7) (ls' := [some (.ref 0), some (.int r), some (.int cd), some (.int x), none]) (st' := [.int r, .ref 0]) (M' := (zU M 0 0 0)) (by decide +kernel) rfl ?_
  refine zT.cV_all (o := 0) (idx := 160) (av := [.int r]) (rv := (some (.int 1))) (st := []) (S1 := [.int 1]) (c_X10_noReplica_bad (zU M 0 0 0) gp n r hn h9 h0 hb) k_X10_noReplica _ _ rfl rfl rfl (zIn (w := 5216) (by decide +kernel) rfl) (by decide +kernel) (by decide +kernel) rfl (Nat.le_of_ble_eq_true rfl) rfl ?_
  refine zT.zne (tgt := 34) (off := 24) (by decide +kernel) (by decide) (fun _ => ?_) (fun c => absurd c (by decide))
  refine zT.run [(.iconst 0, 0, 0, 0)] (pe := 35) (ls' := [some (.ref 0), some (.int r), some (.int cd), some (.int x), none]) (st' := [.int 0]) (M' := (zU (zU M 0 0 0) 0 0 1)) (by decide +kernel) rfl ?_
  exact zT.iret (ty := Jvm.ClassFile.FieldType.int) (by simp only [g_X10_breakSeal_b1]; try rfl) (by simp only [g_X10_breakSeal_b1]; try rfl) rfl rfl (by decide +kernel)
noncomputable def g_X10_breakSeal_b2 (M : zM) (n : Nat) (r : Nat) (cd : Int32) (x : Int32) : Int32 × zM := (0, (zU (zU M 0 0 0) 0 0 1))
set_option maxRecDepth 100000 in
theorem c_X10_breakSeal_b2 (M : zM) (gp : Nat → Option Nat) (n : Nat) (r : Nat) (cd : Int32) (x : Int32) (hn : M 1 0 = nI n) (h9 : n ≤ 9) (h0 : 0 < n) (h_r : r < n) (hb : cd < 0 ∨ nI n ≤ cd) : zC yy_X10_breakSeal 0 0 [.ref 0, .int (nI r), .int cd, .int x] (sh_Model gp) M (some (.int (g_X10_breakSeal_b2 M n r cd x).1)) (sh_Model gp) (g_X10_breakSeal_b2 M n r cd x).2 := by
  refine zC.of (by decide +kernel) rfl (Nat.le_of_ble_eq_true rfl) ?_
  refine zT.run [(.aload_n 0, 0, 0, 0), (.iconst 0, 0, 0, 0), (.putfield 61, 8, 0, 5149), (.aload_n 0, 0, 0, 0), (.iload_n 1, 0, 0, 0)] (pe := 7) (ls' := [some (.ref 0), some (.int (nI r)), some (.int cd), some (.int x), none]) (st' := [.int (nI r), .ref 0]) (M' := (zU M 0 0 0)) (by decide +kernel) rfl ?_
  refine zT.cV_own (o := 0) (idx := 160) (av := [.int (nI r)]) (rv := (some (.int 0))) (st := []) (S1 := [.int 0]) (c_X10_noReplica_ok (zU M 0 0 0) gp n r hn h9 h_r) k_X10_noReplica _ _ rfl rfl rfl (zIn (w := 5216) (by decide +kernel) rfl) (by decide +kernel) (by decide +kernel) rfl (Nat.le_of_ble_eq_true rfl) rfl ?_
  refine zT.zne (tgt := 34) (off := 24) (by decide +kernel) (by decide) (fun c => absurd (by decide) c) (fun _ => ?_)
  refine zT.run [(.aload_n 0, 0, 0, 0), (.iload_n 2, 0, 0, 0)] (pe := 15) (ls' := [some (.ref 0), some (.int (nI r)), some (.int cd), some (.int x), none]) (st' := [.int cd, .ref 0]) (M' := (zU M 0 0 0)) (by decide +kernel) rfl ?_
  refine zT.cV_all (o := 0) (idx := 160) (av := [.int cd]) (rv := (some (.int 1))) (st := []) (S1 := [.int 1]) (c_X10_noReplica_bad (zU M 0 0 0) gp n cd hn h9 h0 hb) k_X10_noReplica _ _ rfl rfl rfl (zIn (w := 5216) (by decide +kernel) rfl) (by decide +kernel) (by decide +kernel) rfl (Nat.le_of_ble_eq_true rfl) rfl ?_
  refine zT.zne (tgt := 34) (off := 16) (by decide +kernel) (by decide) (fun _ => ?_) (fun c => absurd c (by decide))
  refine zT.run [(.iconst 0, 0, 0, 0)] (pe := 35) (ls' := [some (.ref 0), some (.int (nI r)), some (.int cd), some (.int x), none]) (st' := [.int 0]) (M' := (zU (zU M 0 0 0) 0 0 1)) (by decide +kernel) rfl ?_
  exact zT.iret (ty := Jvm.ClassFile.FieldType.int) (by simp only [g_X10_breakSeal_b2]; try rfl) (by simp only [g_X10_breakSeal_b2]; try rfl) rfl rfl (by decide +kernel)
noncomputable def g_X10_breakSeal_b3 (M : zM) (n : Nat) (r : Nat) (cd : Nat) (x : Int32) : Int32 × zM := (0, (zU (zU M 0 0 0) 0 0 2))
set_option maxRecDepth 100000 in
theorem c_X10_breakSeal_b3 (M : zM) (gp : Nat → Option Nat) (n : Nat) (r : Nat) (cd : Nat) (x : Int32) (hn : M 1 0 = nI n) (h9 : n ≤ 9) (h_r : r < n) (h_cd : cd < n) (hb : x < 0 ∨ ¬ x ≤ 999) : zC yy_X10_breakSeal 0 0 [.ref 0, .int (nI r), .int (nI cd), .int x] (sh_Model gp) M (some (.int (g_X10_breakSeal_b3 M n r cd x).1)) (sh_Model gp) (g_X10_breakSeal_b3 M n r cd x).2 := by
  refine zC.of (by decide +kernel) rfl (Nat.le_of_ble_eq_true rfl) ?_
  refine zT.run [(.aload_n 0, 0, 0, 0), (.iconst 0, 0, 0, 0), (.putfield 61, 8, 0, 5149), (.aload_n 0, 0, 0, 0), (.iload_n 1, 0, 0, 0)] (pe := 7) (ls' := [some (.ref 0), some (.int (nI r)), some (.int (nI cd)), some (.int x), none]) (st' := [.int (nI r), .ref 0]) (M' := (zU M 0 0 0)) (by decide +kernel) rfl ?_
  refine zT.cV_own (o := 0) (idx := 160) (av := [.int (nI r)]) (rv := (some (.int 0))) (st := []) (S1 := [.int 0]) (c_X10_noReplica_ok (zU M 0 0 0) gp n r hn h9 h_r) k_X10_noReplica _ _ rfl rfl rfl (zIn (w := 5216) (by decide +kernel) rfl) (by decide +kernel) (by decide +kernel) rfl (Nat.le_of_ble_eq_true rfl) rfl ?_
  refine zT.zne (tgt := 34) (off := 24) (by decide +kernel) (by decide) (fun c => absurd (by decide) c) (fun _ => ?_)
  refine zT.run [(.aload_n 0, 0, 0, 0), (.iload_n 2, 0, 0, 0)] (pe := 15) (ls' := [some (.ref 0), some (.int (nI r)), some (.int (nI cd)), some (.int x), none]) (st' := [.int (nI cd), .ref 0]) (M' := (zU M 0 0 0)) (by decide +kernel) rfl ?_
  refine zT.cV_own (o := 0) (idx := 160) (av := [.int (nI cd)]) (rv := (some (.int 0))) (st := []) (S1 := [.int 0]) (c_X10_noReplica_ok (zU M 0 0 0) gp n cd hn h9 h_cd) k_X10_noReplica _ _ rfl rfl rfl (zIn (w := 5216) (by decide +kernel) rfl) (by decide +kernel) (by decide +kernel) rfl (Nat.le_of_ble_eq_true rfl) rfl ?_
  refine zT.zne (tgt := 34) (off := 16) (by decide +kernel) (by decide) (fun c => absurd (by decide) c) (fun _ => ?_)
  refine zT.run [(.aload_n 0, 0, 0, 0), (.iload_n 3, 0, 0, 0), (.iconst 0, 0, 0, 0), (.sipush 999, 0, 0, 0), (.iconst 2, 0, 0, 0)] (pe := 28) (ls' := [some (.ref 0), some (.int (nI r)), some (.int (nI cd)), some (.int x), none]) (st' := [.int 2, .int 999, .int 0, .int x, .ref 0]) (M' := (zU M 0 0 0)) (by decide +kernel) rfl ?_
  refine zT.cV_all (o := 0) (idx := 72) (av := [.int x, .int 0, .int 999, .int 2]) (rv := (some (.int 1))) (st := []) (S1 := [.int 1]) (c_X10_bad_bad (zU M 0 0 0) gp x 0 999 2 hb) k_X10_bad _ _ rfl rfl rfl (zIn (w := 5220) (by decide +kernel) rfl) (by decide +kernel) (by decide +kernel) rfl (Nat.le_of_ble_eq_true rfl) rfl ?_
  refine zT.zeq (tgt := 36) (off := 5) (by decide +kernel) (by decide) (fun c => absurd c (by decide)) (fun _ => ?_)
  refine zT.run [(.iconst 0, 0, 0, 0)] (pe := 35) (ls' := [some (.ref 0), some (.int (nI r)), some (.int (nI cd)), some (.int x), none]) (st' := [.int 0]) (M' := (zU (zU M 0 0 0) 0 0 2)) (by decide +kernel) rfl ?_
  exact zT.iret (ty := Jvm.ClassFile.FieldType.int) (by simp only [g_X10_breakSeal_b3]; try rfl) (by simp only [g_X10_breakSeal_b3]; try rfl) rfl rfl (by decide +kernel)
noncomputable def g_X10_recount_b1 (M : zM) (n : Nat) (r : Int32) : Int32 × zM := (0, (zU (zU M 0 0 0) 0 0 1))
set_option maxRecDepth 100000 in
theorem c_X10_recount_b1 (M : zM) (gp : Nat → Option Nat) (n : Nat) (r : Int32) (hn : M 1 0 = nI n) (h9 : n ≤ 9) (h0 : 0 < n) (hb : r < 0 ∨ nI n ≤ r) : zC yy_X10_recount 0 0 [.ref 0, .int r] (sh_Model gp) M (some (.int (g_X10_recount_b1 M n r).1)) (sh_Model gp) (g_X10_recount_b1 M n r).2 := by
  refine zC.of (by decide +kernel) rfl (Nat.le_of_ble_eq_true rfl) ?_
  refine zT.run [(.aload_n 0, 0, 0, 0), (.iconst 0, 0, 0, 0), (.putfield 61, 8, 0, 5149), (.aload_n 0, 0, 0, 0), (.iload_n 1, 0, 0, 0)] (pe := 7) (ls' := [some (.ref 0), some (.int r), none]) (st' := [.int r, .ref 0]) (M' := (zU M 0 0 0)) (by decide +kernel) rfl ?_
  refine zT.cV_all (o := 0) (idx := 160) (av := [.int r]) (rv := (some (.int 1))) (st := []) (S1 := [.int 1]) (c_X10_noReplica_bad (zU M 0 0 0) gp n r hn h9 h0 hb) k_X10_noReplica _ _ rfl rfl rfl (zIn (w := 5216) (by decide +kernel) rfl) (by decide +kernel) (by decide +kernel) rfl (Nat.le_of_ble_eq_true rfl) rfl ?_
  refine zT.zeq (tgt := 15) (off := 5) (by decide +kernel) (by decide) (fun c => absurd c (by decide)) (fun _ => ?_)
  refine zT.run [(.iconst 0, 0, 0, 0)] (pe := 14) (ls' := [some (.ref 0), some (.int r), none]) (st' := [.int 0]) (M' := (zU (zU M 0 0 0) 0 0 1)) (by decide +kernel) rfl ?_
  exact zT.iret (ty := Jvm.ClassFile.FieldType.int) (by simp only [g_X10_recount_b1]; try rfl) (by simp only [g_X10_recount_b1]; try rfl) rfl rfl (by decide +kernel)
noncomputable def g_X10_setUp_b1 (M : zM) (n : Nat) (r : Int32) (up : Int32) : Int32 × zM := (0, (zU (zU M 0 0 0) 0 0 1))
set_option maxRecDepth 100000 in
theorem c_X10_setUp_b1 (M : zM) (gp : Nat → Option Nat) (n : Nat) (r : Int32) (up : Int32) (hn : M 1 0 = nI n) (h9 : n ≤ 9) (h0 : 0 < n) (hb : r < 0 ∨ nI n ≤ r) : zC yy_X10_setUp 0 0 [.ref 0, .int r, .int up] (sh_Model gp) M (some (.int (g_X10_setUp_b1 M n r up).1)) (sh_Model gp) (g_X10_setUp_b1 M n r up).2 := by
  refine zC.of (by decide +kernel) rfl (Nat.le_of_ble_eq_true rfl) ?_
  refine zT.run [(.aload_n 0, 0, 0, 0), (.iconst 0, 0, 0, 0), (.putfield 61, 8, 0, 5149), (.aload_n 0, 0, 0, 0), (.iload_n 1, 0, 0, 0)] (pe := 7) (ls' := [some (.ref 0), some (.int r), some (.int up), none]) (st' := [.int r, .ref 0]) (M' := (zU M 0 0 0)) (by decide +kernel) rfl ?_
  refine zT.cV_all (o := 0) (idx := 160) (av := [.int r]) (rv := (some (.int 1))) (st := []) (S1 := [.int 1]) (c_X10_noReplica_bad (zU M 0 0 0) gp n r hn h9 h0 hb) k_X10_noReplica _ _ rfl rfl rfl (zIn (w := 5216) (by decide +kernel) rfl) (by decide +kernel) (by decide +kernel) rfl (Nat.le_of_ble_eq_true rfl) rfl ?_
  refine zT.zeq (tgt := 15) (off := 5) (by decide +kernel) (by decide) (fun c => absurd c (by decide)) (fun _ => ?_)
  refine zT.run [(.iconst 0, 0, 0, 0)] (pe := 14) (ls' := [some (.ref 0), some (.int r), some (.int up), none]) (st' := [.int 0]) (M' := (zU (zU M 0 0 0) 0 0 1)) (by decide +kernel) rfl ?_
  exact zT.iret (ty := Jvm.ClassFile.FieldType.int) (by simp only [g_X10_setUp_b1]; try rfl) (by simp only [g_X10_setUp_b1]; try rfl) rfl rfl (by decide +kernel)
noncomputable def g_X10_setLink_b1 (M : zM) (n : Nat) (r : Int32) (b : Int32) (is : Int32) : Int32 × zM := (0, (zU (zU M 0 0 0) 0 0 1))
set_option maxRecDepth 100000 in
theorem c_X10_setLink_b1 (M : zM) (gp : Nat → Option Nat) (n : Nat) (r : Int32) (b : Int32) (is : Int32) (hn : M 1 0 = nI n) (h9 : n ≤ 9) (h0 : 0 < n) (hb : r < 0 ∨ nI n ≤ r) : zC yy_X10_setLink 0 0 [.ref 0, .int r, .int b, .int is] (sh_Model gp) M (some (.int (g_X10_setLink_b1 M n r b is).1)) (sh_Model gp) (g_X10_setLink_b1 M n r b is).2 := by
  refine zC.of (by decide +kernel) rfl (Nat.le_of_ble_eq_true rfl) ?_
  refine zT.run [(.aload_n 0, 0, 0, 0), (.iconst 0, 0, 0, 0), (.putfield 61, 8, 0, 5149), (.aload_n 0, 0, 0, 0), (.iload_n 1, 0, 0, 0)] (pe := 7) (ls' := [some (.ref 0), some (.int r), some (.int b), some (.int is), none]) (st' := [.int r, .ref 0]) (M' := (zU M 0 0 0)) (by decide +kernel) rfl ?_
  refine zT.cV_all (o := 0) (idx := 160) (av := [.int r]) (rv := (some (.int 1))) (st := []) (S1 := [.int 1]) (c_X10_noReplica_bad (zU M 0 0 0) gp n r hn h9 h0 hb) k_X10_noReplica _ _ rfl rfl rfl (zIn (w := 5216) (by decide +kernel) rfl) (by decide +kernel) (by decide +kernel) rfl (Nat.le_of_ble_eq_true rfl) rfl ?_
  refine zT.zne (tgt := 21) (off := 11) (by decide +kernel) (by decide) (fun _ => ?_) (fun c => absurd c (by decide))
  refine zT.run [(.iconst 0, 0, 0, 0)] (pe := 22) (ls' := [some (.ref 0), some (.int r), some (.int b), some (.int is), none]) (st' := [.int 0]) (M' := (zU (zU M 0 0 0) 0 0 1)) (by decide +kernel) rfl ?_
  exact zT.iret (ty := Jvm.ClassFile.FieldType.int) (by simp only [g_X10_setLink_b1]; try rfl) (by simp only [g_X10_setLink_b1]; try rfl) rfl rfl (by decide +kernel)
noncomputable def g_X10_setLink_b2 (M : zM) (n : Nat) (r : Nat) (b : Int32) (is : Int32) : Int32 × zM := (0, (zU (zU M 0 0 0) 0 0 1))
set_option maxRecDepth 100000 in
theorem c_X10_setLink_b2 (M : zM) (gp : Nat → Option Nat) (n : Nat) (r : Nat) (b : Int32) (is : Int32) (hn : M 1 0 = nI n) (h9 : n ≤ 9) (h0 : 0 < n) (h_r : r < n) (hb : b < 0 ∨ nI n ≤ b) : zC yy_X10_setLink 0 0 [.ref 0, .int (nI r), .int b, .int is] (sh_Model gp) M (some (.int (g_X10_setLink_b2 M n r b is).1)) (sh_Model gp) (g_X10_setLink_b2 M n r b is).2 := by
  refine zC.of (by decide +kernel) rfl (Nat.le_of_ble_eq_true rfl) ?_
  refine zT.run [(.aload_n 0, 0, 0, 0), (.iconst 0, 0, 0, 0), (.putfield 61, 8, 0, 5149), (.aload_n 0, 0, 0, 0), (.iload_n 1, 0, 0, 0)] (pe := 7) (ls' := [some (.ref 0), some (.int (nI r)), some (.int b), some (.int is), none]) (st' := [.int (nI r), .ref 0]) (M' := (zU M 0 0 0)) (by decide +kernel) rfl ?_
  refine zT.cV_own (o := 0) (idx := 160) (av := [.int (nI r)]) (rv := (some (.int 0))) (st := []) (S1 := [.int 0]) (c_X10_noReplica_ok (zU M 0 0 0) gp n r hn h9 h_r) k_X10_noReplica _ _ rfl rfl rfl (zIn (w := 5216) (by decide +kernel) rfl) (by decide +kernel) (by decide +kernel) rfl (Nat.le_of_ble_eq_true rfl) rfl ?_
  refine zT.zne (tgt := 21) (off := 11) (by decide +kernel) (by decide) (fun c => absurd (by decide) c) (fun _ => ?_)
  refine zT.run [(.aload_n 0, 0, 0, 0), (.iload_n 2, 0, 0, 0)] (pe := 15) (ls' := [some (.ref 0), some (.int (nI r)), some (.int b), some (.int is), none]) (st' := [.int b, .ref 0]) (M' := (zU M 0 0 0)) (by decide +kernel) rfl ?_
  refine zT.cV_all (o := 0) (idx := 160) (av := [.int b]) (rv := (some (.int 1))) (st := []) (S1 := [.int 1]) (c_X10_noReplica_bad (zU M 0 0 0) gp n b hn h9 h0 hb) k_X10_noReplica _ _ rfl rfl rfl (zIn (w := 5216) (by decide +kernel) rfl) (by decide +kernel) (by decide +kernel) rfl (Nat.le_of_ble_eq_true rfl) rfl ?_
  refine zT.zeq (tgt := 23) (off := 5) (by decide +kernel) (by decide) (fun c => absurd c (by decide)) (fun _ => ?_)
  refine zT.run [(.iconst 0, 0, 0, 0)] (pe := 22) (ls' := [some (.ref 0), some (.int (nI r)), some (.int b), some (.int is), none]) (st' := [.int 0]) (M' := (zU (zU M 0 0 0) 0 0 1)) (by decide +kernel) rfl ?_
  exact zT.iret (ty := Jvm.ClassFile.FieldType.int) (by simp only [g_X10_setLink_b2]; try rfl) (by simp only [g_X10_setLink_b2]; try rfl) rfl rfl (by decide +kernel)
noncomputable def g_X10_setFresh_b1 (M : zM) (n : Nat) (r : Int32) (x : Int32) : Int32 × zM := (0, (zU (zU M 0 0 0) 0 0 1))
set_option maxRecDepth 100000 in
theorem c_X10_setFresh_b1 (M : zM) (gp : Nat → Option Nat) (n : Nat) (r : Int32) (x : Int32) (hn : M 1 0 = nI n) (h9 : n ≤ 9) (h0 : 0 < n) (hb : r < 0 ∨ nI n ≤ r) : zC yy_X10_setFresh 0 0 [.ref 0, .int r, .int x] (sh_Model gp) M (some (.int (g_X10_setFresh_b1 M n r x).1)) (sh_Model gp) (g_X10_setFresh_b1 M n r x).2 := by
  refine zC.of (by decide +kernel) rfl (Nat.le_of_ble_eq_true rfl) ?_
  refine zT.run [(.aload_n 0, 0, 0, 0), (.iconst 0, 0, 0, 0), (.putfield 61, 8, 0, 5149), (.aload_n 0, 0, 0, 0), (.iload_n 1, 0, 0, 0)] (pe := 7) (ls' := [some (.ref 0), some (.int r), some (.int x), none]) (st' := [.int r, .ref 0]) (M' := (zU M 0 0 0)) (by decide +kernel) rfl ?_
  refine zT.cV_all (o := 0) (idx := 160) (av := [.int r]) (rv := (some (.int 1))) (st := []) (S1 := [.int 1]) (c_X10_noReplica_bad (zU M 0 0 0) gp n r hn h9 h0 hb) k_X10_noReplica _ _ rfl rfl rfl (zIn (w := 5216) (by decide +kernel) rfl) (by decide +kernel) (by decide +kernel) rfl (Nat.le_of_ble_eq_true rfl) rfl ?_
  refine zT.zne (tgt := 26) (off := 16) (by decide +kernel) (by decide) (fun _ => ?_) (fun c => absurd c (by decide))
  refine zT.run [(.iconst 0, 0, 0, 0)] (pe := 27) (ls' := [some (.ref 0), some (.int r), some (.int x), none]) (st' := [.int 0]) (M' := (zU (zU M 0 0 0) 0 0 1)) (by decide +kernel) rfl ?_
  exact zT.iret (ty := Jvm.ClassFile.FieldType.int) (by simp only [g_X10_setFresh_b1]; try rfl) (by simp only [g_X10_setFresh_b1]; try rfl) rfl rfl (by decide +kernel)
noncomputable def g_X10_setFresh_b2 (M : zM) (n : Nat) (r : Nat) (x : Int32) : Int32 × zM := (0, (zU (zU M 0 0 0) 0 0 2))
set_option maxRecDepth 100000 in
theorem c_X10_setFresh_b2 (M : zM) (gp : Nat → Option Nat) (n : Nat) (r : Nat) (x : Int32) (hn : M 1 0 = nI n) (h9 : n ≤ 9) (h_r : r < n) (hb : x < 0 ∨ ¬ x ≤ 999) : zC yy_X10_setFresh 0 0 [.ref 0, .int (nI r), .int x] (sh_Model gp) M (some (.int (g_X10_setFresh_b2 M n r x).1)) (sh_Model gp) (g_X10_setFresh_b2 M n r x).2 := by
  refine zC.of (by decide +kernel) rfl (Nat.le_of_ble_eq_true rfl) ?_
  refine zT.run [(.aload_n 0, 0, 0, 0), (.iconst 0, 0, 0, 0), (.putfield 61, 8, 0, 5149), (.aload_n 0, 0, 0, 0), (.iload_n 1, 0, 0, 0)] (pe := 7) (ls' := [some (.ref 0), some (.int (nI r)), some (.int x), none]) (st' := [.int (nI r), .ref 0]) (M' := (zU M 0 0 0)) (by decide +kernel) rfl ?_
  refine zT.cV_own (o := 0) (idx := 160) (av := [.int (nI r)]) (rv := (some (.int 0))) (st := []) (S1 := [.int 0]) (c_X10_noReplica_ok (zU M 0 0 0) gp n r hn h9 h_r) k_X10_noReplica _ _ rfl rfl rfl (zIn (w := 5216) (by decide +kernel) rfl) (by decide +kernel) (by decide +kernel) rfl (Nat.le_of_ble_eq_true rfl) rfl ?_
  refine zT.zne (tgt := 26) (off := 16) (by decide +kernel) (by decide) (fun c => absurd (by decide) c) (fun _ => ?_)
  refine zT.run [(.aload_n 0, 0, 0, 0), (.iload_n 2, 0, 0, 0), (.iconst 0, 0, 0, 0), (.sipush 999, 0, 0, 0), (.iconst 2, 0, 0, 0)] (pe := 20) (ls' := [some (.ref 0), some (.int (nI r)), some (.int x), none]) (st' := [.int 2, .int 999, .int 0, .int x, .ref 0]) (M' := (zU M 0 0 0)) (by decide +kernel) rfl ?_
  refine zT.cV_all (o := 0) (idx := 72) (av := [.int x, .int 0, .int 999, .int 2]) (rv := (some (.int 1))) (st := []) (S1 := [.int 1]) (c_X10_bad_bad (zU M 0 0 0) gp x 0 999 2 hb) k_X10_bad _ _ rfl rfl rfl (zIn (w := 5220) (by decide +kernel) rfl) (by decide +kernel) (by decide +kernel) rfl (Nat.le_of_ble_eq_true rfl) rfl ?_
  refine zT.zeq (tgt := 28) (off := 5) (by decide +kernel) (by decide) (fun c => absurd c (by decide)) (fun _ => ?_)
  refine zT.run [(.iconst 0, 0, 0, 0)] (pe := 27) (ls' := [some (.ref 0), some (.int (nI r)), some (.int x), none]) (st' := [.int 0]) (M' := (zU (zU M 0 0 0) 0 0 2)) (by decide +kernel) rfl ?_
  exact zT.iret (ty := Jvm.ClassFile.FieldType.int) (by simp only [g_X10_setFresh_b2]; try rfl) (by simp only [g_X10_setFresh_b2]; try rfl) rfl rfl (by decide +kernel)
noncomputable def g_X10_set_b1 (M : zM) (w : Int32) (x : Int32) : Int32 × zM := (0, (zU (zU M 0 0 0) 0 0 1))
set_option maxRecDepth 100000 in
theorem c_X10_set_b1 (M : zM) (gp : Nat → Option Nat) (w : Int32) (x : Int32) (hb : w < 0 ∨ ¬ w ≤ 2) : zC yy_X10_set 0 0 [.ref 0, .int w, .int x] (sh_Model gp) M (some (.int (g_X10_set_b1 M w x).1)) (sh_Model gp) (g_X10_set_b1 M w x).2 := by
  refine zC.of (by decide +kernel) rfl (Nat.le_of_ble_eq_true rfl) ?_
  refine zT.run [(.aload_n 0, 0, 0, 0), (.iconst 0, 0, 0, 0), (.putfield 61, 8, 0, 5149), (.aload_n 0, 0, 0, 0), (.iload_n 1, 0, 0, 0), (.iconst 0, 0, 0, 0), (.iconst 2, 0, 0, 0), (.iconst 1, 0, 0, 0)] (pe := 10) (ls' := [some (.ref 0), some (.int w), some (.int x), none]) (st' := [.int 1, .int 2, .int 0, .int w, .ref 0]) (M' := (zU M 0 0 0)) (by decide +kernel) rfl ?_
  refine zT.cV_all (o := 0) (idx := 72) (av := [.int w, .int 0, .int 2, .int 1]) (rv := (some (.int 1))) (st := []) (S1 := [.int 1]) (c_X10_bad_bad (zU M 0 0 0) gp w 0 2 1 hb) k_X10_bad _ _ rfl rfl rfl (zIn (w := 5220) (by decide +kernel) rfl) (by decide +kernel) (by decide +kernel) rfl (Nat.le_of_ble_eq_true rfl) rfl ?_
  refine zT.zne (tgt := 33) (off := 20) (by decide +kernel) (by decide) (fun _ => ?_) (fun c => absurd c (by decide))
  refine zT.run [(.iconst 0, 0, 0, 0)] (pe := 34) (ls' := [some (.ref 0), some (.int w), some (.int x), none]) (st' := [.int 0]) (M' := (zU (zU M 0 0 0) 0 0 1)) (by decide +kernel) rfl ?_
  exact zT.iret (ty := Jvm.ClassFile.FieldType.int) (by simp only [g_X10_set_b1]; try rfl) (by simp only [g_X10_set_b1]; try rfl) rfl rfl (by decide +kernel)
noncomputable def g_X10_set_b2 (M : zM) (w : Int32) (x : Int32) : Int32 × zM := (0, (zU (zU M 0 0 0) 0 0 1))
set_option maxRecDepth 100000 in
theorem c_X10_set_b2 (M : zM) (gp : Nat → Option Nat) (w : Int32) (x : Int32) (hx0 : ¬ w < 0) (hy0 : w ≤ 2) (hb : x < (g_X10_leastOf w) ∨ ¬ x ≤ (g_X10_mostOf w)) : zC yy_X10_set 0 0 [.ref 0, .int w, .int x] (sh_Model gp) M (some (.int (g_X10_set_b2 M w x).1)) (sh_Model gp) (g_X10_set_b2 M w x).2 := by
  refine zC.of (by decide +kernel) rfl (Nat.le_of_ble_eq_true rfl) ?_
  refine zT.run [(.aload_n 0, 0, 0, 0), (.iconst 0, 0, 0, 0), (.putfield 61, 8, 0, 5149), (.aload_n 0, 0, 0, 0), (.iload_n 1, 0, 0, 0), (.iconst 0, 0, 0, 0), (.iconst 2, 0, 0, 0), (.iconst 1, 0, 0, 0)] (pe := 10) (ls' := [some (.ref 0), some (.int w), some (.int x), none]) (st' := [.int 1, .int 2, .int 0, .int w, .ref 0]) (M' := (zU M 0 0 0)) (by decide +kernel) rfl ?_
  refine zT.cV_own (o := 0) (idx := 72) (av := [.int w, .int 0, .int 2, .int 1]) (rv := (some (.int 0))) (st := []) (S1 := [.int 0]) (c_X10_bad_ok (zU M 0 0 0) gp w 0 2 1 hx0 hy0) k_X10_bad _ _ rfl rfl rfl (zIn (w := 5220) (by decide +kernel) rfl) (by decide +kernel) (by decide +kernel) rfl (Nat.le_of_ble_eq_true rfl) rfl ?_
  refine zT.zne (tgt := 33) (off := 20) (by decide +kernel) (by decide) (fun c => absurd (by decide) c) (fun _ => ?_)
  refine zT.run [(.aload_n 0, 0, 0, 0), (.iload_n 2, 0, 0, 0), (.iload_n 1, 0, 0, 0)] (pe := 19) (ls' := [some (.ref 0), some (.int w), some (.int x), none]) (st' := [.int w, .int x, .ref 0]) (M' := (zU M 0 0 0)) (by decide +kernel) rfl ?_
  refine zT.cS_nil (idx := 208) (av := [.int w]) (rv := (some (.int (g_X10_leastOf w)))) (st := [.int x, .ref 0]) (S1 := [.int (g_X10_leastOf w), .int x, .ref 0]) (c_X10_leastOf w) k_X10_leastOf rfl (zIn (w := 6139) (by decide +kernel) rfl) (by decide +kernel) (by decide +kernel) rfl (Nat.le_of_ble_eq_true rfl) rfl ?_
  refine zT.run [(.iload_n 1, 0, 0, 0)] (pe := 23) (ls' := [some (.ref 0), some (.int w), some (.int x), none]) (st' := [.int w, .int (g_X10_leastOf w), .int x, .ref 0]) (M' := (zU M 0 0 0)) (by decide +kernel) rfl ?_
  refine zT.cS_nil (idx := 211) (av := [.int w]) (rv := (some (.int (g_X10_mostOf w)))) (st := [.int (g_X10_leastOf w), .int x, .ref 0]) (S1 := [.int (g_X10_mostOf w), .int (g_X10_leastOf w), .int x, .ref 0]) (c_X10_mostOf w) k_X10_mostOf rfl (zIn (w := 6142) (by decide +kernel) rfl) (by decide +kernel) (by decide +kernel) rfl (Nat.le_of_ble_eq_true rfl) rfl ?_
  refine zT.run [(.iconst 1, 0, 0, 0)] (pe := 27) (ls' := [some (.ref 0), some (.int w), some (.int x), none]) (st' := [.int 1, .int (g_X10_mostOf w), .int (g_X10_leastOf w), .int x, .ref 0]) (M' := (zU M 0 0 0)) (by decide +kernel) rfl ?_
  refine zT.cV_all (o := 0) (idx := 72) (av := [.int x, .int (g_X10_leastOf w), .int (g_X10_mostOf w), .int 1]) (rv := (some (.int 1))) (st := []) (S1 := [.int 1]) (c_X10_bad_bad (zU M 0 0 0) gp x (g_X10_leastOf w) (g_X10_mostOf w) 1 hb) k_X10_bad _ _ rfl rfl rfl (zIn (w := 5220) (by decide +kernel) rfl) (by decide +kernel) (by decide +kernel) rfl (Nat.le_of_ble_eq_true rfl) rfl ?_
  refine zT.zeq (tgt := 35) (off := 5) (by decide +kernel) (by decide) (fun c => absurd c (by decide)) (fun _ => ?_)
  refine zT.run [(.iconst 0, 0, 0, 0)] (pe := 34) (ls' := [some (.ref 0), some (.int w), some (.int x), none]) (st' := [.int 0]) (M' := (zU (zU M 0 0 0) 0 0 1)) (by decide +kernel) rfl ?_
  exact zT.iret (ty := Jvm.ClassFile.FieldType.int) (by simp only [g_X10_set_b2]; try rfl) (by simp only [g_X10_set_b2]; try rfl) rfl rfl (by decide +kernel)
noncomputable def g_X10_keep_b1 (M : zM) (x : Int32) : Int32 × zM := (0, (zU (zU M 0 0 0) 0 0 1))
set_option maxRecDepth 100000 in
theorem c_X10_keep_b1 (M : zM) (gp : Nat → Option Nat) (x : Int32) (hb : x < 0 ∨ ¬ x ≤ 1) : zC yy_X10_keep 0 0 [.ref 0, .int x] (sh_Model gp) M (some (.int (g_X10_keep_b1 M x).1)) (sh_Model gp) (g_X10_keep_b1 M x).2 := by
  refine zC.of (by decide +kernel) rfl (Nat.le_of_ble_eq_true rfl) ?_
  refine zT.run [(.aload_n 0, 0, 0, 0), (.iconst 0, 0, 0, 0), (.putfield 61, 8, 0, 5149), (.aload_n 0, 0, 0, 0), (.iload_n 1, 0, 0, 0), (.iconst 0, 0, 0, 0), (.iconst 1, 0, 0, 0), (.iconst 1, 0, 0, 0)] (pe := 10) (ls' := [some (.ref 0), some (.int x)]) (st' := [.int 1, .int 1, .int 0, .int x, .ref 0]) (M' := (zU M 0 0 0)) (by decide +kernel) rfl ?_
  refine zT.cV_all (o := 0) (idx := 72) (av := [.int x, .int 0, .int 1, .int 1]) (rv := (some (.int 1))) (st := []) (S1 := [.int 1]) (c_X10_bad_bad (zU M 0 0 0) gp x 0 1 1 hb) k_X10_bad _ _ rfl rfl rfl (zIn (w := 5220) (by decide +kernel) rfl) (by decide +kernel) (by decide +kernel) rfl (Nat.le_of_ble_eq_true rfl) rfl ?_
  refine zT.zeq (tgt := 18) (off := 5) (by decide +kernel) (by decide) (fun c => absurd c (by decide)) (fun _ => ?_)
  refine zT.run [(.iconst 0, 0, 0, 0)] (pe := 17) (ls' := [some (.ref 0), some (.int x)]) (st' := [.int 0]) (M' := (zU (zU M 0 0 0) 0 0 1)) (by decide +kernel) rfl ?_
  exact zT.iret (ty := Jvm.ClassFile.FieldType.int) (by simp only [g_X10_keep_b1]; try rfl) (by simp only [g_X10_keep_b1]; try rfl) rfl rfl (by decide +kernel)
noncomputable def g_X10_restore_b1 (M : zM) (x : Int32) : Int32 × zM := (0, (zU (zU M 0 0 0) 0 0 1))
set_option maxRecDepth 100000 in
theorem c_X10_restore_b1 (M : zM) (gp : Nat → Option Nat) (x : Int32) (hb : x < 0 ∨ ¬ x ≤ 1) : zC yy_X10_restore 0 0 [.ref 0, .int x] (sh_Model gp) M (some (.int (g_X10_restore_b1 M x).1)) (sh_Model gp) (g_X10_restore_b1 M x).2 := by
  refine zC.of (by decide +kernel) rfl (Nat.le_of_ble_eq_true rfl) ?_
  refine zT.run [(.aload_n 0, 0, 0, 0), (.iconst 0, 0, 0, 0), (.putfield 61, 8, 0, 5149), (.aload_n 0, 0, 0, 0), (.iload_n 1, 0, 0, 0), (.iconst 0, 0, 0, 0), (.iconst 1, 0, 0, 0), (.iconst 1, 0, 0, 0)] (pe := 10) (ls' := [some (.ref 0), some (.int x)]) (st' := [.int 1, .int 1, .int 0, .int x, .ref 0]) (M' := (zU M 0 0 0)) (by decide +kernel) rfl ?_
  refine zT.cV_all (o := 0) (idx := 72) (av := [.int x, .int 0, .int 1, .int 1]) (rv := (some (.int 1))) (st := []) (S1 := [.int 1]) (c_X10_bad_bad (zU M 0 0 0) gp x 0 1 1 hb) k_X10_bad _ _ rfl rfl rfl (zIn (w := 5220) (by decide +kernel) rfl) (by decide +kernel) (by decide +kernel) rfl (Nat.le_of_ble_eq_true rfl) rfl ?_
  refine zT.zeq (tgt := 18) (off := 5) (by decide +kernel) (by decide) (fun c => absurd c (by decide)) (fun _ => ?_)
  refine zT.run [(.iconst 0, 0, 0, 0)] (pe := 17) (ls' := [some (.ref 0), some (.int x)]) (st' := [.int 0]) (M' := (zU (zU M 0 0 0) 0 0 1)) (by decide +kernel) rfl ?_
  exact zT.iret (ty := Jvm.ClassFile.FieldType.int) (by simp only [g_X10_restore_b1]; try rfl) (by simp only [g_X10_restore_b1]; try rfl) rfl rfl (by decide +kernel)
noncomputable def g_X10_truncate_b1 (M : zM) (x : Int32) : Int32 × zM := (0, (zU (zU M 0 0 0) 0 0 1))
set_option maxRecDepth 100000 in
theorem c_X10_truncate_b1 (M : zM) (gp : Nat → Option Nat) (x : Int32) (hb : x < 0 ∨ ¬ x ≤ (M 0 8)) : zC yy_X10_truncate 0 0 [.ref 0, .int x] (sh_Model gp) M (some (.int (g_X10_truncate_b1 M x).1)) (sh_Model gp) (g_X10_truncate_b1 M x).2 := by
  refine zC.of (by decide +kernel) rfl (Nat.le_of_ble_eq_true rfl) ?_
  refine zT.run [(.aload_n 0, 0, 0, 0), (.iconst 0, 0, 0, 0), (.putfield 61, 8, 0, 5149), (.aload_n 0, 0, 0, 0), (.iload_n 1, 0, 0, 0), (.iconst 0, 0, 0, 0), (.aload_n 0, 0, 0, 0), (.getfield 214, 8, 8, 5157), (.iconst 1, 0, 0, 0)] (pe := 13) (ls' := [some (.ref 0), some (.int x)]) (st' := [.int 1, .int (M 0 8), .int 0, .int x, .ref 0]) (M' := (zU M 0 0 0)) (by decide +kernel) rfl ?_
  refine zT.cV_all (o := 0) (idx := 72) (av := [.int x, .int 0, .int (M 0 8), .int 1]) (rv := (some (.int 1))) (st := []) (S1 := [.int 1]) (c_X10_bad_bad (zU M 0 0 0) gp x 0 (M 0 8) 1 hb) k_X10_bad _ _ rfl rfl rfl (zIn (w := 5220) (by decide +kernel) rfl) (by decide +kernel) (by decide +kernel) rfl (Nat.le_of_ble_eq_true rfl) rfl ?_
  refine zT.zeq (tgt := 21) (off := 5) (by decide +kernel) (by decide) (fun c => absurd c (by decide)) (fun _ => ?_)
  refine zT.run [(.iconst 0, 0, 0, 0)] (pe := 20) (ls' := [some (.ref 0), some (.int x)]) (st' := [.int 0]) (M' := (zU (zU M 0 0 0) 0 0 1)) (by decide +kernel) rfl ?_
  exact zT.iret (ty := Jvm.ClassFile.FieldType.int) (by simp only [g_X10_truncate_b1]; try rfl) (by simp only [g_X10_truncate_b1]; try rfl) rfl rfl (by decide +kernel)
noncomputable def g_X10_office_b1 (M : zM) (w : Int32) : Int32 × zM := (0, (zU (zU M 0 0 0) 0 0 1))
set_option maxRecDepth 100000 in
theorem c_X10_office_b1 (M : zM) (gp : Nat → Option Nat) (w : Int32) (hb : w < 0 ∨ ¬ w ≤ 18) : zC yy_X10_office 0 0 [.ref 0, .int w] (sh_Model gp) M (some (.int (g_X10_office_b1 M w).1)) (sh_Model gp) (g_X10_office_b1 M w).2 := by
  refine zC.of (by decide +kernel) rfl (Nat.le_of_ble_eq_true rfl) ?_
  refine zT.run [(.aload_n 0, 0, 0, 0), (.iconst 0, 0, 0, 0), (.putfield 61, 8, 0, 5149), (.aload_n 0, 0, 0, 0), (.iload_n 1, 0, 0, 0), (.iconst 0, 0, 0, 0), (.bipush 18, 0, 0, 0), (.iconst 1, 0, 0, 0)] (pe := 11) (ls' := [some (.ref 0), some (.int w)]) (st' := [.int 1, .int 18, .int 0, .int w, .ref 0]) (M' := (zU M 0 0 0)) (by decide +kernel) rfl ?_
  refine zT.cV_all (o := 0) (idx := 72) (av := [.int w, .int 0, .int 18, .int 1]) (rv := (some (.int 1))) (st := []) (S1 := [.int 1]) (c_X10_bad_bad (zU M 0 0 0) gp w 0 18 1 hb) k_X10_bad _ _ rfl rfl rfl (zIn (w := 5220) (by decide +kernel) rfl) (by decide +kernel) (by decide +kernel) rfl (Nat.le_of_ble_eq_true rfl) rfl ?_
  refine zT.zeq (tgt := 19) (off := 5) (by decide +kernel) (by decide) (fun c => absurd c (by decide)) (fun _ => ?_)
  refine zT.run [(.iconst 0, 0, 0, 0)] (pe := 18) (ls' := [some (.ref 0), some (.int w)]) (st' := [.int 0]) (M' := (zU (zU M 0 0 0) 0 0 1)) (by decide +kernel) rfl ?_
  exact zT.iret (ty := Jvm.ClassFile.FieldType.int) (by simp only [g_X10_office_b1]; try rfl) (by simp only [g_X10_office_b1]; try rfl) rfl rfl (by decide +kernel)
noncomputable def g_X10_replica_b1 (M : zM) (n : Nat) (r : Int32) (w : Int32) : Int32 × zM := (0, (zU (zU M 0 0 0) 0 0 1))
set_option maxRecDepth 100000 in
theorem c_X10_replica_b1 (M : zM) (gp : Nat → Option Nat) (n : Nat) (r : Int32) (w : Int32) (hn : M 1 0 = nI n) (h9 : n ≤ 9) (h0 : 0 < n) (hb : r < 0 ∨ nI n ≤ r) : zC yy_X10_replica 0 0 [.ref 0, .int r, .int w] (sh_Model gp) M (some (.int (g_X10_replica_b1 M n r w).1)) (sh_Model gp) (g_X10_replica_b1 M n r w).2 := by
  refine zC.of (by decide +kernel) rfl (Nat.le_of_ble_eq_true rfl) ?_
  refine zT.run [(.aload_n 0, 0, 0, 0), (.iconst 0, 0, 0, 0), (.putfield 61, 8, 0, 5149), (.aload_n 0, 0, 0, 0), (.iload_n 1, 0, 0, 0)] (pe := 7) (ls' := [some (.ref 0), some (.int r), some (.int w)]) (st' := [.int r, .ref 0]) (M' := (zU M 0 0 0)) (by decide +kernel) rfl ?_
  refine zT.cV_all (o := 0) (idx := 160) (av := [.int r]) (rv := (some (.int 1))) (st := []) (S1 := [.int 1]) (c_X10_noReplica_bad (zU M 0 0 0) gp n r hn h9 h0 hb) k_X10_noReplica _ _ rfl rfl rfl (zIn (w := 5216) (by decide +kernel) rfl) (by decide +kernel) (by decide +kernel) rfl (Nat.le_of_ble_eq_true rfl) rfl ?_
  refine zT.zne (tgt := 25) (off := 15) (by decide +kernel) (by decide) (fun _ => ?_) (fun c => absurd c (by decide))
  refine zT.run [(.iconst 0, 0, 0, 0)] (pe := 26) (ls' := [some (.ref 0), some (.int r), some (.int w)]) (st' := [.int 0]) (M' := (zU (zU M 0 0 0) 0 0 1)) (by decide +kernel) rfl ?_
  exact zT.iret (ty := Jvm.ClassFile.FieldType.int) (by simp only [g_X10_replica_b1]; try rfl) (by simp only [g_X10_replica_b1]; try rfl) rfl rfl (by decide +kernel)
noncomputable def g_X10_replica_b2 (M : zM) (n : Nat) (r : Nat) (w : Int32) : Int32 × zM := (0, (zU (zU M 0 0 0) 0 0 2))
set_option maxRecDepth 100000 in
theorem c_X10_replica_b2 (M : zM) (gp : Nat → Option Nat) (n : Nat) (r : Nat) (w : Int32) (hn : M 1 0 = nI n) (h9 : n ≤ 9) (h_r : r < n) (hb : w < 0 ∨ ¬ w ≤ 9) : zC yy_X10_replica 0 0 [.ref 0, .int (nI r), .int w] (sh_Model gp) M (some (.int (g_X10_replica_b2 M n r w).1)) (sh_Model gp) (g_X10_replica_b2 M n r w).2 := by
  refine zC.of (by decide +kernel) rfl (Nat.le_of_ble_eq_true rfl) ?_
  refine zT.run [(.aload_n 0, 0, 0, 0), (.iconst 0, 0, 0, 0), (.putfield 61, 8, 0, 5149), (.aload_n 0, 0, 0, 0), (.iload_n 1, 0, 0, 0)] (pe := 7) (ls' := [some (.ref 0), some (.int (nI r)), some (.int w)]) (st' := [.int (nI r), .ref 0]) (M' := (zU M 0 0 0)) (by decide +kernel) rfl ?_
  refine zT.cV_own (o := 0) (idx := 160) (av := [.int (nI r)]) (rv := (some (.int 0))) (st := []) (S1 := [.int 0]) (c_X10_noReplica_ok (zU M 0 0 0) gp n r hn h9 h_r) k_X10_noReplica _ _ rfl rfl rfl (zIn (w := 5216) (by decide +kernel) rfl) (by decide +kernel) (by decide +kernel) rfl (Nat.le_of_ble_eq_true rfl) rfl ?_
  refine zT.zne (tgt := 25) (off := 15) (by decide +kernel) (by decide) (fun c => absurd (by decide) c) (fun _ => ?_)
  refine zT.run [(.aload_n 0, 0, 0, 0), (.iload_n 2, 0, 0, 0), (.iconst 0, 0, 0, 0), (.bipush 9, 0, 0, 0), (.iconst 2, 0, 0, 0)] (pe := 19) (ls' := [some (.ref 0), some (.int (nI r)), some (.int w)]) (st' := [.int 2, .int 9, .int 0, .int w, .ref 0]) (M' := (zU M 0 0 0)) (by decide +kernel) rfl ?_
  refine zT.cV_all (o := 0) (idx := 72) (av := [.int w, .int 0, .int 9, .int 2]) (rv := (some (.int 1))) (st := []) (S1 := [.int 1]) (c_X10_bad_bad (zU M 0 0 0) gp w 0 9 2 hb) k_X10_bad _ _ rfl rfl rfl (zIn (w := 5220) (by decide +kernel) rfl) (by decide +kernel) (by decide +kernel) rfl (Nat.le_of_ble_eq_true rfl) rfl ?_
  refine zT.zeq (tgt := 27) (off := 5) (by decide +kernel) (by decide) (fun c => absurd c (by decide)) (fun _ => ?_)
  refine zT.run [(.iconst 0, 0, 0, 0)] (pe := 26) (ls' := [some (.ref 0), some (.int (nI r)), some (.int w)]) (st' := [.int 0]) (M' := (zU (zU M 0 0 0) 0 0 2)) (by decide +kernel) rfl ?_
  exact zT.iret (ty := Jvm.ClassFile.FieldType.int) (by simp only [g_X10_replica_b2]; try rfl) (by simp only [g_X10_replica_b2]; try rfl) rfl rfl (by decide +kernel)
noncomputable def g_X10_isLinked_b1 (M : zM) (n : Nat) (r : Int32) (b : Int32) : Int32 × zM := (0, (zU (zU M 0 0 0) 0 0 1))
set_option maxRecDepth 100000 in
theorem c_X10_isLinked_b1 (M : zM) (gp : Nat → Option Nat) (n : Nat) (r : Int32) (b : Int32) (hn : M 1 0 = nI n) (h9 : n ≤ 9) (h0 : 0 < n) (hb : r < 0 ∨ nI n ≤ r) : zC yy_X10_isLinked 0 0 [.ref 0, .int r, .int b] (sh_Model gp) M (some (.int (g_X10_isLinked_b1 M n r b).1)) (sh_Model gp) (g_X10_isLinked_b1 M n r b).2 := by
  refine zC.of (by decide +kernel) rfl (Nat.le_of_ble_eq_true rfl) ?_
  refine zT.run [(.aload_n 0, 0, 0, 0), (.iconst 0, 0, 0, 0), (.putfield 61, 8, 0, 5149), (.aload_n 0, 0, 0, 0), (.iload_n 1, 0, 0, 0)] (pe := 7) (ls' := [some (.ref 0), some (.int r), some (.int b)]) (st' := [.int r, .ref 0]) (M' := (zU M 0 0 0)) (by decide +kernel) rfl ?_
  refine zT.cV_all (o := 0) (idx := 160) (av := [.int r]) (rv := (some (.int 1))) (st := []) (S1 := [.int 1]) (c_X10_noReplica_bad (zU M 0 0 0) gp n r hn h9 h0 hb) k_X10_noReplica _ _ rfl rfl rfl (zIn (w := 5216) (by decide +kernel) rfl) (by decide +kernel) (by decide +kernel) rfl (Nat.le_of_ble_eq_true rfl) rfl ?_
  refine zT.zne (tgt := 34) (off := 24) (by decide +kernel) (by decide) (fun _ => ?_) (fun c => absurd c (by decide))
  refine zT.run [(.iconst 0, 0, 0, 0)] (pe := 35) (ls' := [some (.ref 0), some (.int r), some (.int b)]) (st' := [.int 0]) (M' := (zU (zU M 0 0 0) 0 0 1)) (by decide +kernel) rfl ?_
  exact zT.iret (ty := Jvm.ClassFile.FieldType.boolean) (by simp only [g_X10_isLinked_b1]; try rfl) (by simp only [g_X10_isLinked_b1]; try rfl) rfl rfl (by decide +kernel)
noncomputable def g_X10_isLinked_b2 (M : zM) (n : Nat) (r : Nat) (b : Int32) : Int32 × zM := (0, (zU (zU M 0 0 0) 0 0 1))
set_option maxRecDepth 100000 in
theorem c_X10_isLinked_b2 (M : zM) (gp : Nat → Option Nat) (n : Nat) (r : Nat) (b : Int32) (hn : M 1 0 = nI n) (h9 : n ≤ 9) (h0 : 0 < n) (h_r : r < n) (hb : b < 0 ∨ nI n ≤ b) : zC yy_X10_isLinked 0 0 [.ref 0, .int (nI r), .int b] (sh_Model gp) M (some (.int (g_X10_isLinked_b2 M n r b).1)) (sh_Model gp) (g_X10_isLinked_b2 M n r b).2 := by
  refine zC.of (by decide +kernel) rfl (Nat.le_of_ble_eq_true rfl) ?_
  refine zT.run [(.aload_n 0, 0, 0, 0), (.iconst 0, 0, 0, 0), (.putfield 61, 8, 0, 5149), (.aload_n 0, 0, 0, 0), (.iload_n 1, 0, 0, 0)] (pe := 7) (ls' := [some (.ref 0), some (.int (nI r)), some (.int b)]) (st' := [.int (nI r), .ref 0]) (M' := (zU M 0 0 0)) (by decide +kernel) rfl ?_
  refine zT.cV_own (o := 0) (idx := 160) (av := [.int (nI r)]) (rv := (some (.int 0))) (st := []) (S1 := [.int 0]) (c_X10_noReplica_ok (zU M 0 0 0) gp n r hn h9 h_r) k_X10_noReplica _ _ rfl rfl rfl (zIn (w := 5216) (by decide +kernel) rfl) (by decide +kernel) (by decide +kernel) rfl (Nat.le_of_ble_eq_true rfl) rfl ?_
  refine zT.zne (tgt := 34) (off := 24) (by decide +kernel) (by decide) (fun c => absurd (by decide) c) (fun _ => ?_)
  refine zT.run [(.aload_n 0, 0, 0, 0), (.iload_n 2, 0, 0, 0)] (pe := 15) (ls' := [some (.ref 0), some (.int (nI r)), some (.int b)]) (st' := [.int b, .ref 0]) (M' := (zU M 0 0 0)) (by decide +kernel) rfl ?_
  refine zT.cV_all (o := 0) (idx := 160) (av := [.int b]) (rv := (some (.int 1))) (st := []) (S1 := [.int 1]) (c_X10_noReplica_bad (zU M 0 0 0) gp n b hn h9 h0 hb) k_X10_noReplica _ _ rfl rfl rfl (zIn (w := 5216) (by decide +kernel) rfl) (by decide +kernel) (by decide +kernel) rfl (Nat.le_of_ble_eq_true rfl) rfl ?_
  refine zT.zne (tgt := 34) (off := 16) (by decide +kernel) (by decide) (fun _ => ?_) (fun c => absurd c (by decide))
  refine zT.run [(.iconst 0, 0, 0, 0)] (pe := 35) (ls' := [some (.ref 0), some (.int (nI r)), some (.int b)]) (st' := [.int 0]) (M' := (zU (zU M 0 0 0) 0 0 1)) (by decide +kernel) rfl ?_
  exact zT.iret (ty := Jvm.ClassFile.FieldType.boolean) (by simp only [g_X10_isLinked_b2]; try rfl) (by simp only [g_X10_isLinked_b2]; try rfl) rfl rfl (by decide +kernel)
noncomputable def g_X10_outcome_b1 (M : zM) (bk : Int32) (w : Int32) : Int32 × zM := (0, (zU (zU M 0 0 0) 0 0 1))
set_option maxRecDepth 100000 in
theorem c_X10_outcome_b1 (M : zM) (gp : Nat → Option Nat) (bk : Int32) (w : Int32) (hb : w < 0 ∨ ¬ w ≤ 5) : zC yy_X10_outcome 0 0 [.ref 0, .int bk, .int w] (sh_Model gp) M (some (.int (g_X10_outcome_b1 M bk w).1)) (sh_Model gp) (g_X10_outcome_b1 M bk w).2 := by
  refine zC.of (by decide +kernel) rfl (Nat.le_of_ble_eq_true rfl) ?_
  refine zT.run [(.aload_n 0, 0, 0, 0), (.iconst 0, 0, 0, 0), (.putfield 61, 8, 0, 5149), (.aload_n 0, 0, 0, 0), (.iload_n 2, 0, 0, 0), (.iconst 0, 0, 0, 0), (.iconst 5, 0, 0, 0), (.iconst 1, 0, 0, 0)] (pe := 10) (ls' := [some (.ref 0), some (.int bk), some (.int w)]) (st' := [.int 1, .int 5, .int 0, .int w, .ref 0]) (M' := (zU M 0 0 0)) (by decide +kernel) rfl ?_
  refine zT.cV_all (o := 0) (idx := 72) (av := [.int w, .int 0, .int 5, .int 1]) (rv := (some (.int 1))) (st := []) (S1 := [.int 1]) (c_X10_bad_bad (zU M 0 0 0) gp w 0 5 1 hb) k_X10_bad _ _ rfl rfl rfl (zIn (w := 5220) (by decide +kernel) rfl) (by decide +kernel) (by decide +kernel) rfl (Nat.le_of_ble_eq_true rfl) rfl ?_
  refine zT.zeq (tgt := 18) (off := 5) (by decide +kernel) (by decide) (fun c => absurd c (by decide)) (fun _ => ?_)
  refine zT.run [(.iconst 0, 0, 0, 0)] (pe := 17) (ls' := [some (.ref 0), some (.int bk), some (.int w)]) (st' := [.int 0]) (M' := (zU (zU M 0 0 0) 0 0 1)) (by decide +kernel) rfl ?_
  exact zT.iret (ty := Jvm.ClassFile.FieldType.int) (by simp only [g_X10_outcome_b1]; try rfl) (by simp only [g_X10_outcome_b1]; try rfl) rfl rfl (by decide +kernel)
noncomputable def g_X10_sealFor_b1 (M : zM) (n : Nat) (r : Int32) (x : Int32) (t : Int32) : Int32 × zM := (0, (zU (zU M 0 0 0) 0 0 1))
set_option maxRecDepth 100000 in
theorem c_X10_sealFor_b1 (M : zM) (gp : Nat → Option Nat) (n : Nat) (r : Int32) (x : Int32) (t : Int32) (hn : M 1 0 = nI n) (h9 : n ≤ 9) (h0 : 0 < n) (hb : r < 0 ∨ nI n ≤ r) : zC yy_X10_sealFor 0 0 [.ref 0, .int r, .int x, .int t] (sh_Model gp) M (some (.int (g_X10_sealFor_b1 M n r x t).1)) (sh_Model gp) (g_X10_sealFor_b1 M n r x t).2 := by
  refine zC.of (by decide +kernel) rfl (Nat.le_of_ble_eq_true rfl) ?_
  refine zT.run [(.aload_n 0, 0, 0, 0), (.iconst 0, 0, 0, 0), (.putfield 61, 8, 0, 5149), (.aload_n 0, 0, 0, 0), (.iload_n 1, 0, 0, 0)] (pe := 7) (ls' := [some (.ref 0), some (.int r), some (.int x), some (.int t)]) (st' := [.int r, .ref 0]) (M' := (zU M 0 0 0)) (by decide +kernel) rfl ?_
  refine zT.cV_all (o := 0) (idx := 160) (av := [.int r]) (rv := (some (.int 1))) (st := []) (S1 := [.int 1]) (c_X10_noReplica_bad (zU M 0 0 0) gp n r hn h9 h0 hb) k_X10_noReplica _ _ rfl rfl rfl (zIn (w := 5216) (by decide +kernel) rfl) (by decide +kernel) (by decide +kernel) rfl (Nat.le_of_ble_eq_true rfl) rfl ?_
  refine zT.zne (tgt := 39) (off := 29) (by decide +kernel) (by decide) (fun _ => ?_) (fun c => absurd c (by decide))
  refine zT.run [(.iconst 0, 0, 0, 0), (.goto 9, 0, 0, 0)] (pe := 49) (ls' := [some (.ref 0), some (.int r), some (.int x), some (.int t)]) (st' := [.int 0]) (M' := (zU (zU M 0 0 0) 0 0 1)) (by decide +kernel) rfl ?_
  exact zT.iret (ty := Jvm.ClassFile.FieldType.int) (by simp only [g_X10_sealFor_b1]; try rfl) (by simp only [g_X10_sealFor_b1]; try rfl) rfl rfl (by decide +kernel)
noncomputable def g_X10_sealFor_b2 (M : zM) (n : Nat) (r : Nat) (x : Int32) (t : Int32) : Int32 × zM := (0, (zU (zU M 0 0 0) 0 0 2))
set_option maxRecDepth 100000 in
theorem c_X10_sealFor_b2 (M : zM) (gp : Nat → Option Nat) (n : Nat) (r : Nat) (x : Int32) (t : Int32) (hn : M 1 0 = nI n) (h9 : n ≤ 9) (h_r : r < n) (hb : x < 0 ∨ ¬ x ≤ 999) : zC yy_X10_sealFor 0 0 [.ref 0, .int (nI r), .int x, .int t] (sh_Model gp) M (some (.int (g_X10_sealFor_b2 M n r x t).1)) (sh_Model gp) (g_X10_sealFor_b2 M n r x t).2 := by
  refine zC.of (by decide +kernel) rfl (Nat.le_of_ble_eq_true rfl) ?_
  refine zT.run [(.aload_n 0, 0, 0, 0), (.iconst 0, 0, 0, 0), (.putfield 61, 8, 0, 5149), (.aload_n 0, 0, 0, 0), (.iload_n 1, 0, 0, 0)] (pe := 7) (ls' := [some (.ref 0), some (.int (nI r)), some (.int x), some (.int t)]) (st' := [.int (nI r), .ref 0]) (M' := (zU M 0 0 0)) (by decide +kernel) rfl ?_
  refine zT.cV_own (o := 0) (idx := 160) (av := [.int (nI r)]) (rv := (some (.int 0))) (st := []) (S1 := [.int 0]) (c_X10_noReplica_ok (zU M 0 0 0) gp n r hn h9 h_r) k_X10_noReplica _ _ rfl rfl rfl (zIn (w := 5216) (by decide +kernel) rfl) (by decide +kernel) (by decide +kernel) rfl (Nat.le_of_ble_eq_true rfl) rfl ?_
  refine zT.zne (tgt := 39) (off := 29) (by decide +kernel) (by decide) (fun c => absurd (by decide) c) (fun _ => ?_)
  refine zT.run [(.aload_n 0, 0, 0, 0), (.iload_n 2, 0, 0, 0), (.iconst 0, 0, 0, 0), (.sipush 999, 0, 0, 0), (.iconst 2, 0, 0, 0)] (pe := 20) (ls' := [some (.ref 0), some (.int (nI r)), some (.int x), some (.int t)]) (st' := [.int 2, .int 999, .int 0, .int x, .ref 0]) (M' := (zU M 0 0 0)) (by decide +kernel) rfl ?_
  refine zT.cV_all (o := 0) (idx := 72) (av := [.int x, .int 0, .int 999, .int 2]) (rv := (some (.int 1))) (st := []) (S1 := [.int 1]) (c_X10_bad_bad (zU M 0 0 0) gp x 0 999 2 hb) k_X10_bad _ _ rfl rfl rfl (zIn (w := 5220) (by decide +kernel) rfl) (by decide +kernel) (by decide +kernel) rfl (Nat.le_of_ble_eq_true rfl) rfl ?_
  refine zT.zne (tgt := 39) (off := 16) (by decide +kernel) (by decide) (fun _ => ?_) (fun c => absurd c (by decide))
  refine zT.run [(.iconst 0, 0, 0, 0), (.goto 9, 0, 0, 0)] (pe := 49) (ls' := [some (.ref 0), some (.int (nI r)), some (.int x), some (.int t)]) (st' := [.int 0]) (M' := (zU (zU M 0 0 0) 0 0 2)) (by decide +kernel) rfl ?_
  exact zT.iret (ty := Jvm.ClassFile.FieldType.int) (by simp only [g_X10_sealFor_b2]; try rfl) (by simp only [g_X10_sealFor_b2]; try rfl) rfl rfl (by decide +kernel)
noncomputable def g_X10_sealFor_b3 (M : zM) (n : Nat) (r : Nat) (x : Int32) (t : Int32) : Int32 × zM := (0, (zU (zU M 0 0 0) 0 0 2))
set_option maxRecDepth 100000 in
theorem c_X10_sealFor_b3 (M : zM) (gp : Nat → Option Nat) (n : Nat) (r : Nat) (x : Int32) (t : Int32) (hn : M 1 0 = nI n) (h9 : n ≤ 9) (h_r : r < n) (hx1 : ¬ x < 0) (hy1 : x ≤ 999) (hb : t < 0 ∨ ¬ t ≤ 9999) : zC yy_X10_sealFor 0 0 [.ref 0, .int (nI r), .int x, .int t] (sh_Model gp) M (some (.int (g_X10_sealFor_b3 M n r x t).1)) (sh_Model gp) (g_X10_sealFor_b3 M n r x t).2 := by
  refine zC.of (by decide +kernel) rfl (Nat.le_of_ble_eq_true rfl) ?_
  refine zT.run [(.aload_n 0, 0, 0, 0), (.iconst 0, 0, 0, 0), (.putfield 61, 8, 0, 5149), (.aload_n 0, 0, 0, 0), (.iload_n 1, 0, 0, 0)] (pe := 7) (ls' := [some (.ref 0), some (.int (nI r)), some (.int x), some (.int t)]) (st' := [.int (nI r), .ref 0]) (M' := (zU M 0 0 0)) (by decide +kernel) rfl ?_
  refine zT.cV_own (o := 0) (idx := 160) (av := [.int (nI r)]) (rv := (some (.int 0))) (st := []) (S1 := [.int 0]) (c_X10_noReplica_ok (zU M 0 0 0) gp n r hn h9 h_r) k_X10_noReplica _ _ rfl rfl rfl (zIn (w := 5216) (by decide +kernel) rfl) (by decide +kernel) (by decide +kernel) rfl (Nat.le_of_ble_eq_true rfl) rfl ?_
  refine zT.zne (tgt := 39) (off := 29) (by decide +kernel) (by decide) (fun c => absurd (by decide) c) (fun _ => ?_)
  refine zT.run [(.aload_n 0, 0, 0, 0), (.iload_n 2, 0, 0, 0), (.iconst 0, 0, 0, 0), (.sipush 999, 0, 0, 0), (.iconst 2, 0, 0, 0)] (pe := 20) (ls' := [some (.ref 0), some (.int (nI r)), some (.int x), some (.int t)]) (st' := [.int 2, .int 999, .int 0, .int x, .ref 0]) (M' := (zU M 0 0 0)) (by decide +kernel) rfl ?_
  refine zT.cV_own (o := 0) (idx := 72) (av := [.int x, .int 0, .int 999, .int 2]) (rv := (some (.int 0))) (st := []) (S1 := [.int 0]) (c_X10_bad_ok (zU M 0 0 0) gp x 0 999 2 hx1 hy1) k_X10_bad _ _ rfl rfl rfl (zIn (w := 5220) (by decide +kernel) rfl) (by decide +kernel) (by decide +kernel) rfl (Nat.le_of_ble_eq_true rfl) rfl ?_
  refine zT.zne (tgt := 39) (off := 16) (by decide +kernel) (by decide) (fun c => absurd (by decide) c) (fun _ => ?_)
  refine zT.run [(.aload_n 0, 0, 0, 0), (.iload_n 3, 0, 0, 0), (.iconst 0, 0, 0, 0), (.sipush 9999, 0, 0, 0), (.iconst 2, 0, 0, 0)] (pe := 33) (ls' := [some (.ref 0), some (.int (nI r)), some (.int x), some (.int t)]) (st' := [.int 2, .int 9999, .int 0, .int t, .ref 0]) (M' := (zU M 0 0 0)) (by decide +kernel) rfl ?_
  refine zT.cV_all (o := 0) (idx := 72) (av := [.int t, .int 0, .int 9999, .int 2]) (rv := (some (.int 1))) (st := []) (S1 := [.int 1]) (c_X10_bad_bad (zU M 0 0 0) gp t 0 9999 2 hb) k_X10_bad _ _ rfl rfl rfl (zIn (w := 5220) (by decide +kernel) rfl) (by decide +kernel) (by decide +kernel) rfl (Nat.le_of_ble_eq_true rfl) rfl ?_
  refine zT.zeq (tgt := 43) (off := 7) (by decide +kernel) (by decide) (fun c => absurd c (by decide)) (fun _ => ?_)
  refine zT.run [(.iconst 0, 0, 0, 0), (.goto 9, 0, 0, 0)] (pe := 49) (ls' := [some (.ref 0), some (.int (nI r)), some (.int x), some (.int t)]) (st' := [.int 0]) (M' := (zU (zU M 0 0 0) 0 0 2)) (by decide +kernel) rfl ?_
  exact zT.iret (ty := Jvm.ClassFile.FieldType.int) (by simp only [g_X10_sealFor_b3]; try rfl) (by simp only [g_X10_sealFor_b3]; try rfl) rfl rfl (by decide +kernel)
noncomputable def g_X10_aheadIf_b1 (M : zM) (le : Int32) (ti : Int32) : Int32 × zM := (0, (zU (zU M 0 0 0) 0 0 1))
set_option maxRecDepth 100000 in
theorem c_X10_aheadIf_b1 (M : zM) (gp : Nat → Option Nat) (le : Int32) (ti : Int32) (hb : le < 1 ∨ ¬ le ≤ 9) : zC yy_X10_aheadIf 0 0 [.ref 0, .int le, .int ti] (sh_Model gp) M (some (.int (g_X10_aheadIf_b1 M le ti).1)) (sh_Model gp) (g_X10_aheadIf_b1 M le ti).2 := by
  refine zC.of (by decide +kernel) rfl (Nat.le_of_ble_eq_true rfl) ?_
  refine zT.run [(.aload_n 0, 0, 0, 0), (.iconst 0, 0, 0, 0), (.putfield 61, 8, 0, 5149), (.aload_n 0, 0, 0, 0), (.iload_n 1, 0, 0, 0), (.iconst 1, 0, 0, 0), (.bipush 9, 0, 0, 0), (.iconst 1, 0, 0, 0)] (pe := 11) (ls' := [some (.ref 0), some (.int le), some (.int ti)]) (st' := [.int 1, .int 9, .int 1, .int le, .ref 0]) (M' := (zU M 0 0 0)) (by decide +kernel) rfl ?_
  refine zT.cV_all (o := 0) (idx := 72) (av := [.int le, .int 1, .int 9, .int 1]) (rv := (some (.int 1))) (st := []) (S1 := [.int 1]) (c_X10_bad_bad (zU M 0 0 0) gp le 1 9 1 hb) k_X10_bad _ _ rfl rfl rfl (zIn (w := 5220) (by decide +kernel) rfl) (by decide +kernel) (by decide +kernel) rfl (Nat.le_of_ble_eq_true rfl) rfl ?_
  refine zT.zne (tgt := 28) (off := 14) (by decide +kernel) (by decide) (fun _ => ?_) (fun c => absurd c (by decide))
  refine zT.run [(.iconst 0, 0, 0, 0)] (pe := 29) (ls' := [some (.ref 0), some (.int le), some (.int ti)]) (st' := [.int 0]) (M' := (zU (zU M 0 0 0) 0 0 1)) (by decide +kernel) rfl ?_
  exact zT.iret (ty := Jvm.ClassFile.FieldType.int) (by simp only [g_X10_aheadIf_b1]; try rfl) (by simp only [g_X10_aheadIf_b1]; try rfl) rfl rfl (by decide +kernel)
noncomputable def g_X10_aheadIf_b2 (M : zM) (le : Int32) (ti : Int32) : Int32 × zM := (0, (zU (zU M 0 0 0) 0 0 1))
set_option maxRecDepth 100000 in
theorem c_X10_aheadIf_b2 (M : zM) (gp : Nat → Option Nat) (le : Int32) (ti : Int32) (hx0 : ¬ le < 1) (hy0 : le ≤ 9) (hb : ti < 0 ∨ ¬ ti ≤ 1) : zC yy_X10_aheadIf 0 0 [.ref 0, .int le, .int ti] (sh_Model gp) M (some (.int (g_X10_aheadIf_b2 M le ti).1)) (sh_Model gp) (g_X10_aheadIf_b2 M le ti).2 := by
  refine zC.of (by decide +kernel) rfl (Nat.le_of_ble_eq_true rfl) ?_
  refine zT.run [(.aload_n 0, 0, 0, 0), (.iconst 0, 0, 0, 0), (.putfield 61, 8, 0, 5149), (.aload_n 0, 0, 0, 0), (.iload_n 1, 0, 0, 0), (.iconst 1, 0, 0, 0), (.bipush 9, 0, 0, 0), (.iconst 1, 0, 0, 0)] (pe := 11) (ls' := [some (.ref 0), some (.int le), some (.int ti)]) (st' := [.int 1, .int 9, .int 1, .int le, .ref 0]) (M' := (zU M 0 0 0)) (by decide +kernel) rfl ?_
  refine zT.cV_own (o := 0) (idx := 72) (av := [.int le, .int 1, .int 9, .int 1]) (rv := (some (.int 0))) (st := []) (S1 := [.int 0]) (c_X10_bad_ok (zU M 0 0 0) gp le 1 9 1 hx0 hy0) k_X10_bad _ _ rfl rfl rfl (zIn (w := 5220) (by decide +kernel) rfl) (by decide +kernel) (by decide +kernel) rfl (Nat.le_of_ble_eq_true rfl) rfl ?_
  refine zT.zne (tgt := 28) (off := 14) (by decide +kernel) (by decide) (fun c => absurd (by decide) c) (fun _ => ?_)
  refine zT.run [(.aload_n 0, 0, 0, 0), (.iload_n 2, 0, 0, 0), (.iconst 0, 0, 0, 0), (.iconst 1, 0, 0, 0), (.iconst 1, 0, 0, 0)] (pe := 22) (ls' := [some (.ref 0), some (.int le), some (.int ti)]) (st' := [.int 1, .int 1, .int 0, .int ti, .ref 0]) (M' := (zU M 0 0 0)) (by decide +kernel) rfl ?_
  refine zT.cV_all (o := 0) (idx := 72) (av := [.int ti, .int 0, .int 1, .int 1]) (rv := (some (.int 1))) (st := []) (S1 := [.int 1]) (c_X10_bad_bad (zU M 0 0 0) gp ti 0 1 1 hb) k_X10_bad _ _ rfl rfl rfl (zIn (w := 5220) (by decide +kernel) rfl) (by decide +kernel) (by decide +kernel) rfl (Nat.le_of_ble_eq_true rfl) rfl ?_
  refine zT.zeq (tgt := 30) (off := 5) (by decide +kernel) (by decide) (fun c => absurd c (by decide)) (fun _ => ?_)
  refine zT.run [(.iconst 0, 0, 0, 0)] (pe := 29) (ls' := [some (.ref 0), some (.int le), some (.int ti)]) (st' := [.int 0]) (M' := (zU (zU M 0 0 0) 0 0 1)) (by decide +kernel) rfl ?_
  exact zT.iret (ty := Jvm.ClassFile.FieldType.int) (by simp only [g_X10_aheadIf_b2]; try rfl) (by simp only [g_X10_aheadIf_b2]; try rfl) rfl rfl (by decide +kernel)
noncomputable def g_X10_canWin_b1 (M : zM) (n : Nat) (r : Int32) : Int32 × zM := (0, (zU (zU M 0 0 0) 0 0 1))
set_option maxRecDepth 100000 in
theorem c_X10_canWin_b1 (M : zM) (gp : Nat → Option Nat) (n : Nat) (r : Int32) (hn : M 1 0 = nI n) (h9 : n ≤ 9) (h0 : 0 < n) (hb : r < 0 ∨ nI n ≤ r) : zC yy_X10_canWin 0 0 [.ref 0, .int r] (sh_Model gp) M (some (.int (g_X10_canWin_b1 M n r).1)) (sh_Model gp) (g_X10_canWin_b1 M n r).2 := by
  refine zC.of (by decide +kernel) rfl (Nat.le_of_ble_eq_true rfl) ?_
  refine zT.run [(.aload_n 0, 0, 0, 0), (.iconst 0, 0, 0, 0), (.putfield 61, 8, 0, 5149), (.aload_n 0, 0, 0, 0), (.iload_n 1, 0, 0, 0)] (pe := 7) (ls' := [some (.ref 0), some (.int r), none, none]) (st' := [.int r, .ref 0]) (M' := (zU M 0 0 0)) (by decide +kernel) rfl ?_
  refine zT.cV_all (o := 0) (idx := 160) (av := [.int r]) (rv := (some (.int 1))) (st := []) (S1 := [.int 1]) (c_X10_noReplica_bad (zU M 0 0 0) gp n r hn h9 h0 hb) k_X10_noReplica _ _ rfl rfl rfl (zIn (w := 5216) (by decide +kernel) rfl) (by decide +kernel) (by decide +kernel) rfl (Nat.le_of_ble_eq_true rfl) rfl ?_
  refine zT.zne (tgt := 23) (off := 13) (by decide +kernel) (by decide) (fun _ => ?_) (fun c => absurd c (by decide))
  refine zT.run [(.iconst 0, 0, 0, 0)] (pe := 24) (ls' := [some (.ref 0), some (.int r), none, none]) (st' := [.int 0]) (M' := (zU (zU M 0 0 0) 0 0 1)) (by decide +kernel) rfl ?_
  exact zT.iret (ty := Jvm.ClassFile.FieldType.boolean) (by simp only [g_X10_canWin_b1]; try rfl) (by simp only [g_X10_canWin_b1]; try rfl) rfl rfl (by decide +kernel)
noncomputable def g_X10_wouldSpoil_b1 (M : zM) (n : Nat) (r : Int32) (cd : Int32) : Int32 × zM := (0, (zU (zU M 0 0 0) 0 0 1))
set_option maxRecDepth 100000 in
theorem c_X10_wouldSpoil_b1 (M : zM) (gp : Nat → Option Nat) (n : Nat) (r : Int32) (cd : Int32) (hn : M 1 0 = nI n) (h9 : n ≤ 9) (h0 : 0 < n) (hb : r < 0 ∨ nI n ≤ r) : zC yy_X10_wouldSpoil 0 0 [.ref 0, .int r, .int cd] (sh_Model gp) M (some (.int (g_X10_wouldSpoil_b1 M n r cd).1)) (sh_Model gp) (g_X10_wouldSpoil_b1 M n r cd).2 := by
  refine zC.of (by decide +kernel) rfl (Nat.le_of_ble_eq_true rfl) ?_
  refine zT.run [(.aload_n 0, 0, 0, 0), (.iconst 0, 0, 0, 0), (.putfield 61, 8, 0, 5149), (.aload_n 0, 0, 0, 0), (.iload_n 1, 0, 0, 0)] (pe := 7) (ls' := [some (.ref 0), some (.int r), some (.int cd)]) (st' := [.int r, .ref 0]) (M' := (zU M 0 0 0)) (by decide +kernel) rfl ?_
  refine zT.cV_all (o := 0) (idx := 160) (av := [.int r]) (rv := (some (.int 1))) (st := []) (S1 := [.int 1]) (c_X10_noReplica_bad (zU M 0 0 0) gp n r hn h9 h0 hb) k_X10_noReplica _ _ rfl rfl rfl (zIn (w := 5216) (by decide +kernel) rfl) (by decide +kernel) (by decide +kernel) rfl (Nat.le_of_ble_eq_true rfl) rfl ?_
  refine zT.zne (tgt := 21) (off := 11) (by decide +kernel) (by decide) (fun _ => ?_) (fun c => absurd c (by decide))
  refine zT.run [(.iconst 0, 0, 0, 0)] (pe := 22) (ls' := [some (.ref 0), some (.int r), some (.int cd)]) (st' := [.int 0]) (M' := (zU (zU M 0 0 0) 0 0 1)) (by decide +kernel) rfl ?_
  exact zT.iret (ty := Jvm.ClassFile.FieldType.int) (by simp only [g_X10_wouldSpoil_b1]; try rfl) (by simp only [g_X10_wouldSpoil_b1]; try rfl) rfl rfl (by decide +kernel)
noncomputable def g_X10_wouldSpoil_b2 (M : zM) (n : Nat) (r : Nat) (cd : Int32) : Int32 × zM := (0, (zU (zU M 0 0 0) 0 0 1))
set_option maxRecDepth 100000 in
theorem c_X10_wouldSpoil_b2 (M : zM) (gp : Nat → Option Nat) (n : Nat) (r : Nat) (cd : Int32) (hn : M 1 0 = nI n) (h9 : n ≤ 9) (h0 : 0 < n) (h_r : r < n) (hb : cd < 0 ∨ nI n ≤ cd) : zC yy_X10_wouldSpoil 0 0 [.ref 0, .int (nI r), .int cd] (sh_Model gp) M (some (.int (g_X10_wouldSpoil_b2 M n r cd).1)) (sh_Model gp) (g_X10_wouldSpoil_b2 M n r cd).2 := by
  refine zC.of (by decide +kernel) rfl (Nat.le_of_ble_eq_true rfl) ?_
  refine zT.run [(.aload_n 0, 0, 0, 0), (.iconst 0, 0, 0, 0), (.putfield 61, 8, 0, 5149), (.aload_n 0, 0, 0, 0), (.iload_n 1, 0, 0, 0)] (pe := 7) (ls' := [some (.ref 0), some (.int (nI r)), some (.int cd)]) (st' := [.int (nI r), .ref 0]) (M' := (zU M 0 0 0)) (by decide +kernel) rfl ?_
  refine zT.cV_own (o := 0) (idx := 160) (av := [.int (nI r)]) (rv := (some (.int 0))) (st := []) (S1 := [.int 0]) (c_X10_noReplica_ok (zU M 0 0 0) gp n r hn h9 h_r) k_X10_noReplica _ _ rfl rfl rfl (zIn (w := 5216) (by decide +kernel) rfl) (by decide +kernel) (by decide +kernel) rfl (Nat.le_of_ble_eq_true rfl) rfl ?_
  refine zT.zne (tgt := 21) (off := 11) (by decide +kernel) (by decide) (fun c => absurd (by decide) c) (fun _ => ?_)
  refine zT.run [(.aload_n 0, 0, 0, 0), (.iload_n 2, 0, 0, 0)] (pe := 15) (ls' := [some (.ref 0), some (.int (nI r)), some (.int cd)]) (st' := [.int cd, .ref 0]) (M' := (zU M 0 0 0)) (by decide +kernel) rfl ?_
  refine zT.cV_all (o := 0) (idx := 160) (av := [.int cd]) (rv := (some (.int 1))) (st := []) (S1 := [.int 1]) (c_X10_noReplica_bad (zU M 0 0 0) gp n cd hn h9 h0 hb) k_X10_noReplica _ _ rfl rfl rfl (zIn (w := 5216) (by decide +kernel) rfl) (by decide +kernel) (by decide +kernel) rfl (Nat.le_of_ble_eq_true rfl) rfl ?_
  refine zT.zeq (tgt := 23) (off := 5) (by decide +kernel) (by decide) (fun c => absurd c (by decide)) (fun _ => ?_)
  refine zT.run [(.iconst 0, 0, 0, 0)] (pe := 22) (ls' := [some (.ref 0), some (.int (nI r)), some (.int cd)]) (st' := [.int 0]) (M' := (zU (zU M 0 0 0) 0 0 1)) (by decide +kernel) rfl ?_
  exact zT.iret (ty := Jvm.ClassFile.FieldType.int) (by simp only [g_X10_wouldSpoil_b2]; try rfl) (by simp only [g_X10_wouldSpoil_b2]; try rfl) rfl rfl (by decide +kernel)
noncomputable def g_X10_nonceFor_b1 (M : zM) (n : Nat) (r : Int32) (cd : Int32) : Int32 × zM := (0, (zU (zU M 0 0 0) 0 0 1))
set_option maxRecDepth 100000 in
theorem c_X10_nonceFor_b1 (M : zM) (gp : Nat → Option Nat) (n : Nat) (r : Int32) (cd : Int32) (hn : M 1 0 = nI n) (h9 : n ≤ 9) (h0 : 0 < n) (hb : r < 0 ∨ nI n ≤ r) : zC yy_X10_nonceFor 0 0 [.ref 0, .int r, .int cd] (sh_Model gp) M (some (.int (g_X10_nonceFor_b1 M n r cd).1)) (sh_Model gp) (g_X10_nonceFor_b1 M n r cd).2 := by
  refine zC.of (by decide +kernel) rfl (Nat.le_of_ble_eq_true rfl) ?_
  refine zT.run [(.aload_n 0, 0, 0, 0), (.iconst 0, 0, 0, 0), (.putfield 61, 8, 0, 5149), (.aload_n 0, 0, 0, 0), (.iload_n 1, 0, 0, 0)] (pe := 7) (ls' := [some (.ref 0), some (.int r), some (.int cd), none]) (st' := [.int r, .ref 0]) (M' := (zU M 0 0 0)) (by decide +kernel) rfl ?_
  refine zT.cV_all (o := 0) (idx := 160) (av := [.int r]) (rv := (some (.int 1))) (st := []) (S1 := [.int 1]) (c_X10_noReplica_bad (zU M 0 0 0) gp n r hn h9 h0 hb) k_X10_noReplica _ _ rfl rfl rfl (zIn (w := 5216) (by decide +kernel) rfl) (by decide +kernel) (by decide +kernel) rfl (Nat.le_of_ble_eq_true rfl) rfl ?_
  refine zT.zne (tgt := 21) (off := 11) (by decide +kernel) (by decide) (fun _ => ?_) (fun c => absurd c (by decide))
  refine zT.run [(.iconst 0, 0, 0, 0)] (pe := 22) (ls' := [some (.ref 0), some (.int r), some (.int cd), none]) (st' := [.int 0]) (M' := (zU (zU M 0 0 0) 0 0 1)) (by decide +kernel) rfl ?_
  exact zT.iret (ty := Jvm.ClassFile.FieldType.int) (by simp only [g_X10_nonceFor_b1]; try rfl) (by simp only [g_X10_nonceFor_b1]; try rfl) rfl rfl (by decide +kernel)
noncomputable def g_X10_nonceFor_b2 (M : zM) (n : Nat) (r : Nat) (cd : Int32) : Int32 × zM := (0, (zU (zU M 0 0 0) 0 0 1))
set_option maxRecDepth 100000 in
theorem c_X10_nonceFor_b2 (M : zM) (gp : Nat → Option Nat) (n : Nat) (r : Nat) (cd : Int32) (hn : M 1 0 = nI n) (h9 : n ≤ 9) (h0 : 0 < n) (h_r : r < n) (hb : cd < 0 ∨ nI n ≤ cd) : zC yy_X10_nonceFor 0 0 [.ref 0, .int (nI r), .int cd] (sh_Model gp) M (some (.int (g_X10_nonceFor_b2 M n r cd).1)) (sh_Model gp) (g_X10_nonceFor_b2 M n r cd).2 := by
  refine zC.of (by decide +kernel) rfl (Nat.le_of_ble_eq_true rfl) ?_
  refine zT.run [(.aload_n 0, 0, 0, 0), (.iconst 0, 0, 0, 0), (.putfield 61, 8, 0, 5149), (.aload_n 0, 0, 0, 0), (.iload_n 1, 0, 0, 0)] (pe := 7) (ls' := [some (.ref 0), some (.int (nI r)), some (.int cd), none]) (st' := [.int (nI r), .ref 0]) (M' := (zU M 0 0 0)) (by decide +kernel) rfl ?_
  refine zT.cV_own (o := 0) (idx := 160) (av := [.int (nI r)]) (rv := (some (.int 0))) (st := []) (S1 := [.int 0]) (c_X10_noReplica_ok (zU M 0 0 0) gp n r hn h9 h_r) k_X10_noReplica _ _ rfl rfl rfl (zIn (w := 5216) (by decide +kernel) rfl) (by decide +kernel) (by decide +kernel) rfl (Nat.le_of_ble_eq_true rfl) rfl ?_
  refine zT.zne (tgt := 21) (off := 11) (by decide +kernel) (by decide) (fun c => absurd (by decide) c) (fun _ => ?_)
  refine zT.run [(.aload_n 0, 0, 0, 0), (.iload_n 2, 0, 0, 0)] (pe := 15) (ls' := [some (.ref 0), some (.int (nI r)), some (.int cd), none]) (st' := [.int cd, .ref 0]) (M' := (zU M 0 0 0)) (by decide +kernel) rfl ?_
  refine zT.cV_all (o := 0) (idx := 160) (av := [.int cd]) (rv := (some (.int 1))) (st := []) (S1 := [.int 1]) (c_X10_noReplica_bad (zU M 0 0 0) gp n cd hn h9 h0 hb) k_X10_noReplica _ _ rfl rfl rfl (zIn (w := 5216) (by decide +kernel) rfl) (by decide +kernel) (by decide +kernel) rfl (Nat.le_of_ble_eq_true rfl) rfl ?_
  refine zT.zeq (tgt := 23) (off := 5) (by decide +kernel) (by decide) (fun c => absurd c (by decide)) (fun _ => ?_)
  refine zT.run [(.iconst 0, 0, 0, 0)] (pe := 22) (ls' := [some (.ref 0), some (.int (nI r)), some (.int cd), none]) (st' := [.int 0]) (M' := (zU (zU M 0 0 0) 0 0 1)) (by decide +kernel) rfl ?_
  exact zT.iret (ty := Jvm.ClassFile.FieldType.int) (by simp only [g_X10_nonceFor_b2]; try rfl) (by simp only [g_X10_nonceFor_b2]; try rfl) rfl rfl (by decide +kernel)
noncomputable def g_X10_why_b1 (M : zM) (n : Nat) (r : Int32) (d : Int32) : Int32 × zM := (0, (zU (zU M 0 0 0) 0 0 1))
set_option maxRecDepth 100000 in
theorem c_X10_why_b1 (M : zM) (gp : Nat → Option Nat) (n : Nat) (r : Int32) (d : Int32) (hn : M 1 0 = nI n) (h9 : n ≤ 9) (h0 : 0 < n) (hb : r < 0 ∨ nI n ≤ r) : zC yy_X10_why 0 0 [.ref 0, .int r, .int d] (sh_Model gp) M (some (.int (g_X10_why_b1 M n r d).1)) (sh_Model gp) (g_X10_why_b1 M n r d).2 := by
  refine zC.of (by decide +kernel) rfl (Nat.le_of_ble_eq_true rfl) ?_
  refine zT.run [(.aload_n 0, 0, 0, 0), (.iconst 0, 0, 0, 0), (.putfield 61, 8, 0, 5149), (.aload_n 0, 0, 0, 0), (.iload_n 1, 0, 0, 0)] (pe := 7) (ls' := [some (.ref 0), some (.int r), some (.int d), none, none]) (st' := [.int r, .ref 0]) (M' := (zU M 0 0 0)) (by decide +kernel) rfl ?_
  refine zT.cV_all (o := 0) (idx := 160) (av := [.int r]) (rv := (some (.int 1))) (st := []) (S1 := [.int 1]) (c_X10_noReplica_bad (zU M 0 0 0) gp n r hn h9 h0 hb) k_X10_noReplica _ _ rfl rfl rfl (zIn (w := 5216) (by decide +kernel) rfl) (by decide +kernel) (by decide +kernel) rfl (Nat.le_of_ble_eq_true rfl) rfl ?_
  refine zT.zne (tgt := 24) (off := 14) (by decide +kernel) (by decide) (fun _ => ?_) (fun c => absurd c (by decide))
  refine zT.run [(.iconst 0, 0, 0, 0)] (pe := 25) (ls' := [some (.ref 0), some (.int r), some (.int d), none, none]) (st' := [.int 0]) (M' := (zU (zU M 0 0 0) 0 0 1)) (by decide +kernel) rfl ?_
  exact zT.iret (ty := Jvm.ClassFile.FieldType.int) (by simp only [g_X10_why_b1]; try rfl) (by simp only [g_X10_why_b1]; try rfl) rfl rfl (by decide +kernel)
noncomputable def g_X10_why_b2 (M : zM) (n : Nat) (r : Nat) (d : Int32) : Int32 × zM := (0, (zU (zU M 0 0 0) 0 0 2))
set_option maxRecDepth 100000 in
theorem c_X10_why_b2 (M : zM) (gp : Nat → Option Nat) (n : Nat) (r : Nat) (d : Int32) (hn : M 1 0 = nI n) (h9 : n ≤ 9) (h_r : r < n) (hb : d < 0 ∨ ¬ d ≤ 1) : zC yy_X10_why 0 0 [.ref 0, .int (nI r), .int d] (sh_Model gp) M (some (.int (g_X10_why_b2 M n r d).1)) (sh_Model gp) (g_X10_why_b2 M n r d).2 := by
  refine zC.of (by decide +kernel) rfl (Nat.le_of_ble_eq_true rfl) ?_
  refine zT.run [(.aload_n 0, 0, 0, 0), (.iconst 0, 0, 0, 0), (.putfield 61, 8, 0, 5149), (.aload_n 0, 0, 0, 0), (.iload_n 1, 0, 0, 0)] (pe := 7) (ls' := [some (.ref 0), some (.int (nI r)), some (.int d), none, none]) (st' := [.int (nI r), .ref 0]) (M' := (zU M 0 0 0)) (by decide +kernel) rfl ?_
  refine zT.cV_own (o := 0) (idx := 160) (av := [.int (nI r)]) (rv := (some (.int 0))) (st := []) (S1 := [.int 0]) (c_X10_noReplica_ok (zU M 0 0 0) gp n r hn h9 h_r) k_X10_noReplica _ _ rfl rfl rfl (zIn (w := 5216) (by decide +kernel) rfl) (by decide +kernel) (by decide +kernel) rfl (Nat.le_of_ble_eq_true rfl) rfl ?_
  refine zT.zne (tgt := 24) (off := 14) (by decide +kernel) (by decide) (fun c => absurd (by decide) c) (fun _ => ?_)
  refine zT.run [(.aload_n 0, 0, 0, 0), (.iload_n 2, 0, 0, 0), (.iconst 0, 0, 0, 0), (.iconst 1, 0, 0, 0), (.iconst 2, 0, 0, 0)] (pe := 18) (ls' := [some (.ref 0), some (.int (nI r)), some (.int d), none, none]) (st' := [.int 2, .int 1, .int 0, .int d, .ref 0]) (M' := (zU M 0 0 0)) (by decide +kernel) rfl ?_
  refine zT.cV_all (o := 0) (idx := 72) (av := [.int d, .int 0, .int 1, .int 2]) (rv := (some (.int 1))) (st := []) (S1 := [.int 1]) (c_X10_bad_bad (zU M 0 0 0) gp d 0 1 2 hb) k_X10_bad _ _ rfl rfl rfl (zIn (w := 5220) (by decide +kernel) rfl) (by decide +kernel) (by decide +kernel) rfl (Nat.le_of_ble_eq_true rfl) rfl ?_
  refine zT.zeq (tgt := 26) (off := 5) (by decide +kernel) (by decide) (fun c => absurd c (by decide)) (fun _ => ?_)
  refine zT.run [(.iconst 0, 0, 0, 0)] (pe := 25) (ls' := [some (.ref 0), some (.int (nI r)), some (.int d), none, none]) (st' := [.int 0]) (M' := (zU (zU M 0 0 0) 0 0 2)) (by decide +kernel) rfl ?_
  exact zT.iret (ty := Jvm.ClassFile.FieldType.int) (by simp only [g_X10_why_b2]; try rfl) (by simp only [g_X10_why_b2]; try rfl) rfl rfl (by decide +kernel)
