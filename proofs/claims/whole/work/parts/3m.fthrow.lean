set_option maxRecDepth 100000 in
theorem x_X9_call_0 (M : zM) (sl : Nat → Option Nat) (ext : List va_E) (x1 : Int32) (h : x1 < 0 ∨ ¬ x1 < M 5 0) : zXr yy_X9_call 1 6 [.ref 0, .int x1] (sh_X sl ext) M "java/lang/IndexOutOfBoundsException" M := by
  refine zXr.via (k0 := 0) (n0 := 0) (k := 1) (n := 6) (by decide +kernel) rfl (Nat.le_of_ble_eq_true rfl) ?_
  refine zT.run [(.aload_n 0, 0, 0, 0), (.iload_n 1, 0, 0, 0)] (pe := 2) (ls' := [some (.ref 0), some (.int x1)]) (st' := [.int x1, .ref 0]) (M' := M) (by decide +kernel) rfl ?_
  exact zT.here ⟨rfl, zTX.callV (Yc := yy_X9_needReplica) (o := 0) (idx := 85) (av := [.int x1]) (st := []) 0 (by rw [zPl0]; exact x_X9_needReplica M sl ext x1 h) (zSub.all _) k_X9_needReplica rfl rfl rfl (zIn (w := 4007) (by decide +kernel) rfl) (by decide +kernel) (by decide +kernel) rfl (Nat.le_of_ble_eq_true rfl)⟩
set_option maxRecDepth 100000 in
theorem x_X9_seal_0 (M : zM) (sl : Nat → Option Nat) (ext : List va_E) (x1 : Int32) (x2 : Int32) (h : x1 < 0 ∨ ¬ x1 < M 5 0) : zXr yy_X9_seal 1 6 [.ref 0, .int x1, .int x2] (sh_X sl ext) M "java/lang/IndexOutOfBoundsException" M := by
  refine zXr.via (k0 := 0) (n0 := 0) (k := 1) (n := 6) (by decide +kernel) rfl (Nat.le_of_ble_eq_true rfl) ?_
  refine zT.run [(.aload_n 0, 0, 0, 0), (.iload_n 1, 0, 0, 0)] (pe := 2) (ls' := [some (.ref 0), some (.int x1), some (.int x2)]) (st' := [.int x1, .ref 0]) (M' := M) (by decide +kernel) rfl ?_
  exact zT.here ⟨rfl, zTX.callV (Yc := yy_X9_needReplica) (o := 0) (idx := 85) (av := [.int x1]) (st := []) 0 (by rw [zPl0]; exact x_X9_needReplica M sl ext x1 h) (zSub.all _) k_X9_needReplica rfl rfl rfl (zIn (w := 4007) (by decide +kernel) rfl) (by decide +kernel) (by decide +kernel) rfl (Nat.le_of_ble_eq_true rfl)⟩
set_option maxRecDepth 100000 in
theorem x_X9_seal_1 (M : zM) (sl : Nat → Option Nat) (ext : List va_E) (r1 : Nat) (x2 : Int32) (n : Nat) (hn : M 5 0 = nI n) (h9 : n ≤ 9) (h_r1 : r1 < n) (h : x2 < zLo 4 ∨ zHi 4 < x2) : zXr yy_X9_seal 1 6 [.ref 0, .int (nI r1), .int x2] (sh_X sl ext) M "java/lang/IllegalArgumentException" M := by
  refine zXr.via (k0 := 0) (n0 := 0) (k := 1) (n := 6) (by decide +kernel) rfl (Nat.le_of_ble_eq_true rfl) ?_
  refine zT.run [(.aload_n 0, 0, 0, 0), (.iload_n 1, 0, 0, 0)] (pe := 2) (ls' := [some (.ref 0), some (.int (nI r1)), some (.int x2)]) (st' := [.int (nI r1), .ref 0]) (M' := M) (by decide +kernel) rfl ?_
  refine zT.cV_own (o := 0) (idx := 85) (av := [.int (nI r1)]) (rv := none) (st := []) (S1 := []) (c_X9_needReplica_ok M sl ext n r1 hn h9 h_r1) k_X9_needReplica _ _ rfl rfl rfl (zIn (w := 4007) (by decide +kernel) rfl) (by decide +kernel) (by decide +kernel) rfl (Nat.le_of_ble_eq_true rfl) rfl ?_
  refine zT.run [(.iload_n 2, 0, 0, 0), (.iconst 4, 0, 0, 0)] (pe := 7) (ls' := [some (.ref 0), some (.int (nI r1)), some (.int x2)]) (st' := [.int (4), .int x2]) (M' := M) (by decide +kernel) rfl ?_
  exact zT.here ⟨rfl, zTX.callS (Yc := yy_X9_needKind) (idx := 89) (av := [.int x2, .int (nI 4)]) (st := []) 0 (x_X9_needKind _ x2 4 (by decide) h) (zSub.nil _ _) k_X9_needKind rfl (zIn (w := 4086) (by decide +kernel) rfl) (by decide +kernel) (by decide +kernel) rfl (Nat.le_of_ble_eq_true rfl)⟩
set_option maxRecDepth 100000 in
theorem x_X9_vote_0 (M : zM) (sl : Nat → Option Nat) (ext : List va_E) (x1 : Int32) (x2 : Int32) (x3 : Int32) (h : x1 < 0 ∨ ¬ x1 < M 5 0) : zXr yy_X9_vote 1 6 [.ref 0, .int x1, .int x2, .int x3] (sh_X sl ext) M "java/lang/IndexOutOfBoundsException" M := by
  refine zXr.via (k0 := 0) (n0 := 0) (k := 1) (n := 6) (by decide +kernel) rfl (Nat.le_of_ble_eq_true rfl) ?_
  refine zT.run [(.aload_n 0, 0, 0, 0), (.iload_n 1, 0, 0, 0)] (pe := 2) (ls' := [some (.ref 0), some (.int x1), some (.int x2), some (.int x3)]) (st' := [.int x1, .ref 0]) (M' := M) (by decide +kernel) rfl ?_
  exact zT.here ⟨rfl, zTX.callV (Yc := yy_X9_needReplica) (o := 0) (idx := 85) (av := [.int x1]) (st := []) 0 (by rw [zPl0]; exact x_X9_needReplica M sl ext x1 h) (zSub.all _) k_X9_needReplica rfl rfl rfl (zIn (w := 4007) (by decide +kernel) rfl) (by decide +kernel) (by decide +kernel) rfl (Nat.le_of_ble_eq_true rfl)⟩
set_option maxRecDepth 100000 in
theorem x_X9_vote_1 (M : zM) (sl : Nat → Option Nat) (ext : List va_E) (r1 : Nat) (x2 : Int32) (x3 : Int32) (n : Nat) (hn : M 5 0 = nI n) (h9 : n ≤ 9) (h_r1 : r1 < n) (h : x2 < 0 ∨ ¬ x2 < M 5 0) : zXr yy_X9_vote 1 6 [.ref 0, .int (nI r1), .int x2, .int x3] (sh_X sl ext) M "java/lang/IndexOutOfBoundsException" M := by
  refine zXr.via (k0 := 0) (n0 := 0) (k := 1) (n := 6) (by decide +kernel) rfl (Nat.le_of_ble_eq_true rfl) ?_
  refine zT.run [(.aload_n 0, 0, 0, 0), (.iload_n 1, 0, 0, 0)] (pe := 2) (ls' := [some (.ref 0), some (.int (nI r1)), some (.int x2), some (.int x3)]) (st' := [.int (nI r1), .ref 0]) (M' := M) (by decide +kernel) rfl ?_
  refine zT.cV_own (o := 0) (idx := 85) (av := [.int (nI r1)]) (rv := none) (st := []) (S1 := []) (c_X9_needReplica_ok M sl ext n r1 hn h9 h_r1) k_X9_needReplica _ _ rfl rfl rfl (zIn (w := 4007) (by decide +kernel) rfl) (by decide +kernel) (by decide +kernel) rfl (Nat.le_of_ble_eq_true rfl) rfl ?_
  refine zT.run [(.aload_n 0, 0, 0, 0), (.iload_n 2, 0, 0, 0)] (pe := 7) (ls' := [some (.ref 0), some (.int (nI r1)), some (.int x2), some (.int x3)]) (st' := [.int x2, .ref 0]) (M' := M) (by decide +kernel) rfl ?_
  exact zT.here ⟨rfl, zTX.callV (Yc := yy_X9_needReplica) (o := 0) (idx := 85) (av := [.int x2]) (st := []) 0 (by rw [zPl0]; exact x_X9_needReplica M sl ext x2 h) (zSub.all _) k_X9_needReplica rfl rfl rfl (zIn (w := 4007) (by decide +kernel) rfl) (by decide +kernel) (by decide +kernel) rfl (Nat.le_of_ble_eq_true rfl)⟩
set_option maxRecDepth 100000 in
theorem x_X9_vote_2 (M : zM) (sl : Nat → Option Nat) (ext : List va_E) (r1 : Nat) (r2 : Nat) (x3 : Int32) (n : Nat) (hn : M 5 0 = nI n) (h9 : n ≤ 9) (h_r1 : r1 < n) (h_r2 : r2 < n) (h : x3 < zLo 3 ∨ zHi 3 < x3) : zXr yy_X9_vote 1 6 [.ref 0, .int (nI r1), .int (nI r2), .int x3] (sh_X sl ext) M "java/lang/IllegalArgumentException" M := by
  refine zXr.via (k0 := 0) (n0 := 0) (k := 1) (n := 6) (by decide +kernel) rfl (Nat.le_of_ble_eq_true rfl) ?_
  refine zT.run [(.aload_n 0, 0, 0, 0), (.iload_n 1, 0, 0, 0)] (pe := 2) (ls' := [some (.ref 0), some (.int (nI r1)), some (.int (nI r2)), some (.int x3)]) (st' := [.int (nI r1), .ref 0]) (M' := M) (by decide +kernel) rfl ?_
  refine zT.cV_own (o := 0) (idx := 85) (av := [.int (nI r1)]) (rv := none) (st := []) (S1 := []) (c_X9_needReplica_ok M sl ext n r1 hn h9 h_r1) k_X9_needReplica _ _ rfl rfl rfl (zIn (w := 4007) (by decide +kernel) rfl) (by decide +kernel) (by decide +kernel) rfl (Nat.le_of_ble_eq_true rfl) rfl ?_
  refine zT.run [(.aload_n 0, 0, 0, 0), (.iload_n 2, 0, 0, 0)] (pe := 7) (ls' := [some (.ref 0), some (.int (nI r1)), some (.int (nI r2)), some (.int x3)]) (st' := [.int (nI r2), .ref 0]) (M' := M) (by decide +kernel) rfl ?_
  refine zT.cV_own (o := 0) (idx := 85) (av := [.int (nI r2)]) (rv := none) (st := []) (S1 := []) (c_X9_needReplica_ok M sl ext n r2 hn h9 h_r2) k_X9_needReplica _ _ rfl rfl rfl (zIn (w := 4007) (by decide +kernel) rfl) (by decide +kernel) (by decide +kernel) rfl (Nat.le_of_ble_eq_true rfl) rfl ?_
  refine zT.run [(.iload_n 3, 0, 0, 0), (.iconst 3, 0, 0, 0)] (pe := 12) (ls' := [some (.ref 0), some (.int (nI r1)), some (.int (nI r2)), some (.int x3)]) (st' := [.int (3), .int x3]) (M' := M) (by decide +kernel) rfl ?_
  exact zT.here ⟨rfl, zTX.callS (Yc := yy_X9_needKind) (idx := 89) (av := [.int x3, .int (nI 3)]) (st := []) 0 (x_X9_needKind _ x3 3 (by decide) h) (zSub.nil _ _) k_X9_needKind rfl (zIn (w := 4086) (by decide +kernel) rfl) (by decide +kernel) (by decide +kernel) rfl (Nat.le_of_ble_eq_true rfl)⟩
set_option maxRecDepth 100000 in
theorem x_X9_breakSeal_0 (M : zM) (sl : Nat → Option Nat) (ext : List va_E) (x1 : Int32) (x2 : Int32) (x3 : Int32) (h : x1 < 0 ∨ ¬ x1 < M 5 0) : zXr yy_X9_breakSeal 1 6 [.ref 0, .int x1, .int x2, .int x3] (sh_X sl ext) M "java/lang/IndexOutOfBoundsException" M := by
  refine zXr.via (k0 := 0) (n0 := 0) (k := 1) (n := 6) (by decide +kernel) rfl (Nat.le_of_ble_eq_true rfl) ?_
  refine zT.run [(.aload_n 0, 0, 0, 0), (.iload_n 1, 0, 0, 0)] (pe := 2) (ls' := [some (.ref 0), some (.int x1), some (.int x2), some (.int x3)]) (st' := [.int x1, .ref 0]) (M' := M) (by decide +kernel) rfl ?_
  exact zT.here ⟨rfl, zTX.callV (Yc := yy_X9_needReplica) (o := 0) (idx := 85) (av := [.int x1]) (st := []) 0 (by rw [zPl0]; exact x_X9_needReplica M sl ext x1 h) (zSub.all _) k_X9_needReplica rfl rfl rfl (zIn (w := 4007) (by decide +kernel) rfl) (by decide +kernel) (by decide +kernel) rfl (Nat.le_of_ble_eq_true rfl)⟩
set_option maxRecDepth 100000 in
theorem x_X9_breakSeal_1 (M : zM) (sl : Nat → Option Nat) (ext : List va_E) (r1 : Nat) (x2 : Int32) (x3 : Int32) (n : Nat) (hn : M 5 0 = nI n) (h9 : n ≤ 9) (h_r1 : r1 < n) (h : x2 < 0 ∨ ¬ x2 < M 5 0) : zXr yy_X9_breakSeal 1 6 [.ref 0, .int (nI r1), .int x2, .int x3] (sh_X sl ext) M "java/lang/IndexOutOfBoundsException" M := by
  refine zXr.via (k0 := 0) (n0 := 0) (k := 1) (n := 6) (by decide +kernel) rfl (Nat.le_of_ble_eq_true rfl) ?_
  refine zT.run [(.aload_n 0, 0, 0, 0), (.iload_n 1, 0, 0, 0)] (pe := 2) (ls' := [some (.ref 0), some (.int (nI r1)), some (.int x2), some (.int x3)]) (st' := [.int (nI r1), .ref 0]) (M' := M) (by decide +kernel) rfl ?_
  refine zT.cV_own (o := 0) (idx := 85) (av := [.int (nI r1)]) (rv := none) (st := []) (S1 := []) (c_X9_needReplica_ok M sl ext n r1 hn h9 h_r1) k_X9_needReplica _ _ rfl rfl rfl (zIn (w := 4007) (by decide +kernel) rfl) (by decide +kernel) (by decide +kernel) rfl (Nat.le_of_ble_eq_true rfl) rfl ?_
  refine zT.run [(.aload_n 0, 0, 0, 0), (.iload_n 2, 0, 0, 0)] (pe := 7) (ls' := [some (.ref 0), some (.int (nI r1)), some (.int x2), some (.int x3)]) (st' := [.int x2, .ref 0]) (M' := M) (by decide +kernel) rfl ?_
  exact zT.here ⟨rfl, zTX.callV (Yc := yy_X9_needReplica) (o := 0) (idx := 85) (av := [.int x2]) (st := []) 0 (by rw [zPl0]; exact x_X9_needReplica M sl ext x2 h) (zSub.all _) k_X9_needReplica rfl rfl rfl (zIn (w := 4007) (by decide +kernel) rfl) (by decide +kernel) (by decide +kernel) rfl (Nat.le_of_ble_eq_true rfl)⟩
set_option maxRecDepth 100000 in
theorem x_X9_breakSeal_2 (M : zM) (sl : Nat → Option Nat) (ext : List va_E) (r1 : Nat) (r2 : Nat) (x3 : Int32) (n : Nat) (hn : M 5 0 = nI n) (h9 : n ≤ 9) (h_r1 : r1 < n) (h_r2 : r2 < n) (h : x3 < zLo 3 ∨ zHi 3 < x3) : zXr yy_X9_breakSeal 1 6 [.ref 0, .int (nI r1), .int (nI r2), .int x3] (sh_X sl ext) M "java/lang/IllegalArgumentException" M := by
  refine zXr.via (k0 := 0) (n0 := 0) (k := 1) (n := 6) (by decide +kernel) rfl (Nat.le_of_ble_eq_true rfl) ?_
  refine zT.run [(.aload_n 0, 0, 0, 0), (.iload_n 1, 0, 0, 0)] (pe := 2) (ls' := [some (.ref 0), some (.int (nI r1)), some (.int (nI r2)), some (.int x3)]) (st' := [.int (nI r1), .ref 0]) (M' := M) (by decide +kernel) rfl ?_
  refine zT.cV_own (o := 0) (idx := 85) (av := [.int (nI r1)]) (rv := none) (st := []) (S1 := []) (c_X9_needReplica_ok M sl ext n r1 hn h9 h_r1) k_X9_needReplica _ _ rfl rfl rfl (zIn (w := 4007) (by decide +kernel) rfl) (by decide +kernel) (by decide +kernel) rfl (Nat.le_of_ble_eq_true rfl) rfl ?_
  refine zT.run [(.aload_n 0, 0, 0, 0), (.iload_n 2, 0, 0, 0)] (pe := 7) (ls' := [some (.ref 0), some (.int (nI r1)), some (.int (nI r2)), some (.int x3)]) (st' := [.int (nI r2), .ref 0]) (M' := M) (by decide +kernel) rfl ?_
  refine zT.cV_own (o := 0) (idx := 85) (av := [.int (nI r2)]) (rv := none) (st := []) (S1 := []) (c_X9_needReplica_ok M sl ext n r2 hn h9 h_r2) k_X9_needReplica _ _ rfl rfl rfl (zIn (w := 4007) (by decide +kernel) rfl) (by decide +kernel) (by decide +kernel) rfl (Nat.le_of_ble_eq_true rfl) rfl ?_
  refine zT.run [(.iload_n 3, 0, 0, 0), (.iconst 3, 0, 0, 0)] (pe := 12) (ls' := [some (.ref 0), some (.int (nI r1)), some (.int (nI r2)), some (.int x3)]) (st' := [.int (3), .int x3]) (M' := M) (by decide +kernel) rfl ?_
  exact zT.here ⟨rfl, zTX.callS (Yc := yy_X9_needKind) (idx := 89) (av := [.int x3, .int (nI 3)]) (st := []) 0 (x_X9_needKind _ x3 3 (by decide) h) (zSub.nil _ _) k_X9_needKind rfl (zIn (w := 4086) (by decide +kernel) rfl) (by decide +kernel) (by decide +kernel) rfl (Nat.le_of_ble_eq_true rfl)⟩
set_option maxRecDepth 100000 in
theorem x_X9_recount_0 (M : zM) (sl : Nat → Option Nat) (ext : List va_E) (x1 : Int32) (h : x1 < 0 ∨ ¬ x1 < M 5 0) : zXr yy_X9_recount 1 6 [.ref 0, .int x1] (sh_X sl ext) M "java/lang/IndexOutOfBoundsException" M := by
  refine zXr.via (k0 := 0) (n0 := 0) (k := 1) (n := 6) (by decide +kernel) rfl (Nat.le_of_ble_eq_true rfl) ?_
  refine zT.run [(.aload_n 0, 0, 0, 0), (.iload_n 1, 0, 0, 0)] (pe := 2) (ls' := [some (.ref 0), some (.int x1)]) (st' := [.int x1, .ref 0]) (M' := M) (by decide +kernel) rfl ?_
  exact zT.here ⟨rfl, zTX.callV (Yc := yy_X9_needReplica) (o := 0) (idx := 85) (av := [.int x1]) (st := []) 0 (by rw [zPl0]; exact x_X9_needReplica M sl ext x1 h) (zSub.all _) k_X9_needReplica rfl rfl rfl (zIn (w := 4007) (by decide +kernel) rfl) (by decide +kernel) (by decide +kernel) rfl (Nat.le_of_ble_eq_true rfl)⟩
set_option maxRecDepth 100000 in
theorem x_X9_setUp_0 (M : zM) (sl : Nat → Option Nat) (ext : List va_E) (x1 : Int32) (x2 : Int32) (h : x1 < 0 ∨ ¬ x1 < M 5 0) : zXr yy_X9_setUp 1 6 [.ref 0, .int x1, .int x2] (sh_X sl ext) M "java/lang/IndexOutOfBoundsException" M := by
  refine zXr.via (k0 := 0) (n0 := 0) (k := 1) (n := 6) (by decide +kernel) rfl (Nat.le_of_ble_eq_true rfl) ?_
  refine zT.run [(.aload_n 0, 0, 0, 0), (.iload_n 1, 0, 0, 0)] (pe := 2) (ls' := [some (.ref 0), some (.int x1), some (.int x2)]) (st' := [.int x1, .ref 0]) (M' := M) (by decide +kernel) rfl ?_
  exact zT.here ⟨rfl, zTX.callV (Yc := yy_X9_needReplica) (o := 0) (idx := 85) (av := [.int x1]) (st := []) 0 (by rw [zPl0]; exact x_X9_needReplica M sl ext x1 h) (zSub.all _) k_X9_needReplica rfl rfl rfl (zIn (w := 4007) (by decide +kernel) rfl) (by decide +kernel) (by decide +kernel) rfl (Nat.le_of_ble_eq_true rfl)⟩
set_option maxRecDepth 100000 in
theorem x_X9_setLink_0 (M : zM) (sl : Nat → Option Nat) (ext : List va_E) (x1 : Int32) (x2 : Int32) (x3 : Int32) (h : x1 < 0 ∨ ¬ x1 < M 5 0) : zXr yy_X9_setLink 1 6 [.ref 0, .int x1, .int x2, .int x3] (sh_X sl ext) M "java/lang/IndexOutOfBoundsException" M := by
  refine zXr.via (k0 := 0) (n0 := 0) (k := 1) (n := 6) (by decide +kernel) rfl (Nat.le_of_ble_eq_true rfl) ?_
  refine zT.run [(.aload_n 0, 0, 0, 0), (.iload_n 1, 0, 0, 0)] (pe := 2) (ls' := [some (.ref 0), some (.int x1), some (.int x2), some (.int x3)]) (st' := [.int x1, .ref 0]) (M' := M) (by decide +kernel) rfl ?_
  exact zT.here ⟨rfl, zTX.callV (Yc := yy_X9_needReplica) (o := 0) (idx := 85) (av := [.int x1]) (st := []) 0 (by rw [zPl0]; exact x_X9_needReplica M sl ext x1 h) (zSub.all _) k_X9_needReplica rfl rfl rfl (zIn (w := 4007) (by decide +kernel) rfl) (by decide +kernel) (by decide +kernel) rfl (Nat.le_of_ble_eq_true rfl)⟩
set_option maxRecDepth 100000 in
theorem x_X9_setLink_1 (M : zM) (sl : Nat → Option Nat) (ext : List va_E) (r1 : Nat) (x2 : Int32) (x3 : Int32) (n : Nat) (hn : M 5 0 = nI n) (h9 : n ≤ 9) (h_r1 : r1 < n) (h : x2 < 0 ∨ ¬ x2 < M 5 0) : zXr yy_X9_setLink 1 6 [.ref 0, .int (nI r1), .int x2, .int x3] (sh_X sl ext) M "java/lang/IndexOutOfBoundsException" M := by
  refine zXr.via (k0 := 0) (n0 := 0) (k := 1) (n := 6) (by decide +kernel) rfl (Nat.le_of_ble_eq_true rfl) ?_
  refine zT.run [(.aload_n 0, 0, 0, 0), (.iload_n 1, 0, 0, 0)] (pe := 2) (ls' := [some (.ref 0), some (.int (nI r1)), some (.int x2), some (.int x3)]) (st' := [.int (nI r1), .ref 0]) (M' := M) (by decide +kernel) rfl ?_
  refine zT.cV_own (o := 0) (idx := 85) (av := [.int (nI r1)]) (rv := none) (st := []) (S1 := []) (c_X9_needReplica_ok M sl ext n r1 hn h9 h_r1) k_X9_needReplica _ _ rfl rfl rfl (zIn (w := 4007) (by decide +kernel) rfl) (by decide +kernel) (by decide +kernel) rfl (Nat.le_of_ble_eq_true rfl) rfl ?_
  refine zT.run [(.aload_n 0, 0, 0, 0), (.iload_n 2, 0, 0, 0)] (pe := 7) (ls' := [some (.ref 0), some (.int (nI r1)), some (.int x2), some (.int x3)]) (st' := [.int x2, .ref 0]) (M' := M) (by decide +kernel) rfl ?_
  exact zT.here ⟨rfl, zTX.callV (Yc := yy_X9_needReplica) (o := 0) (idx := 85) (av := [.int x2]) (st := []) 0 (by rw [zPl0]; exact x_X9_needReplica M sl ext x2 h) (zSub.all _) k_X9_needReplica rfl rfl rfl (zIn (w := 4007) (by decide +kernel) rfl) (by decide +kernel) (by decide +kernel) rfl (Nat.le_of_ble_eq_true rfl)⟩
set_option maxRecDepth 100000 in
theorem x_X9_setFresh_0 (M : zM) (sl : Nat → Option Nat) (ext : List va_E) (x1 : Int32) (x2 : Int32) (h : x1 < 0 ∨ ¬ x1 < M 5 0) : zXr yy_X9_setFresh 1 6 [.ref 0, .int x1, .int x2] (sh_X sl ext) M "java/lang/IndexOutOfBoundsException" M := by
  refine zXr.via (k0 := 0) (n0 := 0) (k := 1) (n := 6) (by decide +kernel) rfl (Nat.le_of_ble_eq_true rfl) ?_
  refine zT.run [(.aload_n 0, 0, 0, 0), (.iload_n 1, 0, 0, 0)] (pe := 2) (ls' := [some (.ref 0), some (.int x1), some (.int x2)]) (st' := [.int x1, .ref 0]) (M' := M) (by decide +kernel) rfl ?_
  exact zT.here ⟨rfl, zTX.callV (Yc := yy_X9_needReplica) (o := 0) (idx := 85) (av := [.int x1]) (st := []) 0 (by rw [zPl0]; exact x_X9_needReplica M sl ext x1 h) (zSub.all _) k_X9_needReplica rfl rfl rfl (zIn (w := 4007) (by decide +kernel) rfl) (by decide +kernel) (by decide +kernel) rfl (Nat.le_of_ble_eq_true rfl)⟩
set_option maxRecDepth 100000 in
theorem x_X9_setFresh_1 (M : zM) (sl : Nat → Option Nat) (ext : List va_E) (r1 : Nat) (x2 : Int32) (n : Nat) (hn : M 5 0 = nI n) (h9 : n ≤ 9) (h_r1 : r1 < n) (h : x2 < zLo 6 ∨ zHi 6 < x2) : zXr yy_X9_setFresh 1 6 [.ref 0, .int (nI r1), .int x2] (sh_X sl ext) M "java/lang/IllegalArgumentException" M := by
  refine zXr.via (k0 := 0) (n0 := 0) (k := 1) (n := 6) (by decide +kernel) rfl (Nat.le_of_ble_eq_true rfl) ?_
  refine zT.run [(.aload_n 0, 0, 0, 0), (.iload_n 1, 0, 0, 0)] (pe := 2) (ls' := [some (.ref 0), some (.int (nI r1)), some (.int x2)]) (st' := [.int (nI r1), .ref 0]) (M' := M) (by decide +kernel) rfl ?_
  refine zT.cV_own (o := 0) (idx := 85) (av := [.int (nI r1)]) (rv := none) (st := []) (S1 := []) (c_X9_needReplica_ok M sl ext n r1 hn h9 h_r1) k_X9_needReplica _ _ rfl rfl rfl (zIn (w := 4007) (by decide +kernel) rfl) (by decide +kernel) (by decide +kernel) rfl (Nat.le_of_ble_eq_true rfl) rfl ?_
  refine zT.run [(.iload_n 2, 0, 0, 0), (.bipush 6, 0, 0, 0)] (pe := 8) (ls' := [some (.ref 0), some (.int (nI r1)), some (.int x2)]) (st' := [.int (6), .int x2]) (M' := M) (by decide +kernel) rfl ?_
  exact zT.here ⟨rfl, zTX.callS (Yc := yy_X9_needKind) (idx := 89) (av := [.int x2, .int (nI 6)]) (st := []) 0 (x_X9_needKind _ x2 6 (by decide) h) (zSub.nil _ _) k_X9_needKind rfl (zIn (w := 4086) (by decide +kernel) rfl) (by decide +kernel) (by decide +kernel) rfl (Nat.le_of_ble_eq_true rfl)⟩
set_option maxRecDepth 100000 in
theorem x_X9_set_0 (M : zM) (sl : Nat → Option Nat) (ext : List va_E) (x1 : Int32) (x2 : Int32) (h : x1 < 0 ∨ 2 < x1) : zXr yy_X9_set 1 6 [.ref 0, .int x1, .int x2] (sh_X sl ext) M "java/lang/IllegalArgumentException" M := by
  refine zXr.via (k0 := 0) (n0 := 0) (k := 1) (n := 6) (by decide +kernel) rfl (Nat.le_of_ble_eq_true rfl) ?_
  refine zT.run [(.iload_n 1, 0, 0, 0), (.iconst 0, 0, 0, 0), (.iconst 2, 0, 0, 0)] (pe := 3) (ls' := [some (.ref 0), some (.int x1), some (.int x2)]) (st' := [.int 2, .int 0, .int x1]) (M' := M) (by decide +kernel) rfl ?_
  exact zT.here ⟨rfl, zTX.callS (Yc := yy_X9_needBetween) (idx := 119) (av := [.int x1, .int 0, .int 2]) (st := []) 0 (x_X9_needBetween _ x1 0 2 h) (zSub.nil _ _) k_X9_needBetween rfl (zIn (w := 4163) (by decide +kernel) rfl) (by decide +kernel) (by decide +kernel) rfl (Nat.le_of_ble_eq_true rfl)⟩
set_option maxRecDepth 100000 in
theorem x_X9_set_1 (M : zM) (sl : Nat → Option Nat) (ext : List va_E) (w1 : Nat) (x2 : Int32) (h_w1 : w1 < 3) (h : x2 < zLo w1 ∨ zHi w1 < x2) : zXr yy_X9_set 1 6 [.ref 0, .int (nI w1), .int x2] (sh_X sl ext) M "java/lang/IllegalArgumentException" M := by
  refine zXr.via (k0 := 0) (n0 := 0) (k := 1) (n := 6) (by decide +kernel) rfl (Nat.le_of_ble_eq_true rfl) ?_
  refine zT.run [(.iload_n 1, 0, 0, 0), (.iconst 0, 0, 0, 0), (.iconst 2, 0, 0, 0)] (pe := 3) (ls' := [some (.ref 0), some (.int (nI w1)), some (.int x2)]) (st' := [.int 2, .int 0, .int (nI w1)]) (M' := M) (by decide +kernel) rfl ?_
  refine zT.cS_nil (idx := 119) (av := [.int (nI w1), .int 0, .int 2]) (rv := none) (st := []) (S1 := []) (c_X9_needBetween_ok (nI w1) 0 2 (nI_pos (by omega)) (by show ¬ nI 2 < (nI w1); exact nI_nlt (by omega) (by decide))) k_X9_needBetween rfl (zIn (w := 4163) (by decide +kernel) rfl) (by decide +kernel) (by decide +kernel) rfl (Nat.le_of_ble_eq_true rfl) rfl ?_
  refine zT.run [(.iload_n 2, 0, 0, 0), (.iload_n 1, 0, 0, 0)] (pe := 8) (ls' := [some (.ref 0), some (.int (nI w1)), some (.int x2)]) (st' := [.int (nI w1), .int x2]) (M' := M) (by decide +kernel) rfl ?_
  exact zT.here ⟨rfl, zTX.callS (Yc := yy_X9_needKind) (idx := 89) (av := [.int x2, .int (nI w1)]) (st := []) 0 (x_X9_needKind _ x2 w1 (by omega) h) (zSub.nil _ _) k_X9_needKind rfl (zIn (w := 4086) (by decide +kernel) rfl) (by decide +kernel) (by decide +kernel) rfl (Nat.le_of_ble_eq_true rfl)⟩
set_option maxRecDepth 100000 in
theorem x_X9_keep_0 (M : zM) (sl : Nat → Option Nat) (ext : List va_E) (x1 : Int32) (h : x1 < 0 ∨ 1 < x1) : zXr yy_X9_keep 1 6 [.ref 0, .int x1] (sh_X sl ext) M "java/lang/IllegalArgumentException" M := by
  refine zXr.via (k0 := 0) (n0 := 0) (k := 1) (n := 6) (by decide +kernel) rfl (Nat.le_of_ble_eq_true rfl) ?_
  refine zT.run [(.iload_n 1, 0, 0, 0), (.iconst 0, 0, 0, 0), (.iconst 1, 0, 0, 0)] (pe := 3) (ls' := [some (.ref 0), some (.int x1), none]) (st' := [.int 1, .int 0, .int x1]) (M' := M) (by decide +kernel) rfl ?_
  exact zT.here ⟨rfl, zTX.callS (Yc := yy_X9_needBetween) (idx := 119) (av := [.int x1, .int 0, .int 1]) (st := []) 0 (x_X9_needBetween _ x1 0 1 h) (zSub.nil _ _) k_X9_needBetween rfl (zIn (w := 4163) (by decide +kernel) rfl) (by decide +kernel) (by decide +kernel) rfl (Nat.le_of_ble_eq_true rfl)⟩
set_option maxRecDepth 100000 in
theorem x_X9_restore_0 (M : zM) (sl : Nat → Option Nat) (ext : List va_E) (x1 : Int32) (h : x1 < 0 ∨ 1 < x1) : zXr yy_X9_restore 1 6 [.ref 0, .int x1] (sh_X sl ext) M "java/lang/IllegalArgumentException" M := by
  refine zXr.via (k0 := 0) (n0 := 0) (k := 1) (n := 6) (by decide +kernel) rfl (Nat.le_of_ble_eq_true rfl) ?_
  refine zT.run [(.iload_n 1, 0, 0, 0), (.iconst 0, 0, 0, 0), (.iconst 1, 0, 0, 0)] (pe := 3) (ls' := [some (.ref 0), some (.int x1), none]) (st' := [.int 1, .int 0, .int x1]) (M' := M) (by decide +kernel) rfl ?_
  exact zT.here ⟨rfl, zTX.callS (Yc := yy_X9_needBetween) (idx := 119) (av := [.int x1, .int 0, .int 1]) (st := []) 0 (x_X9_needBetween _ x1 0 1 h) (zSub.nil _ _) k_X9_needBetween rfl (zIn (w := 4163) (by decide +kernel) rfl) (by decide +kernel) (by decide +kernel) rfl (Nat.le_of_ble_eq_true rfl)⟩
set_option maxRecDepth 100000 in
theorem x_X9_truncate_0 (M : zM) (sl : Nat → Option Nat) (ext : List va_E) (x1 : Int32) (h : x1 < 0 ∨ (M 2 0) < x1) : zXr yy_X9_truncate 1 6 [.ref 0, .int x1] (sh_X sl ext) M "java/lang/IllegalArgumentException" M := by
  refine zXr.via (k0 := 0) (n0 := 0) (k := 1) (n := 6) (by decide +kernel) rfl (Nat.le_of_ble_eq_true rfl) ?_
  refine zT.run [(.iload_n 1, 0, 0, 0), (.iconst 0, 0, 0, 0), (.aload_n 0, 0, 0, 0), (.getfield 20, 7, 1, 2073), (.getfield 69, 6, 0, 1045)] (pe := 9) (ls' := [some (.ref 0), some (.int x1)]) (st' := [.int (M 2 0), .int 0, .int x1]) (M' := M) (by decide +kernel) rfl ?_
  exact zT.here ⟨rfl, zTX.callS (Yc := yy_X9_needBetween) (idx := 119) (av := [.int x1, .int 0, .int (M 2 0)]) (st := []) 0 (x_X9_needBetween _ x1 0 (M 2 0) h) (zSub.nil _ _) k_X9_needBetween rfl (zIn (w := 4163) (by decide +kernel) rfl) (by decide +kernel) (by decide +kernel) rfl (Nat.le_of_ble_eq_true rfl)⟩
set_option maxRecDepth 100000 in
theorem x_X9_office_0 (M : zM) (sl : Nat → Option Nat) (ext : List va_E) (x1 : Int32) (h : x1 < 0 ∨ 18 < x1) : zXr yy_X9_office 1 6 [.ref 0, .int x1] (sh_X sl ext) M "java/lang/IllegalArgumentException" M := by
  refine zXr.via (k0 := 0) (n0 := 0) (k := 1) (n := 6) (by decide +kernel) rfl (Nat.le_of_ble_eq_true rfl) ?_
  refine zT.run [(.iload_n 1, 0, 0, 0), (.iconst 0, 0, 0, 0), (.bipush 18, 0, 0, 0)] (pe := 4) (ls' := [some (.ref 0), some (.int x1)]) (st' := [.int 18, .int 0, .int x1]) (M' := M) (by decide +kernel) rfl ?_
  exact zT.here ⟨rfl, zTX.callS (Yc := yy_X9_needBetween) (idx := 119) (av := [.int x1, .int 0, .int 18]) (st := []) 0 (x_X9_needBetween _ x1 0 18 h) (zSub.nil _ _) k_X9_needBetween rfl (zIn (w := 4163) (by decide +kernel) rfl) (by decide +kernel) (by decide +kernel) rfl (Nat.le_of_ble_eq_true rfl)⟩
set_option maxRecDepth 100000 in
theorem x_X9_replica_0 (M : zM) (sl : Nat → Option Nat) (ext : List va_E) (x1 : Int32) (x2 : Int32) (h : x1 < 0 ∨ ¬ x1 < M 5 0) : zXr yy_X9_replica 1 6 [.ref 0, .int x1, .int x2] (sh_X sl ext) M "java/lang/IndexOutOfBoundsException" M := by
  refine zXr.via (k0 := 0) (n0 := 0) (k := 1) (n := 6) (by decide +kernel) rfl (Nat.le_of_ble_eq_true rfl) ?_
  refine zT.run [(.aload_n 0, 0, 0, 0), (.iload_n 1, 0, 0, 0)] (pe := 2) (ls' := [some (.ref 0), some (.int x1), some (.int x2)]) (st' := [.int x1, .ref 0]) (M' := M) (by decide +kernel) rfl ?_
  exact zT.here ⟨rfl, zTX.callV (Yc := yy_X9_needReplica) (o := 0) (idx := 85) (av := [.int x1]) (st := []) 0 (by rw [zPl0]; exact x_X9_needReplica M sl ext x1 h) (zSub.all _) k_X9_needReplica rfl rfl rfl (zIn (w := 4007) (by decide +kernel) rfl) (by decide +kernel) (by decide +kernel) rfl (Nat.le_of_ble_eq_true rfl)⟩
set_option maxRecDepth 100000 in
theorem x_X9_replica_1 (M : zM) (sl : Nat → Option Nat) (ext : List va_E) (r1 : Nat) (x2 : Int32) (n : Nat) (hn : M 5 0 = nI n) (h9 : n ≤ 9) (h_r1 : r1 < n) (h : x2 < 0 ∨ 9 < x2) : zXr yy_X9_replica 1 6 [.ref 0, .int (nI r1), .int x2] (sh_X sl ext) M "java/lang/IllegalArgumentException" M := by
  refine zXr.via (k0 := 0) (n0 := 0) (k := 1) (n := 6) (by decide +kernel) rfl (Nat.le_of_ble_eq_true rfl) ?_
  refine zT.run [(.aload_n 0, 0, 0, 0), (.iload_n 1, 0, 0, 0)] (pe := 2) (ls' := [some (.ref 0), some (.int (nI r1)), some (.int x2)]) (st' := [.int (nI r1), .ref 0]) (M' := M) (by decide +kernel) rfl ?_
  refine zT.cV_own (o := 0) (idx := 85) (av := [.int (nI r1)]) (rv := none) (st := []) (S1 := []) (c_X9_needReplica_ok M sl ext n r1 hn h9 h_r1) k_X9_needReplica _ _ rfl rfl rfl (zIn (w := 4007) (by decide +kernel) rfl) (by decide +kernel) (by decide +kernel) rfl (Nat.le_of_ble_eq_true rfl) rfl ?_
  refine zT.run [(.iload_n 2, 0, 0, 0), (.iconst 0, 0, 0, 0), (.bipush 9, 0, 0, 0)] (pe := 9) (ls' := [some (.ref 0), some (.int (nI r1)), some (.int x2)]) (st' := [.int 9, .int 0, .int x2]) (M' := M) (by decide +kernel) rfl ?_
  exact zT.here ⟨rfl, zTX.callS (Yc := yy_X9_needBetween) (idx := 119) (av := [.int x2, .int 0, .int 9]) (st := []) 0 (x_X9_needBetween _ x2 0 9 h) (zSub.nil _ _) k_X9_needBetween rfl (zIn (w := 4163) (by decide +kernel) rfl) (by decide +kernel) (by decide +kernel) rfl (Nat.le_of_ble_eq_true rfl)⟩
set_option maxRecDepth 100000 in
theorem x_X9_isLinked_0 (M : zM) (sl : Nat → Option Nat) (ext : List va_E) (x1 : Int32) (x2 : Int32) (h : x1 < 0 ∨ ¬ x1 < M 5 0) : zXr yy_X9_isLinked 1 6 [.ref 0, .int x1, .int x2] (sh_X sl ext) M "java/lang/IndexOutOfBoundsException" M := by
  refine zXr.via (k0 := 0) (n0 := 0) (k := 1) (n := 6) (by decide +kernel) rfl (Nat.le_of_ble_eq_true rfl) ?_
  refine zT.run [(.aload_n 0, 0, 0, 0), (.iload_n 1, 0, 0, 0)] (pe := 2) (ls' := [some (.ref 0), some (.int x1), some (.int x2)]) (st' := [.int x1, .ref 0]) (M' := M) (by decide +kernel) rfl ?_
  exact zT.here ⟨rfl, zTX.callV (Yc := yy_X9_needReplica) (o := 0) (idx := 85) (av := [.int x1]) (st := []) 0 (by rw [zPl0]; exact x_X9_needReplica M sl ext x1 h) (zSub.all _) k_X9_needReplica rfl rfl rfl (zIn (w := 4007) (by decide +kernel) rfl) (by decide +kernel) (by decide +kernel) rfl (Nat.le_of_ble_eq_true rfl)⟩
set_option maxRecDepth 100000 in
theorem x_X9_isLinked_1 (M : zM) (sl : Nat → Option Nat) (ext : List va_E) (r1 : Nat) (x2 : Int32) (n : Nat) (hn : M 5 0 = nI n) (h9 : n ≤ 9) (h_r1 : r1 < n) (h : x2 < 0 ∨ ¬ x2 < M 5 0) : zXr yy_X9_isLinked 1 6 [.ref 0, .int (nI r1), .int x2] (sh_X sl ext) M "java/lang/IndexOutOfBoundsException" M := by
  refine zXr.via (k0 := 0) (n0 := 0) (k := 1) (n := 6) (by decide +kernel) rfl (Nat.le_of_ble_eq_true rfl) ?_
  refine zT.run [(.aload_n 0, 0, 0, 0), (.iload_n 1, 0, 0, 0)] (pe := 2) (ls' := [some (.ref 0), some (.int (nI r1)), some (.int x2)]) (st' := [.int (nI r1), .ref 0]) (M' := M) (by decide +kernel) rfl ?_
  refine zT.cV_own (o := 0) (idx := 85) (av := [.int (nI r1)]) (rv := none) (st := []) (S1 := []) (c_X9_needReplica_ok M sl ext n r1 hn h9 h_r1) k_X9_needReplica _ _ rfl rfl rfl (zIn (w := 4007) (by decide +kernel) rfl) (by decide +kernel) (by decide +kernel) rfl (Nat.le_of_ble_eq_true rfl) rfl ?_
  refine zT.run [(.aload_n 0, 0, 0, 0), (.iload_n 2, 0, 0, 0)] (pe := 7) (ls' := [some (.ref 0), some (.int (nI r1)), some (.int x2)]) (st' := [.int x2, .ref 0]) (M' := M) (by decide +kernel) rfl ?_
  exact zT.here ⟨rfl, zTX.callV (Yc := yy_X9_needReplica) (o := 0) (idx := 85) (av := [.int x2]) (st := []) 0 (by rw [zPl0]; exact x_X9_needReplica M sl ext x2 h) (zSub.all _) k_X9_needReplica rfl rfl rfl (zIn (w := 4007) (by decide +kernel) rfl) (by decide +kernel) (by decide +kernel) rfl (Nat.le_of_ble_eq_true rfl)⟩
set_option maxRecDepth 100000 in
theorem x_X9_outcome_0 (M : zM) (sl : Nat → Option Nat) (ext : List va_E) (x1 : Int32) (x2 : Int32) (h : x2 < 0 ∨ 5 < x2) : zXr yy_X9_outcome 1 6 [.ref 0, .int x1, .int x2] (sh_X sl ext) M "java/lang/IllegalArgumentException" M := by
  refine zXr.via (k0 := 0) (n0 := 0) (k := 1) (n := 6) (by decide +kernel) rfl (Nat.le_of_ble_eq_true rfl) ?_
  refine zT.run [(.iload_n 2, 0, 0, 0), (.iconst 0, 0, 0, 0), (.iconst 5, 0, 0, 0)] (pe := 3) (ls' := [some (.ref 0), some (.int x1), some (.int x2)]) (st' := [.int 5, .int 0, .int x2]) (M' := M) (by decide +kernel) rfl ?_
  exact zT.here ⟨rfl, zTX.callS (Yc := yy_X9_needBetween) (idx := 119) (av := [.int x2, .int 0, .int 5]) (st := []) 0 (x_X9_needBetween _ x2 0 5 h) (zSub.nil _ _) k_X9_needBetween rfl (zIn (w := 4163) (by decide +kernel) rfl) (by decide +kernel) (by decide +kernel) rfl (Nat.le_of_ble_eq_true rfl)⟩
set_option maxRecDepth 100000 in
theorem x_X9_sealFor_0 (M : zM) (sl : Nat → Option Nat) (ext : List va_E) (x1 : Int32) (x2 : Int32) (x3 : Int32) (h : x1 < 0 ∨ ¬ x1 < M 5 0) : zXr yy_X9_sealFor 1 6 [.ref 0, .int x1, .int x2, .int x3] (sh_X sl ext) M "java/lang/IndexOutOfBoundsException" M := by
  refine zXr.via (k0 := 0) (n0 := 0) (k := 1) (n := 6) (by decide +kernel) rfl (Nat.le_of_ble_eq_true rfl) ?_
  refine zT.run [(.aload_n 0, 0, 0, 0), (.iload_n 1, 0, 0, 0)] (pe := 2) (ls' := [some (.ref 0), some (.int x1), some (.int x2), some (.int x3)]) (st' := [.int x1, .ref 0]) (M' := M) (by decide +kernel) rfl ?_
  exact zT.here ⟨rfl, zTX.callV (Yc := yy_X9_needReplica) (o := 0) (idx := 85) (av := [.int x1]) (st := []) 0 (by rw [zPl0]; exact x_X9_needReplica M sl ext x1 h) (zSub.all _) k_X9_needReplica rfl rfl rfl (zIn (w := 4007) (by decide +kernel) rfl) (by decide +kernel) (by decide +kernel) rfl (Nat.le_of_ble_eq_true rfl)⟩
set_option maxRecDepth 100000 in
theorem x_X9_sealFor_1 (M : zM) (sl : Nat → Option Nat) (ext : List va_E) (r1 : Nat) (x2 : Int32) (x3 : Int32) (n : Nat) (hn : M 5 0 = nI n) (h9 : n ≤ 9) (h_r1 : r1 < n) (h : x2 < zLo 3 ∨ zHi 3 < x2) : zXr yy_X9_sealFor 1 6 [.ref 0, .int (nI r1), .int x2, .int x3] (sh_X sl ext) M "java/lang/IllegalArgumentException" M := by
  refine zXr.via (k0 := 0) (n0 := 0) (k := 1) (n := 6) (by decide +kernel) rfl (Nat.le_of_ble_eq_true rfl) ?_
  refine zT.run [(.aload_n 0, 0, 0, 0), (.iload_n 1, 0, 0, 0)] (pe := 2) (ls' := [some (.ref 0), some (.int (nI r1)), some (.int x2), some (.int x3)]) (st' := [.int (nI r1), .ref 0]) (M' := M) (by decide +kernel) rfl ?_
  refine zT.cV_own (o := 0) (idx := 85) (av := [.int (nI r1)]) (rv := none) (st := []) (S1 := []) (c_X9_needReplica_ok M sl ext n r1 hn h9 h_r1) k_X9_needReplica _ _ rfl rfl rfl (zIn (w := 4007) (by decide +kernel) rfl) (by decide +kernel) (by decide +kernel) rfl (Nat.le_of_ble_eq_true rfl) rfl ?_
  refine zT.run [(.iload_n 2, 0, 0, 0), (.iconst 3, 0, 0, 0)] (pe := 7) (ls' := [some (.ref 0), some (.int (nI r1)), some (.int x2), some (.int x3)]) (st' := [.int (3), .int x2]) (M' := M) (by decide +kernel) rfl ?_
  exact zT.here ⟨rfl, zTX.callS (Yc := yy_X9_needKind) (idx := 89) (av := [.int x2, .int (nI 3)]) (st := []) 0 (x_X9_needKind _ x2 3 (by decide) h) (zSub.nil _ _) k_X9_needKind rfl (zIn (w := 4086) (by decide +kernel) rfl) (by decide +kernel) (by decide +kernel) rfl (Nat.le_of_ble_eq_true rfl)⟩
set_option maxRecDepth 100000 in
theorem x_X9_sealFor_2 (M : zM) (sl : Nat → Option Nat) (ext : List va_E) (r1 : Nat) (x2 : Int32) (x3 : Int32) (n : Nat) (hn : M 5 0 = nI n) (h9 : n ≤ 9) (h_r1 : r1 < n) (a1 : ¬ x2 < zLo 3) (b1 : ¬ zHi 3 < x2) (h : x3 < 0 ∨ 9999 < x3) : zXr yy_X9_sealFor 1 6 [.ref 0, .int (nI r1), .int x2, .int x3] (sh_X sl ext) M "java/lang/IllegalArgumentException" M := by
  refine zXr.via (k0 := 0) (n0 := 0) (k := 1) (n := 6) (by decide +kernel) rfl (Nat.le_of_ble_eq_true rfl) ?_
  refine zT.run [(.aload_n 0, 0, 0, 0), (.iload_n 1, 0, 0, 0)] (pe := 2) (ls' := [some (.ref 0), some (.int (nI r1)), some (.int x2), some (.int x3)]) (st' := [.int (nI r1), .ref 0]) (M' := M) (by decide +kernel) rfl ?_
  refine zT.cV_own (o := 0) (idx := 85) (av := [.int (nI r1)]) (rv := none) (st := []) (S1 := []) (c_X9_needReplica_ok M sl ext n r1 hn h9 h_r1) k_X9_needReplica _ _ rfl rfl rfl (zIn (w := 4007) (by decide +kernel) rfl) (by decide +kernel) (by decide +kernel) rfl (Nat.le_of_ble_eq_true rfl) rfl ?_
  refine zT.run [(.iload_n 2, 0, 0, 0), (.iconst 3, 0, 0, 0)] (pe := 7) (ls' := [some (.ref 0), some (.int (nI r1)), some (.int x2), some (.int x3)]) (st' := [.int (3), .int x2]) (M' := M) (by decide +kernel) rfl ?_
  refine zT.cS_nil (idx := 89) (av := [.int x2, .int (nI 3)]) (rv := none) (st := []) (S1 := []) (c_X9_needKind_ok x2 3 (by decide) a1 b1) k_X9_needKind rfl (zIn (w := 4086) (by decide +kernel) rfl) (by decide +kernel) (by decide +kernel) rfl (Nat.le_of_ble_eq_true rfl) rfl ?_
  refine zT.run [(.iload_n 3, 0, 0, 0), (.iconst 0, 0, 0, 0), (.sipush 9999, 0, 0, 0)] (pe := 15) (ls' := [some (.ref 0), some (.int (nI r1)), some (.int x2), some (.int x3)]) (st' := [.int 9999, .int 0, .int x3]) (M' := M) (by decide +kernel) rfl ?_
  exact zT.here ⟨rfl, zTX.callS (Yc := yy_X9_needBetween) (idx := 119) (av := [.int x3, .int 0, .int 9999]) (st := []) 0 (x_X9_needBetween _ x3 0 9999 h) (zSub.nil _ _) k_X9_needBetween rfl (zIn (w := 4163) (by decide +kernel) rfl) (by decide +kernel) (by decide +kernel) rfl (Nat.le_of_ble_eq_true rfl)⟩
set_option maxRecDepth 100000 in
theorem x_X9_aheadIf_0 (M : zM) (sl : Nat → Option Nat) (ext : List va_E) (x1 : Int32) (x2 : Int32) (h : x1 < zLo 0 ∨ zHi 0 < x1) : zXr yy_X9_aheadIf 1 6 [.ref 0, .int x1, .int x2] (sh_X sl ext) M "java/lang/IllegalArgumentException" M := by
  refine zXr.via (k0 := 0) (n0 := 0) (k := 1) (n := 6) (by decide +kernel) rfl (Nat.le_of_ble_eq_true rfl) ?_
  refine zT.run [(.iload_n 1, 0, 0, 0), (.iconst 0, 0, 0, 0)] (pe := 2) (ls' := [some (.ref 0), some (.int x1), some (.int x2)]) (st' := [.int (0), .int x1]) (M' := M) (by decide +kernel) rfl ?_
  exact zT.here ⟨rfl, zTX.callS (Yc := yy_X9_needKind) (idx := 89) (av := [.int x1, .int (nI 0)]) (st := []) 0 (x_X9_needKind _ x1 0 (by decide) h) (zSub.nil _ _) k_X9_needKind rfl (zIn (w := 4086) (by decide +kernel) rfl) (by decide +kernel) (by decide +kernel) rfl (Nat.le_of_ble_eq_true rfl)⟩
set_option maxRecDepth 100000 in
theorem x_X9_aheadIf_1 (M : zM) (sl : Nat → Option Nat) (ext : List va_E) (x1 : Int32) (x2 : Int32) (a0 : ¬ x1 < zLo 0) (b0 : ¬ zHi 0 < x1) (h : x2 < zLo 1 ∨ zHi 1 < x2) : zXr yy_X9_aheadIf 1 6 [.ref 0, .int x1, .int x2] (sh_X sl ext) M "java/lang/IllegalArgumentException" M := by
  refine zXr.via (k0 := 0) (n0 := 0) (k := 1) (n := 6) (by decide +kernel) rfl (Nat.le_of_ble_eq_true rfl) ?_
  refine zT.run [(.iload_n 1, 0, 0, 0), (.iconst 0, 0, 0, 0)] (pe := 2) (ls' := [some (.ref 0), some (.int x1), some (.int x2)]) (st' := [.int (0), .int x1]) (M' := M) (by decide +kernel) rfl ?_
  refine zT.cS_nil (idx := 89) (av := [.int x1, .int (nI 0)]) (rv := none) (st := []) (S1 := []) (c_X9_needKind_ok x1 0 (by decide) a0 b0) k_X9_needKind rfl (zIn (w := 4086) (by decide +kernel) rfl) (by decide +kernel) (by decide +kernel) rfl (Nat.le_of_ble_eq_true rfl) rfl ?_
  refine zT.run [(.iload_n 2, 0, 0, 0), (.iconst 1, 0, 0, 0)] (pe := 7) (ls' := [some (.ref 0), some (.int x1), some (.int x2)]) (st' := [.int (1), .int x2]) (M' := M) (by decide +kernel) rfl ?_
  exact zT.here ⟨rfl, zTX.callS (Yc := yy_X9_needKind) (idx := 89) (av := [.int x2, .int (nI 1)]) (st := []) 0 (x_X9_needKind _ x2 1 (by decide) h) (zSub.nil _ _) k_X9_needKind rfl (zIn (w := 4086) (by decide +kernel) rfl) (by decide +kernel) (by decide +kernel) rfl (Nat.le_of_ble_eq_true rfl)⟩
set_option maxRecDepth 100000 in
theorem x_X9_canWin_0 (M : zM) (sl : Nat → Option Nat) (ext : List va_E) (x1 : Int32) (h : x1 < 0 ∨ ¬ x1 < M 5 0) : zXr yy_X9_canWin 1 6 [.ref 0, .int x1] (sh_X sl ext) M "java/lang/IndexOutOfBoundsException" M := by
  refine zXr.via (k0 := 0) (n0 := 0) (k := 1) (n := 6) (by decide +kernel) rfl (Nat.le_of_ble_eq_true rfl) ?_
  refine zT.run [(.aload_n 0, 0, 0, 0), (.iload_n 1, 0, 0, 0)] (pe := 2) (ls' := [some (.ref 0), some (.int x1)]) (st' := [.int x1, .ref 0]) (M' := M) (by decide +kernel) rfl ?_
  exact zT.here ⟨rfl, zTX.callV (Yc := yy_X9_needReplica) (o := 0) (idx := 85) (av := [.int x1]) (st := []) 0 (by rw [zPl0]; exact x_X9_needReplica M sl ext x1 h) (zSub.all _) k_X9_needReplica rfl rfl rfl (zIn (w := 4007) (by decide +kernel) rfl) (by decide +kernel) (by decide +kernel) rfl (Nat.le_of_ble_eq_true rfl)⟩
set_option maxRecDepth 100000 in
theorem x_X9_wouldSpoil_0 (M : zM) (sl : Nat → Option Nat) (ext : List va_E) (x1 : Int32) (x2 : Int32) (h : x1 < 0 ∨ ¬ x1 < M 5 0) : zXr yy_X9_wouldSpoil 1 6 [.ref 0, .int x1, .int x2] (sh_X sl ext) M "java/lang/IndexOutOfBoundsException" M := by
  refine zXr.via (k0 := 0) (n0 := 0) (k := 1) (n := 6) (by decide +kernel) rfl (Nat.le_of_ble_eq_true rfl) ?_
  refine zT.run [(.aload_n 0, 0, 0, 0), (.iload_n 1, 0, 0, 0)] (pe := 2) (ls' := [some (.ref 0), some (.int x1), some (.int x2)]) (st' := [.int x1, .ref 0]) (M' := M) (by decide +kernel) rfl ?_
  exact zT.here ⟨rfl, zTX.callV (Yc := yy_X9_needReplica) (o := 0) (idx := 85) (av := [.int x1]) (st := []) 0 (by rw [zPl0]; exact x_X9_needReplica M sl ext x1 h) (zSub.all _) k_X9_needReplica rfl rfl rfl (zIn (w := 4007) (by decide +kernel) rfl) (by decide +kernel) (by decide +kernel) rfl (Nat.le_of_ble_eq_true rfl)⟩
set_option maxRecDepth 100000 in
theorem x_X9_wouldSpoil_1 (M : zM) (sl : Nat → Option Nat) (ext : List va_E) (r1 : Nat) (x2 : Int32) (n : Nat) (hn : M 5 0 = nI n) (h9 : n ≤ 9) (h_r1 : r1 < n) (h : x2 < 0 ∨ ¬ x2 < M 5 0) : zXr yy_X9_wouldSpoil 1 6 [.ref 0, .int (nI r1), .int x2] (sh_X sl ext) M "java/lang/IndexOutOfBoundsException" M := by
  refine zXr.via (k0 := 0) (n0 := 0) (k := 1) (n := 6) (by decide +kernel) rfl (Nat.le_of_ble_eq_true rfl) ?_
  refine zT.run [(.aload_n 0, 0, 0, 0), (.iload_n 1, 0, 0, 0)] (pe := 2) (ls' := [some (.ref 0), some (.int (nI r1)), some (.int x2)]) (st' := [.int (nI r1), .ref 0]) (M' := M) (by decide +kernel) rfl ?_
  refine zT.cV_own (o := 0) (idx := 85) (av := [.int (nI r1)]) (rv := none) (st := []) (S1 := []) (c_X9_needReplica_ok M sl ext n r1 hn h9 h_r1) k_X9_needReplica _ _ rfl rfl rfl (zIn (w := 4007) (by decide +kernel) rfl) (by decide +kernel) (by decide +kernel) rfl (Nat.le_of_ble_eq_true rfl) rfl ?_
  refine zT.run [(.aload_n 0, 0, 0, 0), (.iload_n 2, 0, 0, 0)] (pe := 7) (ls' := [some (.ref 0), some (.int (nI r1)), some (.int x2)]) (st' := [.int x2, .ref 0]) (M' := M) (by decide +kernel) rfl ?_
  exact zT.here ⟨rfl, zTX.callV (Yc := yy_X9_needReplica) (o := 0) (idx := 85) (av := [.int x2]) (st := []) 0 (by rw [zPl0]; exact x_X9_needReplica M sl ext x2 h) (zSub.all _) k_X9_needReplica rfl rfl rfl (zIn (w := 4007) (by decide +kernel) rfl) (by decide +kernel) (by decide +kernel) rfl (Nat.le_of_ble_eq_true rfl)⟩
set_option maxRecDepth 100000 in
theorem x_X9_nonceFor_0 (M : zM) (sl : Nat → Option Nat) (ext : List va_E) (x1 : Int32) (x2 : Int32) (h : x1 < 0 ∨ ¬ x1 < M 5 0) : zXr yy_X9_nonceFor 1 6 [.ref 0, .int x1, .int x2] (sh_X sl ext) M "java/lang/IndexOutOfBoundsException" M := by
  refine zXr.via (k0 := 0) (n0 := 0) (k := 1) (n := 6) (by decide +kernel) rfl (Nat.le_of_ble_eq_true rfl) ?_
  refine zT.run [(.aload_n 0, 0, 0, 0), (.iload_n 1, 0, 0, 0)] (pe := 2) (ls' := [some (.ref 0), some (.int x1), some (.int x2)]) (st' := [.int x1, .ref 0]) (M' := M) (by decide +kernel) rfl ?_
  exact zT.here ⟨rfl, zTX.callV (Yc := yy_X9_needReplica) (o := 0) (idx := 85) (av := [.int x1]) (st := []) 0 (by rw [zPl0]; exact x_X9_needReplica M sl ext x1 h) (zSub.all _) k_X9_needReplica rfl rfl rfl (zIn (w := 4007) (by decide +kernel) rfl) (by decide +kernel) (by decide +kernel) rfl (Nat.le_of_ble_eq_true rfl)⟩
set_option maxRecDepth 100000 in
theorem x_X9_nonceFor_1 (M : zM) (sl : Nat → Option Nat) (ext : List va_E) (r1 : Nat) (x2 : Int32) (n : Nat) (hn : M 5 0 = nI n) (h9 : n ≤ 9) (h_r1 : r1 < n) (h : x2 < 0 ∨ ¬ x2 < M 5 0) : zXr yy_X9_nonceFor 1 6 [.ref 0, .int (nI r1), .int x2] (sh_X sl ext) M "java/lang/IndexOutOfBoundsException" M := by
  refine zXr.via (k0 := 0) (n0 := 0) (k := 1) (n := 6) (by decide +kernel) rfl (Nat.le_of_ble_eq_true rfl) ?_
  refine zT.run [(.aload_n 0, 0, 0, 0), (.iload_n 1, 0, 0, 0)] (pe := 2) (ls' := [some (.ref 0), some (.int (nI r1)), some (.int x2)]) (st' := [.int (nI r1), .ref 0]) (M' := M) (by decide +kernel) rfl ?_
  refine zT.cV_own (o := 0) (idx := 85) (av := [.int (nI r1)]) (rv := none) (st := []) (S1 := []) (c_X9_needReplica_ok M sl ext n r1 hn h9 h_r1) k_X9_needReplica _ _ rfl rfl rfl (zIn (w := 4007) (by decide +kernel) rfl) (by decide +kernel) (by decide +kernel) rfl (Nat.le_of_ble_eq_true rfl) rfl ?_
  refine zT.run [(.aload_n 0, 0, 0, 0), (.iload_n 2, 0, 0, 0)] (pe := 7) (ls' := [some (.ref 0), some (.int (nI r1)), some (.int x2)]) (st' := [.int x2, .ref 0]) (M' := M) (by decide +kernel) rfl ?_
  exact zT.here ⟨rfl, zTX.callV (Yc := yy_X9_needReplica) (o := 0) (idx := 85) (av := [.int x2]) (st := []) 0 (by rw [zPl0]; exact x_X9_needReplica M sl ext x2 h) (zSub.all _) k_X9_needReplica rfl rfl rfl (zIn (w := 4007) (by decide +kernel) rfl) (by decide +kernel) (by decide +kernel) rfl (Nat.le_of_ble_eq_true rfl)⟩
set_option maxRecDepth 100000 in
theorem x_X9_why_0 (M : zM) (sl : Nat → Option Nat) (ext : List va_E) (x1 : Int32) (x2 : Int32) (h : x1 < 0 ∨ ¬ x1 < M 5 0) : zXr yy_X9_why 1 6 [.ref 0, .int x1, .int x2] (sh_X sl ext) M "java/lang/IndexOutOfBoundsException" M := by
  refine zXr.via (k0 := 0) (n0 := 0) (k := 1) (n := 6) (by decide +kernel) rfl (Nat.le_of_ble_eq_true rfl) ?_
  refine zT.run [(.aload_n 0, 0, 0, 0), (.iload_n 1, 0, 0, 0)] (pe := 2) (ls' := [some (.ref 0), some (.int x1), some (.int x2)]) (st' := [.int x1, .ref 0]) (M' := M) (by decide +kernel) rfl ?_
  exact zT.here ⟨rfl, zTX.callV (Yc := yy_X9_needReplica) (o := 0) (idx := 85) (av := [.int x1]) (st := []) 0 (by rw [zPl0]; exact x_X9_needReplica M sl ext x1 h) (zSub.all _) k_X9_needReplica rfl rfl rfl (zIn (w := 4007) (by decide +kernel) rfl) (by decide +kernel) (by decide +kernel) rfl (Nat.le_of_ble_eq_true rfl)⟩
set_option maxRecDepth 100000 in
theorem x_X9_why_1 (M : zM) (sl : Nat → Option Nat) (ext : List va_E) (r1 : Nat) (x2 : Int32) (n : Nat) (hn : M 5 0 = nI n) (h9 : n ≤ 9) (h_r1 : r1 < n) (h : x2 < 0 ∨ 1 < x2) : zXr yy_X9_why 1 6 [.ref 0, .int (nI r1), .int x2] (sh_X sl ext) M "java/lang/IllegalArgumentException" M := by
  refine zXr.via (k0 := 0) (n0 := 0) (k := 1) (n := 6) (by decide +kernel) rfl (Nat.le_of_ble_eq_true rfl) ?_
  refine zT.run [(.aload_n 0, 0, 0, 0), (.iload_n 1, 0, 0, 0)] (pe := 2) (ls' := [some (.ref 0), some (.int (nI r1)), some (.int x2)]) (st' := [.int (nI r1), .ref 0]) (M' := M) (by decide +kernel) rfl ?_
  refine zT.cV_own (o := 0) (idx := 85) (av := [.int (nI r1)]) (rv := none) (st := []) (S1 := []) (c_X9_needReplica_ok M sl ext n r1 hn h9 h_r1) k_X9_needReplica _ _ rfl rfl rfl (zIn (w := 4007) (by decide +kernel) rfl) (by decide +kernel) (by decide +kernel) rfl (Nat.le_of_ble_eq_true rfl) rfl ?_
  refine zT.run [(.iload_n 2, 0, 0, 0), (.iconst 0, 0, 0, 0), (.iconst 1, 0, 0, 0)] (pe := 8) (ls' := [some (.ref 0), some (.int (nI r1)), some (.int x2)]) (st' := [.int 1, .int 0, .int x2]) (M' := M) (by decide +kernel) rfl ?_
  exact zT.here ⟨rfl, zTX.callS (Yc := yy_X9_needBetween) (idx := 119) (av := [.int x2, .int 0, .int 1]) (st := []) 0 (x_X9_needBetween _ x2 0 1 h) (zSub.nil _ _) k_X9_needBetween rfl (zIn (w := 4163) (by decide +kernel) rfl) (by decide +kernel) (by decide +kernel) rfl (Nat.le_of_ble_eq_true rfl)⟩
