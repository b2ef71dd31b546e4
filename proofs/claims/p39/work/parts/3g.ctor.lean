/-! CONSTRUCTORS, over a memory of nothing -/
theorem zUa0 {n : Nat} : zUa zM0 n (fun _ => 0) = zM0 := by
  funext o
  by_cases h : o = n
  · subst h
    rw [zUa_eq]
    rfl
  · rw [zUa_ne h]
theorem zPs0 {b n : Nat} : zPs zM0 b n zM0 = zM0 := by
  funext k
  unfold zPs
  cases (Nat.ble b k && Nat.blt k (b + n)) <;> rfl
noncomputable abbrev yy_X1_init : zY := (yX1_init, cX1_init, 1, none, 1, 20)
set_option maxRecDepth 100000 in
theorem c_X1_init : zC yy_X1_init 2 18 [.ref 0] [.inr (0, [.int 0, .int 0, .int 0, .int 0, .int 0, .int 0, .int 0, .int 0, .null, .null])] zM0 none [.inr (0, [.int 0, .int 0, .int 0, .int 0, .int 0, .int 0, .int 0, .int 0, .ref 1, .ref 2]), .inl (0, 9, .inl (fun _ => 0)), .inl (0, 9, .inl (fun _ => 0))] zM0 := by
  refine zC.of (by decide +kernel) rfl (Nat.le_of_ble_eq_true rfl) ?_
  refine zT.run [(.aload_n 0, 0, 0, 0)] (pe := 1) (ls' := [some (.ref 0)]) (st' := [.ref 0]) (M' := zM0) (by decide +kernel) rfl ?_
  refine zT.objInit (a := 0) (idx := 3) (zIn (w := 1090) (by decide +kernel) rfl) (zIn (w := 1033) (by decide +kernel) rfl) (zIn (w := 1034) (by decide +kernel) rfl) (Nat.le_of_ble_eq_true rfl) (Nat.le_of_ble_eq_true rfl) (Nat.le_of_ble_eq_true rfl) (by decide +kernel) ?_
  refine zT.run [(.aload_n 0, 0, 0, 0), (.bipush 9, 0, 0, 0)] (pe := 7) (ls' := [some (.ref 0)]) (st' := [.int 9, .ref 0]) (M' := zM0) (by decide +kernel) rfl ?_
  refine zT.newa (kc := 1) (nc := 9) (t := 0) (N := 9) (aty := .int) (ty := .int) (z := .inl (fun _ => 0)) rfl (fun _ => rfl) (zIn (w := 1078) (by decide +kernel) rfl) (fun _ _ _ => rfl) (fun _ => rfl) rfl (by decide) (by decide) (zCs_of rfl) rfl rfl (by decide +kernel) ?_
  refine zT.eqM (M2 := zM0) zUa0 ?_
  refine zT.eqSh (sh2 := [.inr (0, [.int 0, .int 0, .int 0, .int 0, .int 0, .int 0, .int 0, .int 0, .null, .null]), .inl (0, 9, .inl (fun _ => 0))]) rfl ?_
  refine zT.putR (ci := 0) (b := 8) (o := 0) (o2 := 1) (idx := 9) (w := 1108) (q := (RX1, TX1, 10)) (fs := [.int 0, .int 0, .int 0, .int 0, .int 0, .int 0, .int 0, .int 0, .null, .null]) rfl rfl (Or.inl rfl) rfl (by decide) (by decide +kernel) (Or.inr ⟨_, rfl⟩) (Or.inr ⟨rfl, rfl, rfl⟩) (by decide +kernel) ?_
  refine zT.eqSh (sh2 := [.inr (0, [.int 0, .int 0, .int 0, .int 0, .int 0, .int 0, .int 0, .int 0, .ref 1, .null]), .inl (0, 9, .inl (fun _ => 0))]) rfl ?_
  refine zT.run [(.aload_n 0, 0, 0, 0), (.bipush 9, 0, 0, 0)] (pe := 15) (ls' := [some (.ref 0)]) (st' := [.int 9, .ref 0]) (M' := zM0) (by decide +kernel) rfl ?_
  refine zT.newa (kc := 0) (nc := 0) (t := 0) (N := 9) (aty := .int) (ty := .int) (z := .inl (fun _ => 0)) rfl (fun _ => rfl) (zIn (w := 1078) (by decide +kernel) rfl) (fun _ _ _ => rfl) (fun _ => rfl) rfl (by decide) (by decide) (zCs_of rfl) rfl rfl (by decide +kernel) ?_
  refine zT.eqM (M2 := zM0) zUa0 ?_
  refine zT.eqSh (sh2 := [.inr (0, [.int 0, .int 0, .int 0, .int 0, .int 0, .int 0, .int 0, .int 0, .ref 1, .null]), .inl (0, 9, .inl (fun _ => 0)), .inl (0, 9, .inl (fun _ => 0))]) rfl ?_
  refine zT.putR (ci := 0) (b := 9) (o := 0) (o2 := 2) (idx := 15) (w := 1109) (q := (RX1, TX1, 10)) (fs := [.int 0, .int 0, .int 0, .int 0, .int 0, .int 0, .int 0, .int 0, .ref 1, .null]) rfl rfl (Or.inl rfl) rfl (by decide) (by decide +kernel) (Or.inr ⟨_, rfl⟩) (Or.inr ⟨rfl, rfl, rfl⟩) (by decide +kernel) ?_
  refine zT.eqSh (sh2 := [.inr (0, [.int 0, .int 0, .int 0, .int 0, .int 0, .int 0, .int 0, .int 0, .ref 1, .ref 2]), .inl (0, 9, .inl (fun _ => 0)), .inl (0, 9, .inl (fun _ => 0))]) rfl ?_
  exact zT.vret rfl rfl (by decide +kernel)
theorem k_X1_init : zOkC yy_X1_init 0 := ⟨⟨⟨zIn (w := 1089) (by decide +kernel) rfl, zIn (w := 1005) (by decide +kernel) rfl⟩, by decide +kernel⟩, by decide +kernel⟩
noncomputable abbrev yy_X6_init : zY := (yX6_init, cX6_init, 1, none, 1, 20)
set_option maxRecDepth 100000 in
theorem c_X6_init : zC yy_X6_init 1 96 [.ref 0] [.inr (4, [.int 0, .null])] zM0 none [.inr (4, [.int 0, .ref 1]), .inl (0, 96, .inl (fun _ => 0))] zM0 := by
  refine zC.of (by decide +kernel) rfl (Nat.le_of_ble_eq_true rfl) ?_
  refine zT.run [(.aload_n 0, 0, 0, 0)] (pe := 1) (ls' := [some (.ref 0)]) (st' := [.ref 0]) (M' := zM0) (by decide +kernel) rfl ?_
  refine zT.objInit (a := 0) (idx := 3) (zIn (w := 1137) (by decide +kernel) rfl) (zIn (w := 1033) (by decide +kernel) rfl) (zIn (w := 1034) (by decide +kernel) rfl) (Nat.le_of_ble_eq_true rfl) (Nat.le_of_ble_eq_true rfl) (Nat.le_of_ble_eq_true rfl) (by decide +kernel) ?_
  refine zT.run [(.aload_n 0, 0, 0, 0), (.bipush 96, 0, 0, 0)] (pe := 7) (ls' := [some (.ref 0)]) (st' := [.int 96, .ref 0]) (M' := zM0) (by decide +kernel) rfl ?_
  refine zT.newa (kc := 0) (nc := 0) (t := 0) (N := 96) (aty := .int) (ty := .int) (z := .inl (fun _ => 0)) rfl (fun _ => rfl) (zIn (w := 1078) (by decide +kernel) rfl) (fun _ _ _ => rfl) (fun _ => rfl) rfl (by decide) (by decide) (zCs_of rfl) rfl rfl (by decide +kernel) ?_
  refine zT.eqM (M2 := zM0) zUa0 ?_
  refine zT.eqSh (sh2 := [.inr (4, [.int 0, .null]), .inl (0, 96, .inl (fun _ => 0))]) rfl ?_
  refine zT.putR (ci := 4) (b := 1) (o := 0) (o2 := 1) (idx := 9) (w := 1140) (q := (RX6, TX6, 2)) (fs := [.int 0, .null]) rfl rfl (Or.inl rfl) rfl (by decide) (by decide +kernel) (Or.inr ⟨_, rfl⟩) (Or.inr ⟨rfl, rfl, rfl⟩) (by decide +kernel) ?_
  refine zT.eqSh (sh2 := [.inr (4, [.int 0, .ref 1]), .inl (0, 96, .inl (fun _ => 0))]) rfl ?_
  exact zT.vret rfl rfl (by decide +kernel)
theorem k_X6_init : zOkC yy_X6_init 0 := ⟨⟨⟨zIn (w := 1136) (by decide +kernel) rfl, zIn (w := 1006) (by decide +kernel) rfl⟩, by decide +kernel⟩, by decide +kernel⟩
noncomputable abbrev yy_X7_init : zY := (yX7_init, cX7_init, 1, none, 1, 20)
set_option maxRecDepth 100000 in
theorem c_X7_init : zC yy_X7_init 1 9 [.ref 0] [.inr (5, [.null, .int 0, .int 0, .int 0, .int 0])] zM0 none [.inr (5, [.ref 1, .int 0, .int 0, .int 0, .int 0]), .inl (0, 9, .inl (fun _ => 0))] zM0 := by
  refine zC.of (by decide +kernel) rfl (Nat.le_of_ble_eq_true rfl) ?_
  refine zT.run [(.aload_n 0, 0, 0, 0)] (pe := 1) (ls' := [some (.ref 0)]) (st' := [.ref 0]) (M' := zM0) (by decide +kernel) rfl ?_
  refine zT.objInit (a := 0) (idx := 3) (zIn (w := 1151) (by decide +kernel) rfl) (zIn (w := 1033) (by decide +kernel) rfl) (zIn (w := 1034) (by decide +kernel) rfl) (Nat.le_of_ble_eq_true rfl) (Nat.le_of_ble_eq_true rfl) (Nat.le_of_ble_eq_true rfl) (by decide +kernel) ?_
  refine zT.run [(.aload_n 0, 0, 0, 0), (.bipush 9, 0, 0, 0)] (pe := 7) (ls' := [some (.ref 0)]) (st' := [.int 9, .ref 0]) (M' := zM0) (by decide +kernel) rfl ?_
  refine zT.newa (kc := 0) (nc := 0) (t := 0) (N := 9) (aty := .int) (ty := .int) (z := .inl (fun _ => 0)) rfl (fun _ => rfl) (zIn (w := 1078) (by decide +kernel) rfl) (fun _ _ _ => rfl) (fun _ => rfl) rfl (by decide) (by decide) (zCs_of rfl) rfl rfl (by decide +kernel) ?_
  refine zT.eqM (M2 := zM0) zUa0 ?_
  refine zT.eqSh (sh2 := [.inr (5, [.null, .int 0, .int 0, .int 0, .int 0]), .inl (0, 9, .inl (fun _ => 0))]) rfl ?_
  refine zT.putR (ci := 5) (b := 0) (o := 0) (o2 := 1) (idx := 9) (w := 1152) (q := (RX7, TX7, 5)) (fs := [.null, .int 0, .int 0, .int 0, .int 0]) rfl rfl (Or.inl rfl) rfl (by decide) (by decide +kernel) (Or.inr ⟨_, rfl⟩) (Or.inr ⟨rfl, rfl, rfl⟩) (by decide +kernel) ?_
  refine zT.eqSh (sh2 := [.inr (5, [.ref 1, .int 0, .int 0, .int 0, .int 0]), .inl (0, 9, .inl (fun _ => 0))]) rfl ?_
  exact zT.vret rfl rfl (by decide +kernel)
theorem k_X7_init : zOkC yy_X7_init 0 := ⟨⟨⟨zIn (w := 1150) (by decide +kernel) rfl, zIn (w := 1007) (by decide +kernel) rfl⟩, by decide +kernel⟩, by decide +kernel⟩
noncomputable abbrev yy_X4_init : zY := (yX4_init, cX4_init, 1, none, 2, 40)
set_option maxRecDepth 100000 in
theorem c_X4_init : zC yy_X4_init 13 188 [.ref 0] [.inr (2, [.int 0, .int 0, .null, .null, .null, .null, .null, .null, .null, .null, .null])] zM0 none sh_Office zM0 := by
  refine zC.of (by decide +kernel) rfl (Nat.le_of_ble_eq_true rfl) ?_
  refine zT.run [(.aload_n 0, 0, 0, 0)] (pe := 1) (ls' := [some (.ref 0)]) (st' := [.ref 0]) (M' := zM0) (by decide +kernel) rfl ?_
  refine zT.objInit (a := 0) (idx := 3) (zIn (w := 1084) (by decide +kernel) rfl) (zIn (w := 1033) (by decide +kernel) rfl) (zIn (w := 1034) (by decide +kernel) rfl) (Nat.le_of_ble_eq_true rfl) (Nat.le_of_ble_eq_true rfl) (Nat.le_of_ble_eq_true rfl) (by decide +kernel) ?_
  refine zT.run [(.aload_n 0, 0, 0, 0), (.iconst 3, 0, 0, 0)] (pe := 6) (ls' := [some (.ref 0)]) (st' := [.int 3, .ref 0]) (M' := zM0) (by decide +kernel) rfl ?_
  refine zT.newa (kc := 12) (nc := 185) (t := 0) (N := 3) (aty := .int) (ty := .int) (z := .inl (fun _ => 0)) rfl (fun _ => rfl) (zIn (w := 1078) (by decide +kernel) rfl) (fun _ _ _ => rfl) (fun _ => rfl) rfl (by decide) (by decide) (zCs_of rfl) rfl rfl (by decide +kernel) ?_
  refine zT.eqM (M2 := zM0) zUa0 ?_
  refine zT.eqSh (sh2 := [.inr (2, [.int 0, .int 0, .null, .null, .null, .null, .null, .null, .null, .null, .null]), .inl (0, 3, .inl (fun _ => 0))]) rfl ?_
  refine zT.putR (ci := 2) (b := 2) (o := 0) (o2 := 1) (idx := 9) (w := 1174) (q := (RX4, TX4, 11)) (fs := [.int 0, .int 0, .null, .null, .null, .null, .null, .null, .null, .null, .null]) rfl rfl (Or.inl rfl) rfl (by decide) (by decide +kernel) (Or.inr ⟨_, rfl⟩) (Or.inr ⟨rfl, rfl, rfl⟩) (by decide +kernel) ?_
  refine zT.eqSh (sh2 := [.inr (2, [.int 0, .int 0, .ref 1, .null, .null, .null, .null, .null, .null, .null, .null]), .inl (0, 3, .inl (fun _ => 0))]) rfl ?_
  refine zT.run [(.aload_n 0, 0, 0, 0), (.bipush 9, 0, 0, 0)] (pe := 14) (ls' := [some (.ref 0)]) (st' := [.int 9, .ref 0]) (M' := zM0) (by decide +kernel) rfl ?_
  refine zT.newa (kc := 11) (nc := 176) (t := 0) (N := 9) (aty := .int) (ty := .int) (z := .inl (fun _ => 0)) rfl (fun _ => rfl) (zIn (w := 1078) (by decide +kernel) rfl) (fun _ _ _ => rfl) (fun _ => rfl) rfl (by decide) (by decide) (zCs_of rfl) rfl rfl (by decide +kernel) ?_
  refine zT.eqM (M2 := zM0) zUa0 ?_
  refine zT.eqSh (sh2 := [.inr (2, [.int 0, .int 0, .ref 1, .null, .null, .null, .null, .null, .null, .null, .null]), .inl (0, 3, .inl (fun _ => 0)), .inl (0, 9, .inl (fun _ => 0))]) rfl ?_
  refine zT.putR (ci := 2) (b := 3) (o := 0) (o2 := 2) (idx := 15) (w := 1175) (q := (RX4, TX4, 11)) (fs := [.int 0, .int 0, .ref 1, .null, .null, .null, .null, .null, .null, .null, .null]) rfl rfl (Or.inl rfl) rfl (by decide) (by decide +kernel) (Or.inr ⟨_, rfl⟩) (Or.inr ⟨rfl, rfl, rfl⟩) (by decide +kernel) ?_
  refine zT.eqSh (sh2 := [.inr (2, [.int 0, .int 0, .ref 1, .ref 2, .null, .null, .null, .null, .null, .null, .null]), .inl (0, 3, .inl (fun _ => 0)), .inl (0, 9, .inl (fun _ => 0))]) rfl ?_
  refine zT.run [(.aload_n 0, 0, 0, 0), (.bipush 9, 0, 0, 0)] (pe := 22) (ls' := [some (.ref 0)]) (st' := [.int 9, .ref 0]) (M' := zM0) (by decide +kernel) rfl ?_
  refine zT.newa (kc := 10) (nc := 167) (t := 0) (N := 9) (aty := .int) (ty := .int) (z := .inl (fun _ => 0)) rfl (fun _ => rfl) (zIn (w := 1078) (by decide +kernel) rfl) (fun _ _ _ => rfl) (fun _ => rfl) rfl (by decide) (by decide) (zCs_of rfl) rfl rfl (by decide +kernel) ?_
  refine zT.eqM (M2 := zM0) zUa0 ?_
  refine zT.eqSh (sh2 := [.inr (2, [.int 0, .int 0, .ref 1, .ref 2, .null, .null, .null, .null, .null, .null, .null]), .inl (0, 3, .inl (fun _ => 0)), .inl (0, 9, .inl (fun _ => 0)), .inl (0, 9, .inl (fun _ => 0))]) rfl ?_
  refine zT.putR (ci := 2) (b := 4) (o := 0) (o2 := 3) (idx := 18) (w := 1176) (q := (RX4, TX4, 11)) (fs := [.int 0, .int 0, .ref 1, .ref 2, .null, .null, .null, .null, .null, .null, .null]) rfl rfl (Or.inl rfl) rfl (by decide) (by decide +kernel) (Or.inr ⟨_, rfl⟩) (Or.inr ⟨rfl, rfl, rfl⟩) (by decide +kernel) ?_
  refine zT.eqSh (sh2 := [.inr (2, [.int 0, .int 0, .ref 1, .ref 2, .ref 3, .null, .null, .null, .null, .null, .null]), .inl (0, 3, .inl (fun _ => 0)), .inl (0, 9, .inl (fun _ => 0)), .inl (0, 9, .inl (fun _ => 0))]) rfl ?_
  refine zT.run [(.aload_n 0, 0, 0, 0), (.bipush 9, 0, 0, 0)] (pe := 30) (ls' := [some (.ref 0)]) (st' := [.int 9, .ref 0]) (M' := zM0) (by decide +kernel) rfl ?_
  refine zT.newa (kc := 9) (nc := 158) (t := 0) (N := 9) (aty := .int) (ty := .int) (z := .inl (fun _ => 0)) rfl (fun _ => rfl) (zIn (w := 1078) (by decide +kernel) rfl) (fun _ _ _ => rfl) (fun _ => rfl) rfl (by decide) (by decide) (zCs_of rfl) rfl rfl (by decide +kernel) ?_
  refine zT.eqM (M2 := zM0) zUa0 ?_
  refine zT.eqSh (sh2 := [.inr (2, [.int 0, .int 0, .ref 1, .ref 2, .ref 3, .null, .null, .null, .null, .null, .null]), .inl (0, 3, .inl (fun _ => 0)), .inl (0, 9, .inl (fun _ => 0)), .inl (0, 9, .inl (fun _ => 0)), .inl (0, 9, .inl (fun _ => 0))]) rfl ?_
  refine zT.putR (ci := 2) (b := 5) (o := 0) (o2 := 4) (idx := 21) (w := 1177) (q := (RX4, TX4, 11)) (fs := [.int 0, .int 0, .ref 1, .ref 2, .ref 3, .null, .null, .null, .null, .null, .null]) rfl rfl (Or.inl rfl) rfl (by decide) (by decide +kernel) (Or.inr ⟨_, rfl⟩) (Or.inr ⟨rfl, rfl, rfl⟩) (by decide +kernel) ?_
  refine zT.eqSh (sh2 := [.inr (2, [.int 0, .int 0, .ref 1, .ref 2, .ref 3, .ref 4, .null, .null, .null, .null, .null]), .inl (0, 3, .inl (fun _ => 0)), .inl (0, 9, .inl (fun _ => 0)), .inl (0, 9, .inl (fun _ => 0)), .inl (0, 9, .inl (fun _ => 0))]) rfl ?_
  refine zT.run [(.aload_n 0, 0, 0, 0), (.bipush 9, 0, 0, 0)] (pe := 38) (ls' := [some (.ref 0)]) (st' := [.int 9, .ref 0]) (M' := zM0) (by decide +kernel) rfl ?_
  refine zT.newa (kc := 8) (nc := 149) (t := 0) (N := 9) (aty := .int) (ty := .int) (z := .inl (fun _ => 0)) rfl (fun _ => rfl) (zIn (w := 1078) (by decide +kernel) rfl) (fun _ _ _ => rfl) (fun _ => rfl) rfl (by decide) (by decide) (zCs_of rfl) rfl rfl (by decide +kernel) ?_
  refine zT.eqM (M2 := zM0) zUa0 ?_
  refine zT.eqSh (sh2 := [.inr (2, [.int 0, .int 0, .ref 1, .ref 2, .ref 3, .ref 4, .null, .null, .null, .null, .null]), .inl (0, 3, .inl (fun _ => 0)), .inl (0, 9, .inl (fun _ => 0)), .inl (0, 9, .inl (fun _ => 0)), .inl (0, 9, .inl (fun _ => 0)), .inl (0, 9, .inl (fun _ => 0))]) rfl ?_
  refine zT.putR (ci := 2) (b := 6) (o := 0) (o2 := 5) (idx := 24) (w := 1178) (q := (RX4, TX4, 11)) (fs := [.int 0, .int 0, .ref 1, .ref 2, .ref 3, .ref 4, .null, .null, .null, .null, .null]) rfl rfl (Or.inl rfl) rfl (by decide) (by decide +kernel) (Or.inr ⟨_, rfl⟩) (Or.inr ⟨rfl, rfl, rfl⟩) (by decide +kernel) ?_
  refine zT.eqSh (sh2 := [.inr (2, [.int 0, .int 0, .ref 1, .ref 2, .ref 3, .ref 4, .ref 5, .null, .null, .null, .null]), .inl (0, 3, .inl (fun _ => 0)), .inl (0, 9, .inl (fun _ => 0)), .inl (0, 9, .inl (fun _ => 0)), .inl (0, 9, .inl (fun _ => 0)), .inl (0, 9, .inl (fun _ => 0))]) rfl ?_
  refine zT.run [(.aload_n 0, 0, 0, 0), (.bipush 9, 0, 0, 0)] (pe := 46) (ls' := [some (.ref 0)]) (st' := [.int 9, .ref 0]) (M' := zM0) (by decide +kernel) rfl ?_
  refine zT.newa (kc := 7) (nc := 140) (t := 0) (N := 9) (aty := .int) (ty := .int) (z := .inl (fun _ => 0)) rfl (fun _ => rfl) (zIn (w := 1078) (by decide +kernel) rfl) (fun _ _ _ => rfl) (fun _ => rfl) rfl (by decide) (by decide) (zCs_of rfl) rfl rfl (by decide +kernel) ?_
  refine zT.eqM (M2 := zM0) zUa0 ?_
  refine zT.eqSh (sh2 := [.inr (2, [.int 0, .int 0, .ref 1, .ref 2, .ref 3, .ref 4, .ref 5, .null, .null, .null, .null]), .inl (0, 3, .inl (fun _ => 0)), .inl (0, 9, .inl (fun _ => 0)), .inl (0, 9, .inl (fun _ => 0)), .inl (0, 9, .inl (fun _ => 0)), .inl (0, 9, .inl (fun _ => 0)), .inl (0, 9, .inl (fun _ => 0))]) rfl ?_
  refine zT.putR (ci := 2) (b := 7) (o := 0) (o2 := 6) (idx := 27) (w := 1179) (q := (RX4, TX4, 11)) (fs := [.int 0, .int 0, .ref 1, .ref 2, .ref 3, .ref 4, .ref 5, .null, .null, .null, .null]) rfl rfl (Or.inl rfl) rfl (by decide) (by decide +kernel) (Or.inr ⟨_, rfl⟩) (Or.inr ⟨rfl, rfl, rfl⟩) (by decide +kernel) ?_
  refine zT.eqSh (sh2 := [.inr (2, [.int 0, .int 0, .ref 1, .ref 2, .ref 3, .ref 4, .ref 5, .ref 6, .null, .null, .null]), .inl (0, 3, .inl (fun _ => 0)), .inl (0, 9, .inl (fun _ => 0)), .inl (0, 9, .inl (fun _ => 0)), .inl (0, 9, .inl (fun _ => 0)), .inl (0, 9, .inl (fun _ => 0)), .inl (0, 9, .inl (fun _ => 0))]) rfl ?_
  refine zT.run [(.aload_n 0, 0, 0, 0)] (pe := 52) (ls' := [some (.ref 0)]) (st' := [.ref 0]) (M' := zM0) (by decide +kernel) rfl ?_
  refine zT.new (kc := 6) (nc := 130) (ci := 0) (ik := 30) (q := (RX1, TX1, 10)) (fs := [.int 0, .int 0, .int 0, .int 0, .int 0, .int 0, .int 0, .int 0, .null, .null]) rfl (zIn (w := 1085) (by decide +kernel) rfl) (zIn (w := 1086) (by decide +kernel) rfl) (zIn (w := 1005) (by decide +kernel) rfl) (by decide +kernel) rfl (fun _ _ => rfl) (zCs_of rfl) rfl rfl (by decide +kernel) ?_
  refine zT.eqM (M2 := zM0) zUa0 ?_
  refine zT.eqSh (sh2 := [.inr (2, [.int 0, .int 0, .ref 1, .ref 2, .ref 3, .ref 4, .ref 5, .ref 6, .null, .null, .null]), .inl (0, 3, .inl (fun _ => 0)), .inl (0, 9, .inl (fun _ => 0)), .inl (0, 9, .inl (fun _ => 0)), .inl (0, 9, .inl (fun _ => 0)), .inl (0, 9, .inl (fun _ => 0)), .inl (0, 9, .inl (fun _ => 0)), .inr (0, [.int 0, .int 0, .int 0, .int 0, .int 0, .int 0, .int 0, .int 0, .null, .null])]) rfl ?_
  refine zT.run [(.dup, 0, 0, 0)] (pe := 56) (ls' := [some (.ref 0)]) (st' := [.ref 7, .ref 7, .ref 0]) (M' := zM0) (by decide +kernel) rfl ?_
  refine zT.eqSh (sh2 := [.inr (2, [.int 0, .int 0, .ref 1, .ref 2, .ref 3, .ref 4, .ref 5, .ref 6, .null, .null, .null]), .inl (0, 3, .inl (fun _ => 0)), .inl (0, 9, .inl (fun _ => 0)), .inl (0, 9, .inl (fun _ => 0)), .inl (0, 9, .inl (fun _ => 0)), .inl (0, 9, .inl (fun _ => 0)), .inl (0, 9, .inl (fun _ => 0))] ++ [.inr (0, [.int 0, .int 0, .int 0, .int 0, .int 0, .int 0, .int 0, .int 0, .null, .null])].map (zRe 7)) rfl ?_
  refine zT.callIN (host := "SealedBallots") (kc := 4) (nc := 112) (pre := [.inr (2, [.int 0, .int 0, .ref 1, .ref 2, .ref 3, .ref 4, .ref 5, .ref 6, .null, .null, .null]), .inl (0, 3, .inl (fun _ => 0)), .inl (0, 9, .inl (fun _ => 0)), .inl (0, 9, .inl (fun _ => 0)), .inl (0, 9, .inl (fun _ => 0)), .inl (0, 9, .inl (fun _ => 0)), .inl (0, 9, .inl (fun _ => 0))]) (b := 7) (o := 0) (idx := 32) (av := []) (n := 0) c_X1_init rfl rfl rfl (zCs_of rfl) rfl rfl (fun _ _ => rfl) rfl k_X1_init rfl (zIn (w := 1088) (by decide +kernel) rfl) (zInN (w := 1087) (by decide +kernel) rfl) (by decide +kernel) (Nat.le_of_ble_eq_true rfl) (by decide +kernel) rfl ?_
  refine zT.eqM (M2 := zM0) zPs0 ?_
  refine zT.eqSh (sh2 := [.inr (2, [.int 0, .int 0, .ref 1, .ref 2, .ref 3, .ref 4, .ref 5, .ref 6, .null, .null, .null]), .inl (0, 3, .inl (fun _ => 0)), .inl (0, 9, .inl (fun _ => 0)), .inl (0, 9, .inl (fun _ => 0)), .inl (0, 9, .inl (fun _ => 0)), .inl (0, 9, .inl (fun _ => 0)), .inl (0, 9, .inl (fun _ => 0)), .inr (0, [.int 0, .int 0, .int 0, .int 0, .int 0, .int 0, .int 0, .int 0, .ref 8, .ref 9]), .inl (0, 9, .inl (fun _ => 0)), .inl (0, 9, .inl (fun _ => 0))]) rfl ?_
  refine zT.putR (ci := 2) (b := 8) (o := 0) (o2 := 7) (idx := 33) (w := 1181) (q := (RX4, TX4, 11)) (fs := [.int 0, .int 0, .ref 1, .ref 2, .ref 3, .ref 4, .ref 5, .ref 6, .null, .null, .null]) rfl rfl (Or.inl rfl) rfl (by decide) (by decide +kernel) (Or.inl ⟨_, rfl⟩) (Or.inr ⟨rfl, rfl, rfl⟩) (by decide +kernel) ?_
  refine zT.eqSh (sh2 := [.inr (2, [.int 0, .int 0, .ref 1, .ref 2, .ref 3, .ref 4, .ref 5, .ref 6, .ref 7, .null, .null]), .inl (0, 3, .inl (fun _ => 0)), .inl (0, 9, .inl (fun _ => 0)), .inl (0, 9, .inl (fun _ => 0)), .inl (0, 9, .inl (fun _ => 0)), .inl (0, 9, .inl (fun _ => 0)), .inl (0, 9, .inl (fun _ => 0)), .inr (0, [.int 0, .int 0, .int 0, .int 0, .int 0, .int 0, .int 0, .int 0, .ref 8, .ref 9]), .inl (0, 9, .inl (fun _ => 0)), .inl (0, 9, .inl (fun _ => 0))]) rfl ?_
  refine zT.run [(.aload_n 0, 0, 0, 0)] (pe := 63) (ls' := [some (.ref 0)]) (st' := [.ref 0]) (M' := zM0) (by decide +kernel) rfl ?_
  refine zT.new (kc := 3) (nc := 110) (ci := 4) (ik := 37) (q := (RX6, TX6, 2)) (fs := [.int 0, .null]) rfl (zIn (w := 1132) (by decide +kernel) rfl) (zIn (w := 1133) (by decide +kernel) rfl) (zIn (w := 1006) (by decide +kernel) rfl) (by decide +kernel) rfl (fun _ _ => rfl) (zCs_of rfl) rfl rfl (by decide +kernel) ?_
  refine zT.eqM (M2 := zM0) zUa0 ?_
  refine zT.eqSh (sh2 := [.inr (2, [.int 0, .int 0, .ref 1, .ref 2, .ref 3, .ref 4, .ref 5, .ref 6, .ref 7, .null, .null]), .inl (0, 3, .inl (fun _ => 0)), .inl (0, 9, .inl (fun _ => 0)), .inl (0, 9, .inl (fun _ => 0)), .inl (0, 9, .inl (fun _ => 0)), .inl (0, 9, .inl (fun _ => 0)), .inl (0, 9, .inl (fun _ => 0)), .inr (0, [.int 0, .int 0, .int 0, .int 0, .int 0, .int 0, .int 0, .int 0, .ref 8, .ref 9]), .inl (0, 9, .inl (fun _ => 0)), .inl (0, 9, .inl (fun _ => 0)), .inr (4, [.int 0, .null])]) rfl ?_
  refine zT.run [(.dup, 0, 0, 0)] (pe := 67) (ls' := [some (.ref 0)]) (st' := [.ref 10, .ref 10, .ref 0]) (M' := zM0) (by decide +kernel) rfl ?_
  refine zT.eqSh (sh2 := [.inr (2, [.int 0, .int 0, .ref 1, .ref 2, .ref 3, .ref 4, .ref 5, .ref 6, .ref 7, .null, .null]), .inl (0, 3, .inl (fun _ => 0)), .inl (0, 9, .inl (fun _ => 0)), .inl (0, 9, .inl (fun _ => 0)), .inl (0, 9, .inl (fun _ => 0)), .inl (0, 9, .inl (fun _ => 0)), .inl (0, 9, .inl (fun _ => 0)), .inr (0, [.int 0, .int 0, .int 0, .int 0, .int 0, .int 0, .int 0, .int 0, .ref 8, .ref 9]), .inl (0, 9, .inl (fun _ => 0)), .inl (0, 9, .inl (fun _ => 0))] ++ [.inr (4, [.int 0, .null])].map (zRe 10)) rfl ?_
  refine zT.callIN (host := "SealedBallots") (kc := 2) (nc := 14) (pre := [.inr (2, [.int 0, .int 0, .ref 1, .ref 2, .ref 3, .ref 4, .ref 5, .ref 6, .ref 7, .null, .null]), .inl (0, 3, .inl (fun _ => 0)), .inl (0, 9, .inl (fun _ => 0)), .inl (0, 9, .inl (fun _ => 0)), .inl (0, 9, .inl (fun _ => 0)), .inl (0, 9, .inl (fun _ => 0)), .inl (0, 9, .inl (fun _ => 0)), .inr (0, [.int 0, .int 0, .int 0, .int 0, .int 0, .int 0, .int 0, .int 0, .ref 8, .ref 9]), .inl (0, 9, .inl (fun _ => 0)), .inl (0, 9, .inl (fun _ => 0))]) (b := 10) (o := 0) (idx := 39) (av := []) (n := 0) c_X6_init rfl rfl rfl (zCs_of rfl) rfl rfl (fun _ _ => rfl) rfl k_X6_init rfl (zIn (w := 1135) (by decide +kernel) rfl) (zInN (w := 1134) (by decide +kernel) rfl) (by decide +kernel) (Nat.le_of_ble_eq_true rfl) (by decide +kernel) rfl ?_
  refine zT.eqM (M2 := zM0) zPs0 ?_
  refine zT.eqSh (sh2 := [.inr (2, [.int 0, .int 0, .ref 1, .ref 2, .ref 3, .ref 4, .ref 5, .ref 6, .ref 7, .null, .null]), .inl (0, 3, .inl (fun _ => 0)), .inl (0, 9, .inl (fun _ => 0)), .inl (0, 9, .inl (fun _ => 0)), .inl (0, 9, .inl (fun _ => 0)), .inl (0, 9, .inl (fun _ => 0)), .inl (0, 9, .inl (fun _ => 0)), .inr (0, [.int 0, .int 0, .int 0, .int 0, .int 0, .int 0, .int 0, .int 0, .ref 8, .ref 9]), .inl (0, 9, .inl (fun _ => 0)), .inl (0, 9, .inl (fun _ => 0)), .inr (4, [.int 0, .ref 11]), .inl (0, 96, .inl (fun _ => 0))]) rfl ?_
  refine zT.putR (ci := 2) (b := 9) (o := 0) (o2 := 10) (idx := 40) (w := 1183) (q := (RX4, TX4, 11)) (fs := [.int 0, .int 0, .ref 1, .ref 2, .ref 3, .ref 4, .ref 5, .ref 6, .ref 7, .null, .null]) rfl rfl (Or.inl rfl) rfl (by decide) (by decide +kernel) (Or.inl ⟨_, rfl⟩) (Or.inr ⟨rfl, rfl, rfl⟩) (by decide +kernel) ?_
  refine zT.eqSh (sh2 := [.inr (2, [.int 0, .int 0, .ref 1, .ref 2, .ref 3, .ref 4, .ref 5, .ref 6, .ref 7, .ref 10, .null]), .inl (0, 3, .inl (fun _ => 0)), .inl (0, 9, .inl (fun _ => 0)), .inl (0, 9, .inl (fun _ => 0)), .inl (0, 9, .inl (fun _ => 0)), .inl (0, 9, .inl (fun _ => 0)), .inl (0, 9, .inl (fun _ => 0)), .inr (0, [.int 0, .int 0, .int 0, .int 0, .int 0, .int 0, .int 0, .int 0, .ref 8, .ref 9]), .inl (0, 9, .inl (fun _ => 0)), .inl (0, 9, .inl (fun _ => 0)), .inr (4, [.int 0, .ref 11]), .inl (0, 96, .inl (fun _ => 0))]) rfl ?_
  refine zT.run [(.aload_n 0, 0, 0, 0)] (pe := 74) (ls' := [some (.ref 0)]) (st' := [.ref 0]) (M' := zM0) (by decide +kernel) rfl ?_
  refine zT.new (kc := 1) (nc := 9) (ci := 5) (ik := 44) (q := (RX7, TX7, 5)) (fs := [.null, .int 0, .int 0, .int 0, .int 0]) rfl (zIn (w := 1146) (by decide +kernel) rfl) (zIn (w := 1147) (by decide +kernel) rfl) (zIn (w := 1007) (by decide +kernel) rfl) (by decide +kernel) rfl (fun _ _ => rfl) (zCs_of rfl) rfl rfl (by decide +kernel) ?_
  refine zT.eqM (M2 := zM0) zUa0 ?_
  refine zT.eqSh (sh2 := [.inr (2, [.int 0, .int 0, .ref 1, .ref 2, .ref 3, .ref 4, .ref 5, .ref 6, .ref 7, .ref 10, .null]), .inl (0, 3, .inl (fun _ => 0)), .inl (0, 9, .inl (fun _ => 0)), .inl (0, 9, .inl (fun _ => 0)), .inl (0, 9, .inl (fun _ => 0)), .inl (0, 9, .inl (fun _ => 0)), .inl (0, 9, .inl (fun _ => 0)), .inr (0, [.int 0, .int 0, .int 0, .int 0, .int 0, .int 0, .int 0, .int 0, .ref 8, .ref 9]), .inl (0, 9, .inl (fun _ => 0)), .inl (0, 9, .inl (fun _ => 0)), .inr (4, [.int 0, .ref 11]), .inl (0, 96, .inl (fun _ => 0)), .inr (5, [.null, .int 0, .int 0, .int 0, .int 0])]) rfl ?_
  refine zT.run [(.dup, 0, 0, 0)] (pe := 78) (ls' := [some (.ref 0)]) (st' := [.ref 12, .ref 12, .ref 0]) (M' := zM0) (by decide +kernel) rfl ?_
  refine zT.eqSh (sh2 := [.inr (2, [.int 0, .int 0, .ref 1, .ref 2, .ref 3, .ref 4, .ref 5, .ref 6, .ref 7, .ref 10, .null]), .inl (0, 3, .inl (fun _ => 0)), .inl (0, 9, .inl (fun _ => 0)), .inl (0, 9, .inl (fun _ => 0)), .inl (0, 9, .inl (fun _ => 0)), .inl (0, 9, .inl (fun _ => 0)), .inl (0, 9, .inl (fun _ => 0)), .inr (0, [.int 0, .int 0, .int 0, .int 0, .int 0, .int 0, .int 0, .int 0, .ref 8, .ref 9]), .inl (0, 9, .inl (fun _ => 0)), .inl (0, 9, .inl (fun _ => 0)), .inr (4, [.int 0, .ref 11]), .inl (0, 96, .inl (fun _ => 0))] ++ [.inr (5, [.null, .int 0, .int 0, .int 0, .int 0])].map (zRe 12)) rfl ?_
  refine zT.callIN (host := "SealedBallots") (kc := 0) (nc := 0) (pre := [.inr (2, [.int 0, .int 0, .ref 1, .ref 2, .ref 3, .ref 4, .ref 5, .ref 6, .ref 7, .ref 10, .null]), .inl (0, 3, .inl (fun _ => 0)), .inl (0, 9, .inl (fun _ => 0)), .inl (0, 9, .inl (fun _ => 0)), .inl (0, 9, .inl (fun _ => 0)), .inl (0, 9, .inl (fun _ => 0)), .inl (0, 9, .inl (fun _ => 0)), .inr (0, [.int 0, .int 0, .int 0, .int 0, .int 0, .int 0, .int 0, .int 0, .ref 8, .ref 9]), .inl (0, 9, .inl (fun _ => 0)), .inl (0, 9, .inl (fun _ => 0)), .inr (4, [.int 0, .ref 11]), .inl (0, 96, .inl (fun _ => 0))]) (b := 12) (o := 0) (idx := 46) (av := []) (n := 0) c_X7_init rfl rfl rfl (zCs_of rfl) rfl rfl (fun _ _ => rfl) rfl k_X7_init rfl (zIn (w := 1149) (by decide +kernel) rfl) (zInN (w := 1148) (by decide +kernel) rfl) (by decide +kernel) (Nat.le_of_ble_eq_true rfl) (by decide +kernel) rfl ?_
  refine zT.eqM (M2 := zM0) zPs0 ?_
  refine zT.eqSh (sh2 := [.inr (2, [.int 0, .int 0, .ref 1, .ref 2, .ref 3, .ref 4, .ref 5, .ref 6, .ref 7, .ref 10, .null]), .inl (0, 3, .inl (fun _ => 0)), .inl (0, 9, .inl (fun _ => 0)), .inl (0, 9, .inl (fun _ => 0)), .inl (0, 9, .inl (fun _ => 0)), .inl (0, 9, .inl (fun _ => 0)), .inl (0, 9, .inl (fun _ => 0)), .inr (0, [.int 0, .int 0, .int 0, .int 0, .int 0, .int 0, .int 0, .int 0, .ref 8, .ref 9]), .inl (0, 9, .inl (fun _ => 0)), .inl (0, 9, .inl (fun _ => 0)), .inr (4, [.int 0, .ref 11]), .inl (0, 96, .inl (fun _ => 0)), .inr (5, [.ref 13, .int 0, .int 0, .int 0, .int 0]), .inl (0, 9, .inl (fun _ => 0))]) rfl ?_
  refine zT.putR (ci := 2) (b := 10) (o := 0) (o2 := 12) (idx := 47) (w := 1185) (q := (RX4, TX4, 11)) (fs := [.int 0, .int 0, .ref 1, .ref 2, .ref 3, .ref 4, .ref 5, .ref 6, .ref 7, .ref 10, .null]) rfl rfl (Or.inl rfl) rfl (by decide) (by decide +kernel) (Or.inl ⟨_, rfl⟩) (Or.inr ⟨rfl, rfl, rfl⟩) (by decide +kernel) ?_
  refine zT.eqSh (sh2 := [.inr (2, [.int 0, .int 0, .ref 1, .ref 2, .ref 3, .ref 4, .ref 5, .ref 6, .ref 7, .ref 10, .ref 12]), .inl (0, 3, .inl (fun _ => 0)), .inl (0, 9, .inl (fun _ => 0)), .inl (0, 9, .inl (fun _ => 0)), .inl (0, 9, .inl (fun _ => 0)), .inl (0, 9, .inl (fun _ => 0)), .inl (0, 9, .inl (fun _ => 0)), .inr (0, [.int 0, .int 0, .int 0, .int 0, .int 0, .int 0, .int 0, .int 0, .ref 8, .ref 9]), .inl (0, 9, .inl (fun _ => 0)), .inl (0, 9, .inl (fun _ => 0)), .inr (4, [.int 0, .ref 11]), .inl (0, 96, .inl (fun _ => 0)), .inr (5, [.ref 13, .int 0, .int 0, .int 0, .int 0]), .inl (0, 9, .inl (fun _ => 0))]) rfl ?_
  exact zT.vret rfl rfl (by decide +kernel)
theorem k_X4_init : zOkC yy_X4_init 0 := ⟨⟨⟨zIn (w := 1083) (by decide +kernel) rfl, zIn (w := 1004) (by decide +kernel) rfl⟩, by decide +kernel⟩, by decide +kernel⟩
noncomputable abbrev yy_X8_init : zY := (yX8_init, cX8_init, 1, none, 1, 20)
set_option maxRecDepth 100000 in
theorem c_X8_init : zC yy_X8_init 1 600 [.ref 0] [.inr (6, [.int 0, .null, .int 0, .int 0, .int 0, .int 0])] zM0 none [.inr (6, [.int 0, .ref 1, .int 0, .int 0, .int 0, .int 0]), .inl (1, 600, .inl (fun _ => 0))] zM0 := by
  refine zC.of (by decide +kernel) rfl (Nat.le_of_ble_eq_true rfl) ?_
  refine zT.run [(.aload_n 0, 0, 0, 0)] (pe := 1) (ls' := [some (.ref 0)]) (st' := [.ref 0]) (M' := zM0) (by decide +kernel) rfl ?_
  refine zT.objInit (a := 0) (idx := 3) (zIn (w := 1046) (by decide +kernel) rfl) (zIn (w := 1033) (by decide +kernel) rfl) (zIn (w := 1034) (by decide +kernel) rfl) (Nat.le_of_ble_eq_true rfl) (Nat.le_of_ble_eq_true rfl) (Nat.le_of_ble_eq_true rfl) (by decide +kernel) ?_
  refine zT.run [(.aload_n 0, 0, 0, 0), (.sipush 600, 0, 0, 0)] (pe := 8) (ls' := [some (.ref 0)]) (st' := [.int 600, .ref 0]) (M' := zM0) (by decide +kernel) rfl ?_
  refine zT.newa (kc := 0) (nc := 0) (t := 1) (N := 600) (aty := .byte) (ty := .byte) (z := .inl (fun _ => 0)) rfl (fun _ => rfl) (zIn (w := 1069) (by decide +kernel) rfl) (fun _ _ _ => rfl) (fun _ => rfl) rfl (by decide) (by decide) (zCs_of rfl) rfl rfl (by decide +kernel) ?_
  refine zT.eqM (M2 := zM0) zUa0 ?_
  refine zT.eqSh (sh2 := [.inr (6, [.int 0, .null, .int 0, .int 0, .int 0, .int 0]), .inl (1, 600, .inl (fun _ => 0))]) rfl ?_
  refine zT.putR (ci := 6) (b := 1) (o := 0) (o2 := 1) (idx := 9) (w := 1049) (q := (RX8, TX8, 6)) (fs := [.int 0, .null, .int 0, .int 0, .int 0, .int 0]) rfl rfl (Or.inl rfl) rfl (by decide) (by decide +kernel) (Or.inr ⟨_, rfl⟩) (Or.inr ⟨rfl, rfl, rfl⟩) (by decide +kernel) ?_
  refine zT.eqSh (sh2 := [.inr (6, [.int 0, .ref 1, .int 0, .int 0, .int 0, .int 0]), .inl (1, 600, .inl (fun _ => 0))]) rfl ?_
  exact zT.vret rfl rfl (by decide +kernel)
theorem k_X8_init : zOkC yy_X8_init 0 := ⟨⟨⟨zIn (w := 1045) (by decide +kernel) rfl, zIn (w := 1003) (by decide +kernel) rfl⟩, by decide +kernel⟩, by decide +kernel⟩
noncomputable abbrev yy_X5_init : zY := (yX5_init, cX5_init, 1, none, 2, 40)
set_option maxRecDepth 100000 in
theorem c_X5_init : zC yy_X5_init 3 609 [.ref 0] [.inr (3, [.null, .null])] zM0 none [.inr (3, [.ref 1, .ref 3]), .inr (6, [.int 0, .ref 2, .int 0, .int 0, .int 0, .int 0]), .inl (1, 600, .inl (fun _ => 0)), .inl (0, 3, .inl (fun _ => 0))] zM0 := by
  refine zC.of (by decide +kernel) rfl (Nat.le_of_ble_eq_true rfl) ?_
  refine zT.run [(.aload_n 0, 0, 0, 0)] (pe := 1) (ls' := [some (.ref 0)]) (st' := [.ref 0]) (M' := zM0) (by decide +kernel) rfl ?_
  refine zT.objInit (a := 0) (idx := 3) (zIn (w := 1040) (by decide +kernel) rfl) (zIn (w := 1033) (by decide +kernel) rfl) (zIn (w := 1034) (by decide +kernel) rfl) (Nat.le_of_ble_eq_true rfl) (Nat.le_of_ble_eq_true rfl) (Nat.le_of_ble_eq_true rfl) (by decide +kernel) ?_
  refine zT.run [(.aload_n 0, 0, 0, 0)] (pe := 5) (ls' := [some (.ref 0)]) (st' := [.ref 0]) (M' := zM0) (by decide +kernel) rfl ?_
  refine zT.new (kc := 2) (nc := 603) (ci := 6) (ik := 9) (q := (RX8, TX8, 6)) (fs := [.int 0, .null, .int 0, .int 0, .int 0, .int 0]) rfl (zIn (w := 1041) (by decide +kernel) rfl) (zIn (w := 1042) (by decide +kernel) rfl) (zIn (w := 1003) (by decide +kernel) rfl) (by decide +kernel) rfl (fun _ _ => rfl) (zCs_of rfl) rfl rfl (by decide +kernel) ?_
  refine zT.eqM (M2 := zM0) zUa0 ?_
  refine zT.eqSh (sh2 := [.inr (3, [.null, .null]), .inr (6, [.int 0, .null, .int 0, .int 0, .int 0, .int 0])]) rfl ?_
  refine zT.run [(.dup, 0, 0, 0)] (pe := 9) (ls' := [some (.ref 0)]) (st' := [.ref 1, .ref 1, .ref 0]) (M' := zM0) (by decide +kernel) rfl ?_
  refine zT.eqSh (sh2 := [.inr (3, [.null, .null])] ++ [.inr (6, [.int 0, .null, .int 0, .int 0, .int 0, .int 0])].map (zRe 1)) rfl ?_
  refine zT.callIN (host := "SealedBallots") (kc := 1) (nc := 3) (pre := [.inr (3, [.null, .null])]) (b := 1) (o := 0) (idx := 11) (av := []) (n := 0) c_X8_init rfl rfl rfl (zCs_of rfl) rfl rfl (fun _ _ => rfl) rfl k_X8_init rfl (zIn (w := 1044) (by decide +kernel) rfl) (zInN (w := 1043) (by decide +kernel) rfl) (by decide +kernel) (Nat.le_of_ble_eq_true rfl) (by decide +kernel) rfl ?_
  refine zT.eqM (M2 := zM0) zPs0 ?_
  refine zT.eqSh (sh2 := [.inr (3, [.null, .null]), .inr (6, [.int 0, .ref 2, .int 0, .int 0, .int 0, .int 0]), .inl (1, 600, .inl (fun _ => 0))]) rfl ?_
  refine zT.putR (ci := 3) (b := 0) (o := 0) (o2 := 1) (idx := 12) (w := 1070) (q := (RX5, TX5, 2)) (fs := [.null, .null]) rfl rfl (Or.inl rfl) rfl (by decide) (by decide +kernel) (Or.inl ⟨_, rfl⟩) (Or.inr ⟨rfl, rfl, rfl⟩) (by decide +kernel) ?_
  refine zT.eqSh (sh2 := [.inr (3, [.ref 1, .null]), .inr (6, [.int 0, .ref 2, .int 0, .int 0, .int 0, .int 0]), .inl (1, 600, .inl (fun _ => 0))]) rfl ?_
  refine zT.run [(.aload_n 0, 0, 0, 0), (.iconst 3, 0, 0, 0)] (pe := 17) (ls' := [some (.ref 0)]) (st' := [.int 3, .ref 0]) (M' := zM0) (by decide +kernel) rfl ?_
  refine zT.newa (kc := 0) (nc := 0) (t := 0) (N := 3) (aty := .int) (ty := .int) (z := .inl (fun _ => 0)) rfl (fun _ => rfl) (zIn (w := 1078) (by decide +kernel) rfl) (fun _ _ _ => rfl) (fun _ => rfl) rfl (by decide) (by decide) (zCs_of rfl) rfl rfl (by decide +kernel) ?_
  refine zT.eqM (M2 := zM0) zUa0 ?_
  refine zT.eqSh (sh2 := [.inr (3, [.ref 1, .null]), .inr (6, [.int 0, .ref 2, .int 0, .int 0, .int 0, .int 0]), .inl (1, 600, .inl (fun _ => 0)), .inl (0, 3, .inl (fun _ => 0))]) rfl ?_
  refine zT.putR (ci := 3) (b := 1) (o := 0) (o2 := 3) (idx := 18) (w := 1072) (q := (RX5, TX5, 2)) (fs := [.ref 1, .null]) rfl rfl (Or.inl rfl) rfl (by decide) (by decide +kernel) (Or.inr ⟨_, rfl⟩) (Or.inr ⟨rfl, rfl, rfl⟩) (by decide +kernel) ?_
  refine zT.eqSh (sh2 := [.inr (3, [.ref 1, .ref 3]), .inr (6, [.int 0, .ref 2, .int 0, .int 0, .int 0, .int 0]), .inl (1, 600, .inl (fun _ => 0)), .inl (0, 3, .inl (fun _ => 0))]) rfl ?_
  exact zT.vret rfl rfl (by decide +kernel)
theorem k_X5_init : zOkC yy_X5_init 0 := ⟨⟨⟨zIn (w := 1039) (by decide +kernel) rfl, zIn (w := 1002) (by decide +kernel) rfl⟩, by decide +kernel⟩, by decide +kernel⟩
