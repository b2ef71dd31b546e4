/-! THE LAW'S START: the object and the reference are made -/
def zS0 (s : Nat → Int32) : zM := fun k => if k = 0 then s else fun _ => 0
noncomputable def zB1 (s : Nat → Int32) : zM := zPs (zS0 s) 1 191 zXI12
noncomputable def zB2 (s : Nat → Int32) : zM := zPs (zB1 s) 192 21 zMI12
def sh_s (Ns : Nat) : List va_E := [.inl (0, Ns, .inl (fun _ => 0))]
def sh_sx (Ns : Nat) : List va_E := sh_s Ns ++ (sh_X (fun _ => none) []).map (zRe 1)
noncomputable def sh_sxm (Ns : Nat) : List va_E := sh_sx Ns ++ (sh_Model (zGp zG0)).map (zRe 192)
noncomputable def sh_b (Ns : Nat) : List va_E := sh_sxm Ns ++ [.inl (5, 1, .inr (.inl (fun _ => 0)))]
theorem len_sx (Ns : Nat) : (sh_sx Ns).length = 192 := by
  unfold sh_sx sh_s
  rw [List.length_append, List.length_map, zX_len]
  rfl
theorem len_sxm (Ns : Nat) : (sh_sxm Ns).length = 213 := by
  unfold sh_sxm
  rw [List.length_append, List.length_map, len_sx]
  rfl
theorem zUa_id {M : zM} {n : Nat} (h : M n = fun _ => 0) : zUa M n (fun _ => 0) = M := by
  funext o
  by_cases c : o = n
  · rw [c, zUa_eq, h]
  · rw [zUa_ne c]
theorem zS0_n {s : Nat → Int32} {n : Nat} (h : n ≠ 0) : zS0 s n = fun _ => 0 := if_neg h
theorem zB1_n {s : Nat → Int32} {n : Nat} (h : 192 ≤ n) : zB1 s n = fun _ => 0 := by
  unfold zB1
  rw [zPs_out (by omega)]
  exact zS0_n (by omega)
theorem zB2_n {s : Nat → Int32} {n : Nat} (h : 213 ≤ n) : zB2 s n = fun _ => 0 := by
  unfold zB2
  rw [zPs_out (by omega)]
  exact zB1_n (by omega)
theorem cs_s {Ns n : Nat} : zCs n (sh_s Ns) := zCs.cons (zEb_ok rfl) (fun q h => absurd h List.not_mem_nil)
theorem cs_sx {Ns n : Nat} (h : 192 ≤ n) : zCs n (sh_sx Ns) := zCs.app cs_s ((zCs_re (b := 1) (n := 191) (zCs_X (Nat.le_refl 191) (fun j q hq => by cases hq) (zCs_of rfl))).mono (by omega))
theorem zG0_lt : ∀ j q, zGp zG0 j = some q → q < 21 := by
  intro j q e
  unfold zGp at e
  split at e
  · obtain rfl := Option.some.inj e
    show 3 + j < 21
    omega
  · cases e
theorem cs_sxm {Ns n : Nat} (h : 213 ≤ n) : zCs n (sh_sxm Ns) := zCs.app (cs_sx (by omega)) ((zCs_re (b := 192) (n := 21) (zCs_Mo zG0_lt)).mono (by omega))
set_option maxRecDepth 100000 in
theorem L_start {Z : zS → Prop} {kc nc : Nat} (s : Nat → Int32) (Ns : Nat) (k9 : zT yy_L_law kc nc Z (23, [some (.ref 0), some (.ref 1), some (.ref 192), some (.ref 213), some (.int 0), none, none, none, none], [], sh_b Ns, zB2 s)) : zT yy_L_law (213 + kc) (6501 + nc) Z (0, [some (.ref 0), none, none, none, none, none, none, none, none], [], sh_s Ns, zS0 s) := by
  have h1N : ∀ j, j < 1 → zM0 j = zS0 s (1 + j) := fun j hj => by
    obtain rfl : j = 0 := by omega
    rfl
  have h2N : ∀ j, j < 1 → zM0 j = zB1 s (192 + j) := fun j hj => by
    obtain rfl : j = 0 := by omega
    exact (zB1_n (by decide)).symm
  have nb : ∀ a n, a < n → Nat.blt a n = true := fun a n h => Nat.ble_eq_true_of_le h
  have hst : ∀ a n, a < n → ([.ref a] : List Value).all (zVb n) = true := fun a n h => by
    show (Nat.blt a n && true) = true
    rw [nb a n h]
    rfl
  rw [show 213 + kc = 1 + (190 + (1 + (20 + (1 + kc)))) by omega, show 6501 + nc = 8 + (3223 + (19 + (3250 + (1 + nc)))) by omega]
  refine zT.new (kc := 190 + (1 + (20 + (1 + kc)))) (nc := 3223 + (19 + (3250 + (1 + nc)))) (ci := 7) (ik := 8) (q := (RX9, TX9, 8)) (fs := [.null, .null, .null, .null, .null, .null, .null, .int 0]) rfl (zIn (w := 1024) (by decide +kernel) rfl) (zIn (w := 1025) (by decide +kernel) rfl) (zIn (w := 1001) (by decide +kernel) rfl) (by decide +kernel) rfl (fun _ _ => rfl) cs_s rfl rfl (by decide +kernel) ?_
  refine zT.eqM (M2 := zS0 s) (zUa_id (zS0_n (show (1 : Nat) ≠ 0 by decide))) ?_
  refine zT.eqSh (sh2 := sh_s Ns ++ [.inr (7, [.null, .null, .null, .null, .null, .null, .null, .int 0])]) rfl ?_
  refine zT.run [(.dup, 0, 0, 0)] (pe := 4) (ls' := [some (.ref 0), none, none, none, none, none, none, none, none]) (st' := [.ref 1, .ref 1]) (M' := zS0 s) (by decide +kernel) rfl ?_
  refine zT.eqSh (sh2 := sh_s Ns ++ [.inr (7, [.null, .null, .null, .null, .null, .null, .null, .int 0])].map (zRe 1)) rfl ?_
  refine zT.callI (kc := 1 + (20 + (1 + kc))) (nc := 19 + (3250 + (1 + nc))) (pre := sh_s Ns) (b := 1) (o := 0) (idx := 88) (av := []) (st := [.ref 1]) (n := 0) c_X9_init rfl rfl rfl cs_s rfl rfl h1N rfl k_X9_init rfl (zIn (w := 1027) (by decide +kernel) rfl) (zIn (w := 1026) (by decide +kernel) rfl) (by decide +kernel) (Nat.le_of_ble_eq_true rfl) (by decide +kernel) rfl ?_
  refine zT.eqSh (sh2 := sh_sx Ns) rfl ?_
  refine zT.eqM (M2 := zB1 s) (by rw [zX_len]; rfl) ?_
  refine zT.run [(.astore_n 1, 0, 0, 0)] (pe := 8) (ls' := [some (.ref 0), some (.ref 1), none, none, none, none, none, none, none]) (st' := []) (M' := zB1 s) (by decide +kernel) rfl ?_
  have l2 : zLb (sh_sx Ns).length [some (.ref 0), some (.ref 1), none, none, none, none, none, none, none] = true := by rw [len_sx]; rfl
  refine zT.new (kc := 20 + (1 + kc)) (nc := 3250 + (1 + nc)) (ci := 8) (ik := 89) (q := (RX10, TX10, 19)) (fs := [.int 0, .null, .null, .int 0, .null, .null, .null, .null, .int 0, .null, .int 0, .null, .int 0, .int 0, .int 0, .int 0, .int 0, .int 0, .int 0]) rfl (zIn (w := 5084) (by decide +kernel) rfl) (zIn (w := 5085) (by decide +kernel) rfl) (zIn (w := 1012) (by decide +kernel) rfl) (by decide +kernel) rfl (fun _ _ => rfl) (cs_sx (by rw [len_sx]; omega)) l2 rfl (by decide +kernel) ?_
  refine zT.eqM (M2 := zB1 s) (zUa_id (by rw [len_sx]; exact zB1_n (by decide))) ?_
  refine zT.eqS (st2 := [.ref 192]) (by rw [len_sx]) ?_
  refine zT.run [(.dup, 0, 0, 0)] (pe := 12) (ls' := [some (.ref 0), some (.ref 1), none, none, none, none, none, none, none]) (st' := [.ref 192, .ref 192]) (M' := zB1 s) (by decide +kernel) rfl ?_
  refine zT.eqSh (sh2 := sh_sx Ns ++ [.inr (8, [.int 0, .null, .null, .int 0, .null, .null, .null, .null, .int 0, .null, .int 0, .null, .int 0, .int 0, .int 0, .int 0, .int 0, .int 0, .int 0])].map (zRe 192)) rfl ?_
  refine zT.callI (kc := 1 + kc) (nc := 1 + nc) (pre := sh_sx Ns) (b := 192) (o := 0) (idx := 91) (av := []) (st := [.ref 192]) (n := 0) c_X10_init rfl rfl (len_sx Ns) (cs_sx (by omega)) rfl rfl h2N rfl k_X10_init rfl (zIn (w := 5087) (by decide +kernel) rfl) (zIn (w := 5086) (by decide +kernel) rfl) (by decide +kernel) (Nat.le_of_ble_eq_true rfl) (by decide +kernel) rfl ?_
  refine zT.eqSh (sh2 := sh_sxm Ns) rfl ?_
  refine zT.eqM (M2 := zB2 s) rfl ?_
  refine zT.run [(.astore_n 2, 0, 0, 0), (.iconst 1, 0, 0, 0)] (pe := 17) (ls' := [some (.ref 0), some (.ref 1), some (.ref 192), none, none, none, none, none, none]) (st' := [.int 1]) (M' := zB2 s) (by decide +kernel) rfl ?_
  have l3 : zLb (sh_sxm Ns).length [some (.ref 0), some (.ref 1), some (.ref 192), none, none, none, none, none, none] = true := by rw [len_sxm]; rfl
  refine zT.newa (kc := kc) (nc := nc) (t := 5) (N := 1) (aty := .long) (ty := .long) (z := .inr (.inl (fun _ => 0))) rfl (fun _ => rfl) (zIn (w := 7123) (by decide +kernel) rfl) (fun _ _ _ => rfl) (fun _ => rfl) rfl (by decide) (by decide) (cs_sxm (by rw [len_sxm]; omega)) l3 rfl (by decide +kernel) ?_
  refine zT.eqM (M2 := zB2 s) (zUa_id (by rw [len_sxm]; exact zB2_n (by decide))) ?_
  refine zT.eqS (st2 := [.ref 213]) (by rw [len_sxm]) ?_
  refine zT.eqSh (sh2 := sh_b Ns) rfl ?_
  refine zT.run [(.astore_n 3, 0, 0, 0), (.iconst 0, 0, 0, 0), (.istore 4, 0, 0, 0)] (pe := 23) (ls' := [some (.ref 0), some (.ref 1), some (.ref 192), some (.ref 213), some (.int 0), none, none, none, none]) (st' := []) (M' := zB2 s) (by decide +kernel) rfl ?_
  exact k9
