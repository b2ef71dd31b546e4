/-! THE LAW'S START: the object and the reference are made -/
noncomputable def zB1 : zM := zPs zM0 0 191 zXI12
noncomputable def zB2 : zM := zPs zB1 191 21 zMI12
def sh_sx : List va_E := (sh_X (fun _ => none) []).map (zRe 0)
noncomputable def sh_sxm : List va_E := sh_sx ++ (sh_Model (zGp zG0)).map (zRe 191)
noncomputable def sh_b : List va_E := sh_sxm ++ [.inl (5, 1, .inr (.inl (fun _ => 0)))]
theorem len_sx : sh_sx.length = 191 := by
  unfold sh_sx
  rw [List.length_map, zX_len]
  rfl
theorem len_sxm : sh_sxm.length = 212 := by
  unfold sh_sxm
  rw [List.length_append, List.length_map, len_sx]
  rfl
theorem len_b : sh_b.length = 213 := by
  unfold sh_b
  rw [List.length_append, len_sxm]
  rfl
theorem zUa_id {M : zM} {n : Nat} (h : M n = fun _ => 0) : zUa M n (fun _ => 0) = M := by
  funext o
  by_cases c : o = n
  · rw [c, zUa_eq, h]
  · rw [zUa_ne c]
theorem zB1_n {n : Nat} (h : 191 ≤ n) : zB1 n = fun _ => 0 := by
  unfold zB1
  rw [zPs_out (by omega)]
  rfl
theorem zB2_n {n : Nat} (h : 212 ≤ n) : zB2 n = fun _ => 0 := by
  unfold zB2
  rw [zPs_out (by omega)]
  exact zB1_n (by omega)
theorem cs_x : zCs 191 (sh_X (fun _ => none) []) := zCs_X (Nat.le_refl 191) (fun j q hq => by cases hq) (zCs_of rfl)
theorem cs_sx {n : Nat} (h : 191 ≤ n) : zCs n sh_sx := (zCs_re (b := 0) (n := 191) cs_x).mono (by omega)
theorem zG0_lt : ∀ j q, zGp zG0 j = some q → q < 21 := by
  intro j q e
  unfold zGp at e
  split at e
  · obtain rfl := Option.some.inj e
    show 3 + j < 21
    omega
  · cases e
theorem cs_sxm {n : Nat} (h : 212 ≤ n) : zCs n sh_sxm := zCs.app (cs_sx (by omega)) ((zCs_re (b := 191) (n := 21) (zCs_Mo zG0_lt)).mono (by omega))
set_option maxRecDepth 100000 in
theorem L_start {Z : zS → Prop} {kc nc : Nat} (k9 : zT yy_L_law kc nc Z (23, [some (.retAddr 998), some (.ref 0), some (.ref 191), some (.ref 212), some (.int 0), none, none, none, none], [], sh_b, zB2)) : zT yy_L_law (213 + kc) (6501 + nc) Z (0, [some (.retAddr 998), none, none, none, none, none, none, none, none], [], [], zM0) := by
  have h1N : ∀ j, j < 1 → zM0 j = zM0 (0 + j) := fun j _ => rfl
  have h2N : ∀ j, j < 1 → zM0 j = zB1 (191 + j) := fun j hj => by
    obtain rfl : j = 0 := by omega
    exact (zB1_n (by decide)).symm
  rw [show 213 + kc = 1 + (190 + (1 + (20 + (1 + kc)))) by omega, show 6501 + nc = 8 + (3223 + (19 + (3250 + (1 + nc)))) by omega]
  refine zT.new (kc := 190 + (1 + (20 + (1 + kc)))) (nc := 3223 + (19 + (3250 + (1 + nc)))) (ci := 7) (ik := 8) (q := (RX9, TX9, 8)) (fs := [.null, .null, .null, .null, .null, .null, .null, .int 0]) rfl (zIn (w := 1024) (by decide +kernel) rfl) (zIn (w := 1025) (by decide +kernel) rfl) (zIn (w := 1001) (by decide +kernel) rfl) (by decide +kernel) rfl (fun _ _ => rfl) (fun q h => absurd h List.not_mem_nil) rfl rfl (by decide +kernel) ?_
  refine zT.eqM (M2 := zM0) zUa0 ?_
  refine zT.eqSh (sh2 := [.inr (7, [.null, .null, .null, .null, .null, .null, .null, .int 0])]) rfl ?_
  refine zT.run [(.dup, 0, 0, 0)] (pe := 4) (ls' := [some (.retAddr 998), none, none, none, none, none, none, none, none]) (st' := [.ref 0, .ref 0]) (M' := zM0) (by decide +kernel) rfl ?_
  refine zT.eqSh (sh2 := [] ++ [.inr (7, [.null, .null, .null, .null, .null, .null, .null, .int 0])].map (zRe 0)) rfl ?_
  refine zT.callI (kc := 1 + (20 + (1 + kc))) (nc := 19 + (3250 + (1 + nc))) (pre := []) (b := 0) (o := 0) (idx := 88) (av := []) (st := [.ref 0]) (n := 0) c_X9_init rfl rfl rfl (fun q h => absurd h List.not_mem_nil) rfl rfl h1N rfl k_X9_init rfl (zIn (w := 1027) (by decide +kernel) rfl) (zIn (w := 1026) (by decide +kernel) rfl) (by decide +kernel) (Nat.le_of_ble_eq_true rfl) (by decide +kernel) rfl ?_
  refine zT.eqSh (sh2 := sh_sx) rfl ?_
  refine zT.eqM (M2 := zB1) (by rw [zX_len]; rfl) ?_
  refine zT.run [(.astore_n 1, 0, 0, 0)] (pe := 8) (ls' := [some (.retAddr 998), some (.ref 0), none, none, none, none, none, none, none]) (st' := []) (M' := zB1) (by decide +kernel) rfl ?_
  have l2 : zLb sh_sx.length [some (.retAddr 998), some (.ref 0), none, none, none, none, none, none, none] = true := by rw [len_sx]; rfl
  refine zT.new (kc := 20 + (1 + kc)) (nc := 3250 + (1 + nc)) (ci := 8) (ik := 89) (q := (RX10, TX10, 19)) (fs := [.int 0, .null, .null, .int 0, .null, .null, .null, .null, .int 0, .null, .int 0, .null, .int 0, .int 0, .int 0, .int 0, .int 0, .int 0, .int 0]) rfl (zIn (w := 5084) (by decide +kernel) rfl) (zIn (w := 5085) (by decide +kernel) rfl) (zIn (w := 1012) (by decide +kernel) rfl) (by decide +kernel) rfl (fun _ _ => rfl) (cs_sx (by rw [len_sx]; omega)) l2 rfl (by decide +kernel) ?_
  refine zT.eqM (M2 := zB1) (zUa_id (by rw [len_sx]; exact zB1_n (by decide))) ?_
  refine zT.eqS (st2 := [.ref 191]) (by rw [len_sx]) ?_
  refine zT.run [(.dup, 0, 0, 0)] (pe := 12) (ls' := [some (.retAddr 998), some (.ref 0), none, none, none, none, none, none, none]) (st' := [.ref 191, .ref 191]) (M' := zB1) (by decide +kernel) rfl ?_
  refine zT.eqSh (sh2 := sh_sx ++ [.inr (8, [.int 0, .null, .null, .int 0, .null, .null, .null, .null, .int 0, .null, .int 0, .null, .int 0, .int 0, .int 0, .int 0, .int 0, .int 0, .int 0])].map (zRe 191)) rfl ?_
  refine zT.callI (kc := 1 + kc) (nc := 1 + nc) (pre := sh_sx) (b := 191) (o := 0) (idx := 91) (av := []) (st := [.ref 191]) (n := 0) c_X10_init rfl rfl len_sx (cs_sx (by omega)) rfl rfl h2N rfl k_X10_init rfl (zIn (w := 5087) (by decide +kernel) rfl) (zIn (w := 5086) (by decide +kernel) rfl) (by decide +kernel) (Nat.le_of_ble_eq_true rfl) (by decide +kernel) rfl ?_
  refine zT.eqSh (sh2 := sh_sxm) rfl ?_
  refine zT.eqM (M2 := zB2) rfl ?_
  refine zT.run [(.astore_n 2, 0, 0, 0), (.iconst 1, 0, 0, 0)] (pe := 17) (ls' := [some (.retAddr 998), some (.ref 0), some (.ref 191), none, none, none, none, none, none]) (st' := [.int 1]) (M' := zB2) (by decide +kernel) rfl ?_
  have l3 : zLb sh_sxm.length [some (.retAddr 998), some (.ref 0), some (.ref 191), none, none, none, none, none, none] = true := by rw [len_sxm]; rfl
  refine zT.newa (kc := kc) (nc := nc) (t := 5) (N := 1) (aty := .long) (ty := .long) (z := .inr (.inl (fun _ => 0))) rfl (fun _ => rfl) (zIn (w := 7123) (by decide +kernel) rfl) (fun _ _ _ => rfl) (fun _ => rfl) rfl (by decide) (by decide) (cs_sxm (by rw [len_sxm]; omega)) l3 rfl (by decide +kernel) ?_
  refine zT.eqM (M2 := zB2) (zUa_id (by rw [len_sxm]; exact zB2_n (by decide))) ?_
  refine zT.eqS (st2 := [.ref 212]) (by rw [len_sxm]) ?_
  refine zT.eqSh (sh2 := sh_b) rfl ?_
  refine zT.run [(.astore_n 3, 0, 0, 0), (.iconst 0, 0, 0, 0), (.istore 4, 0, 0, 0)] (pe := 23) (ls' := [some (.retAddr 998), some (.ref 0), some (.ref 191), some (.ref 212), some (.int 0), none, none, none, none]) (st' := []) (M' := zB2) (by decide +kernel) rfl ?_
  exact k9
/-! The same cells in another order -/
def zPi (k : Nat) : Nat := if k < 21 then 191 + k else if k = 21 then 212 else k - 22
theorem zPi_lt {k : Nat} (h : k < 213) : zPi k < 213 := by
  unfold zPi
  split
  · omega
  · split <;> omega
theorem zPi_inj {i j : Nat} (hi : i < 213) (hj : j < 213) (h : zPi i = zPi j) : i = j := by
  unfold zPi at h
  (repeat' split at h) <;> omega
theorem blk {cA : Nat → ClassId} {as as' ex : Nat → Nat} {M M' : zM} {sh sh' sc : List va_E} {b b' n : Nat} (h : zSub sh b sc) (h' : zSub sh' b' sc) (hc : zCs n sc) (hn : sc.length = n) (hM : ∀ j, j < n → M' (b' + j) = M (b + j)) (ha : ∀ j, j < n → as' (b' + j) = as (b + j)) {j : Nat} (hj : j < n) : (zWd cA as' ex M' 0 sh')[b' + j]? = (zWd cA as ex M 0 sh)[b + j]? := by
  rw [zWd_get, zWd_get, h j (by omega), h' j (by omega)]
  cases e : zSg sc j with
  | none => rfl
  | some q =>
    have hq : q ∈ sc := by
      rw [zSg_eq] at e
      exact List.mem_of_getElem? e
    show some (as' (0 + (b' + j)), zTrE cA as' ex (zMkE (M' (0 + (b' + j))) (zRe b' q))) = some (as (0 + (b + j)), zTrE cA as ex (zMkE (M (0 + (b + j))) (zRe b q)))
    rw [Nat.zero_add, Nat.zero_add, ha j hj, hM j hj, ← zTrE_re, ← zTrE_re, hc q hq (fun k => as (b + k)) (fun k => as' (b' + k)) (fun k hk => ha k hk)]
theorem zSub_mid {a sc t : List va_E} {b : Nat} (ha : a.length = b) : zSub (a ++ sc.map (zRe b) ++ t) b sc := by
  subst ha
  intro j hj
  rw [zSg_eq, zSg_eq, List.append_assoc, List.getElem?_append_right (Nat.le_add_right _ _), Nat.add_sub_cancel_left, List.getElem?_append_left (by rw [List.length_map]; exact hj), List.getElem?_map]
theorem sub_bX : zSub sh_b 0 (sh_X (fun _ => none) []) := by
  have := zSub_mid (a := []) (sc := sh_X (fun _ => none) []) (t := (sh_Model (zGp zG0)).map (zRe 191) ++ [.inl (5, 1, .inr (.inl (fun _ => 0)))]) (b := 0) rfl
  have e : [] ++ (sh_X (fun _ => none) []).map (zRe 0) ++ ((sh_Model (zGp zG0)).map (zRe 191) ++ [.inl (5, 1, .inr (.inl (fun _ => 0)))]) = sh_b := by
    rw [← List.append_assoc]
    rfl
  rw [e] at this
  exact this
theorem sub_bM : zSub sh_b 191 (sh_Model (zGp zG0)) := zSub_mid (a := sh_sx) len_sx
theorem sub_bL : zSub sh_b 212 [.inl (5, 1, .inr (.inl (fun _ => 0)))] := by
  have := zSub_mid (a := sh_sxm) (sc := [.inl (5, 1, .inr (.inl (fun _ => 0)))]) (t := []) len_sxm
  rw [List.append_nil] at this
  exact this
theorem sub_WL {Ns : Nat} {gp : Nat → Option Nat} : zSub (sh_W Ns gp (fun _ => 0) (fun _ => none) []) 21 [.inl (5, 1, .inr (.inl (fun _ => 0)))] := fun j hj => by
  have hj' : j < 1 := hj
  obtain rfl : j = 0 := by omega
  rfl
theorem wd_perm {cA : Nat → ClassId} {as ex : Nat → Nat} (s : Nat → Int32) (Ns : Nat) {k : Nat} (hk : k < 213) : (zWd cA (fun k => as (zPi k)) ex (zJ s zMI12 zXI12) 0 (sh_W Ns (zGp zG0) (fun _ => 0) (fun _ => none) []))[k]? = (zWd cA as ex zB2 0 sh_b)[zPi k]? := by
  by_cases c1 : k < 21
  · have := blk (cA := cA) (as := as) (as' := fun k => as (zPi k)) (ex := ex) (M := zB2) (M' := zJ s zMI12 zXI12) (sub_bM) (sub_W1 (Ns := Ns) (gp := zGp zG0) (ob := fun _ => 0) (sl := fun _ => none) (ext := [])) (zCs_Mo zG0_lt) rfl (fun j hj => by
      rw [← zJ_in hj]
      unfold zB2
      rw [zPs_in (by omega) (by omega), Nat.add_sub_cancel_left]) (fun j hj => by
      show as (zPi (0 + j)) = as (191 + j)
      congr 1
      unfold zPi
      rw [if_pos (by omega), Nat.zero_add]) c1
    rw [Nat.zero_add] at this
    rw [this]
    unfold zPi
    rw [if_pos c1]
  · by_cases c2 : k = 21
    · subst c2
      exact blk (cA := cA) (as := as) (as' := fun k => as (zPi k)) (ex := ex) (M := zB2) (M' := zJ s zMI12 zXI12) (n := 1) (j := 0) sub_bL sub_WL (zCs_of rfl) rfl (fun j hj => by
        obtain rfl : j = 0 := by omega
        rw [zB2_n (by decide)]
        rfl) (fun j hj => by
        obtain rfl : j = 0 := by omega
        rfl) (by decide)
    · have := blk (cA := cA) (as := as) (as' := fun k => as (zPi k)) (ex := ex) (M := zB2) (M' := zJ s zMI12 zXI12) (j := k - 22) (sub_bX) (sub_W23 (Ns := Ns) (gp := zGp zG0) (ob := fun _ => 0) (sl := fun _ => none) (ext := [])) cs_x (zX_len _ _) (fun j hj => by
        rw [← zJ_inx]
        unfold zB2 zB1
        rw [zPs_out (by omega), zPs_in (by omega) (by omega), Nat.sub_zero, Nat.zero_add]) (fun j hj => by
        show as (zPi (22 + j)) = as (0 + j)
        congr 1
        unfold zPi
        rw [if_neg (by omega), if_neg (by omega), Nat.zero_add, Nat.add_sub_cancel_left]) (by omega)
      rw [show 22 + (k - 22) = k by omega, Nat.zero_add] at this
      rw [this]
      unfold zPi
      rw [if_neg c1, if_neg c2]
theorem zV_perm {Z : zS → Prop} {kc nc : Nat} (s : Nat → Int32) (Ns : Nat) (k9 : zV s Ns kc nc Z (23, [some (.retAddr 998), some (.ref 22), some (.ref 0), some (.ref 21), some (.int (nI (6 * 0))), none, none, none, none], [], sh_W Ns (zGp zG0) (fun _ => 0) (fun _ => none) [], zJ s zMI12 zXI12)) : zV s Ns kc nc Z (23, [some (.retAddr 998), some (.ref 0), some (.ref 191), some (.ref 212), some (.int 0), none, none, none, none], [], sh_b, zB2) := by
  intro p l e R s0 m args below meth c D cA ex A E hX Q cells slots as g1 g2 kk H locs lsR hP hD hS hl
  have hlen : ∀ k q, (zWd cA (fun k => as (zPi k)) ex (zJ s zMI12 zXI12) 0 (sh_W Ns (zGp zG0) (fun _ => 0) (fun _ => none) []))[k]? = some q → k < 213 := fun k q hq => by
    have := (List.getElem?_eq_some_iff.mp hq).1
    rw [zWd_len, len_W] at this
    exact this
  refine k9 p l e R s0 m args below meth c D cA ex A E hX Q cells slots (fun k => as (zPi k)) g1 g2 kk H locs lsR (fun k q hq => ?_) ⟨fun i j p q hi hj hpq => ?_, fun k q hq => ?_⟩ hS ?_
  · have hk := hlen k q hq
    rw [wd_perm s Ns hk] at hq
    exact hP _ q hq
  · have h1 := hlen i p hi
    have h2 := hlen j q hj
    rw [wd_perm s Ns h1] at hi
    rw [wd_perm s Ns h2] at hj
    exact zPi_inj h1 h2 (hD.1 _ _ p q hi hj hpq)
  · have hk := hlen k q hq
    rw [wd_perm s Ns hk] at hq
    exact hD.2 _ q hq
  · show lv_has lsR 9 (zLv (fun k => as (zPi k)) ex 0 [some (.retAddr 998), some (.ref 22), some (.ref 0), some (.ref 21), some (.int (nI (6 * 0))), none, none, none, none])
    rw [show nI (6 * 0) = 0 from nI_0]
    exact hl
/-- the whole walk of the law -/
theorem L_walk (s : Nat → Int32) (Ns : Nat) (hNs : Ns ≤ 3072) : zV s Ns 601024 7293034 zFin (0, [some (.retAddr 998), none, none, none, none, none, none, none, none], [], [], zM0) := by
  have h1 := L_loop s Ns hNs 1 (by decide) (fun _ => 0, zG0, fun _ => none, [], zMI12, zXI12) b_E
  have h2 := zV.via (L_start (kc := 0) (nc := 0) (zT.here rfl)) (zV_perm s Ns h1)
  exact h2.widen (by decide) (by decide)
