/-! THE LAW: the text goes to the office, by twenty letters -/
abbrev row5 : va_E := .inl (0, 5, .inl fun _ => 0)
theorem zLb_app {n : Nat} {a b : zL} (h1 : zLb n a = true) (h2 : zLb n b = true) : zLb n (a ++ b) = true := by
  unfold zLb at *
  rw [List.all_append, h1, h2]
  rfl
theorem row5_sh (B sc : List va_E) : (B ++ sc.map (zRe B.length)) ++ [row5] = B ++ (sc ++ [row5]).map (zRe B.length) := by
  rw [List.map_append, List.append_assoc]
  rfl
theorem tot_len (B sc : List va_E) : (B ++ sc.map (zRe B.length)).length = B.length + sc.length := by
  rw [List.length_append, List.length_map]
theorem row5_at (B sc : List va_E) : zSg (B ++ (sc ++ [row5]).map (zRe B.length)) (B.length + sc.length) = some row5 := by
  rw [← row5_sh, ← tot_len B sc]
  exact zSg_last
theorem gd_lt {t : List Nat} {j : Nat} (h : j < t.length) : t.getD j 32 = t.getD j 0 := by
  rw [List.getD_eq_getElem?_getD, List.getD_eq_getElem?_getD, List.getElem?_eq_getElem h]
  rfl
theorem gd_ge {t : List Nat} {j : Nat} (h : t.length ≤ j) : t.getD j 32 = 32 := by
  rw [List.getD_eq_getElem?_getD, List.getElem?_eq_none h]
  rfl
theorem w_began104 {B : List va_E} {x : zM} (hcs : zCs B.length B) {n : Nat} {Z : zS → Prop} {t : List Nat} (ht : t.length ≤ 249) (hT : ∀ j, t.getD j 32 < 128) {K D at_ q : Nat} (hat : at_ ≤ 260) {sc : List va_E} {M0 : zM} (hS0 : SB sc (zPl M0 B.length) t q) (next : ∀ (M : zM) (l7 : Option Int32), (∀ o, o ≠ B.length + sc.length → M o = M0 o) → (∀ j, j < 5 → M (B.length + sc.length) j = r20 (fun i => t.getD (at_ + i) 32) 20 j) → zT yy_L_began (K) (D) Z (168, [some (.ref 0), some (.retAddr 998), some (.ref B.length), some (.int (nI n)), some (.int (nI at_)), some (.ref (B.length + sc.length)), some (.int (nI 20)), (l7.map Value.int)], [], (B ++ (sc ++ [row5]).map (zRe B.length)), M)) : ∀ (j i : Nat) (M : zM) (l7 : Option Int32), i + j = 20 → (∀ o, o ≠ B.length + sc.length → M o = M0 o) → (∀ j, j < 5 → M (B.length + sc.length) j = r20 (fun i => t.getD (at_ + i) 32) i j) → zT yy_L_began (K) (D) Z (104, [some (.ref 0), some (.retAddr 998), some (.ref B.length), some (.int (nI n)), some (.int (nI at_)), some (.ref (B.length + sc.length)), some (.int (nI i)), (l7.map Value.int)], [], (B ++ (sc ++ [row5]).map (zRe B.length)), M) := by
  intro j
  induction j with
  | zero =>
    intro i M l7 hi hM hrow
    obtain rfl : 20 = i := by omega
    refine zT.run [(.iload 6, 0, 0, 0), (.bipush 20, 0, 0, 0)] (pe := 108) (ls' := [some (.ref 0), some (.retAddr 998), some (.ref B.length), some (.int (nI n)), some (.int (nI at_)), some (.ref (B.length + sc.length)), some (.int (nI 20)), (l7.map Value.int)]) (st' := [.int 20, .int (nI 20)]) (M' := M) (by decide +kernel) rfl ?_
    refine zT.cge (tgt := 168) (off := 60) (by decide +kernel) (by decide) (fun _ => next M l7 hM hrow) (fun c => absurd (by decide) c)
  | succ j ih =>
    intro i M l7 hi hM hrow
    have hS : SB (sc ++ [row5]) (zPl M B.length) t q := (hS0.congr (fun o ho => hM (B.length + o) (by omega))).more (zEb_ok rfl)
    refine zT.run [(.iload 6, 0, 0, 0), (.bipush 20, 0, 0, 0)] (pe := 108) (ls' := [some (.ref 0), some (.retAddr 998), some (.ref B.length), some (.int (nI n)), some (.int (nI at_)), some (.ref (B.length + sc.length)), some (.int (nI i)), (l7.map Value.int)]) (st' := [.int 20, .int (nI i)]) (M' := M) (by decide +kernel) rfl ?_
    refine zT.cge (tgt := 168) (off := 60) (by decide +kernel) (by decide) (fun c => absurd (show nI 20 ≤ nI i from c) (nI_ge (a := i) (b := 20) (by omega) (by decide))) (fun _ => ?_)
    have n137 : zT yy_L_began K D Z (137, [some (.ref 0), some (.retAddr 998), some (.ref B.length), some (.int (nI n)), some (.int (nI at_)), some (.ref (B.length + sc.length)), some (.int (nI i)), (l7.map Value.int)], [.int (nI (t.getD (at_ + i) 32))], (B ++ (sc ++ [row5]).map (zRe B.length)), M) := by
      refine zT.run [(.istore 7, 0, 0, 0), (.aload 5, 0, 0, 0), (.iload 6, 0, 0, 0), (.iconst 4, 0, 0, 0), (.idiv, 0, 0, 0)] (pe := 145) (ls' := [some (.ref 0), some (.retAddr 998), some (.ref B.length), some (.int (nI n)), some (.int (nI at_)), some (.ref (B.length + sc.length)), some (.int (nI i)), some (.int (nI (t.getD (at_ + i) 32)))]) (st' := [.int ((nI i) / 4), .ref (B.length + sc.length)]) (M' := M) (by decide +kernel) rfl ?_
      rw [nI_div (c := 4) (b := 4) rfl (by omega) (by decide) (by decide)]
      refine zT.run [(.dup2, 0, 0, 0)] (pe := 146) (ls' := [some (.ref 0), some (.retAddr 998), some (.ref B.length), some (.int (nI n)), some (.int (nI at_)), some (.ref (B.length + sc.length)), some (.int (nI i)), some (.int (nI (t.getD (at_ + i) 32)))]) (st' := [.int (nI (i / 4)), .ref (B.length + sc.length), .int (nI (i / 4)), .ref (B.length + sc.length)]) (M' := M) (by decide +kernel) rfl ?_
      refine zT.iald (k := i / 4) (row5_at B sc) rfl (by omega) (by decide) (by decide +kernel) ?_
      rw [hrow (i / 4) (by omega)]
      refine zT.run [(.iload 7, 0, 0, 0), (.bipush 24, 0, 0, 0), (.bipush 8, 0, 0, 0), (.iload 6, 0, 0, 0), (.iconst 4, 0, 0, 0), (.irem, 0, 0, 0)] (pe := 157) (ls' := [some (.ref 0), some (.retAddr 998), some (.ref B.length), some (.int (nI n)), some (.int (nI at_)), some (.ref (B.length + sc.length)), some (.int (nI i)), some (.int (nI (t.getD (at_ + i) 32)))]) (st' := [.int ((nI i) - (nI i) / 4 * 4), .int 8, .int 24, .int (nI (t.getD (at_ + i) 32)), .int (r20 (fun i => t.getD (at_ + i) 32) i (i / 4)), .int (nI (i / 4)), .ref (B.length + sc.length)]) (M' := M) (by decide +kernel) rfl ?_
      rw [nI_rem (c := 4) (b := 4) rfl (by omega) (by decide) (by decide)]
      refine zT.run [(.imul, 0, 0, 0)] (pe := 158) (ls' := [some (.ref 0), some (.retAddr 998), some (.ref B.length), some (.int (nI n)), some (.int (nI at_)), some (.ref (B.length + sc.length)), some (.int (nI i)), some (.int (nI (t.getD (at_ + i) 32)))]) (st' := [.int (8 * (nI (i % 4))), .int 24, .int (nI (t.getD (at_ + i) 32)), .int (r20 (fun i => t.getD (at_ + i) 32) i (i / 4)), .int (nI (i / 4)), .ref (B.length + sc.length)]) (M' := M) (by decide +kernel) rfl ?_
      rw [nI_mulc (c := 8) (k := 8) rfl]
      refine zT.run [(.isub, 0, 0, 0)] (pe := 159) (ls' := [some (.ref 0), some (.retAddr 998), some (.ref B.length), some (.int (nI n)), some (.int (nI at_)), some (.ref (B.length + sc.length)), some (.int (nI i)), some (.int (nI (t.getD (at_ + i) 32)))]) (st' := [.int (24 - (nI (8 * (i % 4)))), .int (nI (t.getD (at_ + i) 32)), .int (r20 (fun i => t.getD (at_ + i) 32) i (i / 4)), .int (nI (i / 4)), .ref (B.length + sc.length)]) (M' := M) (by decide +kernel) rfl ?_
      rw [show (24 : Int32) - nI (8 * (i % 4)) = nI (24 - 8 * (i % 4)) from pk_sub (a := 24) (b := 8 * (i % 4)) (by omega)]
      refine zT.run [(.ishl, 0, 0, 0), (.ior, 0, 0, 0)] (pe := 161) (ls' := [some (.ref 0), some (.retAddr 998), some (.ref B.length), some (.int (nI n)), some (.int (nI at_)), some (.ref (B.length + sc.length)), some (.int (nI i)), some (.int (nI (t.getD (at_ + i) 32)))]) (st' := [.int ((r20 (fun i => t.getD (at_ + i) 32) i (i / 4)) ||| ((nI (t.getD (at_ + i) 32)) <<< ((nI (24 - 8 * (i % 4))) &&& 31))), .int (nI (i / 4)), .ref (B.length + sc.length)]) (M' := M) (by decide +kernel) rfl ?_
      refine zT.iast (k := i / 4) (row5_at B sc) rfl (by omega) (by decide) (by decide +kernel) ?_
      refine zT.run [(.iinc 6 1, 0, 0, 0), (.goto (-61), 0, 0, 0)] (pe := 104) (ls' := [some (.ref 0), some (.retAddr 998), some (.ref B.length), some (.int (nI n)), some (.int (nI at_)), some (.ref (B.length + sc.length)), some (.int ((nI i) + 1)), some (.int (nI (t.getD (at_ + i) 32)))]) (st' := []) (M' := (zU M (B.length + sc.length) (i / 4) ((r20 (fun i => t.getD (at_ + i) 32) i (i / 4)) ||| ((nI (t.getD (at_ + i) 32)) <<< ((nI (24 - 8 * (i % 4))) &&& 31))))) (by decide +kernel) rfl ?_
      rw [nI_1]
      refine ih (i + 1) _ (some (nI (t.getD (at_ + i) 32))) (by omega) (fun o ho => (zU_ne ho).trans (hM o ho)) (fun j hj => ?_)
      rw [zU_c]
      show _ = if j = i / 4 then r20 (fun i => t.getD (at_ + i) 32) i j ||| (nI (t.getD (at_ + i) 32) <<< (nI (24 - 8 * (i % 4)) &&& 31)) else r20 (fun i => t.getD (at_ + i) 32) i j
      by_cases e : j = i / 4
      · rw [if_pos e, if_pos e, e]
      · rw [if_neg e, if_neg e]
        exact hrow j hj
    refine zT.run [(.iload 4, 0, 0, 0), (.iload 6, 0, 0, 0), (.iadd, 0, 0, 0)] (pe := 116) (ls' := [some (.ref 0), some (.retAddr 998), some (.ref B.length), some (.int (nI n)), some (.int (nI at_)), some (.ref (B.length + sc.length)), some (.int (nI i)), (l7.map Value.int)]) (st' := [.int ((nI at_) + (nI i))]) (M' := M) (by decide +kernel) rfl ?_
    rw [nI_add]
    refine zT.run [(.aload_n 2, 0, 0, 0)] (pe := 117) (ls' := [some (.ref 0), some (.retAddr 998), some (.ref B.length), some (.int (nI n)), some (.int (nI at_)), some (.ref (B.length + sc.length)), some (.int (nI i)), (l7.map Value.int)]) (st' := [.ref B.length, .int (nI (at_ + i))]) (M' := M) (by decide +kernel) rfl ?_
    refine zT.sbq (idx := 99) (av := []) (st := [.int (nI (at_ + i))]) (RV := some (.int (nI t.length))) (c_J4_lengthB hS) (sbO hS) hcs (zLb_up (n := B.length + sc.length + 1) (by cases l7 <;> simp [zLb, zVb] <;> omega) (by simp; omega)) (by simp [zVb]) rfl rfl k_J4_length_8abf5 rfl (zIn (w := 3166) (by decide +kernel) rfl) (by decide +kernel) (Nat.le_of_ble_eq_true rfl) (by decide +kernel) rfl ?_
    show zT _ _ _ _ (120, _, [.int (nI t.length), .int (nI (at_ + i))], _, _)
    refine zT.cge (tgt := 135) (off := 15) (by decide +kernel) (by decide) (fun c => ?_) (fun c => ?_)
    · skip
      have hge : t.length ≤ at_ + i := Nat.le_of_not_lt fun e => absurd c (nI_ge (a := at_ + i) (b := t.length) e (by omega))
      rw [gd_ge hge] at n137
      refine zT.run [(.bipush 32, 0, 0, 0)] (pe := 137) (ls' := [some (.ref 0), some (.retAddr 998), some (.ref B.length), some (.int (nI n)), some (.int (nI at_)), some (.ref (B.length + sc.length)), some (.int (nI i)), (l7.map Value.int)]) (st' := [.int 32]) (M' := M) (by decide +kernel) rfl ?_
      exact n137
    · skip
      have hlt : at_ + i < t.length := Nat.lt_of_not_le fun e => c (nI_le e (by omega))
      rw [gd_lt hlt] at n137
      refine zT.run [(.aload_n 2, 0, 0, 0), (.iload 4, 0, 0, 0), (.iload 6, 0, 0, 0), (.iadd, 0, 0, 0)] (pe := 129) (ls' := [some (.ref 0), some (.retAddr 998), some (.ref B.length), some (.int (nI n)), some (.int (nI at_)), some (.ref (B.length + sc.length)), some (.int (nI i)), (l7.map Value.int)]) (st' := [.int ((nI at_) + (nI i)), .ref B.length]) (M' := M) (by decide +kernel) rfl ?_
      rw [nI_add]
      refine zT.sbq (idx := 103) (av := [.int (nI (at_ + i))]) (st := []) (RV := some (.int (nI (t.getD (at_ + i) 0)))) (c_J4_charAtB hS hlt (by rw [← gd_lt hlt]; exact hT _)) (sbO hS) hcs (zLb_up (n := B.length + sc.length + 1) (by cases l7 <;> simp [zLb, zVb] <;> omega) (by simp; omega)) (by simp [zVb]) rfl rfl k_J4_charAt_5068e rfl (zIn (w := 3173) (by decide +kernel) rfl) (by decide +kernel) (Nat.le_of_ble_eq_true rfl) (by decide +kernel) rfl ?_
      show zT _ _ _ _ (132, _, [.int (nI (t.getD (at_ + i) 0))], _, _)
      refine zT.run [(.goto 5, 0, 0, 0)] (pe := 137) (ls' := [some (.ref 0), some (.retAddr 998), some (.ref B.length), some (.int (nI n)), some (.int (nI at_)), some (.ref (B.length + sc.length)), some (.int (nI i)), (l7.map Value.int)]) (st' := [.int (nI (t.getD (at_ + i) 0))]) (M' := M) (by decide +kernel) rfl ?_
      exact n137
theorem r20_at (T : Nat → Nat) (ty : Nat) : (r20 (fun i => T (ty + i)) 20 0 = pk4 (T ty) (T (ty + 1)) (T (ty + 2)) (T (ty + 3)) ∧ r20 (fun i => T (ty + i)) 20 1 = pk4 (T (ty + 4)) (T (ty + 5)) (T (ty + 6)) (T (ty + 7)) ∧ r20 (fun i => T (ty + i)) 20 2 = pk4 (T (ty + 8)) (T (ty + 9)) (T (ty + 10)) (T (ty + 11))) ∧ r20 (fun i => T (ty + i)) 20 3 = pk4 (T (ty + 12)) (T (ty + 13)) (T (ty + 14)) (T (ty + 15)) ∧ r20 (fun i => T (ty + i)) 20 4 = pk4 (T (ty + 16)) (T (ty + 17)) (T (ty + 18)) (T (ty + 19)) := ⟨⟨r20_0 _, r20_1 _, r20_2 _⟩, r20_3 _, r20_4 _⟩
set_option maxRecDepth 100000 in
theorem ext_X {sl : Nat → Option Nat} {ext r : List va_E} : sh_X sl ext ++ r = sh_X sl (ext ++ r) := rfl
theorem w_began87 {B : List va_E} {x : zM} {sl : Nat → Option Nat} {ext : List va_E} (eB : B = sh_X sl ext) (hB : 191 ≤ B.length) (hcs : zCs B.length B) {n : Nat} {Z : zS → Prop} {t : List Nat} (ht : t.length ≤ 249) (hT : ∀ j, t.getD j 32 < 128) (next : ∀ (k : Nat) (sc : List va_E) (M : zM) (q : Nat) (l5 l6 l7 : Option Value), t.length ≤ 20 * k → k ≤ 13 → SB sc (zPl M B.length) t q → tX (20 * k) (fun j => t.getD j 32) (zPl M 2) → (∀ o, 4 ≤ o → o < B.length → M o = x o) → zT yy_L_began (0) (0) Z (199, [some (.ref 0), some (.retAddr 998), some (.ref B.length), some (.int (nI n)), some (.int (nI (20 * k))), l5, l6, l7], [], (B ++ sc.map (zRe B.length)), M)) : ∀ (j k : Nat) (sc : List va_E) (M : zM) (q : Nat) (l5 l6 l7 : Option Value), k + j = 13 → SB sc (zPl M B.length) t q → tX (20 * k) (fun j => t.getD j 32) (zPl M 2) → (∀ o, 4 ≤ o → o < B.length → M o = x o) → zLb (B.length + sc.length) [l5, l6, l7] = true → zT yy_L_began (j) (5 * j) Z (87, [some (.ref 0), some (.retAddr 998), some (.ref B.length), some (.int (nI n)), some (.int (nI (20 * k))), l5, l6, l7], [], (B ++ sc.map (zRe B.length)), M) := by
  intro j
  induction j with
  | zero =>
    intro k sc M q l5 l6 l7 hk hS hX hM hbl
    have hb8 : zLb (B.length + sc.length) ([some (.ref 0), some (.retAddr 998), some (.ref B.length), some (.int (nI n)), some (.int (nI (20 * k))), l5, l6, l7]) = true := zLb_app (a := [some (.ref 0), some (.retAddr 998), some (.ref B.length), some (.int (nI n)), some (.int (nI (20 * k)))]) (zLb_up (n := B.length + 1) (by simp [zLb, zVb]) (by have := sb_len hS; omega)) hbl
    refine zT.run [(.iload 4, 0, 0, 0), (.aload_n 2, 0, 0, 0)] (pe := 90) (ls' := [some (.ref 0), some (.retAddr 998), some (.ref B.length), some (.int (nI n)), some (.int (nI (20 * k))), l5, l6, l7]) (st' := [.ref B.length, .int (nI (20 * k))]) (M' := M) (by decide +kernel) rfl ?_
    refine zT.sbq (idx := 99) (av := []) (st := [.int (nI (20 * k))]) (RV := some (.int (nI t.length))) (c_J4_lengthB hS) (sbO hS) hcs hb8 (by simp [zVb]) rfl rfl k_J4_length_8abf5 rfl (zIn (w := 3166) (by decide +kernel) rfl) (by decide +kernel) (Nat.le_of_ble_eq_true rfl) (by decide +kernel) rfl ?_
    show zT _ _ _ _ (93, _, [.int (nI t.length), .int (nI (20 * k))], _, _)
    exact zT.cge (tgt := 199) (off := 106) (by decide +kernel) (by decide) (fun _ => next k sc M q l5 l6 l7 (by omega) (by omega) hS hX hM) (fun c => absurd (nI_le (a := t.length) (b := 20 * k) (by omega) (by omega)) c)
  | succ j ih =>
    intro k sc M q l5 l6 l7 hk hS hX hM hbl
    have hb8 : zLb (B.length + sc.length) ([some (.ref 0), some (.retAddr 998), some (.ref B.length), some (.int (nI n)), some (.int (nI (20 * k))), l5, l6, l7]) = true := zLb_app (a := [some (.ref 0), some (.retAddr 998), some (.ref B.length), some (.int (nI n)), some (.int (nI (20 * k)))]) (zLb_up (n := B.length + 1) (by simp [zLb, zVb]) (by have := sb_len hS; omega)) hbl
    refine zT.run [(.iload 4, 0, 0, 0), (.aload_n 2, 0, 0, 0)] (pe := 90) (ls' := [some (.ref 0), some (.retAddr 998), some (.ref B.length), some (.int (nI n)), some (.int (nI (20 * k))), l5, l6, l7]) (st' := [.ref B.length, .int (nI (20 * k))]) (M' := M) (by decide +kernel) rfl ?_
    refine zT.sbq (idx := 99) (av := []) (st := [.int (nI (20 * k))]) (RV := some (.int (nI t.length))) (c_J4_lengthB hS) (sbO hS) hcs hb8 (by simp [zVb]) rfl rfl k_J4_length_8abf5 rfl (zIn (w := 3166) (by decide +kernel) rfl) (by decide +kernel) (Nat.le_of_ble_eq_true rfl) (by decide +kernel) rfl ?_
    show zT _ _ _ _ (93, _, [.int (nI t.length), .int (nI (20 * k))], _, _)
    refine zT.cge (tgt := 199) (off := 106) (by decide +kernel) (by decide) (fun c => ?_) (fun c => ?_)
    · skip
      have hge : t.length ≤ 20 * k := Nat.le_of_not_lt fun e => absurd c (nI_ge (a := 20 * k) (b := t.length) e (by omega))
      exact zT.widen (k := 0) (n := 0) (Nat.zero_le _) (Nat.zero_le _) (next k sc M q l5 l6 l7 hge (by omega) hS hX hM)
    · skip
      rw [show j + 1 = 1 + j from Nat.add_comm j 1, show 5 * (1 + j) = 5 + 5 * j by omega]
      refine zT.run [(.iconst 5, 0, 0, 0)] (pe := 97) (ls' := [some (.ref 0), some (.retAddr 998), some (.ref B.length), some (.int (nI n)), some (.int (nI (20 * k))), l5, l6, l7]) (st' := [.int 5]) (M' := M) (by decide +kernel) rfl ?_
      refine zT.newa (kc := j) (nc := 5 * j) (t := 0) (N := 5) (aty := .int) (ty := .int) (z := .inl (fun _ => 0)) rfl (fun _ => rfl) (zIn (w := 1078) (by decide +kernel) rfl) (fun _ _ _ => rfl) (fun _ => rfl) rfl (by decide) (by decide) (hS.zCs hcs) (by rw [tot_len]; exact hb8) rfl (by decide +kernel) ?_
      rw [row5_sh, tot_len]
      refine zT.run [(.astore 5, 0, 0, 0), (.iconst 0, 0, 0, 0), (.istore 6, 0, 0, 0)] (pe := 104) (ls' := [some (.ref 0), some (.retAddr 998), some (.ref B.length), some (.int (nI n)), some (.int (nI (20 * k))), some (.ref (B.length + sc.length)), some (.int 0), l7]) (st' := []) (M' := (zUa M (B.length + sc.length) fun _ => 0)) (by decide +kernel) rfl ?_
      have hlb : 191 ≤ B.length := hB
      have hS0 : SB sc (zPl (zUa M (B.length + sc.length) fun _ => 0) B.length) t q := hS.congr (fun o ho => zUa_ne (by omega))
      refine zT.drop 7 ?_
      show zT _ _ _ _ (104, [some (.ref 0), some (.retAddr 998), some (.ref B.length), some (.int (nI n)), some (.int (nI (20 * k))), some (.ref (B.length + sc.length)), some (.int 0), none], [], _, _)
      refine w_began104 (x := x) hcs ht hT (at_ := 20 * k) (by omega) hS0 (fun M1 l7 hM1 hrow => ?_) 20 0 _ none (Nat.zero_add _) (fun _ _ => rfl) (fun j hj => by rw [zUa_eq]; rfl)
      refine zT.run [(.aload_n 0, 0, 0, 0), (.aload 5, 0, 0, 0), (.iconst 0, 0, 0, 0)] (pe := 172) (ls' := [some (.ref 0), some (.retAddr 998), some (.ref B.length), some (.int (nI n)), some (.int (nI (20 * k))), some (.ref (B.length + sc.length)), some (.int (nI 20)), (l7.map Value.int)]) (st' := [.int 0, .ref (B.length + sc.length), .ref 0]) (M' := M1) (by decide +kernel) rfl ?_
      refine zT.iald (k := 0) (row5_at B sc) rfl (by decide) (by decide) (by decide +kernel) ?_
      rw [hrow 0 (by decide)]
      refine zT.run [(.aload 5, 0, 0, 0), (.iconst 1, 0, 0, 0)] (pe := 176) (ls' := [some (.ref 0), some (.retAddr 998), some (.ref B.length), some (.int (nI n)), some (.int (nI (20 * k))), some (.ref (B.length + sc.length)), some (.int (nI 20)), (l7.map Value.int)]) (st' := [.int 1, .ref (B.length + sc.length), .int (r20 (fun i => t.getD (20 * k + i) 32) 20 0), .ref 0]) (M' := M1) (by decide +kernel) rfl ?_
      refine zT.iald (k := 1) (row5_at B sc) rfl (by decide) (by decide) (by decide +kernel) ?_
      rw [hrow 1 (by decide)]
      refine zT.run [(.aload 5, 0, 0, 0), (.iconst 2, 0, 0, 0)] (pe := 180) (ls' := [some (.ref 0), some (.retAddr 998), some (.ref B.length), some (.int (nI n)), some (.int (nI (20 * k))), some (.ref (B.length + sc.length)), some (.int (nI 20)), (l7.map Value.int)]) (st' := [.int 2, .ref (B.length + sc.length), .int (r20 (fun i => t.getD (20 * k + i) 32) 20 1), .int (r20 (fun i => t.getD (20 * k + i) 32) 20 0), .ref 0]) (M' := M1) (by decide +kernel) rfl ?_
      refine zT.iald (k := 2) (row5_at B sc) rfl (by decide) (by decide) (by decide +kernel) ?_
      rw [hrow 2 (by decide)]
      refine zT.run [(.aload 5, 0, 0, 0), (.iconst 3, 0, 0, 0)] (pe := 184) (ls' := [some (.ref 0), some (.retAddr 998), some (.ref B.length), some (.int (nI n)), some (.int (nI (20 * k))), some (.ref (B.length + sc.length)), some (.int (nI 20)), (l7.map Value.int)]) (st' := [.int 3, .ref (B.length + sc.length), .int (r20 (fun i => t.getD (20 * k + i) 32) 20 2), .int (r20 (fun i => t.getD (20 * k + i) 32) 20 1), .int (r20 (fun i => t.getD (20 * k + i) 32) 20 0), .ref 0]) (M' := M1) (by decide +kernel) rfl ?_
      refine zT.iald (k := 3) (row5_at B sc) rfl (by decide) (by decide) (by decide +kernel) ?_
      rw [hrow 3 (by decide)]
      refine zT.run [(.aload 5, 0, 0, 0), (.iconst 4, 0, 0, 0)] (pe := 188) (ls' := [some (.ref 0), some (.retAddr 998), some (.ref B.length), some (.int (nI n)), some (.int (nI (20 * k))), some (.ref (B.length + sc.length)), some (.int (nI 20)), (l7.map Value.int)]) (st' := [.int 4, .ref (B.length + sc.length), .int (r20 (fun i => t.getD (20 * k + i) 32) 20 3), .int (r20 (fun i => t.getD (20 * k + i) 32) 20 2), .int (r20 (fun i => t.getD (20 * k + i) 32) 20 1), .int (r20 (fun i => t.getD (20 * k + i) 32) 20 0), .ref 0]) (M' := M1) (by decide +kernel) rfl ?_
      refine zT.iald (k := 4) (row5_at B sc) rfl (by decide) (by decide) (by decide +kernel) ?_
      rw [hrow 4 (by decide)]
      have oM : ∀ o, o < B.length → M1 o = M o := fun o ho => (hM1 o (by omega)).trans (zUa_ne (by omega))
      have hX1 : tX (20 * k) (fun j => t.getD j 32) (zPl M1 2) := hX.of (congrFun (oM 2 (by omega)) 0) (oM 3 (by omega))
      obtain ⟨⟨w0, w1, w2⟩, w3, w4⟩ := r20_at (fun j => t.getD j 32) (20 * k)
      have kk := ap_20 hT hX1 (by omega) w0 w1 w2 w3 w4
      clear w0 w1 w2 w3 w4
      have hC := c_X9_append M1 sl (ext ++ (sc ++ [row5]).map (zRe B.length)) (20 * k) (r20 (fun i => t.getD (20 * k + i) 32) 20 0) (r20 (fun i => t.getD (20 * k + i) 32) 20 1) (r20 (fun i => t.getD (20 * k + i) 32) 20 2) (r20 (fun i => t.getD (20 * k + i) 32) 20 3) (r20 (fun i => t.getD (20 * k + i) 32) 20 4) hX1.1 (by omega)
      generalize g_X9_append M1 (20 * k) (r20 (fun i => t.getD (20 * k + i) 32) 20 0) (r20 (fun i => t.getD (20 * k + i) 32) 20 1) (r20 (fun i => t.getD (20 * k + i) 32) 20 2) (r20 (fun i => t.getD (20 * k + i) 32) 20 3) (r20 (fun i => t.getD (20 * k + i) 32) 20 4) = G at hC kk
      obtain ⟨k1, k2⟩ := kk
      obtain ⟨gv, M2⟩ := G
      have esh : B ++ (sc ++ [row5]).map (zRe B.length) = sh_X sl (ext ++ (sc ++ [row5]).map (zRe B.length)) := by rw [eB]; exact ext_X
      refine zT.eqSh esh ?_
      refine zT.cVx (o := 0) (idx := 107) (av := [.int (r20 (fun i => t.getD (20 * k + i) 32) 20 0), .int (r20 (fun i => t.getD (20 * k + i) 32) 20 1), .int (r20 (fun i => t.getD (20 * k + i) 32) 20 2), .int (r20 (fun i => t.getD (20 * k + i) 32) 20 3), .int (r20 (fun i => t.getD (20 * k + i) 32) 20 4)]) (rv := some (.int gv)) (st := []) (S1 := [.int gv]) (hC) k_X9_append 7 _ rfl rfl rfl (zIn (w := 3185) (by decide +kernel) rfl) (by decide +kernel) (Nat.le_of_ble_eq_true rfl) (by decide +kernel) rfl rfl ?_
      refine zT.eqSh esh.symm ?_
      refine zT.run [(.pop, 0, 0, 0), (.iinc 4 20, 0, 0, 0), (.goto (-109), 0, 0, 0)] (pe := 87) (ls' := [some (.ref 0), some (.retAddr 998), some (.ref B.length), some (.int (nI n)), some (.int ((nI (20 * k)) + 20)), some (.ref (B.length + sc.length)), some (.int (nI 20)), (l7.map Value.int)]) (st' := []) (M' := M2) (by decide +kernel) rfl ?_
      rw [show nI (20 * k) + 20 = nI (20 * (k + 1)) from nI_add (20 * k) 20]
      refine ih (k + 1) (sc ++ [row5]) M2 q _ _ _ (by omega) ?_ (by rw [show 20 * (k + 1) = 20 * k + 20 by omega]; exact k1) (fun o h1 h2 => ((k2 o h1).trans (oM o h2)).trans (hM o h1 h2)) (by cases l7 <;> simp [zLb, zVb] <;> omega)
      refine (hS0.congr (fun o ho => ?_)).more (zEb_ok rfl)
      exact (k2 (B.length + o) (by omega)).trans (hM1 (B.length + o) (by omega))
