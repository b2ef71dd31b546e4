/-! THE LAW: the world is the script, the reference, the row of one long, the object -/
noncomputable abbrev yy_X10_thrown : zY := (yX10_thrown, cX10_thrown, 1, (some Jvm.ClassFile.FieldType.int), 0, 0)
theorem c_X10_thrown (M : zM) (gp : Nat → Option Nat) : zC yy_X10_thrown 0 0 [.ref 0] (sh_Model gp) M (some (.int (M 0 0))) (sh_Model gp) M := by
  refine zC.of (by decide +kernel) rfl (Nat.le_of_ble_eq_true rfl) ?_
  refine zT.run [(.aload_n 0, 0, 0, 0), (.getfield 61, 8, 0, 5149)] (pe := 4) (ls' := [some (.ref 0)]) (st' := [.int (M 0 0)]) (M' := M) (by decide +kernel) rfl ?_
  exact zT.iret (ty := Jvm.ClassFile.FieldType.int) rfl rfl rfl rfl (by decide +kernel)
theorem k_X10_thrown : zCal yy_X10_thrown 0 := ⟨⟨⟨⟨zIn (w := 5211) (by decide +kernel) rfl, zIn (w := 1012) (by decide +kernel) rfl⟩, by decide +kernel⟩, by decide +kernel⟩, ⟨zIn (w := 5209) (by decide +kernel) rfl, zIn (w := 5210) (by decide +kernel) rfl⟩⟩
noncomputable def sh_W (Ns : Nat) (gp : Nat → Option Nat) (ob : Nat → Int64) (sl : Nat → Option Nat) (ext : List va_E) : List va_E := (.inl (0, Ns, .inl (fun _ => 0)) :: (sh_Model gp).map (zRe 1)) ++ (sh_O ob sl ext).map (zRe 22)
def zJo (x : zM) : zM := fun k => if k = 0 then (fun _ => 0) else x (k - 1)
def zJ (s : Nat → Int32) (m x : zM) : zM := fun k => if k = 0 then s else if k < 22 then m (k - 1) else zJo x (k - 22)
theorem zPl_Jo {x : zM} : zPl (zJo x) 1 = x := by
  funext k
  show zJo x (1 + k) = x k
  unfold zJo
  rw [if_neg (by omega)]
  congr 1
  omega
theorem zBack.mid {a sc sc' t : List va_E} {b n : Nat} (ha : a.length = b) (hn : sc.length = n) (hl : sc'.length = sc.length) : zBack (a ++ sc.map (zRe b) ++ t) b n sc' (a ++ sc'.map (zRe b) ++ t) := by
  subst ha hn
  refine ⟨by simp [hl], fun k => ?_⟩
  rw [zSg_eq, zSg_eq, zSg_eq, List.append_assoc, List.append_assoc]
  by_cases h1 : k < a.length
  · rw [if_neg (by omega), List.getElem?_append_left h1, List.getElem?_append_left h1]
  · rw [List.getElem?_append_right (l₁ := a) (by omega), List.getElem?_append_right (l₁ := a) (by omega)]
    by_cases h2 : k < a.length + sc.length
    · rw [if_pos ⟨by omega, h2⟩, List.getElem?_append_left (by rw [List.length_map]; omega), List.getElem?_map]
    · rw [if_neg (by omega), List.getElem?_append_right (l₁ := sc'.map (zRe a.length)) (by rw [List.length_map]; omega), List.getElem?_append_right (l₁ := sc.map (zRe a.length)) (by rw [List.length_map]; omega), List.length_map, List.length_map, hl]
theorem sub_W1 {Ns : Nat} {gp : Nat → Option Nat} {ob : Nat → Int64} {sl : Nat → Option Nat} {ext : List va_E} : zSub (sh_W Ns gp ob sl ext) 1 (sh_Model gp) := zSub.of rfl
theorem sub_W22 {Ns : Nat} {gp : Nat → Option Nat} {ob : Nat → Int64} {sl : Nat → Option Nat} {ext : List va_E} : zSub (sh_W Ns gp ob sl ext) 22 (sh_O ob sl ext) := zSub.end rfl
theorem sub_W23 {Ns : Nat} {gp : Nat → Option Nat} {ob : Nat → Int64} {sl : Nat → Option Nat} {ext : List va_E} : zSub (sh_W Ns gp ob sl ext) 23 (sh_X sl ext) := zSub.tr (a := 22) (j := 1) sub_W22 sub_O
theorem back_W1 {Ns : Nat} {gp gp' : Nat → Option Nat} {ob : Nat → Int64} {sl : Nat → Option Nat} {ext : List va_E} : zBack (sh_W Ns gp ob sl ext) 1 (sh_Model gp).length (sh_Model gp') (sh_W Ns gp' ob sl ext) := zBack.mid (a := [.inl (0, Ns, .inl (fun _ => 0))]) rfl rfl rfl
theorem len_O {ob : Nat → Int64} {sl : Nat → Option Nat} {ext : List va_E} : (sh_O ob sl ext).length = 192 + ext.length := by
  show ((sh_X sl ext).map (zRe 1)).length + 1 = _
  rw [List.length_map, zX_len]
  omega
theorem back_W22 {Ns : Nat} {gp : Nat → Option Nat} {ob ob' : Nat → Int64} {sl : Nat → Option Nat} {ext : List va_E} : zBack (sh_W Ns gp ob sl ext) 22 (sh_O ob sl ext).length (sh_O ob' sl ext) (sh_W Ns gp ob' sl ext) := by
  have := zBack.mid (a := .inl (0, Ns, .inl (fun _ => 0)) :: (sh_Model gp).map (zRe 1)) (sc := sh_O ob sl ext) (sc' := sh_O ob' sl ext) (t := []) (b := 22) (n := (sh_O ob sl ext).length) rfl rfl (by rw [len_O, len_O])
  rw [List.append_nil, List.append_nil] at this
  exact this
theorem zJ_m {s : Nat → Int32} {m m' x : zM} {n : Nat} {k : Nat} (hn : n = 21) : zPs (zJ s m x) 1 n m' k = zJ s m' x k := by
  subst hn
  by_cases h : 1 ≤ k ∧ k < 22
  · rw [zPs_in h.1 (by omega)]
    unfold zJ
    rw [if_neg (by omega), if_pos h.2]
  · rw [zPs_out (by omega)]
    unfold zJ
    by_cases h0 : k = 0
    · rw [if_pos h0, if_pos h0]
    · rw [if_neg h0, if_neg (by omega), if_neg h0, if_neg (by omega)]
theorem zJ_o {s : Nat → Int32} {m x x' X : zM} {n L : Nat} {k : Nat} (hX : ∀ j, j < n → X j = zJo x' j) (hk : k < L) (hL : L = 22 + n) : zPs (zJ s m x) 22 n X k = zJ s m x' k := by
  by_cases h : 22 ≤ k
  · rw [zPs_in h (by omega), hX _ (by omega)]
    unfold zJ
    rw [if_neg (by omega), if_neg (by omega)]
  · rw [zPs_out (by omega)]
    unfold zJ
    by_cases h0 : k = 0
    · rw [if_pos h0, if_pos h0]
    · rw [if_neg h0, if_pos (by omega), if_neg h0, if_pos (by omega)]
theorem zJ_x {s : Nat → Int32} {m x x' : zM} {n : Nat} {k : Nat} (hk : k < 23 + n) : zPs (zJ s m x) 23 n x' k = zJ s m x' k := by
  by_cases h : 23 ≤ k
  · rw [zPs_in h (by omega)]
    unfold zJ zJo
    rw [if_neg (by omega), if_neg (by omega), if_neg (by omega)]
    congr 1 <;> omega
  · rw [zPs_out (by omega)]
    unfold zJ zJo
    by_cases h0 : k = 0
    · rw [if_pos h0, if_pos h0]
    · by_cases h1 : k < 22
      · rw [if_neg h0, if_pos h1, if_neg h0, if_pos h1]
      · rw [if_neg h0, if_neg h1, if_neg h0, if_neg h1, if_pos (by omega), if_pos (by omega)]
theorem nI_addl (a : Nat) : ∀ b, nI a + nI b = nI (a + b)
  | 0 => Int32.add_zero _
  | b + 1 => by rw [nI_succ b, ← Int32.add_assoc, nI_addl a b, ← nI_succ (a + b), Nat.add_assoc]
theorem lg_cmp_rf (x : Int64) : lg_cmp x x = 0 := by
  unfold lg_cmp
  simp [Int64.lt_irrefl]
def zNz (v : Int32) : Int32 := if v = 0 then 0 else 1
theorem len_W {Ns : Nat} {gp : Nat → Option Nat} {ob : Nat → Int64} {sl : Nat → Option Nat} {ext : List va_E} : (sh_W Ns gp ob sl ext).length = 22 + (192 + ext.length) := by
  show (((sh_Model gp).map (zRe 1)) ++ (sh_O ob sl ext).map (zRe 22)).length + 1 = _
  rw [List.length_append, List.length_map, List.length_map, len_O]
  show 21 + (192 + ext.length) + 1 = _
  omega
noncomputable abbrev yy_L_law : zY := (yL_law, cL_law, 9, some .boolean, 12, 436)
theorem zJ_in {s : Nat → Int32} {m x : zM} {j : Nat} (h : j < 21) : m j = zJ s m x (1 + j) := by
  unfold zJ
  rw [if_neg (by omega), if_pos (by omega)]
  congr 1
  omega
theorem zT.eq9 {Y : zY} {kc nc : Nat} {Z : zS → Prop} {S : zS} (h : zT Y (0 + kc) (0 + nc) Z S) : zT Y kc nc Z S := by
  rw [Nat.zero_add, Nat.zero_add] at h
  exact h
set_option maxRecDepth 100000 in
theorem w_call {Z : zS → Prop} {kc nc k1 n1 : Nat} (s : Nat → Int32) (Ns i : Nat) (hNs : Ns < 2 ^ 31) (hi : 6 * i + 6 ≤ Ns) (gp gp' : Nat → Option Nat) (ob ob' : Nat → Int64) (sl : Nat → Option Nat) (ext : List va_E) (m m' x x' X : zM) (kk b : Int32) (hw : zCW yy_L_call [(0, 9, 12, 13)] k1 n1 [.ref 1, .int (s (6 * i + 1)), .ref 0] (sh_O ob sl ext) (zJo x) (some (.int kk)) (sh_O ob' sl ext) X) (hX : ∀ j, j < (sh_O ob sl ext).length → X j = zJo x' j) (hm : zC yy_X10_call 0 0 [.ref 0, .int (s (6 * i + 1))] (sh_Model gp) m (some (.int b)) (sh_Model gp') m') (ht : m' 0 0 = kk) (hv : kk = 0 → ob' 0 = b.toInt64) (k9 : zT yy_L_law kc nc Z (23, [some (.ref 0), some (.ref 23), some (.ref 1), some (.ref 22), some (.int (nI (6 * (i + 1)))), none, none, none, none], [], sh_W Ns gp' ob' sl ext, zJ s m' x')) : zT yy_L_law (k1 + kc) (n1 + nc) Z (213, [some (.ref 0), some (.ref 23), some (.ref 1), some (.ref 22), some (.int (nI (6 * i))), none, none, none, none], [], sh_W Ns gp ob sl ext, zJ s m x) := by
  refine zT.run [(.aload_n 1, 0, 0, 0), (.aload_n 0, 0, 0, 0), (.iload 4, 0, 0, 0), (.iconst 1, 0, 0, 0), (.iadd, 0, 0, 0)] (pe := 219) (ls' := [some (.ref 0), some (.ref 23), some (.ref 1), some (.ref 22), some (.int (nI (6 * i))), none, none, none, none]) (st' := [.int (nI (6 * i) + 1), .ref 0, .ref 23]) (M' := (zJ s m x)) (by decide +kernel) rfl ?_
  refine zT.iald (n := Ns) (k := 6 * i + 1) rfl (nI_addl (6 * i) 1) (by omega) (by omega) (by decide +kernel) ?_
  refine zT.run [(.aload_n 3, 0, 0, 0)] (pe := 221) (ls' := [some (.ref 0), some (.ref 23), some (.ref 1), some (.ref 22), some (.int (nI (6 * i))), none, none, none, none]) (st' := [.ref 22, .int (s (6 * i + 1)), .ref 23]) (M' := (zJ s m x)) (by decide +kernel) rfl ?_
  refine zT.callSW (kc := kc) (nc := nc) (idx := 97) (hh := [(0, 9, 12, 13)]) (b := 22) (av := [.ref 1, .int (s (6 * i + 1)), .ref 0]) (st := []) hw sub_W22 (fun j hj => by unfold zJ; rw [if_neg (by omega), if_neg (by omega), Nat.add_sub_cancel_left]) back_W22 (by rw [len_O, len_O]) rfl k_L_call (zIn (w := 3239) (by decide +kernel) rfl) (by decide +kernel) (Nat.le_of_ble_eq_true rfl) (by decide +kernel) rfl ?_
  refine zT.congM (M2 := zJ s m x') (fun k hk => zJ_o hX hk (by rw [len_W, len_O])) ?_
  refine zT.run [(.istore 5, 0, 0, 0)] (pe := 226) (ls' := [some (.ref 0), some (.ref 23), some (.ref 1), some (.ref 22), some (.int (nI (6 * i))), some (.int kk), none, none, none]) (st' := []) (M' := (zJ s m x')) (by decide +kernel) rfl ?_
  refine zT.run [(.aload_n 2, 0, 0, 0), (.aload_n 0, 0, 0, 0), (.iload 4, 0, 0, 0), (.iconst 1, 0, 0, 0), (.iadd, 0, 0, 0)] (pe := 232) (ls' := [some (.ref 0), some (.ref 23), some (.ref 1), some (.ref 22), some (.int (nI (6 * i))), some (.int kk), none, none, none]) (st' := [.int (nI (6 * i) + 1), .ref 0, .ref 1]) (M' := (zJ s m x')) (by decide +kernel) rfl ?_
  refine zT.iald (n := Ns) (k := 6 * i + 1) rfl (nI_addl (6 * i) 1) (by omega) (by omega) (by decide +kernel) ?_
  refine zT.eq9 (zT.callV (k1 := 0) (n1 := 0) (kc := kc) (nc := nc) (idx := 102) (b := 1) (o := 0) (av := [.int (s (6 * i + 1))]) (st := []) hm sub_W1 (fun j hj => zJ_in hj) back_W1 rfl rfl rfl rfl k_X10_call.1 k_X10_call.2 (zIn (w := 5212) (by decide +kernel) rfl) (by decide +kernel) (Nat.le_of_ble_eq_true rfl) (by decide +kernel) ?_)
  refine zT.congM (M2 := zJ s m' x') (fun k hk => zJ_m rfl) ?_
  refine zT.run [(.istore 6, 0, 0, 0)] (pe := 238) (ls' := [some (.ref 0), some (.ref 23), some (.ref 1), some (.ref 22), some (.int (nI (6 * i))), some (.int kk), some (.int b), none, none]) (st' := []) (M' := (zJ s m' x')) (by decide +kernel) rfl ?_
  refine zT.run [(.aload_n 2, 0, 0, 0)] (pe := 239) (ls' := [some (.ref 0), some (.ref 23), some (.ref 1), some (.ref 22), some (.int (nI (6 * i))), some (.int kk), some (.int b), none, none]) (st' := [.ref 1]) (M' := (zJ s m' x')) (by decide +kernel) rfl ?_
  refine zT.eq9 (zT.callV (k1 := 0) (n1 := 0) (kc := kc) (nc := nc) (idx := 103) (b := 1) (o := 0) (av := []) (st := []) (c_X10_thrown m' gp') sub_W1 (fun j hj => zJ_in hj) back_W1 rfl rfl rfl rfl k_X10_thrown.1 k_X10_thrown.2 (zIn (w := 5208) (by decide +kernel) rfl) (by decide +kernel) (Nat.le_of_ble_eq_true rfl) (by decide +kernel) ?_)
  refine zT.congM (M2 := zJ s m' x') (fun k hk => zJ_m rfl) ?_
  refine zT.run [(.iload 5, 0, 0, 0)] (pe := 244) (ls' := [some (.ref 0), some (.ref 23), some (.ref 1), some (.ref 22), some (.int (nI (6 * i))), some (.int kk), some (.int b), none, none]) (st' := [.int kk, .int (m' 0 0)]) (M' := (zJ s m' x')) (by decide +kernel) rfl ?_
  refine zT.ceq (tgt := 249) (off := 5) (by decide +kernel) (by decide) (fun _ => ?_) (fun c => absurd ht c)
  refine zT.run [(.iload 5, 0, 0, 0)] (pe := 251) (ls' := [some (.ref 0), some (.ref 23), some (.ref 1), some (.ref 22), some (.int (nI (6 * i))), some (.int kk), some (.int b), none, none]) (st' := [.int kk]) (M' := (zJ s m' x')) (by decide +kernel) rfl ?_
  have KE : zT yy_L_law kc nc Z (266, [some (.ref 0), some (.ref 23), some (.ref 1), some (.ref 22), some (.int (nI (6 * i))), some (.int kk), some (.int b), none, none], [], sh_W Ns gp' ob' sl ext, (zJ s m' x')) := by
    refine zT.run [(.goto 1752, 0, 0, 0)] (pe := 2018) (ls' := [some (.ref 0), some (.ref 23), some (.ref 1), some (.ref 22), some (.int (nI (6 * i))), some (.int kk), some (.int b), none, none]) (st' := []) (M' := (zJ s m' x')) (by decide +kernel) rfl ?_
    refine zT.run [(.iinc 4 6, 0, 0, 0), (.goto (-1998), 0, 0, 0)] (pe := 23) (ls' := [some (.ref 0), some (.ref 23), some (.ref 1), some (.ref 22), some (.int (nI (6 * i) + 6)), some (.int kk), some (.int b), none, none]) (st' := []) (M' := (zJ s m' x')) (by decide +kernel) rfl ?_
    refine zT.drop 5 (zT.drop 6 ?_)
    exact zT.eq (by rw [show nI (6 * i) + 6 = nI (6 * (i + 1)) from nI_addl (6 * i) 6]; rfl) k9
  refine zT.zne (tgt := 266) (off := 15) (by decide +kernel) (by decide) (fun _ => KE) (fun ck => ?_)
  refine zT.run [(.aload_n 3, 0, 0, 0), (.iconst 0, 0, 0, 0)] (pe := 256) (ls' := [some (.ref 0), some (.ref 23), some (.ref 1), some (.ref 22), some (.int (nI (6 * i))), some (.int kk), some (.int b), none, none]) (st' := [.int 0, .ref 22]) (M' := (zJ s m' x')) (by decide +kernel) rfl ?_
  refine zT.lald (o := 22) (n := 1) (k := 0) (z := ob') rfl rfl (by decide) (by decide) (by decide +kernel) ?_
  refine zT.run [(.iload 6, 0, 0, 0), (.i2l, 0, 0, 0), (.lcmp, 0, 0, 0)] (pe := 261) (ls' := [some (.ref 0), some (.ref 23), some (.ref 1), some (.ref 22), some (.int (nI (6 * i))), some (.int kk), some (.int b), none, none]) (st' := [.int (lg_cmp (ob' 0) b.toInt64)]) (M' := (zJ s m' x')) (by decide +kernel) rfl ?_
  refine zT.zeq (tgt := 266) (off := 5) (by decide +kernel) (by decide) (fun _ => KE) (fun c => absurd (by rw [hv ck]; exact lg_cmp_rf _) c)
set_option maxRecDepth 100000 in
theorem w_setUp {Z : zS → Prop} {kc nc k1 n1 : Nat} (s : Nat → Int32) (Ns i : Nat) (hNs : Ns < 2 ^ 31) (hi : 6 * i + 6 ≤ Ns) (gp gp' : Nat → Option Nat) (ob ob' : Nat → Int64) (sl : Nat → Option Nat) (ext : List va_E) (m m' x x' X : zM) (kk b : Int32) (hw : zCW yy_L_setUp [(0, 10, 13, 13)] k1 n1 [.ref 1, .int (s (6 * i + 1)), .int (zNz (s (6 * i + 2))), .ref 0] (sh_O ob sl ext) (zJo x) (some (.int kk)) (sh_O ob' sl ext) X) (hX : ∀ j, j < (sh_O ob sl ext).length → X j = zJo x' j) (hm : zC yy_X10_setUp 0 0 [.ref 0, .int (s (6 * i + 1)), .int (zNz (s (6 * i + 2)))] (sh_Model gp) m (some (.int b)) (sh_Model gp') m') (ht : m' 0 0 = kk) (hv : kk = 0 → ob' 0 = b.toInt64) (k9 : zT yy_L_law kc nc Z (23, [some (.ref 0), some (.ref 23), some (.ref 1), some (.ref 22), some (.int (nI (6 * (i + 1)))), none, none, none, none], [], sh_W Ns gp' ob' sl ext, zJ s m' x')) : zT yy_L_law (k1 + kc) (n1 + nc) Z (592, [some (.ref 0), some (.ref 23), some (.ref 1), some (.ref 22), some (.int (nI (6 * i))), none, none, none, none], [], sh_W Ns gp ob sl ext, zJ s m x) := by
  refine zT.run [(.aload_n 1, 0, 0, 0), (.aload_n 0, 0, 0, 0), (.iload 4, 0, 0, 0), (.iconst 1, 0, 0, 0), (.iadd, 0, 0, 0)] (pe := 598) (ls' := [some (.ref 0), some (.ref 23), some (.ref 1), some (.ref 22), some (.int (nI (6 * i))), none, none, none, none]) (st' := [.int (nI (6 * i) + 1), .ref 0, .ref 23]) (M' := (zJ s m x)) (by decide +kernel) rfl ?_
  refine zT.iald (n := Ns) (k := 6 * i + 1) rfl (nI_addl (6 * i) 1) (by omega) (by omega) (by decide +kernel) ?_
  refine zT.run [(.aload_n 0, 0, 0, 0), (.iload 4, 0, 0, 0), (.iconst 2, 0, 0, 0), (.iadd, 0, 0, 0)] (pe := 604) (ls' := [some (.ref 0), some (.ref 23), some (.ref 1), some (.ref 22), some (.int (nI (6 * i))), none, none, none, none]) (st' := [.int (nI (6 * i) + 2), .ref 0, .int (s (6 * i + 1)), .ref 23]) (M' := (zJ s m x)) (by decide +kernel) rfl ?_
  refine zT.iald (n := Ns) (k := 6 * i + 2) rfl (nI_addl (6 * i) 2) (by omega) (by omega) (by decide +kernel) ?_
  have K605 : zT yy_L_law (k1 + kc) (n1 + nc) Z (613, [some (.ref 0), some (.ref 23), some (.ref 1), some (.ref 22), some (.int (nI (6 * i))), none, none, none, none], [.int (zNz (s (6 * i + 2))), .int (s (6 * i + 1)), .ref 23], sh_W Ns gp ob sl ext, (zJ s m x)) := by
    refine zT.run [(.aload_n 3, 0, 0, 0)] (pe := 614) (ls' := [some (.ref 0), some (.ref 23), some (.ref 1), some (.ref 22), some (.int (nI (6 * i))), none, none, none, none]) (st' := [.ref 22, .int (zNz (s (6 * i + 2))), .int (s (6 * i + 1)), .ref 23]) (M' := (zJ s m x)) (by decide +kernel) rfl ?_
    refine zT.callSW (kc := kc) (nc := nc) (idx := 132) (hh := [(0, 10, 13, 13)]) (b := 22) (av := [.ref 1, .int (s (6 * i + 1)), .int (zNz (s (6 * i + 2))), .ref 0]) (st := []) hw sub_W22 (fun j hj => by unfold zJ; rw [if_neg (by omega), if_neg (by omega), Nat.add_sub_cancel_left]) back_W22 (by rw [len_O, len_O]) rfl k_L_setUp (zIn (w := 4130) (by decide +kernel) rfl) (by decide +kernel) (Nat.le_of_ble_eq_true rfl) (by decide +kernel) rfl ?_
    refine zT.congM (M2 := zJ s m x') (fun k hk => zJ_o hX hk (by rw [len_W, len_O])) ?_
    refine zT.run [(.istore 5, 0, 0, 0)] (pe := 619) (ls' := [some (.ref 0), some (.ref 23), some (.ref 1), some (.ref 22), some (.int (nI (6 * i))), some (.int kk), none, none, none]) (st' := []) (M' := (zJ s m x')) (by decide +kernel) rfl ?_
    refine zT.run [(.aload_n 2, 0, 0, 0), (.aload_n 0, 0, 0, 0), (.iload 4, 0, 0, 0), (.iconst 1, 0, 0, 0), (.iadd, 0, 0, 0)] (pe := 625) (ls' := [some (.ref 0), some (.ref 23), some (.ref 1), some (.ref 22), some (.int (nI (6 * i))), some (.int kk), none, none, none]) (st' := [.int (nI (6 * i) + 1), .ref 0, .ref 1]) (M' := (zJ s m x')) (by decide +kernel) rfl ?_
    refine zT.iald (n := Ns) (k := 6 * i + 1) rfl (nI_addl (6 * i) 1) (by omega) (by omega) (by decide +kernel) ?_
    refine zT.run [(.aload_n 0, 0, 0, 0), (.iload 4, 0, 0, 0), (.iconst 2, 0, 0, 0), (.iadd, 0, 0, 0)] (pe := 631) (ls' := [some (.ref 0), some (.ref 23), some (.ref 1), some (.ref 22), some (.int (nI (6 * i))), some (.int kk), none, none, none]) (st' := [.int (nI (6 * i) + 2), .ref 0, .int (s (6 * i + 1)), .ref 1]) (M' := (zJ s m x')) (by decide +kernel) rfl ?_
    refine zT.iald (n := Ns) (k := 6 * i + 2) rfl (nI_addl (6 * i) 2) (by omega) (by omega) (by decide +kernel) ?_
    have K632 : zT yy_L_law kc nc Z (640, [some (.ref 0), some (.ref 23), some (.ref 1), some (.ref 22), some (.int (nI (6 * i))), some (.int kk), none, none, none], [.int (zNz (s (6 * i + 2))), .int (s (6 * i + 1)), .ref 1], sh_W Ns gp ob' sl ext, (zJ s m x')) := by
      refine zT.eq9 (zT.callV (k1 := 0) (n1 := 0) (kc := kc) (nc := nc) (idx := 135) (b := 1) (o := 0) (av := [.int (s (6 * i + 1)), .int (zNz (s (6 * i + 2)))]) (st := []) hm sub_W1 (fun j hj => zJ_in hj) back_W1 rfl rfl rfl rfl k_X10_setUp.1 k_X10_setUp.2 (zIn (w := 6111) (by decide +kernel) rfl) (by decide +kernel) (Nat.le_of_ble_eq_true rfl) (by decide +kernel) ?_)
      refine zT.congM (M2 := zJ s m' x') (fun k hk => zJ_m rfl) ?_
      refine zT.run [(.istore 6, 0, 0, 0)] (pe := 645) (ls' := [some (.ref 0), some (.ref 23), some (.ref 1), some (.ref 22), some (.int (nI (6 * i))), some (.int kk), some (.int b), none, none]) (st' := []) (M' := (zJ s m' x')) (by decide +kernel) rfl ?_
      refine zT.run [(.aload_n 2, 0, 0, 0)] (pe := 646) (ls' := [some (.ref 0), some (.ref 23), some (.ref 1), some (.ref 22), some (.int (nI (6 * i))), some (.int kk), some (.int b), none, none]) (st' := [.ref 1]) (M' := (zJ s m' x')) (by decide +kernel) rfl ?_
      refine zT.eq9 (zT.callV (k1 := 0) (n1 := 0) (kc := kc) (nc := nc) (idx := 103) (b := 1) (o := 0) (av := []) (st := []) (c_X10_thrown m' gp') sub_W1 (fun j hj => zJ_in hj) back_W1 rfl rfl rfl rfl k_X10_thrown.1 k_X10_thrown.2 (zIn (w := 5208) (by decide +kernel) rfl) (by decide +kernel) (Nat.le_of_ble_eq_true rfl) (by decide +kernel) ?_)
      refine zT.congM (M2 := zJ s m' x') (fun k hk => zJ_m rfl) ?_
      refine zT.run [(.iload 5, 0, 0, 0)] (pe := 651) (ls' := [some (.ref 0), some (.ref 23), some (.ref 1), some (.ref 22), some (.int (nI (6 * i))), some (.int kk), some (.int b), none, none]) (st' := [.int kk, .int (m' 0 0)]) (M' := (zJ s m' x')) (by decide +kernel) rfl ?_
      refine zT.ceq (tgt := 656) (off := 5) (by decide +kernel) (by decide) (fun _ => ?_) (fun c => absurd ht c)
      refine zT.run [(.iload 5, 0, 0, 0)] (pe := 658) (ls' := [some (.ref 0), some (.ref 23), some (.ref 1), some (.ref 22), some (.int (nI (6 * i))), some (.int kk), some (.int b), none, none]) (st' := [.int kk]) (M' := (zJ s m' x')) (by decide +kernel) rfl ?_
      have KE : zT yy_L_law kc nc Z (673, [some (.ref 0), some (.ref 23), some (.ref 1), some (.ref 22), some (.int (nI (6 * i))), some (.int kk), some (.int b), none, none], [], sh_W Ns gp' ob' sl ext, (zJ s m' x')) := by
        refine zT.run [(.goto 1345, 0, 0, 0)] (pe := 2018) (ls' := [some (.ref 0), some (.ref 23), some (.ref 1), some (.ref 22), some (.int (nI (6 * i))), some (.int kk), some (.int b), none, none]) (st' := []) (M' := (zJ s m' x')) (by decide +kernel) rfl ?_
        refine zT.run [(.iinc 4 6, 0, 0, 0), (.goto (-1998), 0, 0, 0)] (pe := 23) (ls' := [some (.ref 0), some (.ref 23), some (.ref 1), some (.ref 22), some (.int (nI (6 * i) + 6)), some (.int kk), some (.int b), none, none]) (st' := []) (M' := (zJ s m' x')) (by decide +kernel) rfl ?_
        refine zT.drop 5 (zT.drop 6 ?_)
        exact zT.eq (by rw [show nI (6 * i) + 6 = nI (6 * (i + 1)) from nI_addl (6 * i) 6]; rfl) k9
      refine zT.zne (tgt := 673) (off := 15) (by decide +kernel) (by decide) (fun _ => KE) (fun ck => ?_)
      refine zT.run [(.aload_n 3, 0, 0, 0), (.iconst 0, 0, 0, 0)] (pe := 663) (ls' := [some (.ref 0), some (.ref 23), some (.ref 1), some (.ref 22), some (.int (nI (6 * i))), some (.int kk), some (.int b), none, none]) (st' := [.int 0, .ref 22]) (M' := (zJ s m' x')) (by decide +kernel) rfl ?_
      refine zT.lald (o := 22) (n := 1) (k := 0) (z := ob') rfl rfl (by decide) (by decide) (by decide +kernel) ?_
      refine zT.run [(.iload 6, 0, 0, 0), (.i2l, 0, 0, 0), (.lcmp, 0, 0, 0)] (pe := 668) (ls' := [some (.ref 0), some (.ref 23), some (.ref 1), some (.ref 22), some (.int (nI (6 * i))), some (.int kk), some (.int b), none, none]) (st' := [.int (lg_cmp (ob' 0) b.toInt64)]) (M' := (zJ s m' x')) (by decide +kernel) rfl ?_
      refine zT.zeq (tgt := 673) (off := 5) (by decide +kernel) (by decide) (fun _ => KE) (fun c => absurd (by rw [hv ck]; exact lg_cmp_rf _) c)
    refine zT.zeq (tgt := 639) (off := 7) (by decide +kernel) (by decide) (fun cz => ?_) (fun cz => ?_)
    · skip
      refine zT.run [(.iconst 0, 0, 0, 0)] (pe := 640) (ls' := [some (.ref 0), some (.ref 23), some (.ref 1), some (.ref 22), some (.int (nI (6 * i))), some (.int kk), none, none, none]) (st' := [.int 0, .int (s (6 * i + 1)), .ref 1]) (M' := (zJ s m x')) (by decide +kernel) rfl ?_
      exact zT.eqS (by rw [show zNz (s (6 * i + 2)) = 0 from if_pos cz]) K632
    · skip
      refine zT.run [(.iconst 1, 0, 0, 0), (.goto 4, 0, 0, 0)] (pe := 640) (ls' := [some (.ref 0), some (.ref 23), some (.ref 1), some (.ref 22), some (.int (nI (6 * i))), some (.int kk), none, none, none]) (st' := [.int 1, .int (s (6 * i + 1)), .ref 1]) (M' := (zJ s m x')) (by decide +kernel) rfl ?_
      exact zT.eqS (by rw [show zNz (s (6 * i + 2)) = 1 from if_neg cz]) K632
  refine zT.zeq (tgt := 612) (off := 7) (by decide +kernel) (by decide) (fun cz => ?_) (fun cz => ?_)
  · skip
    refine zT.run [(.iconst 0, 0, 0, 0)] (pe := 613) (ls' := [some (.ref 0), some (.ref 23), some (.ref 1), some (.ref 22), some (.int (nI (6 * i))), none, none, none, none]) (st' := [.int 0, .int (s (6 * i + 1)), .ref 23]) (M' := (zJ s m x)) (by decide +kernel) rfl ?_
    exact zT.eqS (by rw [show zNz (s (6 * i + 2)) = 0 from if_pos cz]) K605
  · skip
    refine zT.run [(.iconst 1, 0, 0, 0), (.goto 4, 0, 0, 0)] (pe := 613) (ls' := [some (.ref 0), some (.ref 23), some (.ref 1), some (.ref 22), some (.int (nI (6 * i))), none, none, none, none]) (st' := [.int 1, .int (s (6 * i + 1)), .ref 23]) (M' := (zJ s m x)) (by decide +kernel) rfl ?_
    exact zT.eqS (by rw [show zNz (s (6 * i + 2)) = 1 from if_neg cz]) K605
set_option maxRecDepth 100000 in
theorem w_isLinked {Z : zS → Prop} {kc nc k1 n1 : Nat} (s : Nat → Int32) (Ns i : Nat) (hNs : Ns < 2 ^ 31) (hi : 6 * i + 6 ≤ Ns) (gp gp' : Nat → Option Nat) (ob ob' : Nat → Int64) (sl : Nat → Option Nat) (ext : List va_E) (m m' x x' X : zM) (kk b : Int32) (hw : zCW yy_L_isLinked [(0, 17, 20, 13)] k1 n1 [.ref 1, .int (s (6 * i + 1)), .int (s (6 * i + 2)), .ref 0] (sh_O ob sl ext) (zJo x) (some (.int kk)) (sh_O ob' sl ext) X) (hX : ∀ j, j < (sh_O ob sl ext).length → X j = zJo x' j) (hm : zC yy_X10_isLinked 0 0 [.ref 0, .int (s (6 * i + 1)), .int (s (6 * i + 2))] (sh_Model gp) m (some (.int b)) (sh_Model gp') m') (ht : m' 0 0 = kk) (hv : kk = 0 → ob' 0 = (if b = 0 then (0 : Int64) else 1)) (k9 : zT yy_L_law kc nc Z (23, [some (.ref 0), some (.ref 23), some (.ref 1), some (.ref 22), some (.int (nI (6 * (i + 1)))), none, none, none, none], [], sh_W Ns gp' ob' sl ext, zJ s m' x')) : zT yy_L_law (k1 + kc) (n1 + nc) Z (1286, [some (.ref 0), some (.ref 23), some (.ref 1), some (.ref 22), some (.int (nI (6 * i))), none, none, none, none], [], sh_W Ns gp ob sl ext, zJ s m x) := by
  refine zT.run [(.aload_n 1, 0, 0, 0), (.aload_n 0, 0, 0, 0), (.iload 4, 0, 0, 0), (.iconst 1, 0, 0, 0), (.iadd, 0, 0, 0)] (pe := 1292) (ls' := [some (.ref 0), some (.ref 23), some (.ref 1), some (.ref 22), some (.int (nI (6 * i))), none, none, none, none]) (st' := [.int (nI (6 * i) + 1), .ref 0, .ref 23]) (M' := (zJ s m x)) (by decide +kernel) rfl ?_
  refine zT.iald (n := Ns) (k := 6 * i + 1) rfl (nI_addl (6 * i) 1) (by omega) (by omega) (by decide +kernel) ?_
  refine zT.run [(.aload_n 0, 0, 0, 0), (.iload 4, 0, 0, 0), (.iconst 2, 0, 0, 0), (.iadd, 0, 0, 0)] (pe := 1298) (ls' := [some (.ref 0), some (.ref 23), some (.ref 1), some (.ref 22), some (.int (nI (6 * i))), none, none, none, none]) (st' := [.int (nI (6 * i) + 2), .ref 0, .int (s (6 * i + 1)), .ref 23]) (M' := (zJ s m x)) (by decide +kernel) rfl ?_
  refine zT.iald (n := Ns) (k := 6 * i + 2) rfl (nI_addl (6 * i) 2) (by omega) (by omega) (by decide +kernel) ?_
  refine zT.run [(.aload_n 3, 0, 0, 0)] (pe := 1300) (ls' := [some (.ref 0), some (.ref 23), some (.ref 1), some (.ref 22), some (.int (nI (6 * i))), none, none, none, none]) (st' := [.ref 22, .int (s (6 * i + 2)), .int (s (6 * i + 1)), .ref 23]) (M' := (zJ s m x)) (by decide +kernel) rfl ?_
  refine zT.callSW (kc := kc) (nc := nc) (idx := 170) (hh := [(0, 17, 20, 13)]) (b := 22) (av := [.ref 1, .int (s (6 * i + 1)), .int (s (6 * i + 2)), .ref 0]) (st := []) hw sub_W22 (fun j hj => by unfold zJ; rw [if_neg (by omega), if_neg (by omega), Nat.add_sub_cancel_left]) back_W22 (by rw [len_O, len_O]) rfl k_L_isLinked (zIn (w := 5002) (by decide +kernel) rfl) (by decide +kernel) (Nat.le_of_ble_eq_true rfl) (by decide +kernel) rfl ?_
  refine zT.congM (M2 := zJ s m x') (fun k hk => zJ_o hX hk (by rw [len_W, len_O])) ?_
  refine zT.run [(.istore 5, 0, 0, 0)] (pe := 1305) (ls' := [some (.ref 0), some (.ref 23), some (.ref 1), some (.ref 22), some (.int (nI (6 * i))), some (.int kk), none, none, none]) (st' := []) (M' := (zJ s m x')) (by decide +kernel) rfl ?_
  refine zT.run [(.aload_n 2, 0, 0, 0), (.aload_n 0, 0, 0, 0), (.iload 4, 0, 0, 0), (.iconst 1, 0, 0, 0), (.iadd, 0, 0, 0)] (pe := 1311) (ls' := [some (.ref 0), some (.ref 23), some (.ref 1), some (.ref 22), some (.int (nI (6 * i))), some (.int kk), none, none, none]) (st' := [.int (nI (6 * i) + 1), .ref 0, .ref 1]) (M' := (zJ s m x')) (by decide +kernel) rfl ?_
  refine zT.iald (n := Ns) (k := 6 * i + 1) rfl (nI_addl (6 * i) 1) (by omega) (by omega) (by decide +kernel) ?_
  refine zT.run [(.aload_n 0, 0, 0, 0), (.iload 4, 0, 0, 0), (.iconst 2, 0, 0, 0), (.iadd, 0, 0, 0)] (pe := 1317) (ls' := [some (.ref 0), some (.ref 23), some (.ref 1), some (.ref 22), some (.int (nI (6 * i))), some (.int kk), none, none, none]) (st' := [.int (nI (6 * i) + 2), .ref 0, .int (s (6 * i + 1)), .ref 1]) (M' := (zJ s m x')) (by decide +kernel) rfl ?_
  refine zT.iald (n := Ns) (k := 6 * i + 2) rfl (nI_addl (6 * i) 2) (by omega) (by omega) (by decide +kernel) ?_
  refine zT.eq9 (zT.callV (k1 := 0) (n1 := 0) (kc := kc) (nc := nc) (idx := 172) (b := 1) (o := 0) (av := [.int (s (6 * i + 1)), .int (s (6 * i + 2))]) (st := []) hm sub_W1 (fun j hj => zJ_in hj) back_W1 rfl rfl rfl rfl k_X10_isLinked.1 k_X10_isLinked.2 (zIn (w := 7036) (by decide +kernel) rfl) (by decide +kernel) (Nat.le_of_ble_eq_true rfl) (by decide +kernel) ?_)
  refine zT.congM (M2 := zJ s m' x') (fun k hk => zJ_m rfl) ?_
  refine zT.run [(.istore 6, 0, 0, 0)] (pe := 1323) (ls' := [some (.ref 0), some (.ref 23), some (.ref 1), some (.ref 22), some (.int (nI (6 * i))), some (.int kk), some (.int b), none, none]) (st' := []) (M' := (zJ s m' x')) (by decide +kernel) rfl ?_
  refine zT.run [(.aload_n 2, 0, 0, 0)] (pe := 1324) (ls' := [some (.ref 0), some (.ref 23), some (.ref 1), some (.ref 22), some (.int (nI (6 * i))), some (.int kk), some (.int b), none, none]) (st' := [.ref 1]) (M' := (zJ s m' x')) (by decide +kernel) rfl ?_
  refine zT.eq9 (zT.callV (k1 := 0) (n1 := 0) (kc := kc) (nc := nc) (idx := 103) (b := 1) (o := 0) (av := []) (st := []) (c_X10_thrown m' gp') sub_W1 (fun j hj => zJ_in hj) back_W1 rfl rfl rfl rfl k_X10_thrown.1 k_X10_thrown.2 (zIn (w := 5208) (by decide +kernel) rfl) (by decide +kernel) (Nat.le_of_ble_eq_true rfl) (by decide +kernel) ?_)
  refine zT.congM (M2 := zJ s m' x') (fun k hk => zJ_m rfl) ?_
  refine zT.run [(.iload 5, 0, 0, 0)] (pe := 1329) (ls' := [some (.ref 0), some (.ref 23), some (.ref 1), some (.ref 22), some (.int (nI (6 * i))), some (.int kk), some (.int b), none, none]) (st' := [.int kk, .int (m' 0 0)]) (M' := (zJ s m' x')) (by decide +kernel) rfl ?_
  refine zT.ceq (tgt := 1334) (off := 5) (by decide +kernel) (by decide) (fun _ => ?_) (fun c => absurd ht c)
  refine zT.run [(.iload 5, 0, 0, 0)] (pe := 1336) (ls' := [some (.ref 0), some (.ref 23), some (.ref 1), some (.ref 22), some (.int (nI (6 * i))), some (.int kk), some (.int b), none, none]) (st' := [.int kk]) (M' := (zJ s m' x')) (by decide +kernel) rfl ?_
  have KE : zT yy_L_law kc nc Z (1358, [some (.ref 0), some (.ref 23), some (.ref 1), some (.ref 22), some (.int (nI (6 * i))), some (.int kk), some (.int b), none, none], [], sh_W Ns gp' ob' sl ext, (zJ s m' x')) := by
    refine zT.run [(.goto 660, 0, 0, 0)] (pe := 2018) (ls' := [some (.ref 0), some (.ref 23), some (.ref 1), some (.ref 22), some (.int (nI (6 * i))), some (.int kk), some (.int b), none, none]) (st' := []) (M' := (zJ s m' x')) (by decide +kernel) rfl ?_
    refine zT.run [(.iinc 4 6, 0, 0, 0), (.goto (-1998), 0, 0, 0)] (pe := 23) (ls' := [some (.ref 0), some (.ref 23), some (.ref 1), some (.ref 22), some (.int (nI (6 * i) + 6)), some (.int kk), some (.int b), none, none]) (st' := []) (M' := (zJ s m' x')) (by decide +kernel) rfl ?_
    refine zT.drop 5 (zT.drop 6 ?_)
    exact zT.eq (by rw [show nI (6 * i) + 6 = nI (6 * (i + 1)) from nI_addl (6 * i) 6]; rfl) k9
  refine zT.zne (tgt := 1358) (off := 22) (by decide +kernel) (by decide) (fun _ => KE) (fun ck => ?_)
  refine zT.run [(.aload_n 3, 0, 0, 0), (.iconst 0, 0, 0, 0)] (pe := 1341) (ls' := [some (.ref 0), some (.ref 23), some (.ref 1), some (.ref 22), some (.int (nI (6 * i))), some (.int kk), some (.int b), none, none]) (st' := [.int 0, .ref 22]) (M' := (zJ s m' x')) (by decide +kernel) rfl ?_
  refine zT.lald (o := 22) (n := 1) (k := 0) (z := ob') rfl rfl (by decide) (by decide) (by decide +kernel) ?_
  refine zT.run [(.iload 6, 0, 0, 0)] (pe := 1344) (ls' := [some (.ref 0), some (.ref 23), some (.ref 1), some (.ref 22), some (.int (nI (6 * i))), some (.int kk), some (.int b), none, none]) (st' := [.int b, .long (ob' 0)]) (M' := (zJ s m' x')) (by decide +kernel) rfl ?_
  refine zT.zeq (tgt := 1351) (off := 7) (by decide +kernel) (by decide) (fun cb => ?_) (fun cb => ?_)
  · skip
    refine zT.run [(.lconst 0, 0, 0, 0), (.lcmp, 0, 0, 0)] (pe := 1353) (ls' := [some (.ref 0), some (.ref 23), some (.ref 1), some (.ref 22), some (.int (nI (6 * i))), some (.int kk), some (.int b), none, none]) (st' := [.int (lg_cmp (ob' 0) 0)]) (M' := (zJ s m' x')) (by decide +kernel) rfl ?_
    exact zT.zeq (tgt := 1358) (off := 5) (by decide +kernel) (by decide) (fun _ => KE) (fun c => absurd (by rw [hv ck, if_pos cb]; exact lg_cmp_rf _) c)
  · skip
    refine zT.run [(.lconst 1, 0, 0, 0), (.goto 4, 0, 0, 0)] (pe := 1352) (ls' := [some (.ref 0), some (.ref 23), some (.ref 1), some (.ref 22), some (.int (nI (6 * i))), some (.int kk), some (.int b), none, none]) (st' := [.long 1, .long (ob' 0)]) (M' := (zJ s m' x')) (by decide +kernel) rfl ?_
    refine zT.run [(.lcmp, 0, 0, 0)] (pe := 1353) (ls' := [some (.ref 0), some (.ref 23), some (.ref 1), some (.ref 22), some (.int (nI (6 * i))), some (.int kk), some (.int b), none, none]) (st' := [.int (lg_cmp (ob' 0) 1)]) (M' := (zJ s m' x')) (by decide +kernel) rfl ?_
    exact zT.zeq (tgt := 1358) (off := 5) (by decide +kernel) (by decide) (fun _ => KE) (fun c => absurd (by rw [hv ck, if_neg cb]; exact lg_cmp_rf _) c)
