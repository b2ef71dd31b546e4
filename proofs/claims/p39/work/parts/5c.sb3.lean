/-! STRINGBUILDER: a number is appended; its making; its letters -/
def dg (v : Nat) : List Nat := if v < 10 then [48 + v] else [48 + v / 10, 48 + v % 10]
theorem dg_len (v : Nat) : (dg v).length = if v < 10 then 1 else 2 := by unfold dg; split <;> rfl
theorem dg_chr {v : Nat} (h : v < 100) (j : Nat) : (dg v).getD j 0 < 128 := by
  unfold dg
  split
  · cases j with
    | zero => show 48 + v < 128; omega
    | succ j => exact (by decide : (0 : Nat) < 128)
  · cases j with
    | zero => show 48 + v / 10 < 128; omega
    | succ j =>
      cases j with
      | zero => show 48 + v % 10 < 128; omega
      | succ j => exact (by decide : (0 : Nat) < 128)
theorem sb_le10 : ∀ v, v < 100 → (-nI v ≤ -10 ↔ 10 ≤ v) := by decide +kernel
theorem sb_le100 : ∀ v, v < 100 → ¬ -nI v ≤ 10 * -10 := by decide +kernel
theorem sb_gt100 : ∀ v, v < 100 → (-100 : Int32) < -nI v := by decide +kernel
theorem sb_ge9 : ∀ v, v < 100 → ((-9 : Int32) ≤ -nI v ↔ v < 10) := by decide +kernel
theorem sd_dec {p : Nat} (h : 1 ≤ p) : nI p + (-1) = nI (p - 1) := by
  rw [← pk_sub h, Int32.sub_eq_add_neg]
  rfl
theorem sb_ones : (FieldType.byte, 105, (List.range 100).map fun v => Value.int (nI (48 + v % 10))) ∈ zTs := by decide +kernel
theorem sb_tens : (FieldType.byte, 106, (List.range 100).map fun v => Value.int (nI (48 + v / 10))) ∈ zTs := by decide +kernel
theorem sd_at {v : Nat} (f : Nat → Value) (h : v < 100) : ((List.range 100).map f)[v]? = some (f v) := by
  rw [List.getElem?_map, List.getElem?_range h]
  rfl
noncomputable abbrev yy_J6_stringSize_0f7a4 : zY := (yJ6_stringSize_0f7a4, cJ6_stringSize_0f7a4, 4, (some Jvm.ClassFile.FieldType.int), 0, 0)
theorem c_J6_stringSize (v : Nat) (h : v < 100) : zC yy_J6_stringSize_0f7a4 0 0 [.int (nI v)] [] zM0 (some (.int (nI (dg v).length))) [] zM0 := by
  refine zC.of (by decide +kernel) rfl (Nat.le_of_ble_eq_true rfl) ?_
  refine zT.run [(.iconst 1, 0, 0, 0), (.istore_n 1, 0, 0, 0), (.iload_n 0, 0, 0, 0)] (pe := 3) (ls' := [some (.int (nI v)), some (.int 1), none, none]) (st' := [.int (nI v)]) (M' := zM0) (by decide +kernel) rfl ?_
  refine zT.zlt (tgt := 11) (off := 8) (by decide +kernel) (by decide) (fun q => absurd q (nI_pos (by omega))) (fun _ => ?_)
  refine zT.run [(.iconst 0, 0, 0, 0), (.istore_n 1, 0, 0, 0), (.iload_n 0, 0, 0, 0), (.ineg, 0, 0, 0), (.istore_n 0, 0, 0, 0), (.bipush (-10), 0, 0, 0), (.istore_n 2, 0, 0, 0), (.iconst 1, 0, 0, 0), (.istore_n 3, 0, 0, 0), (.iload_n 3, 0, 0, 0), (.bipush 10, 0, 0, 0)] (pe := 19) (ls' := [some (.int (-(nI v))), some (.int 0), some (.int (-10)), some (.int 1)]) (st' := [.int 10, .int 1]) (M' := zM0) (by decide +kernel) rfl ?_
  refine zT.cge (tgt := 42) (off := 23) (by decide +kernel) (by decide) (fun q => absurd q (by decide)) (fun _ => ?_)
  refine zT.run [(.iload_n 0, 0, 0, 0), (.iload_n 2, 0, 0, 0)] (pe := 24) (ls' := [some (.int (-(nI v))), some (.int 0), some (.int (-10)), some (.int 1)]) (st' := [.int (-10), .int (-(nI v))]) (M' := zM0) (by decide +kernel) rfl ?_
  refine zT.cle (tgt := 31) (off := 7) (by decide +kernel) (by decide) (fun q => ?_) (fun q => ?_)
  · skip
    have h10 : 10 ≤ v := (sb_le10 v h).mp q
    refine zT.run [(.bipush 10, 0, 0, 0), (.iload_n 2, 0, 0, 0), (.imul, 0, 0, 0), (.istore_n 2, 0, 0, 0), (.iinc 3 1, 0, 0, 0), (.goto (-23), 0, 0, 0), (.iload_n 3, 0, 0, 0), (.bipush 10, 0, 0, 0)] (pe := 19) (ls' := [some (.int (-(nI v))), some (.int 0), some (.int (10 * (-10))), some (.int (1 + 1))]) (st' := [.int 10, .int (1 + 1)]) (M' := zM0) (by decide +kernel) rfl ?_
    refine zT.cge (tgt := 42) (off := 23) (by decide +kernel) (by decide) (fun q => absurd q (by decide)) (fun _ => ?_)
    refine zT.run [(.iload_n 0, 0, 0, 0), (.iload_n 2, 0, 0, 0)] (pe := 24) (ls' := [some (.int (-(nI v))), some (.int 0), some (.int (10 * (-10))), some (.int (1 + 1))]) (st' := [.int (10 * (-10)), .int (-(nI v))]) (M' := zM0) (by decide +kernel) rfl ?_
    refine zT.cle (tgt := 31) (off := 7) (by decide +kernel) (by decide) (fun q => absurd q (sb_le100 v h)) (fun _ => ?_)
    refine zT.run [(.iload_n 3, 0, 0, 0), (.iload_n 1, 0, 0, 0), (.iadd, 0, 0, 0)] (pe := 30) (ls' := [some (.int (-(nI v))), some (.int 0), some (.int (10 * (-10))), some (.int (1 + 1))]) (st' := [.int ((1 + 1) + 0)]) (M' := zM0) (by decide +kernel) rfl ?_
    rw [dg_len, if_neg (by omega)]
    exact zT.iret (ty := .int) rfl rfl rfl rfl (by decide +kernel)
  · skip
    have h10 : v < 10 := Nat.lt_of_not_le fun e => q ((sb_le10 v h).mpr e)
    refine zT.run [(.iload_n 3, 0, 0, 0), (.iload_n 1, 0, 0, 0), (.iadd, 0, 0, 0)] (pe := 30) (ls' := [some (.int (-(nI v))), some (.int 0), some (.int (-10)), some (.int 1)]) (st' := [.int (1 + 0)]) (M' := zM0) (by decide +kernel) rfl ?_
    rw [dg_len, if_pos h10]
    exact zT.iret (ty := .int) rfl rfl rfl rfl (by decide +kernel)
theorem k_J6_stringSize_0f7a4 : zCas yy_J6_stringSize_0f7a4 1 := ⟨⟨⟨⟨zIn (w := 3128) (by decide +kernel) rfl, zIn (w := 1011) (by decide +kernel) rfl⟩, by decide +kernel⟩, by decide +kernel⟩, zIn (w := 3127) (by decide +kernel) rfl⟩
noncomputable abbrev yy_J6_getChars_ba4f3 : zY := (yJ6_getChars_ba4f3, cJ6_getChars_ba4f3, 7, (some Jvm.ClassFile.FieldType.int), 0, 0)
theorem c_J6_getChars {v p k m : Nat} (hv : v < 100) {sc : List va_E} {M : zM} (ha : zSg sc k = some (.inl (1, m, .inl fun _ => 0))) (hm5 : m ≤ 500) (hp : (dg v).length ≤ p) (hpm : p ≤ m) : zCr yy_J6_getChars_ba4f3 0 0 [.int (nI v), .int (nI p), .ref k] sc M (fun rv sh' M' => rv = some (.int (nI (p - (dg v).length))) ∧ sc = sh' ∧ (∀ j, j ≠ k → M' j = M j) ∧ ∀ j, M' k j = if p - (dg v).length ≤ j ∧ j < p then nI ((dg v).getD (j - (p - (dg v).length)) 0) else M k j) := by
  refine zCr.of (by decide +kernel) rfl (Nat.le_of_ble_eq_true rfl) ?_
  have hp1 : 1 ≤ p := by rw [dg_len] at hp; split at hp <;> omega
  refine zT.run [(.iload_n 1, 0, 0, 0), (.istore 5, 0, 0, 0), (.iload_n 0, 0, 0, 0)] (pe := 4) (ls' := [some (.int (nI v)), some (.int (nI p)), some (.ref k), none, none, some (.int (nI p)), none]) (st' := [.int (nI v)]) (M' := M) (by decide +kernel) rfl ?_
  refine zT.zge (tgt := 11) (off := 7) (by decide +kernel) (by decide) (fun _ => ?_) (fun q => absurd (nI_leI (a := 0) (b := v) (by decide) (by omega) |>.mpr (Nat.zero_le _)) q)
  refine zT.run [(.iconst 0, 0, 0, 0), (.istore 6, 0, 0, 0), (.iload 6, 0, 0, 0)] (pe := 16) (ls' := [some (.int (nI v)), some (.int (nI p)), some (.ref k), none, none, some (.int (nI p)), some (.int 0)]) (st' := [.int 0]) (M' := M) (by decide +kernel) rfl ?_
  refine zT.zne (tgt := 22) (off := 6) (by decide +kernel) (by decide) (fun q => absurd rfl q) (fun _ => ?_)
  refine zT.run [(.iload_n 0, 0, 0, 0), (.ineg, 0, 0, 0), (.istore_n 0, 0, 0, 0), (.iload_n 0, 0, 0, 0), (.bipush (-100), 0, 0, 0)] (pe := 25) (ls' := [some (.int (-(nI v))), some (.int (nI p)), some (.ref k), none, none, some (.int (nI p)), some (.int 0)]) (st' := [.int (-100), .int (-(nI v))]) (M' := M) (by decide +kernel) rfl ?_
  refine zT.cgt (tgt := 72) (off := 47) (by decide +kernel) (by decide) (fun _ => ?_) (fun q => absurd (sb_gt100 v hv) q)
  refine zT.run [(.aload_n 2, 0, 0, 0), (.iinc 5 (-1), 0, 0, 0), (.iload 5, 0, 0, 0)] (pe := 78) (ls' := [some (.int (-(nI v))), some (.int (nI p)), some (.ref k), none, none, some (.int ((nI p) + (-1))), some (.int 0)]) (st' := [.int ((nI p) + (-1)), .ref k]) (M' := M) (by decide +kernel) rfl ?_
  rw [sd_dec (p := p) (by omega)]
  refine zT.gets (idx := 83) 6 rfl rfl (zIn (w := 3132) (by decide +kernel) rfl) (by decide +kernel) ?_
  refine zT.run [(.iload_n 0, 0, 0, 0), (.ineg, 0, 0, 0)] (pe := 83) (ls' := [some (.int (-(nI v))), some (.int (nI p)), some (.ref k), none, none, some (.int (nI (p - 1))), some (.int 0)]) (st' := [.int (-(-(nI v))), .retAddr 105, .int (nI (p - 1)), .ref k]) (M' := M) (by decide +kernel) rfl ?_
  refine zT.xbM (j := v) sb_ones (by rw [Int32.neg_neg]) (sd_at _ hv) (by decide +kernel) (by decide +kernel) ?_
  refine zT.bast (k := p - 1) ha rfl (by omega) (by omega) (by decide +kernel) ?_
  rw [sb_nar1 _ (by omega)]
  refine zT.run [(.iload_n 0, 0, 0, 0), (.bipush (-9), 0, 0, 0)] (pe := 88) (ls' := [some (.int (-(nI v))), some (.int (nI p)), some (.ref k), none, none, some (.int (nI (p - 1))), some (.int 0)]) (st' := [.int (-9), .int (-(nI v))]) (M' := (zU M k (p - 1) (nI (48 + v % 10)))) (by decide +kernel) rfl ?_
  refine zT.cge (tgt := 104) (off := 16) (by decide +kernel) (by decide) (fun q => ?_) (fun q => ?_)
  · skip
    have h10 : v < 10 := (sb_ge9 v hv).mp q
    have hl : (dg v).length = 1 := by rw [dg_len, if_pos h10]
    refine zT.run [(.iload 6, 0, 0, 0)] (pe := 106) (ls' := [some (.int (-(nI v))), some (.int (nI p)), some (.ref k), none, none, some (.int (nI (p - 1))), some (.int 0)]) (st' := [.int 0]) (M' := (zU M k (p - 1) (nI (48 + v % 10)))) (by decide +kernel) rfl ?_
    refine zT.zeq (tgt := 118) (off := 12) (by decide +kernel) (by decide) (fun _ => ?_) (fun q => absurd rfl q)
    refine zT.run [(.iload 5, 0, 0, 0)] (pe := 120) (ls' := [some (.int (-(nI v))), some (.int (nI p)), some (.ref k), none, none, some (.int (nI (p - 1))), some (.int 0)]) (st' := [.int (nI (p - 1))]) (M' := (zU M k (p - 1) (nI (48 + v % 10)))) (by decide +kernel) rfl ?_
    rw [hl] at hp ⊢
    refine zT.retI (ty := .int) ⟨rfl, rfl, fun j hj => zU_ne hj, fun j => ?_⟩ rfl rfl (by decide +kernel)
    rw [zU_c]
    by_cases e : j = p - 1
    · rw [if_pos e, if_pos (by omega), e, Nat.sub_self]
      unfold dg
      rw [if_pos h10]
      show nI (48 + v % 10) = nI (48 + v)
      rw [Nat.mod_eq_of_lt h10]
    · rw [if_neg e, if_neg (by omega)]
  · skip
    have h10 : ¬ v < 10 := fun e => q ((sb_ge9 v hv).mpr e)
    have hl : (dg v).length = 2 := by rw [dg_len, if_neg h10]
    rw [hl] at hp ⊢
    refine zT.run [(.aload_n 2, 0, 0, 0), (.iinc 5 (-1), 0, 0, 0), (.iload 5, 0, 0, 0)] (pe := 97) (ls' := [some (.int (-(nI v))), some (.int (nI p)), some (.ref k), none, none, some (.int ((nI (p - 1)) + (-1))), some (.int 0)]) (st' := [.int ((nI (p - 1)) + (-1)), .ref k]) (M' := (zU M k (p - 1) (nI (48 + v % 10)))) (by decide +kernel) rfl ?_
    rw [sd_dec (p := (p - 1)) (by omega)]
    refine zT.gets (idx := 87) 7 rfl rfl (zIn (w := 3134) (by decide +kernel) rfl) (by decide +kernel) ?_
    refine zT.run [(.iload_n 0, 0, 0, 0), (.ineg, 0, 0, 0)] (pe := 102) (ls' := [some (.int (-(nI v))), some (.int (nI p)), some (.ref k), none, none, some (.int (nI ((p - 1) - 1))), some (.int 0)]) (st' := [.int (-(-(nI v))), .retAddr 106, .int (nI ((p - 1) - 1)), .ref k]) (M' := (zU M k (p - 1) (nI (48 + v % 10)))) (by decide +kernel) rfl ?_
    refine zT.xbM (j := v) sb_tens (by rw [Int32.neg_neg]) (sd_at _ hv) (by decide +kernel) (by decide +kernel) ?_
    refine zT.bast (k := (p - 1) - 1) ha rfl (by omega) (by omega) (by decide +kernel) ?_
    rw [sb_nar1 _ (by omega)]
    refine zT.run [(.iload 6, 0, 0, 0)] (pe := 106) (ls' := [some (.int (-(nI v))), some (.int (nI p)), some (.ref k), none, none, some (.int (nI ((p - 1) - 1))), some (.int 0)]) (st' := [.int 0]) (M' := (zU (zU M k (p - 1) (nI (48 + v % 10))) k ((p - 1) - 1) (nI (48 + v / 10)))) (by decide +kernel) rfl ?_
    refine zT.zeq (tgt := 118) (off := 12) (by decide +kernel) (by decide) (fun _ => ?_) (fun q => absurd rfl q)
    refine zT.run [(.iload 5, 0, 0, 0)] (pe := 120) (ls' := [some (.int (-(nI v))), some (.int (nI p)), some (.ref k), none, none, some (.int (nI ((p - 1) - 1))), some (.int 0)]) (st' := [.int (nI ((p - 1) - 1))]) (M' := (zU (zU M k (p - 1) (nI (48 + v % 10))) k ((p - 1) - 1) (nI (48 + v / 10)))) (by decide +kernel) rfl ?_
    refine zT.retI (ty := .int) ⟨by rw [show p - 1 - 1 = p - 2 by omega], rfl, fun j hj => by rw [zU_ne hj, zU_ne hj], fun j => ?_⟩ rfl rfl (by decide +kernel)
    rw [zU_c, zU_c]
    unfold dg
    rw [if_neg h10]
    by_cases e1 : j = p - 1 - 1
    · rw [if_pos e1, if_pos (by omega), show j - (p - 2) = 0 by omega]
      rfl
    · rw [if_neg e1]
      by_cases e : j = p - 1
      · rw [if_pos e, if_pos (by omega), show j - (p - 2) = 1 by omega]
        rfl
      · rw [if_neg e, if_neg (by omega)]
theorem k_J6_getChars_ba4f3 : zCad yy_J6_getChars_ba4f3 3 := ⟨⟨⟨zIn (w := 3131) (by decide +kernel) rfl, zIn (w := 1011) (by decide +kernel) rfl⟩, by decide +kernel⟩, zIn (w := 3130) (by decide +kernel) rfl⟩
noncomputable abbrev yy_J5_append_c97b9 : zY := (yJ5_append_c97b9, cJ5_append_c97b9, 4, (some (Jvm.ClassFile.FieldType.object "java/lang/AbstractStringBuilder")), 4, 104)
theorem c_J5_appendI {v : Nat} (hv : v < 100) {sc : List va_E} {M : zM} {t : List Nat} {q0 : Nat} (h : SB sc M t q0) (hq2 : t.length + (dg v).length ≤ 249) : zCr yy_J5_append_c97b9 1 500 [.ref 0, .int (nI v)] sc M (fun rv sh' M' => rv = some (.ref 0) ∧ SB sh' M' (t ++ dg v) (t.length + (dg v).length)) := by
  refine zCr.of (by decide +kernel) rfl (Nat.le_of_ble_eq_true rfl) ?_
  obtain ⟨k, m, hs, ha, hc, h3, hcs, hf, hm5, hqm, htq, htx⟩ := id h
  have hl1 : 1 ≤ sc.length := zSg_lt hs
  have hk0 := sb_k0 hs ha
  have hlk := zSg_lt ha
  have hd1 : 1 ≤ (dg v).length ∧ (dg v).length ≤ 2 := by rw [dg_len]; split <;> omega
  refine zT.run [(.aload_n 0, 0, 0, 0)] (pe := 1) (ls' := [some (.ref 0), some (.int (nI v)), none, none]) (st' := [.ref 0]) (M' := M) (by decide +kernel) rfl ?_
  refine zT.getG (idx := 79) (fb := 3) (ci := 8) (w := 3101) hs rfl (by decide +kernel) (by decide +kernel) ?_
  rw [show zI (.int 0) (M 0 3) = .int (nI t.length) from congrArg Value.int h3]
  refine zT.run [(.istore_n 2, 0, 0, 0), (.iload_n 2, 0, 0, 0), (.iload_n 1, 0, 0, 0)] (pe := 7) (ls' := [some (.ref 0), some (.int (nI v)), some (.int (nI t.length)), none]) (st' := [.int (nI v), .int (nI t.length)]) (M' := M) (by decide +kernel) rfl ?_
  refine zT.cS_nil (idx := 245) (av := [.int (nI v)]) (rv := some (.int (nI (dg v).length))) (st := [.int (nI t.length)]) (S1 := [.int (nI (dg v).length), .int (nI t.length)]) (c_J6_stringSize v hv) k_J6_stringSize_0f7a4 rfl (zIn (w := 3126) (by decide +kernel) rfl) (by decide +kernel) (by decide +kernel) rfl (Nat.le_of_ble_eq_true rfl) rfl ?_
  refine zT.run [(.iadd, 0, 0, 0)] (pe := 11) (ls' := [some (.ref 0), some (.int (nI v)), some (.int (nI t.length)), none]) (st' := [.int ((nI t.length) + (nI (dg v).length))]) (M' := M) (by decide +kernel) rfl ?_
  rw [nI_add]
  refine zT.run [(.istore_n 3, 0, 0, 0), (.aload_n 0, 0, 0, 0), (.iload_n 3, 0, 0, 0)] (pe := 14) (ls' := [some (.ref 0), some (.int (nI v)), some (.int (nI t.length)), some (.int (nI (t.length + (dg v).length)))]) (st' := [.int (nI (t.length + (dg v).length)), .ref 0]) (M' := M) (by decide +kernel) rfl ?_
  refine zT.cPr (kc := 0) (nc := 0) (o := 0) (idx := 100) (av := [.int (nI (t.length + (dg v).length))]) (st := []) (c_J5_ensure h (q := t.length + (dg v).length) (by omega) hq2) (zLb_up (n := 1) rfl hl1) (zVb_up (n := 1) rfl hl1) hs rfl rfl ⟨k_J5_ensureCapacityInternal_d00df, p_J5_ensureCapacityInternal_d00df⟩ (zIn (w := 3004) (by decide +kernel) rfl) (by decide +kernel) (Nat.le_of_ble_eq_true rfl) (by decide +kernel) rfl ?_
  rintro _ sc1 M1 ⟨rfl, hE⟩
  clear hs ha hc h3 hcs hf hm5 hqm htq htx hl1 hk0 hlk
  obtain ⟨k, m, hs, ha, hc, h3, hcs, hf, hm5, hqm, htq, htx⟩ := hE
  have hl1 : 1 ≤ sc1.length := zSg_lt hs
  have hk0 := sb_k0 hs ha
  have hlk := zSg_lt ha
  show zT _ _ _ _ (17, _, [], _, _)
  refine zT.run [(.aload_n 0, 0, 0, 0)] (pe := 18) (ls' := [some (.ref 0), some (.int (nI v)), some (.int (nI t.length)), some (.int (nI (t.length + (dg v).length)))]) (st' := [.ref 0]) (M' := M1) (by decide +kernel) rfl ?_
  refine zT.eq9 (zT.cUp (x := yy_J5_isLatin1_aae02.1) (q := (RJ4, TJ4, 4)) (h00 := k_J5_isLatin1_aae02.1.1.1) (hx1 := k_J5_isLatin1_aae02.2.1) (hx2 := k_J5_isLatin1_aae02.2.2) (hsl := zIn (w := 3037) (by decide +kernel) rfl) (hdx := k_J5_isLatin1_aae02.1.2) (kc := 0) (nc := 0) (o := 0) (idx := 83) (av := []) (st := []) (c_J5_isLatin1_aae02 hs ha hc) (zLb_up (n := 1) rfl hl1) (zVb_up (n := 1) rfl hl1) hs rfl rfl ⟨k_J5_isLatin1_aae02.1.1, k_J5_isLatin1_aae02.2.1⟩ (zIn (w := 3034) (by decide +kernel) rfl) (by decide +kernel) (Nat.le_of_ble_eq_true rfl) (by decide +kernel) rfl ?_)
  rintro _ _ _ ⟨rfl, rfl, rfl⟩
  show zT _ _ _ _ (21, _, [.int 1], _, _)
  refine zT.zeq (tgt := 37) (off := 16) (by decide +kernel) (by decide) (fun q => absurd q (by decide)) (fun _ => ?_)
  refine zT.run [(.iload_n 1, 0, 0, 0), (.iload_n 3, 0, 0, 0), (.aload_n 0, 0, 0, 0)] (pe := 27) (ls' := [some (.ref 0), some (.int (nI v)), some (.int (nI t.length)), some (.int (nI (t.length + (dg v).length)))]) (st' := [.ref 0, .int (nI (t.length + (dg v).length)), .int (nI v)]) (M' := M1) (by decide +kernel) rfl ?_
  refine zT.getG (idx := 15) (fb := 0) (ci := 8) (w := 3099) hs rfl (by decide +kernel) (by decide +kernel) ?_
  rw [show zI (.ref k) (M1 0 0) = .ref k from rfl]
  refine zT.eq9 (zT.cSr (kc := 0) (nc := 0) (idx := 248) (av := [.int (nI v), .int (nI (t.length + (dg v).length)), .ref k]) (st := []) (c_J6_getChars hv ha hm5 (by omega) hqm) (zLb_up (n := 1) rfl hl1) rfl rfl k_J6_getChars_ba4f3 (zIn (w := 3129) (by decide +kernel) rfl) (by decide +kernel) (Nat.le_of_ble_eq_true rfl) (by decide +kernel) rfl ?_)
  rintro _ _ M2 ⟨rfl, rfl, e2, e3⟩
  show zT _ _ _ _ (33, _, [.int (nI (t.length + (dg v).length - (dg v).length))], _, _)
  refine zT.run [(.pop, 0, 0, 0), (.goto 14, 0, 0, 0), (.aload_n 0, 0, 0, 0), (.iload_n 3, 0, 0, 0)] (pe := 50) (ls' := [some (.ref 0), some (.int (nI v)), some (.int (nI t.length)), some (.int (nI (t.length + (dg v).length)))]) (st' := [.int (nI (t.length + (dg v).length)), .ref 0]) (M' := M2) (by decide +kernel) rfl ?_
  refine zT.putG (idx := 79) (fb := 3) (ci := 8) (w := 3101) (o := 0) hs rfl (by decide +kernel) (by decide +kernel) ?_
  refine zT.run [(.aload_n 0, 0, 0, 0)] (pe := 54) (ls' := [some (.ref 0), some (.int (nI v)), some (.int (nI t.length)), some (.int (nI (t.length + (dg v).length)))]) (st' := [.ref 0]) (M' := (zU M2 0 3 (nI (t.length + (dg v).length)))) (by decide +kernel) rfl ?_
  refine zT.retA ⟨rfl, SB_gen (M := M1) hs ha hcs hf hm5 hqm htx (dg_chr hv) ?_ zU_s (fun j => ?_)⟩ rfl (by decide +kernel)
  · rw [zU_k (by decide), e2 0 (Ne.symm hk0)]; exact hc
  · rw [zU_ne hk0, e3, Nat.add_sub_cancel]
theorem k_J5_append_c97b9 : zOkI yy_J5_append_c97b9 1 := ⟨⟨⟨zIn (w := 3125) (by decide +kernel) rfl, zIn (w := 1018) (by decide +kernel) rfl⟩, by decide +kernel⟩, zIn (w := 3124) (by decide +kernel) rfl, zIn (w := 5167) (by decide +kernel) rfl⟩
noncomputable abbrev yy_J4_append_bf812 : zY := (yJ4_append_bf812, cJ4_append_bf812, 2, (some (Jvm.ClassFile.FieldType.object "java/lang/StringBuilder")), 5, 127)
theorem c_J4_appendI {v : Nat} (hv : v < 100) {sc : List va_E} {M : zM} {t : List Nat} {q0 : Nat} (h : SB sc M t q0) (hq2 : t.length + (dg v).length ≤ 249) : zCr yy_J4_append_bf812 1 500 [.ref 0, .int (nI v)] sc M (fun rv sh' M' => rv = some (.ref 0) ∧ SB sh' M' (t ++ dg v) (t.length + (dg v).length)) := by
  refine zCr.of (by decide +kernel) rfl (Nat.le_of_ble_eq_true rfl) ?_
  obtain ⟨k, m, hs, -⟩ := id h
  have hl1 : 1 ≤ sc.length := zSg_lt hs
  refine zT.run [(.aload_n 0, 0, 0, 0), (.iload_n 1, 0, 0, 0)] (pe := 2) (ls' := [some (.ref 0), some (.int (nI v))]) (st' := [.int (nI v), .ref 0]) (M' := M) (by decide +kernel) rfl ?_
  refine zT.cSup (kc := 0) (nc := 0) (o := 0) (idx := 53) (av := [.int (nI v)]) (st := []) (c_J5_appendI hv h hq2) (zLb_up (n := 1) rfl hl1) (zVb_up (n := 1) rfl hl1) hs rfl rfl ⟨⟨k_J5_append_c97b9, by decide +kernel⟩, zIn (w := 2238) (by decide +kernel) rfl⟩ (zIn (w := 3123) (by decide +kernel) rfl) (by decide +kernel) (Nat.le_of_ble_eq_true rfl) (by decide +kernel) rfl ?_
  rintro _ sc1 M1 ⟨rfl, hE⟩
  show zT _ _ _ _ (5, _, [.ref 0], _, _)
  refine zT.run [(.pop, 0, 0, 0), (.aload_n 0, 0, 0, 0)] (pe := 7) (ls' := [some (.ref 0), some (.int (nI v))]) (st' := [.ref 0]) (M' := M1) (by decide +kernel) rfl ?_
  exact zT.retA ⟨rfl, hE⟩ rfl (by decide +kernel)
theorem k_J4_append_bf812 : zCal yy_J4_append_bf812 1 := ⟨⟨⟨⟨zIn (w := 3122) (by decide +kernel) rfl, zIn (w := 1019) (by decide +kernel) rfl⟩, by decide +kernel⟩, by decide +kernel⟩, ⟨zIn (w := 3120) (by decide +kernel) rfl, zIn (w := 3121) (by decide +kernel) rfl⟩⟩
noncomputable abbrev yy_J5_length_8abf5 : zY := (yJ5_length_8abf5, cJ5_length_8abf5, 1, (some Jvm.ClassFile.FieldType.int), 0, 0)
theorem c_J5_lengthB {sc : List va_E} {M : zM} {t : List Nat} {q0 : Nat} (h : SB sc M t q0) : zCr yy_J5_length_8abf5 0 0 [.ref 0] sc M (fun rv sh' M' => rv = some (.int (nI t.length)) ∧ sc = sh' ∧ M = M') := by
  refine zCr.of (by decide +kernel) rfl (Nat.le_of_ble_eq_true rfl) ?_
  obtain ⟨k, m, hs, ha, hc, h3, hcs, hf, hm5, hqm, htq, htx⟩ := id h
  have hl1 : 1 ≤ sc.length := zSg_lt hs
  have hk0 := sb_k0 hs ha
  have hlk := zSg_lt ha
  refine zT.run [(.aload_n 0, 0, 0, 0)] (pe := 1) (ls' := [some (.ref 0)]) (st' := [.ref 0]) (M' := M) (by decide +kernel) rfl ?_
  refine zT.getG (idx := 79) (fb := 3) (ci := 8) (w := 3101) hs rfl (by decide +kernel) (by decide +kernel) ?_
  rw [show zI (.int 0) (M 0 3) = .int (nI t.length) from congrArg Value.int h3]
  exact zT.retI (ty := .int) ⟨rfl, rfl, rfl⟩ rfl rfl (by decide +kernel)
theorem k_J5_length_8abf5 : zOkI yy_J5_length_8abf5 0 := ⟨⟨⟨zIn (w := 3172) (by decide +kernel) rfl, zIn (w := 1018) (by decide +kernel) rfl⟩, by decide +kernel⟩, zIn (w := 3171) (by decide +kernel) rfl, zIn (w := 5169) (by decide +kernel) rfl⟩
noncomputable abbrev yy_J4_length_8abf5 : zY := (yJ4_length_8abf5, cJ4_length_8abf5, 1, (some Jvm.ClassFile.FieldType.int), 1, 20)
theorem c_J4_lengthB {sc : List va_E} {M : zM} {t : List Nat} {q0 : Nat} (h : SB sc M t q0) : zCr yy_J4_length_8abf5 0 0 [.ref 0] sc M (fun rv sh' M' => rv = some (.int (nI t.length)) ∧ sc = sh' ∧ M = M') := by
  refine zCr.of (by decide +kernel) rfl (Nat.le_of_ble_eq_true rfl) ?_
  obtain ⟨k, m, hs, -⟩ := id h
  have hl1 : 1 ≤ sc.length := zSg_lt hs
  refine zT.run [(.aload_n 0, 0, 0, 0)] (pe := 1) (ls' := [some (.ref 0)]) (st' := [.ref 0]) (M' := M) (by decide +kernel) rfl ?_
  refine zT.eq9 (zT.cSup (kc := 0) (nc := 0) (o := 0) (idx := 343) (av := []) (st := []) (c_J5_lengthB h) (zLb_up (n := 1) rfl hl1) (zVb_up (n := 1) rfl hl1) hs rfl rfl ⟨⟨k_J5_length_8abf5, by decide +kernel⟩, zIn (w := 2238) (by decide +kernel) rfl⟩ (zIn (w := 3170) (by decide +kernel) rfl) (by decide +kernel) (Nat.le_of_ble_eq_true rfl) (by decide +kernel) rfl ?_)
  rintro _ _ _ ⟨rfl, rfl, rfl⟩
  show zT _ _ _ _ (4, _, [.int (nI t.length)], _, _)
  exact zT.retI (ty := .int) ⟨rfl, rfl, rfl⟩ rfl rfl (by decide +kernel)
theorem k_J4_length_8abf5 : zCal yy_J4_length_8abf5 0 := ⟨⟨⟨⟨zIn (w := 3169) (by decide +kernel) rfl, zIn (w := 1019) (by decide +kernel) rfl⟩, by decide +kernel⟩, by decide +kernel⟩, ⟨zIn (w := 3167) (by decide +kernel) rfl, zIn (w := 3168) (by decide +kernel) rfl⟩⟩
noncomputable abbrev yy_J5_charAt_5068e : zY := (yJ5_charAt_5068e, cJ5_charAt_5068e, 5, (some Jvm.ClassFile.FieldType.char), 2, 43)
theorem c_J5_charAtB {sc : List va_E} {M : zM} {t : List Nat} {q0 : Nat} (h : SB sc M t q0) {j : Nat} (hj : j < t.length) : zCr yy_J5_charAt_5068e 0 0 [.ref 0, .int (nI j)] sc M (fun rv sh' M' => rv = some (.int (nI (t.getD j 0))) ∧ sc = sh' ∧ M = M') := by
  refine zCr.of (by decide +kernel) rfl (Nat.le_of_ble_eq_true rfl) ?_
  obtain ⟨k, m, hs, ha, hc, h3, hcs, hf, hm5, hqm, htq, htx⟩ := id h
  have hl1 : 1 ≤ sc.length := zSg_lt hs
  have hk0 := sb_k0 hs ha
  have hlk := zSg_lt ha
  refine zT.run [(.aload_n 0, 0, 0, 0)] (pe := 1) (ls' := [some (.ref 0), some (.int (nI j)), none, none, none]) (st' := [.ref 0]) (M' := M) (by decide +kernel) rfl ?_
  refine zT.getG (idx := 22) (fb := 1) (ci := 8) (w := 3100) hs rfl (by decide +kernel) (by decide +kernel) ?_
  rw [show zI (.int 0) (M 0 1) = .int 0 from congrArg Value.int hc]
  refine zT.run [(.istore_n 2, 0, 0, 0), (.aload_n 0, 0, 0, 0)] (pe := 6) (ls' := [some (.ref 0), some (.int (nI j)), some (.int 0), none, none]) (st' := [.ref 0]) (M' := M) (by decide +kernel) rfl ?_
  refine zT.getG (idx := 15) (fb := 0) (ci := 8) (w := 3099) hs rfl (by decide +kernel) (by decide +kernel) ?_
  rw [show zI (.ref k) (M 0 0) = .ref k from rfl]
  refine zT.run [(.astore_n 3, 0, 0, 0), (.aload_n 0, 0, 0, 0)] (pe := 11) (ls' := [some (.ref 0), some (.int (nI j)), some (.int 0), some (.ref k), none]) (st' := [.ref 0]) (M' := M) (by decide +kernel) rfl ?_
  refine zT.getG (idx := 79) (fb := 3) (ci := 8) (w := 3101) hs rfl (by decide +kernel) (by decide +kernel) ?_
  rw [show zI (.int 0) (M 0 3) = .int (nI t.length) from congrArg Value.int h3]
  refine zT.run [(.aload_n 3, 0, 0, 0)] (pe := 15) (ls' := [some (.ref 0), some (.int (nI j)), some (.int 0), some (.ref k), none]) (st' := [.ref k, .int (nI t.length)]) (M' := M) (by decide +kernel) rfl ?_
  refine zT.lenG (w := 0) ha rfl (by decide +kernel) ?_
  rw [show (Int32.ofNat m) = nI m from rfl]
  refine zT.run [(.iload_n 2, 0, 0, 0), (.ishr, 0, 0, 0)] (pe := 18) (ls' := [some (.ref 0), some (.int (nI j)), some (.int 0), some (.ref k), none]) (st' := [.int ((nI m) >>> (0 &&& 31)), .int (nI t.length)]) (M' := M) (by decide +kernel) rfl ?_
  rw [zShr0]
  refine zT.mmin (idx := 138) ⟨⟨⟨⟨zIn (w := 3180) (by decide +kernel) rfl, zLm_min.1⟩, zLm_min.2.1⟩, zLm_min.2.2⟩, by decide +kernel, by decide +kernel⟩ (Nat.le_of_ble_eq_true rfl) (by decide +kernel) ?_
  rw [if_neg (nI_nlt (by omega) (by omega) : ¬ nI m < nI t.length)]
  refine zT.run [(.istore 4, 0, 0, 0), (.iload_n 1, 0, 0, 0), (.iload 4, 0, 0, 0)] (pe := 26) (ls' := [some (.ref 0), some (.int (nI j)), some (.int 0), some (.ref k), some (.int (nI t.length))]) (st' := [.int (nI t.length), .int (nI j)]) (M' := M) (by decide +kernel) rfl ?_
  refine zT.cS_nil (idx := 144) (av := [.int (nI j), .int (nI t.length)]) (rv := none) (st := []) (S1 := []) ((c_J0_checkIndex (nI j) (nI t.length) (nI_pos (by omega)) (nI_lt hj (by omega)))) k_J0_checkIndex_df160 rfl (zIn (w := 3181) (by decide +kernel) rfl) (by decide +kernel) (by decide +kernel) rfl (Nat.le_of_ble_eq_true rfl) rfl ?_
  refine zT.run [(.iload_n 2, 0, 0, 0)] (pe := 30) (ls' := [some (.ref 0), some (.int (nI j)), some (.int 0), some (.ref k), some (.int (nI t.length))]) (st' := [.int 0]) (M' := M) (by decide +kernel) rfl ?_
  refine zT.zne (tgt := 42) (off := 12) (by decide +kernel) (by decide) (fun q => absurd rfl q) (fun _ => ?_)
  refine zT.run [(.aload_n 3, 0, 0, 0), (.iload_n 1, 0, 0, 0)] (pe := 35) (ls' := [some (.ref 0), some (.int (nI j)), some (.int 0), some (.ref k), some (.int (nI t.length))]) (st' := [.int (nI j), .ref k]) (M' := M) (by decide +kernel) rfl ?_
  refine zT.bald (k := j) ha rfl (by omega) (by omega) (by decide +kernel) ?_
  obtain ⟨c, hch, ec⟩ := hf j
  rw [ec]
  refine zT.run [(.sipush 255, 0, 0, 0), (.iand, 0, 0, 0), (.i2c, 0, 0, 0)] (pe := 41) (ls' := [some (.ref 0), some (.int (nI j)), some (.int 0), some (.ref k), some (.int (nI t.length))]) (st' := [.int (((((nI c) &&& 255)).toUInt32 % 65536).toInt32)]) (M' := M) (by decide +kernel) rfl ?_
  rw [zChr c hch]
  exact zT.retI (ty := .char) ⟨by rw [← ec, htx j hj], rfl, rfl⟩ rfl (zChn c hch) (by decide +kernel)
theorem k_J5_charAt_5068e : zOkI yy_J5_charAt_5068e 1 := ⟨⟨⟨zIn (w := 3179) (by decide +kernel) rfl, zIn (w := 1018) (by decide +kernel) rfl⟩, by decide +kernel⟩, zIn (w := 3178) (by decide +kernel) rfl, zIn (w := 5170) (by decide +kernel) rfl⟩
noncomputable abbrev yy_J4_charAt_5068e : zY := (yJ4_charAt_5068e, cJ4_charAt_5068e, 2, (some Jvm.ClassFile.FieldType.char), 3, 67)
theorem c_J4_charAtB {sc : List va_E} {M : zM} {t : List Nat} {q0 : Nat} (h : SB sc M t q0) {j : Nat} (hj : j < t.length) (hch : t.getD j 0 < 128) : zCr yy_J4_charAt_5068e 0 0 [.ref 0, .int (nI j)] sc M (fun rv sh' M' => rv = some (.int (nI (t.getD j 0))) ∧ sc = sh' ∧ M = M') := by
  refine zCr.of (by decide +kernel) rfl (Nat.le_of_ble_eq_true rfl) ?_
  obtain ⟨k, m, hs, -⟩ := id h
  have hl1 : 1 ≤ sc.length := zSg_lt hs
  refine zT.run [(.aload_n 0, 0, 0, 0), (.iload_n 1, 0, 0, 0)] (pe := 2) (ls' := [some (.ref 0), some (.int (nI j))]) (st' := [.int (nI j), .ref 0]) (M' := M) (by decide +kernel) rfl ?_
  refine zT.eq9 (zT.cSup (kc := 0) (nc := 0) (o := 0) (idx := 329) (av := [.int (nI j)]) (st := []) (c_J5_charAtB h hj) (zLb_up (n := 1) rfl hl1) (zVb_up (n := 1) rfl hl1) hs rfl rfl ⟨⟨k_J5_charAt_5068e, by decide +kernel⟩, zIn (w := 2238) (by decide +kernel) rfl⟩ (zIn (w := 3177) (by decide +kernel) rfl) (by decide +kernel) (Nat.le_of_ble_eq_true rfl) (by decide +kernel) rfl ?_)
  rintro _ _ _ ⟨rfl, rfl, rfl⟩
  show zT _ _ _ _ (5, _, [.int (nI (t.getD j 0))], _, _)
  exact zT.retI (ty := .char) ⟨rfl, rfl, rfl⟩ rfl (zChn _ hch) (by decide +kernel)
theorem k_J4_charAt_5068e : zCal yy_J4_charAt_5068e 1 := ⟨⟨⟨⟨zIn (w := 3176) (by decide +kernel) rfl, zIn (w := 1019) (by decide +kernel) rfl⟩, by decide +kernel⟩, by decide +kernel⟩, ⟨zIn (w := 3174) (by decide +kernel) rfl, zIn (w := 3175) (by decide +kernel) rfl⟩⟩
