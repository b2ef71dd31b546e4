/-! STRINGBUILDER: append of a text, of a letter, of a number; its making; its letters -/
theorem SB_gen {sc : List va_E} {M M' : zM} {k m : Nat} {t s : List Nat} (hs : zSg sc 0 = some (.inr (8, [.ref k, .int 0, .int 0, .int 0]))) (ha : zSg sc k = some (.inl (1, m, .inl fun _ => 0))) (hcs : zCs sc.length sc) (hf : sbF (M k)) (hm5 : m ≤ 500) (hq : t.length + s.length ≤ m) (htx : ∀ j, j < t.length → M k j = nI (t.getD j 0)) (hsx : ∀ j, s.getD j 0 < 128)
    (h0 : M' 0 1 = 0) (h3 : M' 0 3 = nI (t.length + s.length)) (hk : ∀ j, M' k j = if t.length ≤ j ∧ j < t.length + s.length then nI (s.getD (j - t.length) 0) else M k j) : SB sc M' (t ++ s) (t.length + s.length) := by
  refine ⟨k, m, hs, ha, h0, by rw [List.length_append]; exact h3, hcs, fun j => ?_, hm5, hq, by rw [List.length_append]; exact Nat.le_refl _, fun j hj => ?_⟩
  · rw [hk j]
    split
    · exact ⟨_, hsx _, rfl⟩
    · exact hf j
  · rw [List.length_append] at hj
    rw [hk j]
    by_cases c : t.length ≤ j
    · rw [if_pos ⟨c, hj⟩, List.getD_eq_getElem?_getD, List.getD_eq_getElem?_getD, List.getElem?_append_right c]
    · rw [if_neg (by omega), htx j (by omega), List.getD_eq_getElem?_getD, List.getD_eq_getElem?_getD, List.getElem?_append_left (by omega)]
theorem sb_len {sc : List va_E} {M : zM} {t : List Nat} {q : Nat} (h : SB sc M t q) : 1 ≤ sc.length := by
  obtain ⟨k, m, hs, -⟩ := h
  exact zSg_lt hs
noncomputable abbrev yy_J5_append_cf1ce : zY := (yJ5_append_cf1ce, cJ5_append_cf1ce, 3, (some (Jvm.ClassFile.FieldType.object "java/lang/AbstractStringBuilder")), 4, 105)
theorem c_J5_appendS (i : Nat) (hi : i < 21) {sc : List va_E} {M : zM} {t : List Nat} {q0 : Nat} (h : SB sc M t q0) (hq2 : t.length + (zTxt i).length ≤ 249) : zCr yy_J5_append_cf1ce 1 500 [.ref 0, .retAddr (200 + i)] sc M (fun rv sh' M' => rv = some (.ref 0) ∧ SB sh' M' (t ++ zTxt i) (t.length + (zTxt i).length)) := by
  refine zCr.of (by decide +kernel) rfl (Nat.le_of_ble_eq_true rfl) ?_
  obtain ⟨k, m, hs, ha, hc, h3, hcs, hf, hm5, hqm, htq, htx⟩ := id h
  have hl1 : 1 ≤ sc.length := zSg_lt hs
  have hk0 := sb_k0 hs ha
  have hlk := zSg_lt ha
  refine zT.run [(.aload_n 1, 0, 0, 0)] (pe := 1) (ls' := [some (.ref 0), some (.retAddr (200 + i)), none]) (st' := [.retAddr (200 + i)]) (M' := M) (by decide +kernel) rfl ?_
  refine zT.nnulX (tgt := 9) (off := 8) (by decide +kernel) (by decide) ?_
  refine zT.run [(.aload_n 1, 0, 0, 0)] (pe := 10) (ls' := [some (.ref 0), some (.retAddr (200 + i)), none]) (st' := [.retAddr (200 + i)]) (M' := M) (by decide +kernel) rfl ?_
  refine zT.cX (idx := 32) (av := []) (rv := some (.int (nI (zTxt i).length))) (st := []) (S1 := [.int (nI (zTxt i).length)]) (c_J0_length i hi) k_J0_length_8abf5 (zTx_obj i hi) rfl (zIn (w := 2207) (by decide +kernel) rfl) (by decide +kernel) (by decide +kernel) rfl (Nat.le_of_ble_eq_true rfl) rfl ?_
  refine zT.run [(.istore_n 2, 0, 0, 0), (.aload_n 0, 0, 0, 0), (.aload_n 0, 0, 0, 0)] (pe := 16) (ls' := [some (.ref 0), some (.retAddr (200 + i)), some (.int (nI (zTxt i).length))]) (st' := [.ref 0, .ref 0]) (M' := M) (by decide +kernel) rfl ?_
  refine zT.getG (idx := 79) (fb := 3) (ci := 8) (w := 3101) hs rfl (by decide +kernel) (by decide +kernel) ?_
  rw [show zI (.int 0) (M 0 3) = .int (nI t.length) from congrArg Value.int h3]
  refine zT.run [(.iload_n 2, 0, 0, 0), (.iadd, 0, 0, 0)] (pe := 21) (ls' := [some (.ref 0), some (.retAddr (200 + i)), some (.int (nI (zTxt i).length))]) (st' := [.int ((nI t.length) + (nI (zTxt i).length)), .ref 0]) (M' := M) (by decide +kernel) rfl ?_
  rw [nI_add]
  refine zT.cPr (kc := 0) (nc := 0) (o := 0) (idx := 100) (av := [.int (nI (t.length + (zTxt i).length))]) (st := []) (c_J5_ensure h (q := t.length + (zTxt i).length) (by omega) (by omega)) (zLb_up (n := 1) rfl hl1) (zVb_up (n := 1) rfl hl1) hs rfl rfl ⟨k_J5_ensureCapacityInternal_d00df, p_J5_ensureCapacityInternal_d00df⟩ (zIn (w := 3004) (by decide +kernel) rfl) (by decide +kernel) (Nat.le_of_ble_eq_true rfl) (by decide +kernel) rfl ?_
  rintro _ sc1 M1 ⟨rfl, hE⟩
  clear hs ha hc h3 hcs hf hm5 hqm htq htx hl1 hk0 hlk
  obtain ⟨k, m, hs, ha, hc, h3, hcs, hf, hm5, hqm, htq, htx⟩ := hE
  have hl1 : 1 ≤ sc1.length := zSg_lt hs
  have hk0 := sb_k0 hs ha
  have hlk := zSg_lt ha
  show zT _ _ _ _ (24, _, [], _, _)
  refine zT.run [(.aload_n 0, 0, 0, 0), (.aload_n 0, 0, 0, 0)] (pe := 26) (ls' := [some (.ref 0), some (.retAddr (200 + i)), some (.int (nI (zTxt i).length))]) (st' := [.ref 0, .ref 0]) (M' := M1) (by decide +kernel) rfl ?_
  refine zT.getG (idx := 79) (fb := 3) (ci := 8) (w := 3101) hs rfl (by decide +kernel) (by decide +kernel) ?_
  rw [show zI (.int 0) (M1 0 3) = .int (nI t.length) from congrArg Value.int h3]
  refine zT.run [(.aload_n 1, 0, 0, 0)] (pe := 30) (ls' := [some (.ref 0), some (.retAddr (200 + i)), some (.int (nI (zTxt i).length))]) (st' := [.retAddr (200 + i), .int (nI t.length), .ref 0]) (M' := M1) (by decide +kernel) rfl ?_
  refine zT.eq9 (zT.cPr (kc := 0) (nc := 0) (o := 0) (idx := 208) (av := [.int (nI t.length), .retAddr (200 + i)]) (st := []) (c_J5_putStringAt i hi hs ha hc hm5 (by omega)) (zLb_up (n := 1) rfl hl1) (zVb_up (n := 1) rfl hl1) hs rfl rfl ⟨k_J5_putStringAt_47b60, p_J5_putStringAt_47b60⟩ (zIn (w := 3066) (by decide +kernel) rfl) (by decide +kernel) (Nat.le_of_ble_eq_true rfl) (by decide +kernel) rfl ?_)
  rintro _ _ M2 ⟨rfl, rfl, e2⟩
  have e20 : M2 0 = M1 0 := by rw [e2, zUa_ne (Ne.symm hk0)]
  show zT _ _ _ _ (33, _, [], _, _)
  refine zT.run [(.aload_n 0, 0, 0, 0), (.dup, 0, 0, 0)] (pe := 35) (ls' := [some (.ref 0), some (.retAddr (200 + i)), some (.int (nI (zTxt i).length))]) (st' := [.ref 0, .ref 0]) (M' := M2) (by decide +kernel) rfl ?_
  have h32 : M2 0 3 = nI t.length := by rw [e20]; exact h3
  refine zT.getG (idx := 79) (fb := 3) (ci := 8) (w := 3101) hs rfl (by decide +kernel) (by decide +kernel) ?_
  rw [show zI (.int 0) (M2 0 3) = .int (nI t.length) from congrArg Value.int h32]
  refine zT.run [(.iload_n 2, 0, 0, 0), (.iadd, 0, 0, 0)] (pe := 40) (ls' := [some (.ref 0), some (.retAddr (200 + i)), some (.int (nI (zTxt i).length))]) (st' := [.int ((nI t.length) + (nI (zTxt i).length)), .ref 0]) (M' := M2) (by decide +kernel) rfl ?_
  rw [nI_add]
  refine zT.putG (idx := 79) (fb := 3) (ci := 8) (w := 3101) (o := 0) hs rfl (by decide +kernel) (by decide +kernel) ?_
  refine zT.run [(.aload_n 0, 0, 0, 0)] (pe := 44) (ls' := [some (.ref 0), some (.retAddr (200 + i)), some (.int (nI (zTxt i).length))]) (st' := [.ref 0]) (M' := (zU M2 0 3 (nI (t.length + (zTxt i).length)))) (by decide +kernel) rfl ?_
  refine zT.retA ⟨rfl, SB_gen (M := M1) hs ha hcs hf hm5 hqm htx (sb_chr hi) ?_ zU_s (fun j => ?_)⟩ rfl (by decide +kernel)
  · rw [zU_k (by decide), e20]; exact hc
  · rw [zU_ne hk0, e2, zUa_eq]
    show (if t.length ≤ j ∧ j < t.length + (zTxt i).length then nI ((zTxt i).getD (0 + (j - t.length)) 0) else M1 k j) = _
    rw [Nat.zero_add]
theorem k_J5_append_cf1ce : zOkI yy_J5_append_cf1ce 1 := ⟨⟨⟨zIn (w := 2239) (by decide +kernel) rfl, zIn (w := 1018) (by decide +kernel) rfl⟩, by decide +kernel⟩, zIn (w := 2228) (by decide +kernel) rfl, zIn (w := 2229) (by decide +kernel) rfl⟩
noncomputable abbrev yy_J4_append_15ec4 : zY := (yJ4_append_15ec4, cJ4_append_15ec4, 2, (some (Jvm.ClassFile.FieldType.object "java/lang/StringBuilder")), 5, 127)
theorem c_J4_appendS (i : Nat) (hi : i < 21) {sc : List va_E} {M : zM} {t : List Nat} {q0 : Nat} (h : SB sc M t q0) (hq2 : t.length + (zTxt i).length ≤ 249) : zCr yy_J4_append_15ec4 1 500 [.ref 0, .retAddr (200 + i)] sc M (fun rv sh' M' => rv = some (.ref 0) ∧ SB sh' M' (t ++ zTxt i) (t.length + (zTxt i).length)) := by
  refine zCr.of (by decide +kernel) rfl (Nat.le_of_ble_eq_true rfl) ?_
  obtain ⟨k, m, hs, -⟩ := id h
  have hl1 : 1 ≤ sc.length := zSg_lt hs
  refine zT.run [(.aload_n 0, 0, 0, 0), (.aload_n 1, 0, 0, 0)] (pe := 2) (ls' := [some (.ref 0), some (.retAddr (200 + i))]) (st' := [.retAddr (200 + i), .ref 0]) (M' := M) (by decide +kernel) rfl ?_
  refine zT.cSup (kc := 0) (nc := 0) (o := 0) (idx := 29) (av := [.retAddr (200 + i)]) (st := []) (c_J5_appendS i hi h hq2) (zLb_up (n := 1) rfl hl1) (zVb_up (n := 1) rfl hl1) hs rfl rfl ⟨⟨k_J5_append_cf1ce, by decide +kernel⟩, zIn (w := 2238) (by decide +kernel) rfl⟩ (zIn (w := 2237) (by decide +kernel) rfl) (by decide +kernel) (Nat.le_of_ble_eq_true rfl) (by decide +kernel) rfl ?_
  rintro _ sc1 M1 ⟨rfl, hE⟩
  show zT _ _ _ _ (5, _, [.ref 0], _, _)
  refine zT.run [(.pop, 0, 0, 0), (.aload_n 0, 0, 0, 0)] (pe := 7) (ls' := [some (.ref 0), some (.retAddr (200 + i))]) (st' := [.ref 0]) (M' := M1) (by decide +kernel) rfl ?_
  exact zT.retA ⟨rfl, hE⟩ rfl (by decide +kernel)
theorem k_J4_append_15ec4 : zCal yy_J4_append_15ec4 1 := ⟨⟨⟨⟨zIn (w := 2236) (by decide +kernel) rfl, zIn (w := 1019) (by decide +kernel) rfl⟩, by decide +kernel⟩, by decide +kernel⟩, ⟨zIn (w := 2234) (by decide +kernel) rfl, zIn (w := 2235) (by decide +kernel) rfl⟩⟩
noncomputable abbrev yy_J4_append_cf1ce : zY := (yJ4_append_cf1ce, cJ4_append_cf1ce, 2, (some (Jvm.ClassFile.FieldType.object "java/lang/AbstractStringBuilder")), 6, 148)
theorem c_J4_appendB (i : Nat) (hi : i < 21) {sc : List va_E} {M : zM} {t : List Nat} {q0 : Nat} (h : SB sc M t q0) (hq2 : t.length + (zTxt i).length ≤ 249) : zCr yy_J4_append_cf1ce 1 500 [.ref 0, .retAddr (200 + i)] sc M (fun rv sh' M' => rv = some (.ref 0) ∧ SB sh' M' (t ++ zTxt i) (t.length + (zTxt i).length)) := by
  refine zCr.of (by decide +kernel) rfl (Nat.le_of_ble_eq_true rfl) ?_
  obtain ⟨k, m, hs, -⟩ := id h
  have hl1 : 1 ≤ sc.length := zSg_lt hs
  refine zT.run [(.aload_n 0, 0, 0, 0), (.aload_n 1, 0, 0, 0)] (pe := 2) (ls' := [some (.ref 0), some (.retAddr (200 + i))]) (st' := [.retAddr (200 + i), .ref 0]) (M' := M) (by decide +kernel) rfl ?_
  refine zT.cVr (q := (RJ4, TJ4, 4)) (hcl := rfl) (kc := 0) (nc := 0) (o := 0) (idx := 23) (av := [.retAddr (200 + i)]) (st := []) (c_J4_appendS i hi h hq2) (zLb_up (n := 1) rfl hl1) (zVb_up (n := 1) rfl hl1) hs rfl rfl k_J4_append_15ec4 (zIn (w := 2233) (by decide +kernel) rfl) (by decide +kernel) (Nat.le_of_ble_eq_true rfl) (by decide +kernel) rfl ?_
  rintro _ sc1 M1 ⟨rfl, hE⟩
  show zT _ _ _ _ (5, _, [.ref 0], _, _)
  exact zT.retA ⟨rfl, hE⟩ rfl (by decide +kernel)
theorem k_J4_append_cf1ce : (Cond.code yy_J4_append_cf1ce.1 yy_J4_append_cf1ce.2.1 yy_J4_append_cf1ce.2.2.1 yy_J4_append_cf1ce.2.2.2.1 ∈ zW ∧ Cond.initialized yy_J4_append_cf1ce.1.cls ∈ zW) ∧ Cond.instanceMethod yy_J4_append_cf1ce.1 ∈ zW := ⟨⟨zIn (w := 2232) (by decide +kernel) rfl, zIn (w := 1019) (by decide +kernel) rfl⟩, zIn (w := 2231) (by decide +kernel) rfl⟩
noncomputable abbrev yy_J1_canEncode_fc78d : zY := (yJ1_canEncode_fc78d, cJ1_canEncode_fc78d, 1, (some Jvm.ClassFile.FieldType.boolean), 0, 0)
theorem c_J1_canEncode (c : Nat) (h : c < 128) : zC yy_J1_canEncode_fc78d 0 0 [.int (nI c)] [] zM0 (some (.int 1)) [] zM0 := by
  refine zC.of (by decide +kernel) rfl (Nat.le_of_ble_eq_true rfl) ?_
  refine zT.run [(.iload_n 0, 0, 0, 0), (.sipush 255, 0, 0, 0)] (pe := 4) (ls' := [some (.int (nI c))]) (st' := [.int 255, .int (nI c)]) (M' := zM0) (by decide +kernel) rfl ?_
  refine zT.cgt (tgt := 11) (off := 7) (by decide +kernel) (by decide) (fun q => absurd (show nI 255 < nI c from q) (nI_nlt (by omega) (by decide))) (fun _ => ?_)
  refine zT.run [(.iconst 1, 0, 0, 0), (.goto 4, 0, 0, 0)] (pe := 12) (ls' := [some (.int (nI c))]) (st' := [.int 1]) (M' := zM0) (by decide +kernel) rfl ?_
  exact zT.iret (ty := .boolean) rfl rfl rfl rfl (by decide +kernel)
theorem k_J1_canEncode_fc78d : zCas yy_J1_canEncode_fc78d 1 := ⟨⟨⟨⟨zIn (w := 3153) (by decide +kernel) rfl, zIn (w := 1025) (by decide +kernel) rfl⟩, by decide +kernel⟩, by decide +kernel⟩, zIn (w := 3152) (by decide +kernel) rfl⟩
theorem sb_nar : ∀ c, c < 128 → vp_nar .byte ((nI c).toInt8.toInt32) = nI c := by decide +kernel
theorem sb_nar1 : ∀ c, c < 128 → vp_nar .byte (nI c) = nI c := by decide +kernel
noncomputable abbrev yy_J5_append_3fe6f : zY := (yJ5_append_3fe6f, cJ5_append_3fe6f, 2, (some (Jvm.ClassFile.FieldType.object "java/lang/AbstractStringBuilder")), 4, 104)
theorem c_J5_appendC {c : Nat} (hch : c < 128) {sc : List va_E} {M : zM} {t : List Nat} {q0 : Nat} (h : SB sc M t q0) (hq2 : t.length + 1 ≤ 249) : zCr yy_J5_append_3fe6f 1 500 [.ref 0, .int (nI c)] sc M (fun rv sh' M' => rv = some (.ref 0) ∧ SB sh' M' (t ++ [c]) (t.length + 1)) := by
  refine zCr.of (by decide +kernel) rfl (Nat.le_of_ble_eq_true rfl) ?_
  obtain ⟨k, m, hs, ha, hc, h3, hcs, hf, hm5, hqm, htq, htx⟩ := id h
  have hl1 : 1 ≤ sc.length := zSg_lt hs
  have hk0 := sb_k0 hs ha
  have hlk := zSg_lt ha
  refine zT.run [(.aload_n 0, 0, 0, 0), (.aload_n 0, 0, 0, 0)] (pe := 2) (ls' := [some (.ref 0), some (.int (nI c))]) (st' := [.ref 0, .ref 0]) (M' := M) (by decide +kernel) rfl ?_
  refine zT.getG (idx := 79) (fb := 3) (ci := 8) (w := 3101) hs rfl (by decide +kernel) (by decide +kernel) ?_
  rw [show zI (.int 0) (M 0 3) = .int (nI t.length) from congrArg Value.int h3]
  refine zT.run [(.iconst 1, 0, 0, 0), (.iadd, 0, 0, 0)] (pe := 7) (ls' := [some (.ref 0), some (.int (nI c))]) (st' := [.int ((nI t.length) + 1), .ref 0]) (M' := M) (by decide +kernel) rfl ?_
  rw [nI_1]
  refine zT.cPr (kc := 0) (nc := 0) (o := 0) (idx := 100) (av := [.int (nI (t.length + 1))]) (st := []) (c_J5_ensure h (q := t.length + 1) (by omega) hq2) (zLb_up (n := 1) rfl hl1) (zVb_up (n := 1) rfl hl1) hs rfl rfl ⟨k_J5_ensureCapacityInternal_d00df, p_J5_ensureCapacityInternal_d00df⟩ (zIn (w := 3004) (by decide +kernel) rfl) (by decide +kernel) (Nat.le_of_ble_eq_true rfl) (by decide +kernel) rfl ?_
  rintro _ sc1 M1 ⟨rfl, hE⟩
  clear hs ha hc h3 hcs hf hm5 hqm htq htx hl1 hk0 hlk
  obtain ⟨k, m, hs, ha, hc, h3, hcs, hf, hm5, hqm, htq, htx⟩ := hE
  have hl1 : 1 ≤ sc1.length := zSg_lt hs
  have hk0 := sb_k0 hs ha
  have hlk := zSg_lt ha
  show zT _ _ _ _ (10, _, [], _, _)
  refine zT.run [(.aload_n 0, 0, 0, 0)] (pe := 11) (ls' := [some (.ref 0), some (.int (nI c))]) (st' := [.ref 0]) (M' := M1) (by decide +kernel) rfl ?_
  refine zT.eq9 (zT.cUp (x := yy_J5_isLatin1_aae02.1) (q := (RJ4, TJ4, 4)) (h00 := k_J5_isLatin1_aae02.1.1.1) (hx1 := k_J5_isLatin1_aae02.2.1) (hx2 := k_J5_isLatin1_aae02.2.2) (hsl := zIn (w := 3037) (by decide +kernel) rfl) (hdx := k_J5_isLatin1_aae02.1.2) (kc := 0) (nc := 0) (o := 0) (idx := 83) (av := []) (st := []) (c_J5_isLatin1_aae02 hs ha hc) (zLb_up (n := 1) rfl hl1) (zVb_up (n := 1) rfl hl1) hs rfl rfl ⟨k_J5_isLatin1_aae02.1.1, k_J5_isLatin1_aae02.2.1⟩ (zIn (w := 3034) (by decide +kernel) rfl) (by decide +kernel) (Nat.le_of_ble_eq_true rfl) (by decide +kernel) rfl ?_)
  rintro _ _ _ ⟨rfl, rfl, rfl⟩
  show zT _ _ _ _ (14, _, [.int 1], _, _)
  refine zT.zeq (tgt := 45) (off := 31) (by decide +kernel) (by decide) (fun q => absurd q (by decide)) (fun _ => ?_)
  refine zT.run [(.iload_n 1, 0, 0, 0)] (pe := 18) (ls' := [some (.ref 0), some (.int (nI c))]) (st' := [.int (nI c)]) (M' := M1) (by decide +kernel) rfl ?_
  refine zT.cS_nil (idx := 191) (av := [.int (nI c)]) (rv := some (.int 1)) (st := []) (S1 := [.int 1]) (c_J1_canEncode c hch) k_J1_canEncode_fc78d rfl (zIn (w := 3151) (by decide +kernel) rfl) (by decide +kernel) (by decide +kernel) rfl (Nat.le_of_ble_eq_true rfl) rfl ?_
  refine zT.zeq (tgt := 45) (off := 24) (by decide +kernel) (by decide) (fun q => absurd q (by decide)) (fun _ => ?_)
  refine zT.run [(.aload_n 0, 0, 0, 0)] (pe := 25) (ls' := [some (.ref 0), some (.int (nI c))]) (st' := [.ref 0]) (M' := M1) (by decide +kernel) rfl ?_
  refine zT.getG (idx := 15) (fb := 0) (ci := 8) (w := 3099) hs rfl (by decide +kernel) (by decide +kernel) ?_
  rw [show zI (.ref k) (M1 0 0) = .ref k from rfl]
  refine zT.run [(.aload_n 0, 0, 0, 0), (.dup, 0, 0, 0)] (pe := 30) (ls' := [some (.ref 0), some (.int (nI c))]) (st' := [.ref 0, .ref 0, .ref k]) (M' := M1) (by decide +kernel) rfl ?_
  refine zT.getG (idx := 79) (fb := 3) (ci := 8) (w := 3101) hs rfl (by decide +kernel) (by decide +kernel) ?_
  rw [show zI (.int 0) (M1 0 3) = .int (nI t.length) from congrArg Value.int h3]
  refine zT.dupx1 (by decide +kernel) rfl rfl ?_
  refine zT.run [(.iconst 1, 0, 0, 0), (.iadd, 0, 0, 0)] (pe := 36) (ls' := [some (.ref 0), some (.int (nI c))]) (st' := [.int ((nI t.length) + 1), .ref 0, .int (nI t.length), .ref k]) (M' := M1) (by decide +kernel) rfl ?_
  rw [nI_1]
  refine zT.putG (idx := 79) (fb := 3) (ci := 8) (w := 3101) (o := 0) hs rfl (by decide +kernel) (by decide +kernel) ?_
  refine zT.run [(.iload_n 1, 0, 0, 0), (.i2b, 0, 0, 0)] (pe := 41) (ls' := [some (.ref 0), some (.int (nI c))]) (st' := [.int (((nI c)).toInt8.toInt32), .int (nI t.length), .ref k]) (M' := (zU M1 0 3 (nI (t.length + 1)))) (by decide +kernel) rfl ?_
  refine zT.bast (k := t.length) ha rfl (by omega) (by omega) (by decide +kernel) ?_
  rw [sb_nar c hch]
  refine zT.run [(.goto 33, 0, 0, 0), (.aload_n 0, 0, 0, 0)] (pe := 76) (ls' := [some (.ref 0), some (.int (nI c))]) (st' := [.ref 0]) (M' := (zU (zU M1 0 3 (nI (t.length + 1))) k t.length (nI c))) (by decide +kernel) rfl ?_
  have hg := SB_gen (s := [c]) (M := M1) (M' := zU (zU M1 0 3 (nI (t.length + 1))) k t.length (nI c)) hs ha hcs hf hm5 hqm htx (fun j => ?_) ?_ ?_ (fun j => ?_)
  · exact zT.retA ⟨rfl, hg⟩ rfl (by decide +kernel)
  · cases j with
    | zero => exact hch
    | succ j => exact (by decide : (0 : Nat) < 128)
  · rw [zU_ne (Ne.symm hk0), zU_k (by decide)]; exact hc
  · rw [zU_ne (Ne.symm hk0), zU_s]; rfl
  · rw [zU_c, zU_ne hk0]
    show (if j = t.length then nI c else M1 k j) = if t.length ≤ j ∧ j < t.length + 1 then nI ([c].getD (j - t.length) 0) else M1 k j
    by_cases e : j = t.length
    · rw [if_pos e, if_pos (by omega), e, Nat.sub_self]; rfl
    · rw [if_neg e, if_neg (by omega)]
theorem k_J5_append_3fe6f : zOkI yy_J5_append_3fe6f 1 := ⟨⟨⟨zIn (w := 3150) (by decide +kernel) rfl, zIn (w := 1018) (by decide +kernel) rfl⟩, by decide +kernel⟩, zIn (w := 3149) (by decide +kernel) rfl, zIn (w := 5168) (by decide +kernel) rfl⟩
noncomputable abbrev yy_J4_append_cf468 : zY := (yJ4_append_cf468, cJ4_append_cf468, 2, (some (Jvm.ClassFile.FieldType.object "java/lang/StringBuilder")), 5, 125)
theorem c_J4_appendC {c : Nat} (hch : c < 128) {sc : List va_E} {M : zM} {t : List Nat} {q0 : Nat} (h : SB sc M t q0) (hq2 : t.length + 1 ≤ 249) : zCr yy_J4_append_cf468 1 500 [.ref 0, .int (nI c)] sc M (fun rv sh' M' => rv = some (.ref 0) ∧ SB sh' M' (t ++ [c]) (t.length + 1)) := by
  refine zCr.of (by decide +kernel) rfl (Nat.le_of_ble_eq_true rfl) ?_
  obtain ⟨k, m, hs, -⟩ := id h
  have hl1 : 1 ≤ sc.length := zSg_lt hs
  refine zT.run [(.aload_n 0, 0, 0, 0), (.iload_n 1, 0, 0, 0)] (pe := 2) (ls' := [some (.ref 0), some (.int (nI c))]) (st' := [.int (nI c), .ref 0]) (M' := M) (by decide +kernel) rfl ?_
  refine zT.cSup (kc := 0) (nc := 0) (o := 0) (idx := 50) (av := [.int (nI c)]) (st := []) (c_J5_appendC hch h hq2) (zLb_up (n := 1) rfl hl1) (zVb_up (n := 1) rfl hl1) hs rfl rfl ⟨⟨k_J5_append_3fe6f, by decide +kernel⟩, zIn (w := 2238) (by decide +kernel) rfl⟩ (zIn (w := 3148) (by decide +kernel) rfl) (by decide +kernel) (Nat.le_of_ble_eq_true rfl) (by decide +kernel) rfl ?_
  rintro _ sc1 M1 ⟨rfl, hE⟩
  show zT _ _ _ _ (5, _, [.ref 0], _, _)
  refine zT.run [(.pop, 0, 0, 0), (.aload_n 0, 0, 0, 0)] (pe := 7) (ls' := [some (.ref 0), some (.int (nI c))]) (st' := [.ref 0]) (M' := M1) (by decide +kernel) rfl ?_
  exact zT.retA ⟨rfl, hE⟩ rfl (by decide +kernel)
theorem k_J4_append_cf468 : zCal yy_J4_append_cf468 1 := ⟨⟨⟨⟨zIn (w := 3147) (by decide +kernel) rfl, zIn (w := 1019) (by decide +kernel) rfl⟩, by decide +kernel⟩, by decide +kernel⟩, ⟨zIn (w := 3145) (by decide +kernel) rfl, zIn (w := 3146) (by decide +kernel) rfl⟩⟩
