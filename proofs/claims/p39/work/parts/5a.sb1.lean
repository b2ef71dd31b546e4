/-! STRINGBUILDER: what it holds -/
def sbF (f : Nat → Int32) : Prop := ∀ j, ∃ c, c < 128 ∧ f j = nI c
theorem sb_fit1 : ∀ c, c < 128 → fits .byte (.int (nI c)) = true := by decide +kernel
theorem sbF.fit {f : Nat → Int32} (h : sbF f) : ∀ j, fits .byte (.int (f j)) = true := fun j => by
  obtain ⟨c, h1, h2⟩ := h j
  rw [h2]
  exact sb_fit1 c h1
/-- the text t; there is room for q letters -/
def SB (sc : List va_E) (M : zM) (t : List Nat) (q : Nat) : Prop := ∃ k m, zSg sc 0 = some (.inr (8, [.ref k, .int 0, .int 0, .int 0])) ∧ zSg sc k = some (.inl (1, m, .inl fun _ => 0)) ∧ M 0 1 = 0 ∧ M 0 3 = nI t.length ∧ zCs sc.length sc ∧ sbF (M k) ∧ m ≤ 500 ∧ q ≤ m ∧ t.length ≤ q ∧ ∀ j, j < t.length → M k j = nI (t.getD j 0)
theorem zSg_set0 {sc : List va_E} {e q : va_E} (h : zSg sc 0 = some q) : zSg (sc.set 0 e) 0 = some e := by
  rw [zSg_eq, List.getElem?_set_self (zSg_lt h)]
theorem zSg_setn {sc : List va_E} {e : va_E} {k : Nat} (h : k ≠ 0) : zSg (sc.set 0 e) k = zSg sc k := by
  rw [zSg_eq, zSg_eq, List.getElem?_set_ne (Ne.symm h)]
theorem zCs_set {n k : Nat} {sc : List va_E} {e : va_E} (h : zCs n sc) (he : zCe n e) : zCs n (sc.set k e) := fun q hq => by
  rcases List.mem_or_eq_of_mem_set hq with h1 | h1
  · exact h q h1
  · rw [h1]; exact he
theorem sb_k0 {sc : List va_E} {k m : Nat} {fs : List Value} {z} (hs : zSg sc 0 = some (.inr (8, fs))) (ha : zSg sc k = some (.inl (1, m, z))) : k ≠ 0 := fun e => by
  subst e
  rw [hs] at ha
  cases ha
theorem sb_chr {i : Nat} (hi : i < 21) (j : Nat) : (zTxt i).getD j 0 < 128 := by
  rw [List.getD_eq_getElem?_getD]
  cases h : (zTxt i)[j]? with
  | none => decide
  | some c => exact zTx_chr i hi c (List.mem_of_getElem? h)
section ZXW
variable {Y Yc : zY} {kc nc : Nat} {Z : zS → Prop} {pc idx t : Nat} {ls : zL} {st : List Value} {sh : List va_E} {M N' : zM} {av : List Value} {rv : Option Value}
theorem zT.cXw {n : Nat} {S0 S1 : List Value} (hC : zC Yc 0 0 (.retAddr t :: av) sh M rv sh N') (hok : zCal Yc n) (hx : (Yc.1.cls, t) ∈ zOs) (hn : av.length = n) (hlk : Cond.methodLink Y.1.cls idx Yc.1 ∈ zW) (hroom : zRoom Y Yc = true) (hd : decode Y.2.1 pc = .ok (.invokevirtual idx, 3)) (h0 : S0 = av.reverse ++ .retAddr t :: st) (hw : (st.map fun v => v.category).sum ≤ 8) (h1 : S1 = rv.toList ++ st)
    (k9 : zT Y kc nc Z (pc + 3, ls, S1, sh, N')) : zT Y kc nc Z (pc, ls, S0, sh, M) := by
  subst h1
  have h := zT.callX (Y := Y) (kc := kc) (nc := nc) (Z := Z) (pc := pc) (idx := idx) (ls := ls) (st := st) (b := 0) (M := M) hC (zSub.all sh) (fun j _ => by rw [Nat.zero_add]) (zBack.same (zSub.all sh) rfl) rfl hx hn hok.1 hok.2 hlk hroom hw hd ?_
  · rw [Nat.zero_add, Nat.zero_add, zMapRv0] at h
    rw [h0]
    exact h
  · rw [show rv.map (zRv 0) = rv by cases rv <;> simp [zRv0]]
    exact zT.congM (M2 := N') (fun k hk => zPs_all hk) k9
end ZXW
noncomputable abbrev yy_J5_ensureCapacityInternal_d00df : zY := (yJ5_ensureCapacityInternal_d00df, cJ5_ensureCapacityInternal_d00df, 3, none, 3, 82)
theorem c_J5_ensure {sc : List va_E} {M : zM} {t : List Nat} {q0 q : Nat} (h : SB sc M t q0) (hq : t.length ≤ q) (hq2 : q ≤ 249) : zCr yy_J5_ensureCapacityInternal_d00df 1 500 [.ref 0, .int (nI q)] sc M (fun rv sh' M' => rv = none ∧ SB sh' M' t q) := by
  refine zCr.of (by decide +kernel) rfl (Nat.le_of_ble_eq_true rfl) ?_
  obtain ⟨k, m, hs, ha, hc, h3, hcs, hf, hm5, hqm, htq, htx⟩ := h
  have hl1 : 1 ≤ sc.length := zSg_lt hs
  have hk0 := sb_k0 hs ha
  have hlk := zSg_lt ha
  refine zT.run [(.aload_n 0, 0, 0, 0)] (pe := 1) (ls' := [some (.ref 0), some (.int (nI q)), none]) (st' := [.ref 0]) (M' := M) (by decide +kernel) rfl ?_
  refine zT.getG (idx := 15) (fb := 0) (ci := 8) (w := 3099) hs rfl (by decide +kernel) (by decide +kernel) ?_
  rw [show zI (.ref k) (M 0 0) = .ref k from rfl]
  refine zT.lenG (w := 0) ha rfl (by decide +kernel) ?_
  rw [show (Int32.ofNat m) = nI m from rfl]
  refine zT.run [(.aload_n 0, 0, 0, 0)] (pe := 6) (ls' := [some (.ref 0), some (.int (nI q)), none]) (st' := [.ref 0, .int (nI m)]) (M' := M) (by decide +kernel) rfl ?_
  refine zT.getG (idx := 22) (fb := 1) (ci := 8) (w := 3100) hs rfl (by decide +kernel) (by decide +kernel) ?_
  rw [show zI (.int 0) (M 0 1) = .int 0 from congrArg Value.int hc]
  refine zT.run [(.ishr, 0, 0, 0)] (pe := 10) (ls' := [some (.ref 0), some (.int (nI q)), none]) (st' := [.int ((nI m) >>> (0 &&& 31))]) (M' := M) (by decide +kernel) rfl ?_
  rw [zShr0]
  refine zT.run [(.istore_n 2, 0, 0, 0), (.iload_n 1, 0, 0, 0), (.iload_n 2, 0, 0, 0), (.isub, 0, 0, 0)] (pe := 14) (ls' := [some (.ref 0), some (.int (nI q)), some (.int (nI m))]) (st' := [.int ((nI q) - (nI m))]) (M' := M) (by decide +kernel) rfl ?_
  refine zT.zle (tgt := 38) (off := 24) (by decide +kernel) (by decide) (fun z => ?_) (fun z => ?_)
  · skip
    have hle : q ≤ m := by
      rw [Int32.le_iff_toInt_le, pk_sub_toInt (by omega) (by omega), Int32.toInt_zero] at z
      omega
    refine zT.widen (k := 0) (n := 0) (by decide) (by decide) ?_
    exact zT.retV ⟨rfl, k, m, hs, ha, hc, h3, hcs, hf, hm5, hle, hq, htx⟩ rfl (by decide +kernel)
  · skip
    have hlt : m < q := by
      rw [Int32.le_iff_toInt_le, pk_sub_toInt (by omega) (by omega), Int32.toInt_zero] at z
      omega
    have hN : m < sbN m q ∧ q ≤ sbN m q ∧ sbN m q ≤ 500 := by unfold sbN; omega
    refine zT.widen (k := 1) (n := sbN m q) (by decide) hN.2.2 ?_
    refine zT.run [(.aload_n 0, 0, 0, 0), (.aload_n 0, 0, 0, 0)] (pe := 19) (ls' := [some (.ref 0), some (.int (nI q)), some (.int (nI m))]) (st' := [.ref 0, .ref 0]) (M' := M) (by decide +kernel) rfl ?_
    refine zT.getG (idx := 15) (fb := 0) (ci := 8) (w := 3099) hs rfl (by decide +kernel) (by decide +kernel) ?_
    rw [show zI (.ref k) (M 0 0) = .ref k from rfl]
    refine zT.run [(.aload_n 0, 0, 0, 0), (.iload_n 1, 0, 0, 0)] (pe := 24) (ls' := [some (.ref 0), some (.int (nI q)), some (.int (nI m))]) (st' := [.int (nI q), .ref 0, .ref k, .ref 0]) (M' := M) (by decide +kernel) rfl ?_
    refine zT.eq9 (zT.cPr (kc := 1) (nc := (sbN m q)) (o := 0) (idx := 104) (av := [.int (nI q)]) (st := [.ref k, .ref 0]) (c_J5_newCapacity_0f7a4 hs ha hc hlt (by omega)) (by exact zLb_up (n := k + 1) (by simp [zLb, zVb]) hlk) (by exact zVb_up (n := k + 1) (by simp [zVb]) hlk) hs rfl rfl ⟨k_J5_newCapacity_0f7a4, p_J5_newCapacity_0f7a4⟩ (zIn (w := 3008) (by decide +kernel) rfl) (by decide +kernel) (Nat.le_of_ble_eq_true rfl) (by decide +kernel) rfl ?_)
    rintro _ _ _ ⟨rfl, rfl, rfl⟩
    show zT _ _ _ _ (27, _, [.int (nI (sbN m q)), .ref k, .ref 0], _, _)
    refine zT.run [(.aload_n 0, 0, 0, 0)] (pe := 28) (ls' := [some (.ref 0), some (.int (nI q)), some (.int (nI m))]) (st' := [.ref 0, .int (nI (sbN m q)), .ref k, .ref 0]) (M' := M) (by decide +kernel) rfl ?_
    refine zT.getG (idx := 22) (fb := 1) (ci := 8) (w := 3100) hs rfl (by decide +kernel) (by decide +kernel) ?_
    rw [show zI (.int 0) (M 0 1) = .int 0 from congrArg Value.int hc]
    refine zT.run [(.ishl, 0, 0, 0)] (pe := 32) (ls' := [some (.ref 0), some (.int (nI q)), some (.int (nI m))]) (st' := [.int ((nI (sbN m q)) <<< (0 &&& 31)), .ref k, .ref 0]) (M' := M) (by decide +kernel) rfl ?_
    rw [zShl0]
    refine zT.cSr (kc := 0) (nc := 0) (idx := 108) (av := [.ref k, .int (nI (sbN m q))]) (st := [.ref 0]) (c_J7_copyOf_9075b ha hcs hf.fit hN.1 hN.2.2) (zLb_up (n := 1) rfl hl1) (zVb_up (n := 1) rfl hl1) rfl k_J7_copyOf_9075b (zIn (w := 3020) (by decide +kernel) rfl) (by decide +kernel) (Nat.le_of_ble_eq_true rfl) (by decide +kernel) rfl ?_
    rintro _ _ M1 ⟨rfl, rfl, g1, g2⟩
    refine zT.putR (o := 0) (o2 := sc.length) (idx := 15) (w := 3099) (ci := 8) (b := 0) (fs := [.ref k, .int 0, .int 0, .int 0]) (v := .ref k) (q := (RJ4, TJ4, 4)) (zSg_ap hs) rfl (Or.inr ⟨k, rfl⟩) rfl (by decide) (by decide +kernel) (Or.inr ⟨.byte, by decide +kernel⟩) (Or.inl (by decide +kernel)) (by decide +kernel) ?_
    refine zT.retV ⟨rfl, sc.length, sbN m q, zSg_set0 (zSg_ap hs), (zSg_setn (by omega)).trans zSg_last, (by rw [g1 0 hl1]; exact hc), (by rw [g1 0 hl1]; exact h3), ?_, fun j => ?_, hN.2.2, hN.2.1, hq, fun j hj => ?_⟩ rfl (by decide +kernel)
    · rw [List.length_set, List.length_append]
      exact zCs_set ((hcs.mono (by omega)).app (zCs_of rfl)) (zEb_ok (by simp [zEb, zVb]))
    · rw [g2 j]
      split
      · exact hf j
      · exact ⟨0, by decide, rfl⟩
    · rw [g2 j, if_pos (by omega)]
      exact htx j hj
theorem k_J5_ensureCapacityInternal_d00df : zOkI yy_J5_ensureCapacityInternal_d00df 1 := ⟨⟨⟨zIn (w := 3007) (by decide +kernel) rfl, zIn (w := 1018) (by decide +kernel) rfl⟩, by decide +kernel⟩, zIn (w := 3006) (by decide +kernel) rfl, zIn (w := 5162) (by decide +kernel) rfl⟩
theorem p_J5_ensureCapacityInternal_d00df : Cond.privateMethod yy_J5_ensureCapacityInternal_d00df.1 ∈ zNw := zInN (w := 3005) (by decide +kernel) rfl
noncomputable abbrev yy_J0_getBytes_840e7 : zY := (yJ0_getBytes_840e7, cJ0_getBytes_840e7, 4, none, 1, 60)
theorem c_J0_getBytes (i : Nat) (hi : i < 21) {sc : List va_E} {M : zM} {k m d : Nat} (ha : zSg sc k = some (.inl (1, m, .inl fun _ => 0))) (hm5 : m ≤ 500) (hd : d + (zTxt i).length ≤ m) : zC yy_J0_getBytes_840e7 0 0 [.retAddr (200 + i), .ref k, .int (nI d), .int 0] sc M none sc (zUa M k (va_cpy (fun j => nI ((zTxt i).getD j 0)) (M k) 0 d (zTxt i).length)) := by
  have hl := zTx_len i hi
  refine zC.of (by decide +kernel) rfl (Nat.le_of_ble_eq_true rfl) ?_
  refine zT.run [(.aload_n 0, 0, 0, 0)] (pe := 1) (ls' := [some (.retAddr (200 + i)), some (.ref k), some (.int (nI d)), some (.int 0)]) (st' := [.retAddr (200 + i)]) (M' := M) (by decide +kernel) rfl ?_
  refine zT.cX (idx := 335) (av := []) (rv := some (.int 0)) (st := []) (S1 := [.int 0]) (c_J0_coder i hi) k_J0_coder_7d493 (zTx_obj i hi) rfl (zIn (w := 2211) (by decide +kernel) rfl) (by decide +kernel) (by decide +kernel) rfl (Nat.le_of_ble_eq_true rfl) rfl ?_
  refine zT.run [(.iload_n 3, 0, 0, 0)] (pe := 5) (ls' := [some (.retAddr (200 + i)), some (.ref k), some (.int (nI d)), some (.int 0)]) (st' := [.int 0, .int 0]) (M' := M) (by decide +kernel) rfl ?_
  refine zT.cne (tgt := 28) (off := 23) (by decide +kernel) (by decide) (fun q => absurd rfl q) (fun _ => ?_)
  refine zT.run [(.aload_n 0, 0, 0, 0)] (pe := 9) (ls' := [some (.retAddr (200 + i)), some (.ref k), some (.int (nI d)), some (.int 0)]) (st' := [.retAddr (200 + i)]) (M' := M) (by decide +kernel) rfl ?_
  refine zT.xgetM (idx := 9) (zTx_val i hi) rfl (zIn (w := 5171) (by decide +kernel) rfl) (by decide +kernel) ?_
  refine zT.run [(.iconst 0, 0, 0, 0), (.aload_n 1, 0, 0, 0), (.iload_n 2, 0, 0, 0), (.iload_n 3, 0, 0, 0), (.ishl, 0, 0, 0)] (pe := 17) (ls' := [some (.retAddr (200 + i)), some (.ref k), some (.int (nI d)), some (.int 0)]) (st' := [.int ((nI d) <<< (0 &&& 31)), .ref k, .int 0, .retAddr (300 + i)]) (M' := M) (by decide +kernel) rfl ?_
  rw [zShl0]
  refine zT.run [(.aload_n 0, 0, 0, 0)] (pe := 18) (ls' := [some (.retAddr (200 + i)), some (.ref k), some (.int (nI d)), some (.int 0)]) (st' := [.retAddr (200 + i), .int (nI d), .ref k, .int 0, .retAddr (300 + i)]) (M' := M) (by decide +kernel) rfl ?_
  refine zT.xgetM (idx := 9) (zTx_val i hi) rfl (zIn (w := 5171) (by decide +kernel) rfl) (by decide +kernel) ?_
  refine zT.xlenM (zTx_row i hi) (by decide +kernel) ?_
  rw [List.length_map]
  refine zT.copytB (idx := 212) (t := 300 + i) (a := 0) (b := d) (n := (zTxt i).length) (f := fun j => nI ((zTxt i).getD j 0)) (zTx_row i hi) (fun j => sb_fit1 _ (sb_chr hi j)) (fun j hj => ?_) ha rfl rfl rfl (by rw [List.length_map]; omega) hd (by rw [List.length_map]; omega) (by omega) ⟨⟨⟨⟨zIn (w := 3097) (by decide +kernel) rfl, zIn (w := 1237) (by decide +kernel) rfl⟩, zIn (w := 1236) (by decide +kernel) rfl⟩, zIn (w := 1009) (by decide +kernel) rfl⟩, by decide +kernel, by decide +kernel⟩ (Nat.le_of_ble_eq_true rfl) (by decide +kernel) ?_
  · rw [List.length_map] at hj
    rw [List.getD_eq_getElem?_getD, List.getD_eq_getElem?_getD, List.getElem?_map, List.getElem?_eq_getElem hj]
    rfl
  refine zT.run [(.goto 18, 0, 0, 0)] (pe := 43) (ls' := [some (.retAddr (200 + i)), some (.ref k), some (.int (nI d)), some (.int 0)]) (st' := []) (M' := (zUa M k (va_cpy (fun j => nI ((zTxt i).getD j 0)) (M k) 0 d (zTxt i).length))) (by decide +kernel) rfl ?_
  exact zT.vret rfl rfl (by decide +kernel)
theorem k_J0_getBytes_840e7 : zCal yy_J0_getBytes_840e7 3 := ⟨⟨⟨⟨zIn (w := 3096) (by decide +kernel) rfl, zIn (w := 1020) (by decide +kernel) rfl⟩, by decide +kernel⟩, by decide +kernel⟩, ⟨zIn (w := 3094) (by decide +kernel) rfl, zIn (w := 3095) (by decide +kernel) rfl⟩⟩
noncomputable abbrev yy_J5_inflateIfNeededFor_a7421 : zY := (yJ5_inflateIfNeededFor_a7421, cJ5_inflateIfNeededFor_a7421, 2, none, 1, 20)
theorem c_J5_inflateIf (i : Nat) (hi : i < 21) {sc : List va_E} {M : zM} {k m : Nat} (hs : zSg sc 0 = some (.inr (8, [.ref k, .int 0, .int 0, .int 0]))) (ha : zSg sc k = some (.inl (1, m, .inl fun _ => 0))) (hc : M 0 1 = 0) : zCr yy_J5_inflateIfNeededFor_a7421 0 0 [.ref 0, .retAddr (200 + i)] sc M (fun rv sh' M' => rv = none ∧ sc = sh' ∧ M = M') := by
  refine zCr.of (by decide +kernel) rfl (Nat.le_of_ble_eq_true rfl) ?_
  refine zT.gets (idx := 18) 5 rfl rfl (zIn (w := 3039) (by decide +kernel) rfl) (by decide +kernel) ?_
  refine zT.zeq (tgt := 21) (off := 18) (by decide +kernel) (by decide) (fun q => absurd q (by decide)) (fun _ => ?_)
  refine zT.run [(.aload_n 0, 0, 0, 0)] (pe := 7) (ls' := [some (.ref 0), some (.retAddr (200 + i))]) (st' := [.ref 0]) (M' := M) (by decide +kernel) rfl ?_
  refine zT.getG (idx := 22) (fb := 1) (ci := 8) (w := 3100) hs rfl (by decide +kernel) (by decide +kernel) ?_
  rw [show zI (.int 0) (M 0 1) = .int 0 from congrArg Value.int hc]
  refine zT.run [(.aload_n 1, 0, 0, 0)] (pe := 11) (ls' := [some (.ref 0), some (.retAddr (200 + i))]) (st' := [.retAddr (200 + i), .int 0]) (M' := M) (by decide +kernel) rfl ?_
  refine zT.cX (idx := 40) (av := []) (rv := some (.int 0)) (st := [.int 0]) (S1 := [.int 0, .int 0]) (c_J0_coder i hi) k_J0_coder_7d493 (zTx_obj i hi) rfl (zIn (w := 2219) (by decide +kernel) rfl) (by decide +kernel) (by decide +kernel) rfl (Nat.le_of_ble_eq_true rfl) rfl ?_
  refine zT.ceq (tgt := 21) (off := 7) (by decide +kernel) (by decide) (fun _ => ?_) (fun q => absurd rfl q)
  exact zT.retV ⟨rfl, rfl, rfl⟩ rfl (by decide +kernel)
theorem k_J5_inflateIfNeededFor_a7421 : zOkI yy_J5_inflateIfNeededFor_a7421 1 := ⟨⟨⟨zIn (w := 3073) (by decide +kernel) rfl, zIn (w := 1018) (by decide +kernel) rfl⟩, by decide +kernel⟩, zIn (w := 3072) (by decide +kernel) rfl, zIn (w := 5165) (by decide +kernel) rfl⟩
theorem p_J5_inflateIfNeededFor_a7421 : Cond.privateMethod yy_J5_inflateIfNeededFor_a7421.1 ∈ zNw := zInN (w := 3071) (by decide +kernel) rfl
noncomputable abbrev yy_J5_putStringAt_47b60 : zY := (yJ5_putStringAt_47b60, cJ5_putStringAt_47b60, 3, none, 2, 83)
theorem c_J5_putStringAt (i : Nat) (hi : i < 21) {sc : List va_E} {M : zM} {k m : Nat} (hs : zSg sc 0 = some (.inr (8, [.ref k, .int 0, .int 0, .int 0]))) (ha : zSg sc k = some (.inl (1, m, .inl fun _ => 0))) (hc : M 0 1 = 0) {d : Nat} (hm5 : m ≤ 500) (hd : d + (zTxt i).length ≤ m) : zCr yy_J5_putStringAt_47b60 0 0 [.ref 0, .int (nI d), .retAddr (200 + i)] sc M (fun rv sh' M' => rv = none ∧ sc = sh' ∧ M' = zUa M k (va_cpy (fun j => nI ((zTxt i).getD j 0)) (M k) 0 d (zTxt i).length)) := by
  refine zCr.of (by decide +kernel) rfl (Nat.le_of_ble_eq_true rfl) ?_
  have hl1 : 1 ≤ sc.length := zSg_lt hs
  refine zT.run [(.aload_n 0, 0, 0, 0), (.aload_n 2, 0, 0, 0)] (pe := 2) (ls' := [some (.ref 0), some (.int (nI d)), some (.retAddr (200 + i))]) (st' := [.retAddr (200 + i), .ref 0]) (M' := M) (by decide +kernel) rfl ?_
  refine zT.eq9 (zT.cPr (kc := 0) (nc := 0) (o := 0) (idx := 397) (av := [.retAddr (200 + i)]) (st := []) (c_J5_inflateIf i hi hs ha hc) (zLb_up (n := 1) rfl hl1) (zVb_up (n := 1) rfl hl1) hs rfl rfl ⟨k_J5_inflateIfNeededFor_a7421, p_J5_inflateIfNeededFor_a7421⟩ (zIn (w := 3070) (by decide +kernel) rfl) (by decide +kernel) (Nat.le_of_ble_eq_true rfl) (by decide +kernel) rfl ?_)
  rintro _ _ _ ⟨rfl, rfl, rfl⟩
  show zT _ _ _ _ (5, _, [], _, _)
  refine zT.run [(.aload_n 2, 0, 0, 0), (.aload_n 0, 0, 0, 0)] (pe := 7) (ls' := [some (.ref 0), some (.int (nI d)), some (.retAddr (200 + i))]) (st' := [.ref 0, .retAddr (200 + i)]) (M' := M) (by decide +kernel) rfl ?_
  refine zT.getG (idx := 15) (fb := 0) (ci := 8) (w := 3099) hs rfl (by decide +kernel) (by decide +kernel) ?_
  rw [show zI (.ref k) (M 0 0) = .ref k from rfl]
  refine zT.run [(.iload_n 1, 0, 0, 0), (.aload_n 0, 0, 0, 0)] (pe := 12) (ls' := [some (.ref 0), some (.int (nI d)), some (.retAddr (200 + i))]) (st' := [.ref 0, .int (nI d), .ref k, .retAddr (200 + i)]) (M' := M) (by decide +kernel) rfl ?_
  refine zT.getG (idx := 22) (fb := 1) (ci := 8) (w := 3100) hs rfl (by decide +kernel) (by decide +kernel) ?_
  rw [show zI (.int 0) (M 0 1) = .int 0 from congrArg Value.int hc]
  refine zT.cXw (idx := 399) (av := [.ref k, .int (nI d), .int 0]) (rv := none) (st := []) (S1 := []) (c_J0_getBytes i hi ha hm5 hd) k_J0_getBytes_840e7 (zTx_obj i hi) rfl (zIn (w := 3093) (by decide +kernel) rfl) (by decide +kernel) (by decide +kernel) rfl (Nat.le_of_ble_eq_true rfl) rfl ?_
  exact zT.retV ⟨rfl, rfl, rfl⟩ rfl (by decide +kernel)
theorem k_J5_putStringAt_47b60 : zOkI yy_J5_putStringAt_47b60 2 := ⟨⟨⟨zIn (w := 3069) (by decide +kernel) rfl, zIn (w := 1018) (by decide +kernel) rfl⟩, by decide +kernel⟩, zIn (w := 3068) (by decide +kernel) rfl, zIn (w := 5164) (by decide +kernel) rfl⟩
theorem p_J5_putStringAt_47b60 : Cond.privateMethod yy_J5_putStringAt_47b60.1 ∈ zNw := zInN (w := 3067) (by decide +kernel) rfl
