/-! STRINGBUILDER: calls over the whole world -/
section ZC0
variable {Y Yc : zY} {kc nc k1 n1 : Nat} {Z : zS → Prop} {pc idx : Nat} {ls : zL} {st : List Value} {sh : List va_E} {M : zM} {av : List Value} {R : Option Value → List va_E → zM → Prop}
theorem zT.cPr {n ci o : Nat} {fs : List Value} {q : vw_C} {S0 : List Value} (hC : zCr Yc k1 n1 (.ref o :: av) sh M R) (hls : zLb sh.length ls = true) (hst : st.all (zVb sh.length) = true) (ho : zSg sh o = some (.inr (ci, fs))) (hq : vwCl[ci]? = some q) (hn : av.length = n) (hok : zOkI Yc n ∧ Cond.privateMethod Yc.1 ∈ zNw) (hlk : Cond.methodLink Y.1.cls idx Yc.1 ∈ zW) (hroom : zRoom Y Yc = true) (hw : (st.map fun v => v.category).sum ≤ 8)
    (hd : decode Y.2.1 pc = .ok (.invokevirtual idx, 3)) (h0 : S0 = av.reverse ++ .ref o :: st) (k9 : ∀ rv sh' M', R rv sh' M' → zT Y kc nc Z (pc + 3, ls, rv.toList ++ st, sh', M')) : zT Y (k1 + kc) (n1 + nc) Z (pc, ls, S0, sh, M) := by
  have h := zT.callPr (Y := Y) (kc := kc) (nc := nc) (Z := Z) (pc := pc) (idx := idx) (ls := ls) (st := st) (pre := []) (b := 0) (S0 := S0) hC rfl (fun q hq => (by cases hq)) (by rw [Nat.zero_add]; exact hls) (by rw [Nat.zero_add]; exact hst) (M := M) (fun j _ => by rw [Nat.zero_add]) ho (zSg_lt ho) hq hn hok hlk hroom hw hd (by rw [zMapRv0, Nat.zero_add]; exact h0) (fun rv sc' N' hR => ?_)
  · rw [List.nil_append, zMapRe0] at h
    exact h
  · rw [List.nil_append, zMapRe0, show rv.map (zRv 0) = rv by cases rv <;> simp [zRv0]]
    exact zT.congM (M2 := N') (fun k hk => zPs_all hk) (k9 rv sc' N' hR)
theorem zT.cSup {n ci o : Nat} {fs : List Value} {q : vw_C} {S0 : List Value} (hC : zCr Yc k1 n1 (.ref o :: av) sh M R) (hls : zLb sh.length ls = true) (hst : st.all (zVb sh.length) = true) (ho : zSg sh o = some (.inr (ci, fs))) (hq : vwCl[ci]? = some q) (hn : av.length = n) (hok : (zOkI Yc n ∧ Yc.1.name ≠ "<init>") ∧ Cond.superclass Y.1.cls Yc.1.cls ∈ zW) (hlk : Cond.methodLink Y.1.cls idx Yc.1 ∈ zW) (hroom : zRoom Y Yc = true) (hw : (st.map fun v => v.category).sum ≤ 8)
    (hd : decode Y.2.1 pc = .ok (.invokespecial idx, 3)) (h0 : S0 = av.reverse ++ .ref o :: st) (k9 : ∀ rv sh' M', R rv sh' M' → zT Y kc nc Z (pc + 3, ls, rv.toList ++ st, sh', M')) : zT Y (k1 + kc) (n1 + nc) Z (pc, ls, S0, sh, M) := by
  have h := zT.callSup (Y := Y) (kc := kc) (nc := nc) (Z := Z) (pc := pc) (idx := idx) (ls := ls) (st := st) (pre := []) (b := 0) (S0 := S0) hC rfl (fun q hq => (by cases hq)) (by rw [Nat.zero_add]; exact hls) (by rw [Nat.zero_add]; exact hst) (M := M) (fun j _ => by rw [Nat.zero_add]) ho (zSg_lt ho) hq hn hok hlk hroom hw hd (by rw [zMapRv0, Nat.zero_add]; exact h0) (fun rv sc' N' hR => ?_)
  · rw [List.nil_append, zMapRe0] at h
    exact h
  · rw [List.nil_append, zMapRe0, show rv.map (zRv 0) = rv by cases rv <;> simp [zRv0]]
    exact zT.congM (M2 := N') (fun k hk => zPs_all hk) (k9 rv sc' N' hR)
theorem zT.cUp {n ci o : Nat} {fs : List Value} {q : vw_C} {S0 : List Value} {x : MethodName} {b0 : ByteArray} {m0 : Nat} {r0 : Option FieldType} (h00 : Cond.code x b0 m0 r0 ∈ zW) (hx1 : Cond.instanceMethod x ∈ zW) (hx2 : Cond.sameMethod x.cls x.cls x.name x.desc ∈ zW) (hsl : Cond.selects q.1 x Yc.1 ∈ zW) (hdx : x.cls ≠ "java/lang/invoke/MethodHandle" ∧ x.cls ≠ "java/lang/invoke/VarHandle" ∧ (parseMethodDescriptor x.desc).map (fun d => d.parameters.length) = some n) (hC : zCr Yc k1 n1 (.ref o :: av) sh M R) (hls : zLb sh.length ls = true) (hst : st.all (zVb sh.length) = true) (ho : zSg sh o = some (.inr (ci, fs))) (hq : vwCl[ci]? = some q) (hn : av.length = n) (hok : (Cond.code Yc.1 Yc.2.1 Yc.2.2.1 Yc.2.2.2.1 ∈ zW ∧ Cond.initialized Yc.1.cls ∈ zW) ∧ Cond.instanceMethod Yc.1 ∈ zW) (hlk : Cond.methodLink Y.1.cls idx x ∈ zW) (hroom : zRoom Y Yc = true) (hw : (st.map fun v => v.category).sum ≤ 8)
    (hd : decode Y.2.1 pc = .ok (.invokevirtual idx, 3)) (h0 : S0 = av.reverse ++ .ref o :: st) (k9 : ∀ rv sh' M', R rv sh' M' → zT Y kc nc Z (pc + 3, ls, rv.toList ++ st, sh', M')) : zT Y (k1 + kc) (n1 + nc) Z (pc, ls, S0, sh, M) := by
  have h := zT.callUp (Y := Y) (x := x) (q := q) h00 hx1 hx2 hsl hdx (kc := kc) (nc := nc) (Z := Z) (pc := pc) (idx := idx) (ls := ls) (st := st) (pre := []) (b := 0) (S0 := S0) hC rfl (fun q hq => (by cases hq)) (by rw [Nat.zero_add]; exact hls) (by rw [Nat.zero_add]; exact hst) (M := M) (fun j _ => by rw [Nat.zero_add]) ho (zSg_lt ho) hq hn hok hlk hroom hw hd (by rw [zMapRv0, Nat.zero_add]; exact h0) (fun rv sc' N' hR => ?_)
  · rw [List.nil_append, zMapRe0] at h
    exact h
  · rw [List.nil_append, zMapRe0, show rv.map (zRv 0) = rv by cases rv <;> simp [zRv0]]
    exact zT.congM (M2 := N') (fun k hk => zPs_all hk) (k9 rv sc' N' hR)
theorem zT.cVr {n ci o : Nat} {fs : List Value} {q : vw_C} {S0 : List Value} (hcl : (vwCl[ci]?).map (fun q => q.1) = some Yc.1.cls) (hC : zCr Yc k1 n1 (.ref o :: av) sh M R) (hls : zLb sh.length ls = true) (hst : st.all (zVb sh.length) = true) (ho : zSg sh o = some (.inr (ci, fs))) (hq : vwCl[ci]? = some q) (hn : av.length = n) (hok : zCal Yc n) (hlk : Cond.methodLink Y.1.cls idx Yc.1 ∈ zW) (hroom : zRoom Y Yc = true) (hw : (st.map fun v => v.category).sum ≤ 8)
    (hd : decode Y.2.1 pc = .ok (.invokevirtual idx, 3)) (h0 : S0 = av.reverse ++ .ref o :: st) (k9 : ∀ rv sh' M', R rv sh' M' → zT Y kc nc Z (pc + 3, ls, rv.toList ++ st, sh', M')) : zT Y (k1 + kc) (n1 + nc) Z (pc, ls, S0, sh, M) := by
  have h := zT.callVr (Y := Y) (kc := kc) (nc := nc) (Z := Z) (pc := pc) (idx := idx) (ls := ls) (st := st) (pre := []) (b := 0) (S0 := S0) hC rfl (fun q hq => (by cases hq)) (by rw [Nat.zero_add]; exact hls) (by rw [Nat.zero_add]; exact hst) (M := M) (fun j _ => by rw [Nat.zero_add]) ho (zSg_lt ho) hcl hn hok hlk hroom hw hd (by rw [zMapRv0, Nat.zero_add]; exact h0) (fun rv sc' N' hR => ?_)
  · rw [List.nil_append, zMapRe0] at h
    exact h
  · rw [List.nil_append, zMapRe0, show rv.map (zRv 0) = rv by cases rv <;> simp [zRv0]]
    exact zT.congM (M2 := N') (fun k hk => zPs_all hk) (k9 rv sc' N' hR)
end ZC0
theorem zShl0 (x : Int32) : x <<< ((0 : Int32) &&& 31) = x := by
  rw [show ((0 : Int32) &&& 31) = 0 from rfl]
  apply Int32.toBitVec_inj.mp
  show x.toBitVec <<< (BitVec.smod 0 32) = x.toBitVec
  rw [show BitVec.smod (0 : BitVec 32) 32 = 0 from rfl]
  simp
theorem sb_max (a b : Nat) (ha : a < 2 ^ 31) (hb : b < 2 ^ 31) : (if nI a < nI b then nI b else nI a) = nI (max a b) := by
  by_cases h : a < b
  · rw [if_pos (nI_lt h hb), Nat.max_eq_right (by omega)]
  · rw [if_neg (nI_nlt (by omega) ha), Nat.max_eq_left (by omega)]
noncomputable abbrev yy_J8_newLength_cabcc : zY := (yJ8_newLength_cabcc, cJ8_newLength_cabcc, 4, (some Jvm.ClassFile.FieldType.int), 1, 21)
theorem c_J8_newLength_cabcc (a b c : Nat) (h : a + max b c < 2 ^ 20) (h0 : 0 < a + max b c) : zC yy_J8_newLength_cabcc 0 0 [.int (nI a), .int (nI b), .int (nI c)] [] zM0 (some (.int (nI (a + max b c)))) [] zM0 := by
  have hb : b < 2 ^ 20 := by omega
  have hc : c < 2 ^ 20 := by omega
  refine zC.of (by decide +kernel) rfl (Nat.le_of_ble_eq_true rfl) ?_
  refine zT.run [(.iload_n 0, 0, 0, 0), (.iload_n 1, 0, 0, 0), (.iload_n 2, 0, 0, 0)] (pe := 3) (ls' := [some (.int (nI a)), some (.int (nI b)), some (.int (nI c)), none]) (st' := [.int (nI c), .int (nI b), .int (nI a)]) (M' := zM0) (by decide +kernel) rfl ?_
  refine zT.mmax (idx := 194) ⟨⟨⟨⟨zIn (w := 3015) (by decide +kernel) rfl, zLm_max.1⟩, zLm_max.2.1⟩, zLm_max.2.2⟩, by decide +kernel, by decide +kernel⟩ (Nat.le_of_ble_eq_true rfl) (by decide +kernel) ?_
  rw [sb_max b c (by omega) (by omega)]
  refine zT.run [(.iadd, 0, 0, 0)] (pe := 7) (ls' := [some (.int (nI a)), some (.int (nI b)), some (.int (nI c)), none]) (st' := [.int ((nI a) + (nI (max b c)))]) (M' := zM0) (by decide +kernel) rfl ?_
  rw [nI_add]
  refine zT.run [(.istore_n 3, 0, 0, 0), (.iconst 0, 0, 0, 0), (.iload_n 3, 0, 0, 0)] (pe := 10) (ls' := [some (.int (nI a)), some (.int (nI b)), some (.int (nI c)), some (.int (nI (a + max b c)))]) (st' := [.int (nI (a + max b c)), .int 0]) (M' := zM0) (by decide +kernel) rfl ?_
  refine zT.cge (tgt := 21) (off := 11) (by decide +kernel) (by decide) (fun q => absurd q (nI_nle (h0 : 0 < a + max b c) (by omega))) (fun _ => ?_)
  refine zT.run [(.iload_n 3, 0, 0, 0), (.ldc 200, 2147483639, 0, 3016)] (pe := 16) (ls' := [some (.int (nI a)), some (.int (nI b)), some (.int (nI c)), some (.int (nI (a + max b c)))]) (st' := [.int 2147483639, .int (nI (a + max b c))]) (M' := zM0) (by decide +kernel) rfl ?_
  refine zT.cgt (tgt := 21) (off := 5) (by decide +kernel) (by decide) (fun q => absurd (show nI 2147483639 < nI (a + max b c) from q) (nI_nlt (by omega) (by decide))) (fun _ => ?_)
  refine zT.run [(.iload_n 3, 0, 0, 0)] (pe := 20) (ls' := [some (.int (nI a)), some (.int (nI b)), some (.int (nI c)), some (.int (nI (a + max b c)))]) (st' := [.int (nI (a + max b c))]) (M' := zM0) (by decide +kernel) rfl ?_
  exact zT.iret (ty := .int) rfl rfl rfl rfl (by decide +kernel)
theorem k_J8_newLength_cabcc : zCas yy_J8_newLength_cabcc 3 := ⟨⟨⟨⟨zIn (w := 3014) (by decide +kernel) rfl, zIn (w := 1022) (by decide +kernel) rfl⟩, by decide +kernel⟩, by decide +kernel⟩, zIn (w := 3013) (by decide +kernel) rfl⟩
def sbN (m q : Nat) : Nat := m + max (q - m) (m + 2)
noncomputable abbrev yy_J5_newCapacity_0f7a4 : zY := (yJ5_newCapacity_0f7a4, cJ5_newCapacity_0f7a4, 6, (some Jvm.ClassFile.FieldType.int), 2, 44)
theorem c_J5_newCapacity_0f7a4 {sc : List va_E} {M : zM} {k m : Nat} (hs : zSg sc 0 = some (.inr (8, [.ref k, .int 0, .int 0, .int 0]))) (ha : zSg sc k = some (.inl (1, m, .inl fun _ => 0))) (hc : M 0 1 = 0) {q : Nat} (hq : m < q) (hq2 : q ≤ 250) : zCr yy_J5_newCapacity_0f7a4 0 0 [.ref 0, .int (nI q)] sc M (fun rv sh' M' => rv = some (.int (nI (sbN m q))) ∧ sc = sh' ∧ M = M') := by
  refine zCr.of (by decide +kernel) rfl (Nat.le_of_ble_eq_true rfl) ?_
  refine zT.run [(.aload_n 0, 0, 0, 0)] (pe := 1) (ls' := [some (.ref 0), some (.int (nI q)), none, none, none, none]) (st' := [.ref 0]) (M' := M) (by decide +kernel) rfl ?_
  refine zT.getG (idx := 15) (fb := 0) (ci := 8) (w := 3099) hs rfl (by decide +kernel) (by decide +kernel) ?_
  rw [show zI (.ref k) (M 0 0) = .ref k from rfl]
  refine zT.lenG (w := 0) ha rfl (by decide +kernel) ?_
  rw [show (Int32.ofNat m) = nI m from rfl]
  refine zT.run [(.istore_n 2, 0, 0, 0), (.iload_n 1, 0, 0, 0), (.aload_n 0, 0, 0, 0)] (pe := 8) (ls' := [some (.ref 0), some (.int (nI q)), some (.int (nI m)), none, none, none]) (st' := [.ref 0, .int (nI q)]) (M' := M) (by decide +kernel) rfl ?_
  refine zT.getG (idx := 22) (fb := 1) (ci := 8) (w := 3100) hs rfl (by decide +kernel) (by decide +kernel) ?_
  rw [show zI (.int 0) (M 0 1) = .int 0 from congrArg Value.int hc]
  refine zT.run [(.ishl, 0, 0, 0)] (pe := 12) (ls' := [some (.ref 0), some (.int (nI q)), some (.int (nI m)), none, none, none]) (st' := [.int ((nI q) <<< (0 &&& 31))]) (M' := M) (by decide +kernel) rfl ?_
  rw [zShl0]
  refine zT.run [(.istore_n 3, 0, 0, 0), (.iload_n 3, 0, 0, 0), (.iload_n 2, 0, 0, 0), (.isub, 0, 0, 0)] (pe := 16) (ls' := [some (.ref 0), some (.int (nI q)), some (.int (nI m)), some (.int (nI q)), none, none]) (st' := [.int ((nI q) - (nI m))]) (M' := M) (by decide +kernel) rfl ?_
  rw [pk_sub (a := q) (b := m) (by omega)]
  refine zT.run [(.istore 4, 0, 0, 0), (.iload_n 2, 0, 0, 0), (.iload 4, 0, 0, 0), (.iload_n 2, 0, 0, 0), (.iconst 2, 0, 0, 0), (.aload_n 0, 0, 0, 0)] (pe := 24) (ls' := [some (.ref 0), some (.int (nI q)), some (.int (nI m)), some (.int (nI q)), some (.int (nI (q - m))), none]) (st' := [.ref 0, .int 2, .int (nI m), .int (nI (q - m)), .int (nI m)]) (M' := M) (by decide +kernel) rfl ?_
  refine zT.getG (idx := 22) (fb := 1) (ci := 8) (w := 3100) hs rfl (by decide +kernel) (by decide +kernel) ?_
  rw [show zI (.int 0) (M 0 1) = .int 0 from congrArg Value.int hc]
  refine zT.run [(.ishl, 0, 0, 0)] (pe := 28) (ls' := [some (.ref 0), some (.int (nI q)), some (.int (nI m)), some (.int (nI q)), some (.int (nI (q - m))), none]) (st' := [.int ((2 : Int32) <<< (0 &&& 31)), .int (nI m), .int (nI (q - m)), .int (nI m)]) (M' := M) (by decide +kernel) rfl ?_
  rw [zShl0]
  refine zT.run [(.iadd, 0, 0, 0)] (pe := 29) (ls' := [some (.ref 0), some (.int (nI q)), some (.int (nI m)), some (.int (nI q)), some (.int (nI (q - m))), none]) (st' := [.int ((nI m) + (2)), .int (nI (q - m)), .int (nI m)]) (M' := M) (by decide +kernel) rfl ?_
  rw [show nI m + 2 = nI (m + 2) from nI_add m 2]
  refine zT.cS_nil (idx := 114) (av := [.int (nI m), .int (nI (q - m)), .int (nI (m + 2))]) (rv := some (.int (nI (m + max (q - m) (m + 2))))) (st := []) (S1 := [.int (nI (m + max (q - m) (m + 2)))]) (c_J8_newLength_cabcc m (q - m) (m + 2) (by omega) (by omega)) k_J8_newLength_cabcc rfl (zIn (w := 3012) (by decide +kernel) rfl) (by decide +kernel) (by decide +kernel) rfl (Nat.le_of_ble_eq_true rfl) rfl ?_
  refine zT.run [(.istore 5, 0, 0, 0), (.iload 5, 0, 0, 0), (.ldc 39, 2147483647, 0, 2218)] (pe := 38) (ls' := [some (.ref 0), some (.int (nI q)), some (.int (nI m)), some (.int (nI q)), some (.int (nI (q - m))), some (.int (nI (m + max (q - m) (m + 2))))]) (st' := [.int 2147483647, .int (nI (m + max (q - m) (m + 2)))]) (M' := M) (by decide +kernel) rfl ?_
  refine zT.cne (tgt := 51) (off := 13) (by decide +kernel) (by decide) (fun _ => ?_) (fun z => absurd ((nI_eq (a := m + max (q - m) (m + 2)) (b := 2147483647) (by omega) (by decide)).mp z) (by omega))
  refine zT.run [(.iload 5, 0, 0, 0), (.aload_n 0, 0, 0, 0)] (pe := 54) (ls' := [some (.ref 0), some (.int (nI q)), some (.int (nI m)), some (.int (nI q)), some (.int (nI (q - m))), some (.int (nI (m + max (q - m) (m + 2))))]) (st' := [.ref 0, .int (nI (m + max (q - m) (m + 2)))]) (M' := M) (by decide +kernel) rfl ?_
  refine zT.getG (idx := 22) (fb := 1) (ci := 8) (w := 3100) hs rfl (by decide +kernel) (by decide +kernel) ?_
  rw [show zI (.int 0) (M 0 1) = .int 0 from congrArg Value.int hc]
  refine zT.run [(.ishr, 0, 0, 0)] (pe := 58) (ls' := [some (.ref 0), some (.int (nI q)), some (.int (nI m)), some (.int (nI q)), some (.int (nI (q - m))), some (.int (nI (m + max (q - m) (m + 2))))]) (st' := [.int ((nI (m + max (q - m) (m + 2))) >>> (0 &&& 31))]) (M' := M) (by decide +kernel) rfl ?_
  rw [zShr0]
  exact zT.retI (ty := .int) ⟨rfl, rfl, rfl⟩ rfl rfl (by decide +kernel)
theorem k_J5_newCapacity_0f7a4 : zOkI yy_J5_newCapacity_0f7a4 1 := ⟨⟨⟨zIn (w := 3011) (by decide +kernel) rfl, zIn (w := 1018) (by decide +kernel) rfl⟩, by decide +kernel⟩, zIn (w := 3010) (by decide +kernel) rfl, zIn (w := 5163) (by decide +kernel) rfl⟩
theorem p_J5_newCapacity_0f7a4 : Cond.privateMethod yy_J5_newCapacity_0f7a4.1 ∈ zNw := zInN (w := 3009) (by decide +kernel) rfl
noncomputable abbrev yy_J5_isLatin1_aae02 : zY := (yJ5_isLatin1_aae02, cJ5_isLatin1_aae02, 1, (some Jvm.ClassFile.FieldType.boolean), 0, 0)
theorem c_J5_isLatin1_aae02 {sc : List va_E} {M : zM} {k m : Nat} (hs : zSg sc 0 = some (.inr (8, [.ref k, .int 0, .int 0, .int 0]))) (ha : zSg sc k = some (.inl (1, m, .inl fun _ => 0))) (hc : M 0 1 = 0) : zCr yy_J5_isLatin1_aae02 0 0 [.ref 0] sc M (fun rv sh' M' => rv = some (.int 1) ∧ sc = sh' ∧ M = M') := by
  refine zCr.of (by decide +kernel) rfl (Nat.le_of_ble_eq_true rfl) ?_
  refine zT.gets (idx := 18) 5 rfl rfl (zIn (w := 3039) (by decide +kernel) rfl) (by decide +kernel) ?_
  refine zT.zeq (tgt := 17) (off := 14) (by decide +kernel) (by decide) (fun q => absurd q (by decide)) (fun _ => ?_)
  refine zT.run [(.aload_n 0, 0, 0, 0)] (pe := 7) (ls' := [some (.ref 0)]) (st' := [.ref 0]) (M' := M) (by decide +kernel) rfl ?_
  refine zT.getG (idx := 22) (fb := 1) (ci := 8) (w := 3100) hs rfl (by decide +kernel) (by decide +kernel) ?_
  rw [show zI (.int 0) (M 0 1) = .int 0 from congrArg Value.int hc]
  refine zT.zne (tgt := 17) (off := 7) (by decide +kernel) (by decide) (fun q => absurd rfl q) (fun _ => ?_)
  refine zT.run [(.iconst 1, 0, 0, 0), (.goto 4, 0, 0, 0)] (pe := 18) (ls' := [some (.ref 0)]) (st' := [.int 1]) (M' := M) (by decide +kernel) rfl ?_
  exact zT.retI (ty := .boolean) ⟨rfl, rfl, rfl⟩ rfl rfl (by decide +kernel)
theorem k_J5_isLatin1_aae02 : zOkI yy_J5_isLatin1_aae02 0 := ⟨⟨⟨zIn (w := 3038) (by decide +kernel) rfl, zIn (w := 1018) (by decide +kernel) rfl⟩, by decide +kernel⟩, zIn (w := 3035) (by decide +kernel) rfl, zIn (w := 3036) (by decide +kernel) rfl⟩
noncomputable abbrev yy_J7_copyOf_9075b : zY := (yJ7_copyOf_9075b, cJ7_copyOf_9075b, 3, (some (Jvm.ClassFile.FieldType.array Jvm.ClassFile.FieldType.byte)), 1, 60)
theorem zSg_ap {sc : List va_E} {e q : va_E} {k : Nat} (h : zSg sc k = some q) : zSg (sc ++ [e]) k = some q := by
  rw [zSg_eq, List.getElem?_append_left (zSg_lt h), ← zSg_eq]
  exact h
theorem zSg_last {sc : List va_E} {e : va_E} : zSg (sc ++ [e]) sc.length = some e := by
  rw [zSg_eq]
  simp
theorem c_J7_copyOf_9075b {sc : List va_E} {M : zM} {k m N : Nat} (ha : zSg sc k = some (.inl (1, m, .inl fun _ => 0))) (hcs : zCs sc.length sc) (hf : ∀ j, fits .byte (.int (M k j)) = true) (hmN : m < N) (hN : N ≤ 500) : zCr yy_J7_copyOf_9075b 1 N [.ref k, .int (nI N)] sc M (fun rv sh' M' => rv = some (.ref sc.length) ∧ sh' = sc ++ [.inl (1, N, .inl fun _ => 0)] ∧ (∀ j, j < sc.length → M' j = M j) ∧ ∀ j, M' sc.length j = if j < m then M k j else 0) := by
  refine zCr.of (by decide +kernel) rfl (Nat.le_of_ble_eq_true rfl) ?_
  refine zT.run [(.iload_n 1, 0, 0, 0), (.aload_n 0, 0, 0, 0)] (pe := 2) (ls' := [some (.ref k), some (.int (nI N)), none]) (st' := [.ref k, .int (nI N)]) (M' := M) (by decide +kernel) rfl ?_
  refine zT.lenG (w := 0) ha rfl (by decide +kernel) ?_
  rw [show (Int32.ofNat m) = nI m from rfl]
  refine zT.cne (tgt := 14) (off := 11) (by decide +kernel) (by decide) (fun _ => ?_) (fun z => absurd ((nI_eq (a := N) (b := m) (by omega) (by omega)).mp z) (by omega))
  refine zT.run [(.iload_n 1, 0, 0, 0)] (pe := 15) (ls' := [some (.ref k), some (.int (nI N)), none]) (st' := [.int (nI N)]) (M' := M) (by decide +kernel) rfl ?_
  refine zT.newa (kc := 0) (nc := 0) (t := 1) (N := N) (aty := .byte) (ty := .byte) (z := .inl (fun _ => 0)) rfl (fun _ => rfl) (zIn (w := 1069) (by decide +kernel) rfl) (fun _ _ _ => rfl) (fun _ => rfl) rfl (by omega) (by decide) hcs (zLb_up (n := k + 1) (by simp [zLb, zVb]) (zSg_lt ha)) rfl (by decide +kernel) ?_
  have ha' : zSg (sc ++ [.inl (1, N, .inl fun _ => 0)]) k = some (.inl (1, m, .inl fun _ => 0)) := zSg_ap ha
  have hn' : zSg (sc ++ [.inl (1, N, .inl fun _ => 0)]) sc.length = some (.inl (1, N, .inl fun _ => 0)) := zSg_last
  have hne : k ≠ sc.length := Nat.ne_of_lt (zSg_lt ha)
  have eM : (zUa M sc.length fun _ => 0) k = M k := zUa_ne hne
  refine zT.run [(.astore_n 2, 0, 0, 0), (.aload_n 0, 0, 0, 0), (.iconst 0, 0, 0, 0), (.aload_n 2, 0, 0, 0), (.iconst 0, 0, 0, 0), (.aload_n 0, 0, 0, 0)] (pe := 23) (ls' := [some (.ref k), some (.int (nI N)), some (.ref sc.length)]) (st' := [.ref k, .int 0, .ref sc.length, .int 0, .ref k]) (M' := (zUa M sc.length fun _ => 0)) (by decide +kernel) rfl ?_
  refine zT.lenG (w := 0) ha' rfl (by decide +kernel) ?_
  rw [show (Int32.ofNat m) = nI m from rfl]
  refine zT.run [(.iload_n 1, 0, 0, 0)] (pe := 25) (ls' := [some (.ref k), some (.int (nI N)), some (.ref sc.length)]) (st' := [.int (nI N), .int (nI m), .int 0, .ref sc.length, .int 0, .ref k]) (M' := (zUa M sc.length fun _ => 0)) (by decide +kernel) rfl ?_
  refine zT.mmin (idx := 304) ⟨⟨⟨⟨zIn (w := 3030) (by decide +kernel) rfl, zLm_min.1⟩, zLm_min.2.1⟩, zLm_min.2.2⟩, by decide +kernel, by decide +kernel⟩ (Nat.le_of_ble_eq_true rfl) (by decide +kernel) ?_
  rw [if_neg (nI_nlt (by omega) (by omega) : ¬ nI N < nI m)]
  refine zT.copywB (idx := 150) (a := 0) (b := 0) (n := m) ha' hn' (fun j => by rw [eM]; exact hf j) rfl rfl rfl (by omega) (by omega) (by omega) (by omega) ⟨⟨⟨⟨zIn (w := 3033) (by decide +kernel) rfl, zIn (w := 1237) (by decide +kernel) rfl⟩, zIn (w := 1236) (by decide +kernel) rfl⟩, zIn (w := 1009) (by decide +kernel) rfl⟩, by decide +kernel, by decide +kernel⟩ (Nat.le_of_ble_eq_true rfl) (by decide +kernel) ?_
  refine zT.run [(.aload_n 2, 0, 0, 0)] (pe := 32) (ls' := [some (.ref k), some (.int (nI N)), some (.ref sc.length)]) (st' := [.ref sc.length]) (M' := (zUa (zUa M sc.length fun _ => 0) sc.length (va_cpy ((zUa M sc.length fun _ => 0) k) ((zUa M sc.length fun _ => 0) sc.length) 0 0 m))) (by decide +kernel) rfl ?_
  refine zT.retQ ⟨rfl, rfl, fun j hj => ?_, fun j => ?_⟩ rfl (by decide +kernel)
  · rw [zUa_ne (Nat.ne_of_lt hj), zUa_ne (Nat.ne_of_lt hj)]
  · rw [zUa_eq, zUa_eq, eM]
    show (if 0 ≤ j ∧ j < 0 + m then M k (0 + (j - 0)) else 0) = _
    by_cases c : j < m
    · rw [if_pos ⟨Nat.zero_le _, by omega⟩, if_pos c, show 0 + (j - 0) = j by omega]
    · rw [if_neg (by omega), if_neg c]
theorem k_J7_copyOf_9075b : zCad yy_J7_copyOf_9075b 2 := ⟨⟨⟨zIn (w := 3022) (by decide +kernel) rfl, zIn (w := 1023) (by decide +kernel) rfl⟩, by decide +kernel⟩, zIn (w := 3021) (by decide +kernel) rfl⟩
