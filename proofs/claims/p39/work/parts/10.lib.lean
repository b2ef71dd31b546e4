/-! MEMORIES that agree where the world is -/
theorem zWd_congr (cA : Nat → ClassId) (as ex : Nat → Nat) {M M2 : zM} : ∀ (sh : List va_E) (b : Nat), (∀ k, b ≤ k → k < b + sh.length → M k = M2 k) → zWd cA as ex M b sh = zWd cA as ex M2 b sh
  | [], b, _ => rfl
  | q :: r, b, h => by
    simp only [zWd]
    rw [h b (Nat.le_refl _) (by simp), zWd_congr cA as ex r (b + 1) (fun k h1 h2 => h k (by omega) (by simp at h2 ⊢; omega))]
theorem zT.congM {Y : zY} {kc nc : Nat} {Z : zS → Prop} {pc : Nat} {ls : zL} {st : List Value} {sh : List va_E} {M M2 : zM} (h : ∀ k, k < sh.length → M k = M2 k) (k1 : zT Y kc nc Z (pc, ls, st, sh, M2)) : zT Y kc nc Z (pc, ls, st, sh, M) := by
  refine zT.step (S1 := (pc, ls, st, sh, M2)) rfl ?_ k1
  intro p l e R s m args below meth c D cA ex A E Q cells slots as _ _ k9 H locs lsR hP hD hS hl
  have e9 : zWd cA as ex M 0 sh = zWd cA as ex M2 0 sh := zWd_congr cA as ex sh 0 (fun k _ h2 => h k (by omega))
  exact k9 H locs lsR (by show va_P D vwCl (zWd cA as ex M2 0 sh) H; rw [← e9]; exact hP) (by show va_D A (zWd cA as ex M2 0 sh); rw [← e9]; exact hD) hS hl
theorem zPs_pure {M : zM} {b n k : Nat} : zPs M b n (zPl M b) k = M k := by
  by_cases h : b ≤ k ∧ k < b + n
  · rw [zPs_in h.1 h.2]
    show M (b + (k - b)) = M k
    rw [show b + (k - b) = k by omega]
  · exact zPs_out (by omega)
theorem zPs_all {M N : zM} {n k : Nat} (h : k < n) : zPs M 0 n N k = N k := by
  rw [zPs_in (Nat.zero_le _) (by omega)]
  rfl
theorem zPs_nil {M N : zM} {b k : Nat} : zPs M b 0 N k = M k := zPs_out (by omega)
/-! THE LIBRARY'S OWN steps -/
section ZLIB
variable {Y : zY} {kc nc : Nat} {Z : zS → Prop} {pc idx : Nat} {ls : zL} {st : List Value} {sh : List va_E} {M : zM}
def zLib (Y : zY) (idx : Nat) (name : MethodName) (code : ByteArray) (nL : Nat) : Prop := (((Cond.methodLink Y.1.cls idx name ∈ zW ∧ Cond.static name ∈ zW) ∧ Cond.initialized "java/lang/Math" ∈ zW) ∧ Cond.code name code nL (some .int) ∈ zW) ∧ (1 ≤ Y.2.2.2.2.1 ∧ 21 ≤ Y.2.2.2.2.2)
theorem zT.mmax {x y : Int32} (hk : zLib Y idx Lib.Math.max.name Lib.Math.max.code 2) (hw : (st.map fun v => v.category).sum ≤ 8) (hd : decode Y.2.1 pc = .ok (.invokestatic idx, 3)) (k1 : zT Y kc nc Z (pc + 3, ls, .int (if x < y then y else x) :: st, sh, M)) : zT Y kc nc Z (pc, ls, .int y :: .int x :: st, sh, M) := by
  refine zT.step (S1 := (pc + 3, ls, .int (if x < y then y else x) :: st, sh, M)) rfl ?_ k1
  intro p l e R s m args below meth c D cA ex A E Q cells slots as hcl hsl k9 H locs lsR hP hD hS hl
  have hts := E.2.2.2.2.1
  exact va_mmax E.1 E.2.1 (E.2.2.1.trans hl.1.symm) E.2.2.2.1 (hts _ hk.1.1.1.1) (hts _ hk.1.1.1.2) (hts _ hk.1.1.2) (hts _ hk.1.2) (Nat.le_trans hk.2.1 E.2.2.2.2.2.2.2.2.2.2.2.2.1) (by rw [zTr_sum]; have := E.2.2.2.2.2.2.2.2.2.2.2.2.2; have := hk.2.2; omega) hcl hsl hd (k9 H locs lsR hP hD hS hl)
theorem zT.mmin {x y : Int32} (hk : zLib Y idx Lib.Math.min.name Lib.Math.min.code 2) (hw : (st.map fun v => v.category).sum ≤ 8) (hd : decode Y.2.1 pc = .ok (.invokestatic idx, 3)) (k1 : zT Y kc nc Z (pc + 3, ls, .int (if y < x then y else x) :: st, sh, M)) : zT Y kc nc Z (pc, ls, .int y :: .int x :: st, sh, M) := by
  refine zT.step (S1 := (pc + 3, ls, .int (if y < x then y else x) :: st, sh, M)) rfl ?_ k1
  intro p l e R s m args below meth c D cA ex A E Q cells slots as hcl hsl k9 H locs lsR hP hD hS hl
  have hts := E.2.2.2.2.1
  exact va_mmin E.1 E.2.1 (E.2.2.1.trans hl.1.symm) E.2.2.2.1 (hts _ hk.1.1.1.1) (hts _ hk.1.1.1.2) (hts _ hk.1.1.2) (hts _ hk.1.2) (Nat.le_trans hk.2.1 E.2.2.2.2.2.2.2.2.2.2.2.2.1) (by rw [zTr_sum]; have := E.2.2.2.2.2.2.2.2.2.2.2.2.2; have := hk.2.2; omega) hcl hsl hd (k9 H locs lsR hP hD hS hl)
theorem zT.mabs {x : Int32} (hk : zLib Y idx Lib.Math.abs.name Lib.Math.abs.code 1) (hw : (st.map fun v => v.category).sum ≤ 8) (hd : decode Y.2.1 pc = .ok (.invokestatic idx, 3)) (k1 : zT Y kc nc Z (pc + 3, ls, .int (if 0 ≤ x then x else 0 - x) :: st, sh, M)) : zT Y kc nc Z (pc, ls, .int x :: st, sh, M) := by
  refine zT.step (S1 := (pc + 3, ls, .int (if 0 ≤ x then x else 0 - x) :: st, sh, M)) rfl ?_ k1
  intro p l e R s m args below meth c D cA ex A E Q cells slots as hcl hsl k9 H locs lsR hP hD hS hl
  have hts := E.2.2.2.2.1
  exact va_mabs E.1 E.2.1 (E.2.2.1.trans hl.1.symm) E.2.2.2.1 (hts _ hk.1.1.1.1) (hts _ hk.1.1.1.2) (hts _ hk.1.1.2) (hts _ hk.1.2) (Nat.le_trans hk.2.1 E.2.2.2.2.2.2.2.2.2.2.2.2.1) (by rw [zTr_sum]; have := E.2.2.2.2.2.2.2.2.2.2.2.2.2; have := hk.2.2; omega) hcl hsl hd (k9 H locs lsR hP hD hS hl)
def zOkA (Y : zY) (idx : Nat) : Prop := (((Cond.methodLink Y.1.cls idx arraycopyName ∈ zW ∧ Cond.native arraycopyName ∈ zW) ∧ Cond.static arraycopyName ∈ zW) ∧ Cond.initialized "java/lang/System" ∈ zW) ∧ (1 ≤ Y.2.2.2.2.1 ∧ 8 + (nativeFrameWords "java/lang/System" "arraycopy" 5 + 11) ≤ Y.2.2.2.2.2)
/-- System.arraycopy between two rows of ints of the world -/
theorem zT.copyi {o0 o1 n0 n1 a b n : Nat} {z0 z1 : Nat → Int32} {sp dp k : Int32} (h0 : zSg sh o0 = some (.inl (0, n0, .inl z0))) (h1 : zSg sh o1 = some (.inl (0, n1, .inl z1))) (ha : sp = nI a) (hb : dp = nI b) (hn : k = nI n) (g0 : a + n ≤ n0) (g1 : b + n ≤ n1) (hs0 : n0 < 2 ^ 31) (hs1 : n1 < 2 ^ 31)
    (hk : zOkA Y idx) (hw : (st.map fun v => v.category).sum ≤ 8) (hd : decode Y.2.1 pc = .ok (.invokestatic idx, 3)) (k1 : zT Y kc nc Z (pc + 3, ls, st, sh, zUa M o1 (va_cpy (M o0) (M o1) a b n))) : zT Y kc nc Z (pc, ls, .int k :: .int dp :: .ref o1 :: .int sp :: .ref o0 :: st, sh, M) := by
  refine zT.step (S1 := (pc + 3, ls, st, sh, zUa M o1 (va_cpy (M o0) (M o1) a b n))) rfl ?_ k1
  intro p l e R s m args below meth c D cA ex A E Q cells slots as hcl hsl k9 H locs lsR hP hD hS hl
  subst ha hb hn
  have hts := E.2.2.2.2.1
  have c1 : (nI a).toNatClampNeg = a := nI_clamp (by omega)
  have c2 : (nI b).toNatClampNeg = b := nI_clamp (by omega)
  have c3 : (nI n).toNatClampNeg = n := nI_clamp (by omega)
  refine va_copyi E.1 E.2.1 (E.2.2.1.trans hl.1.symm) E.2.2.2.1 (hts _ hk.1.1.1.1) (hts _ hk.1.1.1.2) (hts _ hk.1.1.2) (hts _ hk.1.2) E.2.2.2.2.2.1 hP hD hS o0 o1 0 0 (zWd_at h0) (zWd_at h1) rfl rfl rfl (nI_pos (by omega)) (nI_pos (by omega)) (nI_pos (by omega)) (by rw [c1, c3]; exact g0) (by rw [c2, c3]; exact g1) (fun _ _ => rfl) (Nat.le_trans hk.2.1 E.2.2.2.2.2.2.2.2.2.2.2.2.1) (by rw [zTr_sum]; have := E.2.2.2.2.2.2.2.2.2.2.2.2.2; have := hk.2.2; omega) hd (fun H1 locs1 hP1 hD1 hS1 => ?_)
  rw [c1, c2, c3] at hP1 hD1
  have e9 : (zWd cA as ex M 0 sh).set o1 (as o1, .inl (cA 0, n1, .inl (va_cpy (M o0) (M o1) a b n))) = zWd cA as ex (zUa M o1 (va_cpy (M o0) (M o1) a b n)) 0 sh := by
    have h8 := zWd_set (cA := cA) (as := as) (ex := ex) (M := M) (M' := zUa M o1 (va_cpy (M o0) (M o1) a b n)) (sh := sh) (k := o1) (q' := .inl (0, n1, .inl z1)) (fun j hj => zUa_ne hj)
    rw [zSet_same h1] at h8
    rw [← h8, zUa_eq]
    rfl
  have hP2 : va_P D vwCl ((zWd cA as ex M 0 sh).set o1 (as o1, .inl (cA 0, n1, .inl (va_cpy (M o0) (M o1) a b n)))) H1 := hP1
  have hD2 : va_D A ((zWd cA as ex M 0 sh).set o1 (as o1, .inl (cA 0, n1, .inl (va_cpy (M o0) (M o1) a b n)))) := hD1
  rw [e9] at hP2 hD2
  exact k9 H1 locs1 lsR hP2 hD2 hS1 hl
end ZLIB
/-! WHAT STANDS OUTSIDE, read -/
section ZOUT
variable {Y : zY} {kc nc : Nat} {Z : zS → Prop} {pc idx : Nat} {ls : zL} {st : List Value} {sh : List va_E} {M : zM}
def zX (v : Value) : Bool := match v with
  | .ref _ => false
  | _ => true
theorem zX_ex {as ex : Nat → Nat} {v : Value} (h : zX v = true) : zTr as ex v = zTr ex ex v := by cases v <;> first | rfl | cases h
theorem zT.gets (k : Nat) {q : String × String × String × Value} (hq : zZs[k]? = some q) (hx : zX q.2.2.2 = true) (hlk : Cond.fieldLink Y.1.cls idx q.1 q.2.1 q.2.2.1 ∈ zW) (hd : decode Y.2.1 pc = .ok (.getstatic idx, 3)) (k1 : zT Y kc nc Z (pc + 3, ls, q.2.2.2 :: st, sh, M)) : zT Y kc nc Z (pc, ls, st, sh, M) := by
  refine zT.step (S1 := (pc + 3, ls, q.2.2.2 :: st, sh, M)) rfl ?_ k1
  intro p l e R s m args below meth c D cA ex A E Q cells slots as hcl hsl k9 H locs lsR hP hD hS hl
  refine va_gets E.1 E.2.1 (E.2.2.2.2.2.2.2.1.1 q (List.mem_of_getElem? hq)) hS E.2.2.2.1 (E.2.2.2.2.1 _ hlk) (fun _ h9 => h9) hd ?_
  rw [← zX_ex (as := as) hx]
  exact k9 H locs lsR hP hD hS hl
theorem zT.getsN (k : Nat) {host : String} {q : String × String × String × Value} (hq : zZs[k]? = some q) (hx : zX q.2.2.2 = true) (hlk : Cond.fieldLinkNest Y.1.cls idx q.1 q.2.1 q.2.2.1 host ∈ zNw) (hd : decode Y.2.1 pc = .ok (.getstatic idx, 3)) (k1 : zT Y kc nc Z (pc + 3, ls, q.2.2.2 :: st, sh, M)) : zT Y kc nc Z (pc, ls, st, sh, M) := by
  refine zT.step (S1 := (pc + 3, ls, q.2.2.2 :: st, sh, M)) rfl ?_ k1
  intro p l e R s m args below meth c D cA ex A E Q cells slots as hcl hsl k9 H locs lsR hP hD hS hl
  refine va_getsN E.1 E.2.1 (E.2.2.2.2.2.2.2.1.1 q (List.mem_of_getElem? hq)) hS E.2.2.2.1 ((E.2.2.2.2.2.2.2.1.2.2.2.2.2.2.2.1 _ hlk).use rfl) (fun _ h9 => h9) hd ?_
  rw [← zX_ex (as := as) hx]
  exact k9 H locs lsR hP hD hS hl
/-- a written row of ints -/
theorem zT.xi (k : Nat) {t j : Nat} {i x : Int32} {vs : List Value} (hq : zTs[k]? = some (.int, t, vs)) (hi : i = nI j) (hj : vs[j]? = some (.int x)) (hn : vs.length < 2 ^ 31) (hd : decode Y.2.1 pc = .ok (.iaload, 1)) (k1 : zT Y kc nc Z (pc + 1, ls, .int x :: st, sh, M)) : zT Y kc nc Z (pc, ls, .int i :: .retAddr t :: st, sh, M) := by
  refine zT.step (S1 := (pc + 1, ls, .int x :: st, sh, M)) rfl ?_ k1
  intro p l e R s m args below meth c D cA ex A E Q cells slots as hcl hsl k9 H locs lsR hP hD hS hl
  subst hi
  have hlt := (List.getElem?_eq_some_iff.mp hj).1
  refine va_ti E.1 E.2.1 (E.2.2.2.2.2.2.2.1.2.1 _ (List.mem_of_getElem? hq)) hS (vp_in_nI hlt hn) ?_ hd (v := .int x) (k9 H locs lsR hP hD hS hl)
  show zTr ex ex (vs.getD (nI j).toNatClampNeg .null) = .int x
  rw [nI_clamp (Nat.lt_trans hlt hn), List.getD_eq_getElem?_getD, hj]
  rfl
theorem zT.xlen (k : Nat) {ty : FieldType} {t : Nat} {vs : List Value} (hq : zTs[k]? = some (ty, t, vs)) (hd : decode Y.2.1 pc = .ok (.arraylength, 1)) (k1 : zT Y kc nc Z (pc + 1, ls, .int (Int32.ofNat vs.length) :: st, sh, M)) : zT Y kc nc Z (pc, ls, .retAddr t :: st, sh, M) := by
  refine zT.step (S1 := (pc + 1, ls, .int (Int32.ofNat vs.length) :: st, sh, M)) rfl ?_ k1
  intro p l e R s m args below meth c D cA ex A E Q cells slots as hcl hsl k9 H locs lsR hP hD hS hl
  exact va_tlen E.1 E.2.1 (E.2.2.2.2.2.2.2.1.2.1 _ (List.mem_of_getElem? hq)) hS rfl hd (k9 H locs lsR hP hD hS hl)
theorem zT.ldcS (k : Nat) {q : String × Nat × String × Nat} (hq : zRs[k]? = some q) (hown : q.1 = Y.1.cls) (hd : decode Y.2.1 pc = .ok (.ldc q.2.1, 2)) (k1 : zT Y kc nc Z (pc + 2, ls, .retAddr q.2.2.2 :: st, sh, M)) : zT Y kc nc Z (pc, ls, st, sh, M) := by
  refine zT.step (S1 := (pc + 2, ls, .retAddr q.2.2.2 :: st, sh, M)) rfl ?_ k1
  intro p l e R s m args below meth c D cA ex A E Q cells slots as hcl hsl k9 H locs lsR hP hD hS hl
  refine va_ldcS E.1 E.2.1 E.2.2.2.1 (tx := q.2.2.1) (q := ex q.2.2.2) ?_ hd (k9 H locs lsR hP hD hS hl)
  rw [← hown]
  exact E.2.2.2.2.2.2.2.1.2.2.2.2.1 q (List.mem_of_getElem? hq)
/-- System.arraycopy out of a written row of ints into a row of the world -/
theorem zT.copyt (q : Nat) {t o1 n1 a b n : Nat} {vs : List Value} {z1 : Nat → Int32} {f : Nat → Int32} {sp dp k : Int32} (hq : zTs[q]? = some (.int, t, vs)) (hvs : ∀ j, j < vs.length → vs.getD j .null = .int (f j)) (h1 : zSg sh o1 = some (.inl (0, n1, .inl z1))) (ha : sp = nI a) (hb : dp = nI b) (hn : k = nI n) (g0 : a + n ≤ vs.length) (g1 : b + n ≤ n1) (hs0 : vs.length < 2 ^ 31) (hs1 : n1 < 2 ^ 31)
    (hk : zOkA Y idx) (hw : (st.map fun v => v.category).sum ≤ 8) (hd : decode Y.2.1 pc = .ok (.invokestatic idx, 3)) (k1 : zT Y kc nc Z (pc + 3, ls, st, sh, zUa M o1 (va_cpy f (M o1) a b n))) : zT Y kc nc Z (pc, ls, .int k :: .int dp :: .ref o1 :: .int sp :: .retAddr t :: st, sh, M) := by
  refine zT.step (S1 := (pc + 3, ls, st, sh, zUa M o1 (va_cpy f (M o1) a b n))) rfl ?_ k1
  intro p l e R s m args below meth c D cA ex A E Q cells slots as hcl hsl k9 H locs lsR hP hD hS hl
  subst ha hb hn
  have hts := E.2.2.2.2.1
  have c1 : (nI a).toNatClampNeg = a := nI_clamp (by omega)
  have c2 : (nI b).toNatClampNeg = b := nI_clamp (by omega)
  have c3 : (nI n).toNatClampNeg = n := nI_clamp (by omega)
  have i1 : (nI a).toInt = (a : Int) := nI_toInt (by omega)
  have i2 : (nI b).toInt = (b : Int) := nI_toInt (by omega)
  have i3 : (nI n).toInt = (n : Int) := nI_toInt (by omega)
  have ha1 : (zWd cA as ex M 0 sh)[o1]? = some (as o1, .inl (cA 0, n1, .inl (M o1))) := zWd_at h1
  have hX := E.2.2.2.2.2.2.2.1.2.1 _ (List.mem_of_getElem? hq)
  intro T hT X
  obtain ⟨scr, hs1', hs2, hs3, hs4, -, hs5, hs7⟩ := hX
  have hs5 : ∀ j, j < vs.length → scr.slots[j]? = some (.int (f j)) := fun j hj => by
    rw [hs5 j hj]
    show some (zTr ex ex (vs.getD j .null)) = _
    rw [hvs j hj]
    rfl
  have hs4 : vs.length ≤ scr.slots.size := hs4
  have hc0 : H[ex t]? = some scr := by rw [hS.2.1 (ex t) (Array.getElem?_eq_some_iff.mp hs1').1 hs7]; exact hs1'
  have hc1 : H[as o1]? = some (vp_cell (cA 0) (n1, .inl (M o1))) := hP o1 _ ha1
  obtain ⟨hs6, k0, hk0, cm0, hkk0⟩ := hs2
  obtain ⟨-, k1', hk1, cm1, hkk1⟩ := (E.2.2.2.2.2.1.2 0 _ rfl).1 n1 (fun j => .int (M o1 j))
  have hRf : 1 ≤ R.frames := Nat.le_trans hk.2.1 E.2.2.2.2.2.2.2.2.2.2.2.2.1
  obtain ⟨vm', X', step⟩ := X.arraycopy E.1 E.2.2.2.1 (hts _ hk.1.1.1.1) (hts _ hk.1.1.1.2) (hts _ hk.1.1.2) (hts _ hk.1.2) (src := ex t) (dst := as o1) (cs := scr) (cd := vp_cell (cA 0) (n1, .inl (M o1))) (srcPos := nI a) (destPos := nI b) (n := nI n) (by rw [hT]; exact hc0) (by rw [hT]; exact hc1)
    hs6 (fun _ h => by cases h) hs3 (fun h => by cases h) hk0 hk1 hkk0 hkk1 (by simp [refKind]) (nI_pos (by omega)) (nI_pos (by omega)) (nI_pos (by omega))
    (by omega)
    (by show ¬ _ > ((arrV (cA 0) n1 (fun j => .int (M o1 j))).slots.size : Int); rw [arrV_size]; omega)
    (fun vm₁ _ i hi => by
      rw [c3] at hi
      have e : scr.slots.getD ((nI a).toNatClampNeg + i) .null = .int (f (a + i)) := by
        rw [c1, Array.getD_eq_getD_getElem?, hs5 _ (by omega)]
        rfl
      refine ⟨?_, ?_⟩
      · rw [e]
        rfl
      · rw [e]
        exact trivial)
    (g := F0 m pc lsR (.int (nI n) :: .int (nI b) :: .ref (as o1) :: .int (nI a) :: .ref (ex t) :: st.map (zTr as ex))) rfl (hl.1.trans E.2.2.1.symm) (rest := st.map (zTr as ex)) rfl (by rw [E.2.1]; exact hd) hRf (by show 2 * 0 + _ + _ ≤ _; rw [zTr_sum]; have := E.2.2.2.2.2.2.2.2.2.2.2.2.2; have := hk.2.2; omega)
  have e1 : copied scr (vp_cell (cA 0) (n1, .inl (M o1))) (nI a) (nI b) (nI n) = vp_cell (cA 0) (n1, .inl (va_cpy f (M o1) (nI a).toNatClampNeg (nI b).toNatClampNeg (nI n).toNatClampNeg)) := va_copiedX (fun z => .int z) scr (cA 0) f (M o1) hs5 (by rw [c1, c3]; exact g0)
  rw [e1, c1, c2, c3] at X' step
  have hl9 : as o1 < H.size := (Array.getElem?_eq_some_iff.mp hc1).1
  have hheap : ((T.setVm vm').setCell (as o1) (vp_cell (cA 0) (n1, .inl (va_cpy f (M o1) a b n)))).heap = H.setIfInBounds (as o1) (vp_cell (cA 0) (n1, .inl (va_cpy f (M o1) a b n))) := by rw [← hT]; rfl
  have oq : ∀ q : Nat, q ≠ as o1 → (H.setIfInBounds (as o1) (vp_cell (cA 0) (n1, .inl (va_cpy f (M o1) a b n))))[q]? = H[q]? := fun q hq => by simp [Array.getElem?_setIfInBounds, Ne.symm hq]
  have e9 : (zWd cA as ex M 0 sh).set o1 (as o1, .inl (cA 0, n1, .inl (va_cpy f (M o1) a b n))) = zWd cA as ex (zUa M o1 (va_cpy f (M o1) a b n)) 0 sh := by
    have h8 := zWd_set (cA := cA) (as := as) (ex := ex) (M := M) (M' := zUa M o1 (va_cpy f (M o1) a b n)) (sh := sh) (k := o1) (q' := .inl (0, n1, .inl z1)) (fun j hj => zUa_ne hj)
    rw [zSet_same h1] at h8
    rw [← h8, zUa_eq]
    rfl
  have hP2 := hP.set (e := .inl (cA 0, n1, .inl (va_cpy f (M o1) a b n))) (H1 := H.setIfInBounds (as o1) (vp_cell (cA 0) (n1, .inl (va_cpy f (M o1) a b n)))) hD ha1 (show (H.setIfInBounds (as o1) _)[as o1]? = some _ by simp [Array.getElem?_setIfInBounds, hl9]) oq
  have hD2 := hD.set (e := .inl (cA 0, n1, .inl (va_cpy f (M o1) a b n))) ha1
  have hP2 : va_P D vwCl ((zWd cA as ex M 0 sh).set o1 (as o1, .inl (cA 0, n1, .inl (va_cpy f (M o1) a b n)))) (H.setIfInBounds (as o1) (vp_cell (cA 0) (n1, .inl (va_cpy f (M o1) a b n)))) := hP2
  have hD2 : va_D A ((zWd cA as ex M 0 sh).set o1 (as o1, .inl (cA 0, n1, .inl (va_cpy f (M o1) a b n)))) := hD2
  rw [e9] at hP2 hD2
  obtain ⟨t9, a1, b1⟩ := k9 _ _ lsR hP2 hD2 ⟨by simp; exact hS.1, fun q g1 g2 => by
      rw [oq q (fun e => g2 (by rw [e]; exact hD.2 o1 _ ha1))]
      exact hS.2.1 q g1 g2, fun q hq => by
      rcases List.mem_append.mp hq with h | h
      · exact hS.2.2 q h
      · obtain ⟨z, -, hz⟩ := List.mem_map.mp h
        rw [← hz]
        exact hD.2 o1 _ ha1⟩ hl _ hheap X'
  exact ⟨t9, step t9 a1, b1⟩
end ZOUT
