/-! ROWS OF BYTES: copied; a field of a byte; a word under another -/
section ZBY
variable {Y : zY} {kc nc : Nat} {Z : zS → Prop} {pc idx : Nat} {ls : zL} {st : List Value} {sh : List va_E} {M : zM}
theorem zT.copytB {t o1 n1 a b n : Nat} {vs : List Value} {z1 : Nat → Int32} {f : Nat → Int32} {sp dp k : Int32} (hq : (.byte, t, vs) ∈ zTs) (hfb : ∀ j, fits .byte (.int (f j)) = true) (hvs : ∀ j, j < vs.length → vs.getD j .null = .int (f j)) (h1 : zSg sh o1 = some (.inl (1, n1, .inl z1))) (ha : sp = nI a) (hb : dp = nI b) (hn : k = nI n) (g0 : a + n ≤ vs.length) (g1 : b + n ≤ n1) (hs0 : vs.length < 2 ^ 31) (hs1 : n1 < 2 ^ 31)
    (hk : zOkA Y idx) (hw : (st.map fun v => v.category).sum ≤ 8) (hd : decode Y.2.1 pc = .ok (.invokestatic idx, 3)) (k1 : zT Y kc nc Z (pc + 3, ls, st, sh, zUa M o1 (va_cpy f (M o1) a b n))) : zT Y kc nc Z (pc, ls, .int k :: .int dp :: .ref o1 :: .int sp :: .retAddr t :: st, sh, M) := by
  refine zT.step (S1 := (pc + 3, ls, st, sh, zUa M o1 (va_cpy f (M o1) a b n))) rfl ?_ k1
  intro p l e R s m args below meth c D cA ex A E Q cells slots as hcl hsl k9 H locs lsR hP hD hS hl
  subst ha hb hn
  have hts := E.2.2.2.2.1
  have c1 : (nI a).toNatClampNeg = a := nI_clamp (by omega)
  have c2 : (nI b).toNatClampNeg = b := nI_clamp (by omega)
  have c3 : (nI n).toNatClampNeg = n := nI_clamp (by omega)
  have i1 : (nI a).toInt = (a : Int) := nI_toInt (by omega)
  have i2 : (nI b).toInt = (b : Int) := nI_toInt (by omega)
  have i3 : (nI n).toInt = (n : Int) := nI_toInt (by omega)
  have ha1 : (zWd cA as ex M 0 sh)[o1]? = some (as o1, .inl (cA 1, n1, .inl (M o1))) := zWd_at h1
  have hX := E.2.2.2.2.2.2.2.1.2.1 _ hq
  intro T hT X
  obtain ⟨scr, hs1', hs2, hs3, hs4, -, hs5, hs7⟩ := hX
  have hs5 : ∀ j, j < vs.length → scr.slots[j]? = some (.int (f j)) := fun j hj => by
    rw [hs5 j hj]
    show some (zTr ex ex (vs.getD j .null)) = _
    rw [hvs j hj]
    rfl
  have hs4 : vs.length ≤ scr.slots.size := hs4
  have hc0 : H[ex t]? = some scr := by rw [hS.2.1 (ex t) (Array.getElem?_eq_some_iff.mp hs1').1 hs7]; exact hs1'
  have hc1 : H[as o1]? = some (vp_cell (cA 1) (n1, .inl (M o1))) := hP o1 _ ha1
  obtain ⟨hs6, k0, hk0, cm0, hkk0⟩ := hs2
  obtain ⟨-, k1', hk1, cm1, hkk1⟩ := (E.2.2.2.2.2.1.2 1 _ rfl).1 n1 (fun j => .int (M o1 j))
  have hRf : 1 ≤ R.frames := Nat.le_trans hk.2.1 E.2.2.2.2.2.2.2.2.2.2.2.2.1
  obtain ⟨vm', X', step⟩ := X.arraycopy E.1 E.2.2.2.1 (hts _ hk.1.1.1.1) (hts _ hk.1.1.1.2) (hts _ hk.1.1.2) (hts _ hk.1.2) (src := ex t) (dst := as o1) (cs := scr) (cd := vp_cell (cA 1) (n1, .inl (M o1))) (srcPos := nI a) (destPos := nI b) (n := nI n) (by rw [hT]; exact hc0) (by rw [hT]; exact hc1)
    hs6 (fun _ h => by cases h) hs3 (fun h => by cases h) hk0 hk1 hkk0 hkk1 (by simp [refKind]) (nI_pos (by omega)) (nI_pos (by omega)) (nI_pos (by omega))
    (by omega)
    (by show ¬ _ > ((arrV (cA 1) n1 (fun j => .int (M o1 j))).slots.size : Int); rw [arrV_size]; omega)
    (fun vm₁ _ i hi => by
      rw [c3] at hi
      have e : scr.slots.getD ((nI a).toNatClampNeg + i) .null = .int (f (a + i)) := by
        rw [c1, Array.getD_eq_getD_getElem?, hs5 _ (by omega)]
        rfl
      refine ⟨?_, ?_⟩
      · rw [e]
        exact hfb _
      · rw [e]
        exact trivial)
    (g := F0 m pc lsR (.int (nI n) :: .int (nI b) :: .ref (as o1) :: .int (nI a) :: .ref (ex t) :: st.map (zTr as ex))) rfl (hl.1.trans E.2.2.1.symm) (rest := st.map (zTr as ex)) rfl (by rw [E.2.1]; exact hd) hRf (by show 2 * 0 + _ + _ ≤ _; rw [zTr_sum]; have := E.2.2.2.2.2.2.2.2.2.2.2.2.2; have := hk.2.2; omega)
  have e1 : copied scr (vp_cell (cA 1) (n1, .inl (M o1))) (nI a) (nI b) (nI n) = vp_cell (cA 1) (n1, .inl (va_cpy f (M o1) (nI a).toNatClampNeg (nI b).toNatClampNeg (nI n).toNatClampNeg)) := va_copiedX (fun z => .int z) scr (cA 1) f (M o1) hs5 (by rw [c1, c3]; exact g0)
  rw [e1, c1, c2, c3] at X' step
  have hl9 : as o1 < H.size := (Array.getElem?_eq_some_iff.mp hc1).1
  have hheap : ((T.setVm vm').setCell (as o1) (vp_cell (cA 1) (n1, .inl (va_cpy f (M o1) a b n)))).heap = H.setIfInBounds (as o1) (vp_cell (cA 1) (n1, .inl (va_cpy f (M o1) a b n))) := by rw [← hT]; rfl
  have oq : ∀ q : Nat, q ≠ as o1 → (H.setIfInBounds (as o1) (vp_cell (cA 1) (n1, .inl (va_cpy f (M o1) a b n))))[q]? = H[q]? := fun q hq => by simp [Array.getElem?_setIfInBounds, Ne.symm hq]
  have e9 : (zWd cA as ex M 0 sh).set o1 (as o1, .inl (cA 1, n1, .inl (va_cpy f (M o1) a b n))) = zWd cA as ex (zUa M o1 (va_cpy f (M o1) a b n)) 0 sh := by
    have h8 := zWd_set (cA := cA) (as := as) (ex := ex) (M := M) (M' := zUa M o1 (va_cpy f (M o1) a b n)) (sh := sh) (k := o1) (q' := .inl (1, n1, .inl z1)) (fun j hj => zUa_ne hj)
    rw [zSet_same h1] at h8
    rw [← h8, zUa_eq]
    rfl
  have hP2 := hP.set (e := .inl (cA 1, n1, .inl (va_cpy f (M o1) a b n))) (H1 := H.setIfInBounds (as o1) (vp_cell (cA 1) (n1, .inl (va_cpy f (M o1) a b n)))) hD ha1 (show (H.setIfInBounds (as o1) _)[as o1]? = some _ by simp [Array.getElem?_setIfInBounds, hl9]) oq
  have hD2 := hD.set (e := .inl (cA 1, n1, .inl (va_cpy f (M o1) a b n))) ha1
  have hP2 : va_P D vwCl ((zWd cA as ex M 0 sh).set o1 (as o1, .inl (cA 1, n1, .inl (va_cpy f (M o1) a b n)))) (H.setIfInBounds (as o1) (vp_cell (cA 1) (n1, .inl (va_cpy f (M o1) a b n)))) := hP2
  have hD2 : va_D A ((zWd cA as ex M 0 sh).set o1 (as o1, .inl (cA 1, n1, .inl (va_cpy f (M o1) a b n)))) := hD2
  rw [e9] at hP2 hD2
  obtain ⟨t9, a1, b1⟩ := k9 _ _ lsR hP2 hD2 ⟨by simp; exact hS.1, fun q g1 g2 => by
      rw [oq q (fun e => g2 (by rw [e]; exact hD.2 o1 _ ha1))]
      exact hS.2.1 q g1 g2, fun q hq => by
      rcases List.mem_append.mp hq with h | h
      · exact hS.2.2 q h
      · obtain ⟨z, -, hz⟩ := List.mem_map.mp h
        rw [← hz]
        exact hD.2 o1 _ ha1⟩ hl _ hheap X'
  exact ⟨t9, step t9 a1, b1⟩
theorem zT.copywB {o0 o1 n0 n1 a b n : Nat} {z0 z1 : Nat → Int32} {sp dp k : Int32} (h0 : zSg sh o0 = some (.inl (1, n0, .inl z0))) (h1 : zSg sh o1 = some (.inl (1, n1, .inl z1))) (hfb : ∀ j, fits .byte (.int (M o0 j)) = true) (ha : sp = nI a) (hb : dp = nI b) (hn : k = nI n) (g0 : a + n ≤ n0) (g1 : b + n ≤ n1) (hs0 : n0 < 2 ^ 31) (hs1 : n1 < 2 ^ 31)
    (hk : zOkA Y idx) (hw : (st.map fun v => v.category).sum ≤ 8) (hd : decode Y.2.1 pc = .ok (.invokestatic idx, 3)) (k1 : zT Y kc nc Z (pc + 3, ls, st, sh, zUa M o1 (va_cpy (M o0) (M o1) a b n))) : zT Y kc nc Z (pc, ls, .int k :: .int dp :: .ref o1 :: .int sp :: .ref o0 :: st, sh, M) := by
  refine zT.step (S1 := (pc + 3, ls, st, sh, zUa M o1 (va_cpy (M o0) (M o1) a b n))) rfl ?_ k1
  intro p l e R s m args below meth c D cA ex A E Q cells slots as hcl hsl k9 H locs lsR hP hD hS hl
  subst ha hb hn
  have hts := E.2.2.2.2.1
  have c1 : (nI a).toNatClampNeg = a := nI_clamp (by omega)
  have c2 : (nI b).toNatClampNeg = b := nI_clamp (by omega)
  have c3 : (nI n).toNatClampNeg = n := nI_clamp (by omega)
  refine va_copyi E.1 E.2.1 (E.2.2.1.trans hl.1.symm) E.2.2.2.1 (hts _ hk.1.1.1.1) (hts _ hk.1.1.1.2) (hts _ hk.1.1.2) (hts _ hk.1.2) E.2.2.2.2.2.1 hP hD hS o0 o1 1 1 (zWd_at h0) (zWd_at h1) rfl rfl rfl (nI_pos (by omega)) (nI_pos (by omega)) (nI_pos (by omega)) (by rw [c1, c3]; exact g0) (by rw [c2, c3]; exact g1) (fun _ _ => hfb _) (Nat.le_trans hk.2.1 E.2.2.2.2.2.2.2.2.2.2.2.2.1) (by rw [zTr_sum]; have := E.2.2.2.2.2.2.2.2.2.2.2.2.2; have := hk.2.2; omega) hd (fun H1 locs1 hP1 hD1 hS1 => ?_)
  rw [c1, c2, c3] at hP1 hD1
  have e9 : (zWd cA as ex M 0 sh).set o1 (as o1, .inl (cA 1, n1, .inl (va_cpy (M o0) (M o1) a b n))) = zWd cA as ex (zUa M o1 (va_cpy (M o0) (M o1) a b n)) 0 sh := by
    have h8 := zWd_set (cA := cA) (as := as) (ex := ex) (M := M) (M' := zUa M o1 (va_cpy (M o0) (M o1) a b n)) (sh := sh) (k := o1) (q' := .inl (1, n1, .inl z1)) (fun j hj => zUa_ne hj)
    rw [zSet_same h1] at h8
    rw [← h8, zUa_eq]
    rfl
  have hP2 : va_P D vwCl ((zWd cA as ex M 0 sh).set o1 (as o1, .inl (cA 1, n1, .inl (va_cpy (M o0) (M o1) a b n)))) H1 := hP1
  have hD2 : va_D A ((zWd cA as ex M 0 sh).set o1 (as o1, .inl (cA 1, n1, .inl (va_cpy (M o0) (M o1) a b n)))) := hD1
  rw [e9] at hP2 hD2
  exact k9 H1 locs1 lsR hP2 hD2 hS1 hl
theorem zT.dupx1 {va vb : Value} (hd : decode Y.2.1 pc = .ok (.dup_x1, 1)) (h1 : va.category = 1) (h2 : vb.category = 1) (k1 : zT Y kc nc Z (pc + 1, ls, va :: vb :: va :: st, sh, M)) : zT Y kc nc Z (pc, ls, va :: vb :: st, sh, M) := by
  refine zT.step (S1 := (pc + 1, ls, va :: vb :: va :: st, sh, M)) rfl ?_ k1
  intro p l e R s m args below meth c D cA ex A E Q cells slots as _ _ k9 H locs lsR hP hD hS hl
  exact lv_dup_x1 E.1 E.2.1 hd ((zTr_cat as ex va).trans h1) ((zTr_cat as ex vb).trans h2) (k9 H locs lsR hP hD hS hl)
/-- a field of a byte -/
theorem zT.putB {o ci b w : Nat} {q : vw_C} {fs : List Value} {x x9 : Int32} (hs : zSg sh o = some (.inr (ci, fs))) (hv : zSg fs b = some (.int x9)) (hq : vwCl[ci]? = some q) (hbq : b < q.2.2) (hw : zAt w = some (Cond.fieldLink Y.1.cls idx (q.2.1 b).1 (q.2.1 b).2.1 (q.2.1 b).2.2.1)) (hty : zFt ci b = .byte) (hfin : (q.2.1 b).2.2.2 = false) (hx : narrow .byte (.int x) = .int x) (hf : fits .byte (.int x) = true) (hd : decode Y.2.1 pc = .ok (.putfield idx, 3))
    (k1 : zT Y kc nc Z (pc + 3, ls, st, sh, zU M o b x)) : zT Y kc nc Z (pc, ls, .int x :: .ref o :: st, sh, M) := by
  refine zT.step (S1 := (pc + 3, ls, st, sh, zU M o b x)) rfl ?_ k1
  intro p l e R s m args below meth c D cA ex A E Q cells slots as _ _ k H locs lsR hP hD hS hl
  obtain ⟨hx0, hb, hml, hown, hts, hK, hA, hSt, hfl, hlk, hret, hnm, hfr, hlo⟩ := E
  have ha := zWd_at (cA := cA) (as := as) (ex := ex) (M := M) hs
  refine va_put hx0 hb hts (zCl_in q (List.mem_of_getElem? hq)) (zFt _) (zCl_ty _ q hq) (zCl_nm _ q hq) hown hK hP hD hS o ha hq b hbq (hts _ (zIn hw rfl)) (fun _ h9 => h9) hfin ((zCl_ty _ q hq b hbq).trans (by rw [hty])) hx hf ?_ hd (fun H1 locs1 hP hD hS => ?_)
  · rw [List.length_map, zMkF_len]
    rw [zSg_eq] at hv
    exact (List.getElem?_eq_some_iff.mp hv).1
  · have e9 : (zWd cA as ex M 0 sh).set o (as o, .inr (ci, ((zMkF (M o) 0 fs).map (zTr as ex)).set b (.int x))) = zWd cA as ex (zU M o b x) 0 sh := by
      have h8 := zWd_set (cA := cA) (as := as) (ex := ex) (M := M) (M' := zU M o b x) (sh := sh) (k := o) (q' := .inr (ci, fs)) (fun j hj => zU_ne hj)
      rw [zSet_same hs] at h8
      rw [← h8]
      congr 2
      exact (zPut_eq hv).symm
    have hP : va_P D vwCl ((zWd cA as ex M 0 sh).set o (as o, .inr (ci, ((zMkF (M o) 0 fs).map (zTr as ex)).set b (.int x)))) H1 := hP
    have hD : va_D A ((zWd cA as ex M 0 sh).set o (as o, .inr (ci, ((zMkF (M o) 0 fs).map (zTr as ex)).set b (.int x)))) := hD
    rw [e9] at hP hD
    exact k H1 locs1 lsR hP hD hS hl
end ZBY
