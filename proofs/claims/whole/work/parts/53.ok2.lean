/-! THE CALLS, at the whole object and the whole reference: slots, text, report -/
theorem vb_1 : ¬ vp_nar .boolean 1 = 0 := by decide +kernel
section OK2
variable {n oz nx pc ty rp T : Nat} {sl : Nat → Option Nat} {ext : List va_E} {gq : Nat → Nat} {x m : zM}
/-- what the reference does as it keeps -/
noncomputable def qKm (m : zM) (k : Nat) : zM := zU (zCp (zU m 0 0 0) 1 (14 + k)) 16 k (vp_nar .boolean 1)
theorem e_qKm (m : zM) {k : Nat} (hk : k < 2) : (∀ o, o ≠ 0 → o ≠ 14 + k → o ≠ 16 → qKm m k o = m o) ∧ (∀ j, j ≠ 0 → qKm m k 0 j = m 0 j) ∧ qKm m k 0 0 = 0 ∧ (∀ j, j < 187 → qKm m k (14 + k) j = m 1 j) ∧ ¬ qKm m k 16 k = 0 ∧ ∀ j, j ≠ k → qKm m k 16 j = m 16 j := by
  unfold qKm zCp
  refine ⟨fun o h0 h1 h2 => ?_, fun j hj => ?_, ?_, fun j hj => ?_, ?_, fun j hj => ?_⟩
  · rw [zU_ne h2, zUa_ne h1, zU_ne h0]
  · rw [zU_ne (by omega), zUa_ne (by omega), zU_k hj]
  · rw [zU_ne (by omega), zUa_ne (by omega), zU_s]
  · rw [zU_ne (by omega), zUa_eq, if_pos hj, zU_ne (by decide)]
  · rw [zU_s]
    exact vb_1
  · rw [zU_k hj, zUa_ne (by omega), zU_ne (by decide)]
/-- an office is kept where one was kept, or in a new place -/
theorem xR.kept {sl' : Nat → Option Nat} {ext' : List va_E} {k q : Nat} {A X : zM} (h : xR n oz nx pc ty rp T sl ext gq x m) (hk : k < 2) (hq : sl' k = some q) (hqr : 191 ≤ q ∧ q + 14 ≤ 191 + ext'.length ∧ zSub (sh_X sl' ext') q sh_Office) (hcs : zCs (191 + ext'.length) ext') (hsl : ∀ j q', j ≠ k → sl' j = some q' → sl j = some q' ∧ (q' + 14 ≤ q ∨ q + 14 ≤ q')) (hsln : ∀ j, j ≠ k → sl' j = none → sl j = none) (hsub : ∀ q', 191 ≤ q' → zSub (sh_X sl ext) q' sh_Office → zSub (sh_X sl' ext') q' sh_Office) (hlen : ext.length ≤ ext'.length)
    (hA : ∀ o, o < q → A o = x o) (hA2 : ∀ o, q + 14 ≤ o → A o = x o) (hX : X = g_X4_copyFrom A q 5) : X 5 0 = m 1 0 ∧ qKm m k 0 0 = 0 ∧ xR n oz nx pc ty rp (T + 601) sl' ext' gq X (qKm m k) := by
  obtain ⟨⟨h1, h2⟩, ⟨g1, g2, g3, g4⟩, ⟨s1, s2, s3, s4⟩, hT', hP⟩ := id h
  have hC := e_copy A q 5 (by omega)
  rw [← hX] at hC
  obtain ⟨k1, k2, k3, k4, k5, k6⟩ := e_qKm m hk
  generalize qKm m k = Y at *
  have xo : ∀ o, o < q ∨ q + 14 ≤ o → X o = x o := fun o ho => by
    rw [hC.1 o (by omega)]
    rcases ho with p | p
    · exact hA o p
    · exact hA2 o p
  have hn0 := h2.1
  refine ⟨?_, k3, ⟨h1, (h2.up (by omega)).eq (fun o ho => xo (5 + o) (by omega)) (fun j _ => by rw [k1 1 (by decide) (by omega) (by decide)])⟩, ⟨⟨?_, ?_, g1.2.2⟩, ?_, g3, fun j hj => ?_⟩, ⟨hcs, fun j q' hj => ?_, fun q1 q2 h3 h4 => ?_, fun j hj => ⟨fun hz => ?_, fun q' hj' => ?_⟩⟩, hT'.of (by rw [xo 2 (by omega)]) (xo 3 (by omega)) (k2 8 (by decide)) (k1 18 (by decide) (by omega) (by decide)), hP.of (by rw [xo 0 (by omega)]) (xo 190 (by omega)) (k2 10 (by decide)) (k1 19 (by decide) (by omega) (by decide))⟩
  · rw [xo 5 (by omega), hn0.2.2]
    exact hn0.2.1
  · rw [xo 33 (by omega)]
    exact g1.1
  · rw [k2 3 (by decide)]
    exact g1.2.1
  · rw [xo 33 (by omega)]
    exact g2
  · obtain ⟨n', oz', q1, q2⟩ := g4 j hj
    have hr := g3.1 (pc - 1 - j) (by omega)
    have hlt : (nx + 10 - j) % 11 < 11 := Nat.mod_lt _ (by decide)
    generalize (nx + 10 - j) % 11 = i at *
    exact ⟨n', oz', q1, (q2.up (by omega)).eq (fun o _ => xo _ (by omega)) (fun _ _ => by rw [k1 _ (by omega) (by omega) (by omega)])⟩
  · by_cases e : j = k
    · rw [e, hq] at hj
      cases hj
      exact ⟨hqr, by omega⟩
    · obtain ⟨p1, p2⟩ := hsl j q' e hj
      have := s2 j q' p1
      exact ⟨⟨this.1.1, by omega, hsub q' this.1.1 this.1.2.2⟩, this.2⟩
  · by_cases e0 : k = 0
    · subst e0
      rw [hq] at h3
      cases h3
      have := (hsl 1 q2 (by decide) h4).2
      omega
    · obtain rfl : k = 1 := by omega
      rw [hq] at h4
      cases h4
      have := (hsl 0 q1 (by decide) h3).2
      omega
  · by_cases e : j = k
    · rw [e, hq] at hz
      cases hz
    · rw [k6 j e]
      exact (s4 j hj).1 (hsln j e hz)
  · by_cases e : j = k
    · subst e
      rw [hq] at hj'
      cases hj'
      refine ⟨k5, n, oz, h1, (h2.up (by omega)).pt (fun o i hu => ?_) (fun i hi => k4 i hi)⟩
      refine (hC.2 o i hu).trans ?_
      show A (5 + o) i = x (5 + o) i
      have : o < 12 := by
        unfold qUse at hu
        omega
      rw [hA _ (by omega)]
    · obtain ⟨p1, p2⟩ := hsl j q' e hj'
      obtain ⟨r1, n', oz', r2, r3⟩ := (s4 j hj).2 q' p1
      refine ⟨by rw [k6 j e]; exact r1, n', oz', r2, (r3.up (by omega)).eq (fun o ho => xo (q' + o) (by omega)) (fun i _ => by rw [k1 _ (by omega) (by omega) (by omega)])⟩
theorem ok_keep_old (h : xR n oz nx pc ty rp T sl ext gq x m) {k q : Nat} (hk : k < 2) (hq : sl k = some q) : g_X4_copyFrom x q 5 5 0 = m 1 0 ∧ qKm m k 0 0 = 0 ∧ xE (T + 601) sl ext gq (g_X4_copyFrom x q 5) (qKm m k) := by
  obtain ⟨⟨h1, h2⟩, ⟨g1, g2, g3, g4⟩, ⟨s1, s2, s3, s4⟩, hT', hP⟩ := id h
  obtain ⟨e1, e2, e3⟩ := h.kept (sl' := sl) (ext' := ext) (A := x) hk hq (s2 k q hq).1 s1 (fun j q' hj hq' => ⟨hq', by
    have hj2 := (s2 j q' hq').2
    by_cases e0 : k = 0
    · subst e0
      obtain rfl : j = 1 := by omega
      have := s3 q q' hq hq'
      omega
    · obtain rfl : k = 1 := by omega
      obtain rfl : j = 0 := by omega
      have := s3 q' q hq' hq
      omega⟩) (fun j _ hz => hz) (fun q' _ hs => hs) (Nat.le_refl _) (fun _ _ => rfl) (fun _ _ => rfl) rfl
  exact ⟨e1, e2, n, oz, nx, pc, ty, rp, e3⟩
theorem zSub_ext {sl sl' : Nat → Option Nat} {ext more : List va_E} {q : Nat} (hq : 191 ≤ q) (h : zSub (sh_X sl ext) q sh_Office) : zSub (sh_X sl' (ext ++ more)) q sh_Office := by
  intro k hk
  have h0 := h k hk
  rw [zSg_eq] at h0 ⊢
  obtain ⟨i, hi⟩ : ∃ i, q + k = 191 + i := ⟨q + k - 191, by omega⟩
  rw [hi] at h0 ⊢
  have e1 : (sh_X sl ext)[191 + i]? = ext[i]? := by
    rw [Nat.add_comm]
    rfl
  have e2 : (sh_X sl' (ext ++ more))[191 + i]? = (ext ++ more)[i]? := by
    rw [Nat.add_comm]
    rfl
  rw [e1] at h0
  rw [e2, ← h0]
  have : i < ext.length := by
    rcases Nat.lt_or_ge i ext.length with p | p
    · exact p
    · rw [List.getElem?_eq_none p, zSg_eq, List.getElem?_eq_getElem hk] at h0
      cases h0
  exact List.getElem?_append_left this
theorem ok_keep_new (h : xR n oz nx pc ty rp T sl ext gq x m) {k : Nat} (hk : k < 2) (hs : sl k = none) : g_X4_copyFrom (zKn x (191 + ext.length)) (191 + ext.length) 5 5 0 = m 1 0 ∧ qKm m k 0 0 = 0 ∧ xE (T + 601) (zSls sl k (191 + ext.length)) (ext ++ sh_Office.map (zRe (191 + ext.length))) gq (g_X4_copyFrom (zKn x (191 + ext.length)) (191 + ext.length) 5) (qKm m k) := by
  obtain ⟨⟨h1, h2⟩, ⟨g1, g2, g3, g4⟩, ⟨s1, s2, s3, s4⟩, hT', hP⟩ := id h
  have hl : (ext ++ sh_Office.map (zRe (191 + ext.length))).length = ext.length + 14 := by
    rw [List.length_append, List.length_map]
    rfl
  obtain ⟨e1, e2, e3⟩ := h.kept (sl' := zSls sl k (191 + ext.length)) (ext' := ext ++ sh_Office.map (zRe (191 + ext.length))) (A := zKn x (191 + ext.length)) (q := 191 + ext.length) (X := g_X4_copyFrom (zKn x (191 + ext.length)) (191 + ext.length) 5) hk (if_pos rfl) ⟨by omega, by rw [hl]; omega, zKn_sub sl ext k⟩ (by
      rw [hl]
      refine zCs.app (s1.mono (by omega)) ?_
      have := zCs_re (b := 191 + ext.length) zCs_Office
      exact this.mono (by omega)) (fun j q' hj hq' => by
      have e : zSls sl k (191 + ext.length) j = sl j := if_neg hj
      rw [e] at hq'
      refine ⟨hq', Or.inl ?_⟩
      have := (s2 j q' hq').1
      omega) (fun j hj hz => by
      have e : zSls sl k (191 + ext.length) j = sl j := if_neg hj
      rw [e] at hz
      exact hz) (fun q' hq' hs => zSub_ext hq' hs) (by rw [hl]; omega) (fun o ho => by
      unfold zKn
      rw [zPs_out (by omega), zUa_ne (by omega)]) (fun o ho => by
      unfold zKn
      rw [zPs_out (by omega), zUa_ne (by omega)]) rfl
  exact ⟨e1, e2, n, oz, nx, pc, ty, rp, e3⟩
noncomputable def qRm (m : zM) (k : Nat) : zM := zU (zCp (zU m 0 0 0) (14 + k) 1) 0 3 0
theorem ok_restore (h : xR n oz nx pc ty rp T sl ext gq x m) {k q : Nat} (hk : k < 2) (hq : sl k = some q) : ¬ m 16 k = 0 ∧ g_X3_forget (g_X4_copyFrom x 5 q) 5 0 = (zCp (zU m 0 0 0) (14 + k) 1) 1 0 ∧ qRm m k 0 0 = 0 ∧ xE (T + 601) sl ext gq (g_X3_forget (g_X4_copyFrom x 5 q)) (qRm m k) := by
  obtain ⟨⟨h1, h2⟩, ⟨g1, g2, g3, g4⟩, hS, hT', hP⟩ := id h
  obtain ⟨s1, s2, s3, s4⟩ := id hS
  obtain ⟨r1, n', oz', r2, r3⟩ := (s4 k hk).2 q hq
  have hqr := (s2 k q hq).1
  have hC := e_copy x 5 q (by omega)
  have y1 : ∀ j, j < 187 → (zCp (zU m 0 0 0) (14 + k) 1) 1 j = m (14 + k) j := fun j hj => by
    unfold zCp
    rw [zUa_eq, if_pos hj, zU_ne (by omega)]
  have yo : ∀ o, o ≠ 0 → o ≠ 1 → qRm m k o = m o := fun o h0 h1 => by
    unfold qRm zCp
    rw [zU_ne h0, zUa_ne h1, zU_ne h0]
  have y0 : ∀ j, qRm m k 0 j = if j = 3 then 0 else if j = 0 then 0 else m 0 j := fun j => by
    unfold qRm zCp
    rw [zU_c, zUa_ne (by decide), zU_c]
  have y1' : ∀ j, j < 187 → qRm m k 1 j = m (14 + k) j := fun j hj => by
    rw [← y1 j hj]
    unfold qRm
    rw [zU_ne (by decide)]
  generalize hX : g_X4_copyFrom x 5 q = X at *
  have hR : rl n' oz' (T + 601) (zPl X 5) (m (14 + k)) := (r3.up (by omega)).pt (fun o i hu => hC.2 o i hu) (fun _ _ => rfl)
  have xo : ∀ o, o < 5 ∨ 17 ≤ o → X o = x o := fun o ho => hC.1 o ho
  have fo : ∀ o, o ≠ 33 → g_X3_forget X o = X o := fun o ho => zU_ne ho
  have f33 : g_X3_forget X 33 0 = 0 ∧ g_X3_forget X 33 1 = x 33 1 := ⟨zU_s, (zU_k (by decide)).trans (by rw [xo 33 (by decide)])⟩
  refine ⟨r1, ?_, y0 0, n', oz', nx, 0, ty, rp, ⟨r2, ?_⟩, ⟨⟨f33.1, y0 3, by decide⟩, ⟨f33.2.trans g2.1, g2.2⟩, g3, fun j hj => absurd hj (Nat.not_lt_zero j)⟩, hS.of (by omega) (fun o ho => (fo o (by omega)).trans (xo o (by omega))) (fun o ho => yo o (by omega) (by omega)), hT'.of (by rw [fo 2 (by decide), xo 2 (by decide)]) ((fo 3 (by decide)).trans (xo 3 (by decide))) (y0 8) (yo 18 (by decide) (by decide)), hP.of (by rw [fo 0 (by decide), xo 0 (by decide)]) ((fo 190 (by decide)).trans (xo 190 (by decide))) (y0 10) (yo 19 (by decide) (by decide))⟩
  · rw [fo 5 (by decide), y1 0 (by decide), hR.1.2.2]
    exact hR.1.2.1
  · exact hR.eq (fun o ho => fo (5 + o) (by omega)) y1'
theorem ok_restore_n (h : xR n oz nx pc ty rp T sl ext gq x m) {k : Nat} (hk : k < 2) (hq : sl k = none) : m 16 k = 0 ∧ xE (T + 601) sl ext gq x (zU (zU m 0 0 0) 0 0 2) :=
  ⟨(h.2.2.1.2.2.2 k hk).1 hq, n, oz, nx, pc, ty, rp, h.of (by omega) (fun _ _ => rfl) (fun o ho _ => (zU_ne ho).trans (zU_ne ho)) (fun k _ hk => (zU_k hk).trans (zU_k hk))⟩
/-! text -/
theorem by_sh (z : Int32) {s : Int32} {k : Nat} (hk : k ≤ 24) (h1 : (s.toBitVec.smod 32).toNat = k) (h2 : ((s.toUInt32 &&& Int32.toUInt32 31).toBitVec % 32).toNat = k) : qBy (vp_nar .byte ((z >>> s).toInt8.toInt32)) (((z.toUInt32 >>> (s.toUInt32 &&& Int32.toUInt32 31)).toInt32) &&& 255) := by
  refine ⟨z.toBitVec.toNat / 2 ^ k % 2 ^ 8, Nat.mod_lt _ (by decide), ?_, ?_⟩
  · rw [pk_and _ 8 rfl, pk_ushr z s k h2]
  · rw [pk_vb]
    congr 1
    refine Int8.toBitVec_inj.mp ?_
    rw [Int32.toBitVec_toInt8, Int32.toBitVec_toInt8, Int32.toBitVec_shiftRight]
    refine BitVec.eq_of_getLsbD_eq fun i hi => ?_
    show (BitVec.signExtend 8 (z.toBitVec.sshiftRight (s.toBitVec.smod 32).toNat)).getLsbD i = _
    rw [h1, BitVec.getLsbD_signExtend, BitVec.getLsbD_signExtend, decide_eq_true hi, if_pos (by omega), if_pos (by omega), BitVec.getLsbD_sshiftRight, if_pos (by omega)]
    have e : (nI (z.toBitVec.toNat / 2 ^ k % 2 ^ 8)).toBitVec.getLsbD i = (z.toBitVec.toNat / 2 ^ k % 2 ^ 8).testBit i := qB_nI (k := z.toBitVec.toNat / 2 ^ k % 2 ^ 8) (r := i) (by omega)
    rw [e, Nat.testBit_mod_two_pow, decide_eq_true hi, Nat.testBit_div_two_pow, decide_eq_false (show ¬ 32 ≤ i by omega), Nat.add_comm i k]
    simp
    rfl
end OK2
