/-! NUMBERS; small methods of the law: wrappers, cell, of -/
theorem jrem_toInt (x : Int32) (m : Nat) (h0 : 0 < m) (hm : m < 2 ^ 15) : (x - x / nI m * nI m).toInt = x.toInt.tmod m := by
  have hmI : (nI m).toInt = (m : Int) := nI_toInt (by omega)
  have hne : nI m ≠ -1 := fun e => by
    have := congrArg Int32.toInt e
    rw [hmI] at this
    have h1 : (-1 : Int32).toInt = -1 := by decide
    omega
  have hq : (x / nI m).toInt = x.toInt.tdiv m := by rw [Int32.toInt_div_of_ne_right _ _ hne, hmI]
  have hlo := Int32.le_toInt x
  have hhi := Int32.toInt_lt x
  have e := Int.mul_tdiv_add_tmod x.toInt m
  have hb : -2147483648 ≤ x.toInt.tdiv m * m ∧ x.toInt.tdiv m * m < 2147483648 ∧ -2147483648 ≤ x.toInt - x.toInt.tdiv m * m ∧ x.toInt - x.toInt.tdiv m * m < 2147483648 := by
    rw [Int.mul_comm (x.toInt.tdiv m)]
    rcases Int.le_total 0 x.toInt with h | h
    · have g1 := Int.tmod_nonneg (a := x.toInt) m h
      have g2 := Int.tmod_lt_of_pos x.toInt (show (0 : Int) < m by omega)
      have g3 := Int.tdiv_nonneg (a := x.toInt) (b := m) h (by omega)
      have g4 : 0 ≤ (m : Int) * x.toInt.tdiv m := Int.mul_nonneg (by omega) g3
      omega
    · have g1 := Int.tmod_nonneg (a := -x.toInt) m (by omega)
      have g2 := Int.tmod_lt_of_pos (-x.toInt) (show (0 : Int) < m by omega)
      rw [Int.neg_tmod] at g1 g2
      have g3 := Int.tdiv_nonneg (a := -x.toInt) (b := m) (by omega) (by omega)
      rw [Int.neg_tdiv] at g3
      have g4 : 0 ≤ (m : Int) * -x.toInt.tdiv m := Int.mul_nonneg (by omega) g3
      rw [Int.mul_neg] at g4
      omega
  rw [Int32.toInt_sub, Int32.toInt_mul, hq, hmI]
  have b1 : (x.toInt.tdiv m * m).bmod (2 ^ 32) = x.toInt.tdiv m * m := Int.bmod_eq_of_le (by omega) (by omega)
  rw [b1, Int.bmod_eq_of_le (by omega) (by omega), Int.mul_comm]
  omega
theorem xor_sign {x y : Int32} (hy : 0 ≤ y) : (0 ≤ x ^^^ y) ↔ 0 ≤ x := by
  have h : ∀ z : Int32, 0 ≤ z ↔ z.toBitVec.msb = false := fun z => by
    rw [Int32.le_iff_toInt_le, BitVec.msb_eq_toInt]
    show (0 : Int) ≤ z.toBitVec.toInt ↔ _
    simp
  rw [h, h, Int32.toBitVec_xor, BitVec.msb_xor, (h y).mp hy, Bool.xor_false]
/-- the remainder that is never negative -/
theorem fm_in (x : Int32) (m : Nat) (h0 : 0 < m) (hm : m < 2 ^ 15) : ∃ j, j < m ∧ (if 0 ≤ x ^^^ nI m then x - x / nI m * nI m else if x - x / nI m * nI m = 0 then x - x / nI m * nI m else x - x / nI m * nI m + nI m) = nI j := by
  have hr := jrem_toInt x m h0 hm
  have hmI : (nI m).toInt = (m : Int) := nI_toInt (by omega)
  generalize x - x / nI m * nI m = r at *
  have fin : ∀ z : Int32, 0 ≤ z.toInt → z.toInt < m → ∃ j, j < m ∧ z = nI j := fun z z0 z1 => by
    obtain ⟨j, j1, j2⟩ := nI_of (x := z) (by rw [Int32.lt_iff_toInt_lt]; show ¬ z.toInt < 0; omega)
    refine ⟨j, ?_, j2⟩
    have : z.toInt = (j : Int) := by rw [j2]; exact nI_toInt j1
    omega
  by_cases c : 0 ≤ x ^^^ nI m
  · rw [if_pos c]
    have hx : 0 ≤ x.toInt := Int32.le_iff_toInt_le.mp ((xor_sign (nI_pos' (by omega))).mp c)
    have g1 := Int.tmod_nonneg (a := x.toInt) m hx
    have g2 := Int.tmod_lt_of_pos x.toInt (show (0 : Int) < m by omega)
    exact fin r (by omega) (by omega)
  · rw [if_neg c]
    have hx : x.toInt < 0 := by
      rcases Int.lt_or_le x.toInt 0 with h | h
      · exact h
      · exact absurd ((xor_sign (nI_pos' (by omega))).mpr (Int32.le_iff_toInt_le.mpr h)) c
    have g1 := Int.tmod_nonneg (a := -x.toInt) m (by omega)
    have g2 := Int.tmod_lt_of_pos (-x.toInt) (show (0 : Int) < m by omega)
    rw [Int.neg_tmod] at g1 g2
    by_cases c0 : r = 0
    · rw [if_pos c0]
      exact ⟨0, h0, c0⟩
    · rw [if_neg c0]
      have hr0 : r.toInt ≠ 0 := fun e => c0 (Int32.toInt_inj.mp e)
      have e : (r + nI m).toInt = r.toInt + m := by
        rw [Int32.toInt_add, hmI, Int.bmod_eq_of_le (by omega) (by omega)]
      exact fin _ (by omega) (by omega)
theorem nI_rem {a b : Nat} {c : Int32} (hc : c = nI b) (ha : a < 2 ^ 31) (h0 : 0 < b) (hb : b < 2 ^ 31) : nI a - nI a / c * c = nI (a % b) := by rw [hc]; exact pk_rem ha h0 hb
theorem nI_div {a b : Nat} {c : Int32} (hc : c = nI b) (ha : a < 2 ^ 31) (h0 : 0 < b) (hb : b < 2 ^ 31) : nI a / c = nI (a / b) := by rw [hc]; exact pk_div ha h0 hb
theorem nI_mulc {b k : Nat} {c : Int32} (hc : c = nI k) : c * nI b = nI (k * b) := by rw [hc]; exact (Int32.ofNat_mul k b).symm
theorem zT.irem {Y : zY} {kc nc : Nat} {Z : zS → Prop} {pc : Nat} {ls : zL} {st : List Value} {sh : List va_E} {M : zM} {x y : Int32} (hy : ¬ y = 0) (hd : decode Y.2.1 pc = .ok (.irem, 1)) (k1 : zT Y kc nc Z (pc + 1, ls, .int (x - x / y * y) :: st, sh, M)) : zT Y kc nc Z (pc, ls, .int y :: .int x :: st, sh, M) := by
  refine zT.run [(.irem, 0, 0, 0)] (pe := pc + 1) (ls' := ls) (st' := .int (x - x / y * y) :: st) (M' := M) ?_ ?_ k1
  · simp [zOkB, zOk, zLn, zNx, hd]
  · simp [zRun, zPx, zDiv, hy]
theorem zT.iremN {Y : zY} {kc nc : Nat} {Z : zS → Prop} {pc : Nat} {ls : zL} {st : List Value} {sh : List va_E} {M : zM} {a b : Nat} (ha : a < 2 ^ 31) (h0 : 0 < b) (hb : b < 2 ^ 31) (hd : decode Y.2.1 pc = .ok (.irem, 1)) (k1 : zT Y kc nc Z (pc + 1, ls, .int (nI (a % b)) :: st, sh, M)) : zT Y kc nc Z (pc, ls, .int (nI b) :: .int (nI a) :: st, sh, M) :=
  zT.irem (nI_ne0 h0 hb) hd (by rw [pk_rem ha h0 hb]; exact k1)
noncomputable abbrev yy_L_call : zY := (yL_call, cL_call, 3, (some Jvm.ClassFile.FieldType.int), 11, 242)
theorem c_L_call (M N' : zM) (sl : Nat → Option Nat) (ext : List va_E) (p1 v : Int32) (hC : zC yy_X9_call 0 0 [.ref 0, .int p1] (sh_X sl ext) M (some (.int v)) (sh_X sl ext) N') : zCW yy_L_call [(0, 5, 6, 25)] 0 0 [.ref 0, .int p1] (sh_X sl ext) M (some (.int v)) (sh_X sl ext) N' := by
  refine zCW.of (by decide +kernel) rfl (Nat.le_of_ble_eq_true rfl) ?_
  refine zT.run [(.aload_n 0, 0, 0, 0), (.iload_n 1, 0, 0, 0)] (pe := 2) (ls' := [some (.ref 0), some (.int p1), none]) (st' := [.int p1, .ref 0]) (M' := M) (by decide +kernel) rfl ?_
  refine zT.cVx (o := 0) (idx := 19) (av := [.int p1]) (rv := some (.int v)) (st := []) hC k_X9_call 7 _ rfl rfl rfl (zIn (w := 4229) (by decide +kernel) rfl) (by decide +kernel) (Nat.le_of_ble_eq_true rfl) (by decide +kernel) rfl rfl ?_
  exact zT.iret (ty := .int) rfl rfl rfl rfl (by decide +kernel)
theorem k_L_call : zOkW yy_L_call [(0, 5, 6, 25)] 2 := ⟨⟨zIn (w := 4228) (by decide +kernel) rfl, zIn (w := 1000) (by decide +kernel) rfl⟩, by decide +kernel, zIn (w := 4227) (by decide +kernel) rfl⟩
noncomputable abbrev yy_L_seal : zY := (yL_seal, cL_seal, 4, (some Jvm.ClassFile.FieldType.int), 11, 243)
theorem c_L_seal (M N' : zM) (sl : Nat → Option Nat) (ext : List va_E) (p1 p2 v : Int32) (hC : zC yy_X9_seal 0 0 [.ref 0, .int p1, .int p2] (sh_X sl ext) M (some (.int v)) (sh_X sl ext) N') : zCW yy_L_seal [(0, 6, 7, 25), (0, 6, 12, 30)] 0 0 [.ref 0, .int p1, .int p2] (sh_X sl ext) M (some (.int v)) (sh_X sl ext) N' := by
  refine zCW.of (by decide +kernel) rfl (Nat.le_of_ble_eq_true rfl) ?_
  refine zT.run [(.aload_n 0, 0, 0, 0), (.iload_n 1, 0, 0, 0), (.iload_n 2, 0, 0, 0)] (pe := 3) (ls' := [some (.ref 0), some (.int p1), some (.int p2), none]) (st' := [.int p2, .int p1, .ref 0]) (M' := M) (by decide +kernel) rfl ?_
  refine zT.cVx (o := 0) (idx := 27) (av := [.int p1, .int p2]) (rv := some (.int v)) (st := []) hC k_X9_seal 7 _ rfl rfl rfl (zIn (w := 5051) (by decide +kernel) rfl) (by decide +kernel) (Nat.le_of_ble_eq_true rfl) (by decide +kernel) rfl rfl ?_
  exact zT.iret (ty := .int) rfl rfl rfl rfl (by decide +kernel)
theorem k_L_seal : zOkW yy_L_seal [(0, 6, 7, 25), (0, 6, 12, 30)] 3 := ⟨⟨zIn (w := 5050) (by decide +kernel) rfl, zIn (w := 1000) (by decide +kernel) rfl⟩, by decide +kernel, zIn (w := 5049) (by decide +kernel) rfl⟩
noncomputable abbrev yy_L_vote : zY := (yL_vote, cL_vote, 5, (some Jvm.ClassFile.FieldType.int), 11, 244)
theorem c_L_vote (M N' : zM) (sl : Nat → Option Nat) (ext : List va_E) (p1 p2 p3 v : Int32) (hC : zC yy_X9_vote 0 0 [.ref 0, .int p1, .int p2, .int p3] (sh_X sl ext) M (some (.int v)) (sh_X sl ext) N') : zCW yy_L_vote [(0, 7, 8, 25), (0, 7, 14, 30)] 0 0 [.ref 0, .int p1, .int p2, .int p3] (sh_X sl ext) M (some (.int v)) (sh_X sl ext) N' := by
  refine zCW.of (by decide +kernel) rfl (Nat.le_of_ble_eq_true rfl) ?_
  refine zT.run [(.aload_n 0, 0, 0, 0), (.iload_n 1, 0, 0, 0), (.iload_n 2, 0, 0, 0), (.iload_n 3, 0, 0, 0)] (pe := 4) (ls' := [some (.ref 0), some (.int p1), some (.int p2), some (.int p3), none]) (st' := [.int p3, .int p2, .int p1, .ref 0]) (M' := M) (by decide +kernel) rfl ?_
  refine zT.cVx (o := 0) (idx := 32) (av := [.int p1, .int p2, .int p3]) (rv := some (.int v)) (st := []) hC k_X9_vote 7 _ rfl rfl rfl (zIn (w := 4236) (by decide +kernel) rfl) (by decide +kernel) (Nat.le_of_ble_eq_true rfl) (by decide +kernel) rfl rfl ?_
  exact zT.iret (ty := .int) rfl rfl rfl rfl (by decide +kernel)
theorem k_L_vote : zOkW yy_L_vote [(0, 7, 8, 25), (0, 7, 14, 30)] 4 := ⟨⟨zIn (w := 4235) (by decide +kernel) rfl, zIn (w := 1000) (by decide +kernel) rfl⟩, by decide +kernel, zIn (w := 4234) (by decide +kernel) rfl⟩
noncomputable abbrev yy_L_breakSeal : zY := (yL_breakSeal, cL_breakSeal, 5, (some Jvm.ClassFile.FieldType.int), 11, 244)
theorem c_L_breakSeal (M N' : zM) (sl : Nat → Option Nat) (ext : List va_E) (p1 p2 p3 v : Int32) (hC : zC yy_X9_breakSeal 0 0 [.ref 0, .int p1, .int p2, .int p3] (sh_X sl ext) M (some (.int v)) (sh_X sl ext) N') : zCW yy_L_breakSeal [(0, 7, 8, 25), (0, 7, 14, 30)] 0 0 [.ref 0, .int p1, .int p2, .int p3] (sh_X sl ext) M (some (.int v)) (sh_X sl ext) N' := by
  refine zCW.of (by decide +kernel) rfl (Nat.le_of_ble_eq_true rfl) ?_
  refine zT.run [(.aload_n 0, 0, 0, 0), (.iload_n 1, 0, 0, 0), (.iload_n 2, 0, 0, 0), (.iload_n 3, 0, 0, 0)] (pe := 4) (ls' := [some (.ref 0), some (.int p1), some (.int p2), some (.int p3), none]) (st' := [.int p3, .int p2, .int p1, .ref 0]) (M' := M) (by decide +kernel) rfl ?_
  refine zT.cVx (o := 0) (idx := 36) (av := [.int p1, .int p2, .int p3]) (rv := some (.int v)) (st := []) hC k_X9_breakSeal 7 _ rfl rfl rfl (zIn (w := 5012) (by decide +kernel) rfl) (by decide +kernel) (Nat.le_of_ble_eq_true rfl) (by decide +kernel) rfl rfl ?_
  exact zT.iret (ty := .int) rfl rfl rfl rfl (by decide +kernel)
theorem k_L_breakSeal : zOkW yy_L_breakSeal [(0, 7, 8, 25), (0, 7, 14, 30)] 4 := ⟨⟨zIn (w := 5011) (by decide +kernel) rfl, zIn (w := 1000) (by decide +kernel) rfl⟩, by decide +kernel, zIn (w := 5010) (by decide +kernel) rfl⟩
noncomputable abbrev yy_L_recount : zY := (yL_recount, cL_recount, 3, (some Jvm.ClassFile.FieldType.int), 11, 242)
theorem c_L_recount (M N' : zM) (sl : Nat → Option Nat) (ext : List va_E) (p1 v : Int32) (hC : zC yy_X9_recount 0 0 [.ref 0, .int p1] (sh_X sl ext) M (some (.int v)) (sh_X sl ext) N') : zCW yy_L_recount [(0, 5, 6, 25)] 0 0 [.ref 0, .int p1] (sh_X sl ext) M (some (.int v)) (sh_X sl ext) N' := by
  refine zCW.of (by decide +kernel) rfl (Nat.le_of_ble_eq_true rfl) ?_
  refine zT.run [(.aload_n 0, 0, 0, 0), (.iload_n 1, 0, 0, 0)] (pe := 2) (ls' := [some (.ref 0), some (.int p1), none]) (st' := [.int p1, .ref 0]) (M' := M) (by decide +kernel) rfl ?_
  refine zT.cVx (o := 0) (idx := 39) (av := [.int p1]) (rv := some (.int v)) (st := []) hC k_X9_recount 7 _ rfl rfl rfl (zIn (w := 5093) (by decide +kernel) rfl) (by decide +kernel) (Nat.le_of_ble_eq_true rfl) (by decide +kernel) rfl rfl ?_
  exact zT.iret (ty := .int) rfl rfl rfl rfl (by decide +kernel)
theorem k_L_recount : zOkW yy_L_recount [(0, 5, 6, 25)] 2 := ⟨⟨zIn (w := 5092) (by decide +kernel) rfl, zIn (w := 1000) (by decide +kernel) rfl⟩, by decide +kernel, zIn (w := 5091) (by decide +kernel) rfl⟩
noncomputable abbrev yy_L_setUp : zY := (yL_setUp, cL_setUp, 4, (some Jvm.ClassFile.FieldType.int), 11, 243)
theorem c_L_setUp (M N' : zM) (sl : Nat → Option Nat) (ext : List va_E) (p1 p2 v : Int32) (hC : zC yy_X9_setUp 0 0 [.ref 0, .int p1, .int p2] (sh_X sl ext) M (some (.int v)) (sh_X sl ext) N') : zCW yy_L_setUp [(0, 6, 7, 25)] 0 0 [.ref 0, .int p1, .int p2] (sh_X sl ext) M (some (.int v)) (sh_X sl ext) N' := by
  refine zCW.of (by decide +kernel) rfl (Nat.le_of_ble_eq_true rfl) ?_
  refine zT.run [(.aload_n 0, 0, 0, 0), (.iload_n 1, 0, 0, 0), (.iload_n 2, 0, 0, 0)] (pe := 3) (ls' := [some (.ref 0), some (.int p1), some (.int p2), none]) (st' := [.int p2, .int p1, .ref 0]) (M' := M) (by decide +kernel) rfl ?_
  refine zT.cVx (o := 0) (idx := 42) (av := [.int p1, .int p2]) (rv := some (.int v)) (st := []) hC k_X9_setUp 7 _ rfl rfl rfl (zIn (w := 5059) (by decide +kernel) rfl) (by decide +kernel) (Nat.le_of_ble_eq_true rfl) (by decide +kernel) rfl rfl ?_
  exact zT.iret (ty := .int) rfl rfl rfl rfl (by decide +kernel)
theorem k_L_setUp : zOkW yy_L_setUp [(0, 6, 7, 25)] 3 := ⟨⟨zIn (w := 5058) (by decide +kernel) rfl, zIn (w := 1000) (by decide +kernel) rfl⟩, by decide +kernel, zIn (w := 5057) (by decide +kernel) rfl⟩
noncomputable abbrev yy_L_setLink : zY := (yL_setLink, cL_setLink, 5, (some Jvm.ClassFile.FieldType.int), 11, 244)
theorem c_L_setLink (M N' : zM) (sl : Nat → Option Nat) (ext : List va_E) (p1 p2 p3 v : Int32) (hC : zC yy_X9_setLink 0 0 [.ref 0, .int p1, .int p2, .int p3] (sh_X sl ext) M (some (.int v)) (sh_X sl ext) N') : zCW yy_L_setLink [(0, 7, 8, 25)] 0 0 [.ref 0, .int p1, .int p2, .int p3] (sh_X sl ext) M (some (.int v)) (sh_X sl ext) N' := by
  refine zCW.of (by decide +kernel) rfl (Nat.le_of_ble_eq_true rfl) ?_
  refine zT.run [(.aload_n 0, 0, 0, 0), (.iload_n 1, 0, 0, 0), (.iload_n 2, 0, 0, 0), (.iload_n 3, 0, 0, 0)] (pe := 4) (ls' := [some (.ref 0), some (.int p1), some (.int p2), some (.int p3), none]) (st' := [.int p3, .int p2, .int p1, .ref 0]) (M' := M) (by decide +kernel) rfl ?_
  refine zT.cVx (o := 0) (idx := 46) (av := [.int p1, .int p2, .int p3]) (rv := some (.int v)) (st := []) hC k_X9_setLink 7 _ rfl rfl rfl (zIn (w := 5067) (by decide +kernel) rfl) (by decide +kernel) (Nat.le_of_ble_eq_true rfl) (by decide +kernel) rfl rfl ?_
  exact zT.iret (ty := .int) rfl rfl rfl rfl (by decide +kernel)
theorem k_L_setLink : zOkW yy_L_setLink [(0, 7, 8, 25)] 4 := ⟨⟨zIn (w := 5066) (by decide +kernel) rfl, zIn (w := 1000) (by decide +kernel) rfl⟩, by decide +kernel, zIn (w := 5065) (by decide +kernel) rfl⟩
noncomputable abbrev yy_L_setFresh : zY := (yL_setFresh, cL_setFresh, 4, (some Jvm.ClassFile.FieldType.int), 11, 243)
theorem c_L_setFresh (M N' : zM) (sl : Nat → Option Nat) (ext : List va_E) (p1 p2 v : Int32) (hC : zC yy_X9_setFresh 0 0 [.ref 0, .int p1, .int p2] (sh_X sl ext) M (some (.int v)) (sh_X sl ext) N') : zCW yy_L_setFresh [(0, 6, 7, 25), (0, 6, 12, 30)] 0 0 [.ref 0, .int p1, .int p2] (sh_X sl ext) M (some (.int v)) (sh_X sl ext) N' := by
  refine zCW.of (by decide +kernel) rfl (Nat.le_of_ble_eq_true rfl) ?_
  refine zT.run [(.aload_n 0, 0, 0, 0), (.iload_n 1, 0, 0, 0), (.iload_n 2, 0, 0, 0)] (pe := 3) (ls' := [some (.ref 0), some (.int p1), some (.int p2), none]) (st' := [.int p2, .int p1, .ref 0]) (M' := M) (by decide +kernel) rfl ?_
  refine zT.cVx (o := 0) (idx := 50) (av := [.int p1, .int p2]) (rv := some (.int v)) (st := []) hC k_X9_setFresh 7 _ rfl rfl rfl (zIn (w := 5074) (by decide +kernel) rfl) (by decide +kernel) (Nat.le_of_ble_eq_true rfl) (by decide +kernel) rfl rfl ?_
  exact zT.iret (ty := .int) rfl rfl rfl rfl (by decide +kernel)
theorem k_L_setFresh : zOkW yy_L_setFresh [(0, 6, 7, 25), (0, 6, 12, 30)] 3 := ⟨⟨zIn (w := 5073) (by decide +kernel) rfl, zIn (w := 1000) (by decide +kernel) rfl⟩, by decide +kernel, zIn (w := 5072) (by decide +kernel) rfl⟩
noncomputable abbrev yy_L_set : zY := (yL_set, cL_set, 4, (some Jvm.ClassFile.FieldType.int), 11, 244)
theorem c_L_set (M N' : zM) (sl : Nat → Option Nat) (ext : List va_E) (p1 p2 v : Int32) (hC : zC yy_X9_set 0 0 [.ref 0, .int p1, .int p2] (sh_X sl ext) M (some (.int v)) (sh_X sl ext) N') : zCW yy_L_set [(0, 6, 7, 30)] 0 0 [.ref 0, .int p1, .int p2] (sh_X sl ext) M (some (.int v)) (sh_X sl ext) N' := by
  refine zCW.of (by decide +kernel) rfl (Nat.le_of_ble_eq_true rfl) ?_
  refine zT.run [(.aload_n 0, 0, 0, 0), (.iload_n 1, 0, 0, 0), (.iload_n 2, 0, 0, 0)] (pe := 3) (ls' := [some (.ref 0), some (.int p1), some (.int p2), none]) (st' := [.int p2, .int p1, .ref 0]) (M' := M) (by decide +kernel) rfl ?_
  refine zT.cVx (o := 0) (idx := 53) (av := [.int p1, .int p2]) (rv := some (.int v)) (st := []) hC k_X9_set 7 _ rfl rfl rfl (zIn (w := 5085) (by decide +kernel) rfl) (by decide +kernel) (Nat.le_of_ble_eq_true rfl) (by decide +kernel) rfl rfl ?_
  exact zT.iret (ty := .int) rfl rfl rfl rfl (by decide +kernel)
theorem k_L_set : zOkW yy_L_set [(0, 6, 7, 30)] 3 := ⟨⟨zIn (w := 5084) (by decide +kernel) rfl, zIn (w := 1000) (by decide +kernel) rfl⟩, by decide +kernel, zIn (w := 5083) (by decide +kernel) rfl⟩
noncomputable abbrev yy_L_office : zY := (yL_office, cL_office, 3, (some Jvm.ClassFile.FieldType.int), 11, 243)
theorem c_L_office (M N' : zM) (sl : Nat → Option Nat) (ext : List va_E) (p1 v : Int32) (hC : zC yy_X9_office 0 0 [.ref 0, .int p1] (sh_X sl ext) M (some (.int v)) (sh_X sl ext) N') : zCW yy_L_office [(0, 5, 6, 30)] 0 0 [.ref 0, .int p1] (sh_X sl ext) M (some (.int v)) (sh_X sl ext) N' := by
  refine zCW.of (by decide +kernel) rfl (Nat.le_of_ble_eq_true rfl) ?_
  refine zT.run [(.aload_n 0, 0, 0, 0), (.iload_n 1, 0, 0, 0)] (pe := 2) (ls' := [some (.ref 0), some (.int p1), none]) (st' := [.int p1, .ref 0]) (M' := M) (by decide +kernel) rfl ?_
  refine zT.cVx (o := 0) (idx := 56) (av := [.int p1]) (rv := some (.int v)) (st := []) hC k_X9_office 7 _ rfl rfl rfl (zIn (w := 2100) (by decide +kernel) rfl) (by decide +kernel) (Nat.le_of_ble_eq_true rfl) (by decide +kernel) rfl rfl ?_
  exact zT.iret (ty := .int) rfl rfl rfl rfl (by decide +kernel)
theorem k_L_office : zOkW yy_L_office [(0, 5, 6, 30)] 2 := ⟨⟨zIn (w := 2098) (by decide +kernel) rfl, zIn (w := 1000) (by decide +kernel) rfl⟩, by decide +kernel, zIn (w := 2097) (by decide +kernel) rfl⟩
noncomputable abbrev yy_L_replica : zY := (yL_replica, cL_replica, 4, (some Jvm.ClassFile.FieldType.int), 11, 244)
theorem c_L_replica (M N' : zM) (sl : Nat → Option Nat) (ext : List va_E) (p1 p2 v : Int32) (hC : zC yy_X9_replica 0 0 [.ref 0, .int p1, .int p2] (sh_X sl ext) M (some (.int v)) (sh_X sl ext) N') : zCW yy_L_replica [(0, 6, 7, 25), (0, 6, 12, 30)] 0 0 [.ref 0, .int p1, .int p2] (sh_X sl ext) M (some (.int v)) (sh_X sl ext) N' := by
  refine zCW.of (by decide +kernel) rfl (Nat.le_of_ble_eq_true rfl) ?_
  refine zT.run [(.aload_n 0, 0, 0, 0), (.iload_n 1, 0, 0, 0), (.iload_n 2, 0, 0, 0)] (pe := 3) (ls' := [some (.ref 0), some (.int p1), some (.int p2), none]) (st' := [.int p2, .int p1, .ref 0]) (M' := M) (by decide +kernel) rfl ?_
  refine zT.cVx (o := 0) (idx := 59) (av := [.int p1, .int p2]) (rv := some (.int v)) (st := []) hC k_X9_replica 7 _ rfl rfl rfl (zIn (w := 4193) (by decide +kernel) rfl) (by decide +kernel) (Nat.le_of_ble_eq_true rfl) (by decide +kernel) rfl rfl ?_
  exact zT.iret (ty := .int) rfl rfl rfl rfl (by decide +kernel)
theorem k_L_replica : zOkW yy_L_replica [(0, 6, 7, 25), (0, 6, 12, 30)] 3 := ⟨⟨zIn (w := 4191) (by decide +kernel) rfl, zIn (w := 1000) (by decide +kernel) rfl⟩, by decide +kernel, zIn (w := 4190) (by decide +kernel) rfl⟩
noncomputable abbrev yy_L_isLinked : zY := (yL_isLinked, cL_isLinked, 4, (some Jvm.ClassFile.FieldType.boolean), 11, 243)
theorem c_L_isLinked (M N' : zM) (sl : Nat → Option Nat) (ext : List va_E) (p1 p2 v : Int32) (hv : narrow .boolean (.int v) = .int v) (hC : zC yy_X9_isLinked 0 0 [.ref 0, .int p1, .int p2] (sh_X sl ext) M (some (.int v)) (sh_X sl ext) N') : zCW yy_L_isLinked [(0, 6, 7, 25)] 0 0 [.ref 0, .int p1, .int p2] (sh_X sl ext) M (some (.int v)) (sh_X sl ext) N' := by
  refine zCW.of (by decide +kernel) rfl (Nat.le_of_ble_eq_true rfl) ?_
  refine zT.run [(.aload_n 0, 0, 0, 0), (.iload_n 1, 0, 0, 0), (.iload_n 2, 0, 0, 0)] (pe := 3) (ls' := [some (.ref 0), some (.int p1), some (.int p2), none]) (st' := [.int p2, .int p1, .ref 0]) (M' := M) (by decide +kernel) rfl ?_
  refine zT.cVx (o := 0) (idx := 62) (av := [.int p1, .int p2]) (rv := some (.int v)) (st := []) hC k_X9_isLinked 7 _ rfl rfl rfl (zIn (w := 5142) (by decide +kernel) rfl) (by decide +kernel) (Nat.le_of_ble_eq_true rfl) (by decide +kernel) rfl rfl ?_
  exact zT.iret (ty := .boolean) rfl rfl rfl hv (by decide +kernel)
theorem k_L_isLinked : zOkW yy_L_isLinked [(0, 6, 7, 25)] 3 := ⟨⟨zIn (w := 5141) (by decide +kernel) rfl, zIn (w := 1000) (by decide +kernel) rfl⟩, by decide +kernel, zIn (w := 5140) (by decide +kernel) rfl⟩
noncomputable abbrev yy_L_outcome : zY := (yL_outcome, cL_outcome, 4, (some Jvm.ClassFile.FieldType.int), 11, 244)
theorem c_L_outcome (M N' : zM) (sl : Nat → Option Nat) (ext : List va_E) (p1 p2 v : Int32) (hC : zC yy_X9_outcome 0 0 [.ref 0, .int p1, .int p2] (sh_X sl ext) M (some (.int v)) (sh_X sl ext) N') : zCW yy_L_outcome [(0, 6, 7, 30)] 0 0 [.ref 0, .int p1, .int p2] (sh_X sl ext) M (some (.int v)) (sh_X sl ext) N' := by
  refine zCW.of (by decide +kernel) rfl (Nat.le_of_ble_eq_true rfl) ?_
  refine zT.run [(.aload_n 0, 0, 0, 0), (.iload_n 1, 0, 0, 0), (.iload_n 2, 0, 0, 0)] (pe := 3) (ls' := [some (.ref 0), some (.int p1), some (.int p2), none]) (st' := [.int p2, .int p1, .ref 0]) (M' := M) (by decide +kernel) rfl ?_
  refine zT.cVx (o := 0) (idx := 66) (av := [.int p1, .int p2]) (rv := some (.int v)) (st := []) hC k_X9_outcome 7 _ rfl rfl rfl (zIn (w := 5134) (by decide +kernel) rfl) (by decide +kernel) (Nat.le_of_ble_eq_true rfl) (by decide +kernel) rfl rfl ?_
  exact zT.iret (ty := .int) rfl rfl rfl rfl (by decide +kernel)
theorem k_L_outcome : zOkW yy_L_outcome [(0, 6, 7, 30)] 3 := ⟨⟨zIn (w := 5133) (by decide +kernel) rfl, zIn (w := 1000) (by decide +kernel) rfl⟩, by decide +kernel, zIn (w := 5132) (by decide +kernel) rfl⟩
noncomputable abbrev yy_L_sealFor : zY := (yL_sealFor, cL_sealFor, 5, (some Jvm.ClassFile.FieldType.int), 11, 245)
theorem c_L_sealFor (M N' : zM) (sl : Nat → Option Nat) (ext : List va_E) (p1 p2 p3 v : Int32) (hC : zC yy_X9_sealFor 0 0 [.ref 0, .int p1, .int p2, .int p3] (sh_X sl ext) M (some (.int v)) (sh_X sl ext) N') : zCW yy_L_sealFor [(0, 7, 8, 25), (0, 7, 14, 30)] 0 0 [.ref 0, .int p1, .int p2, .int p3] (sh_X sl ext) M (some (.int v)) (sh_X sl ext) N' := by
  refine zCW.of (by decide +kernel) rfl (Nat.le_of_ble_eq_true rfl) ?_
  refine zT.run [(.aload_n 0, 0, 0, 0), (.iload_n 1, 0, 0, 0), (.iload_n 2, 0, 0, 0), (.iload_n 3, 0, 0, 0)] (pe := 4) (ls' := [some (.ref 0), some (.int p1), some (.int p2), some (.int p3), none]) (st' := [.int p3, .int p2, .int p1, .ref 0]) (M' := M) (by decide +kernel) rfl ?_
  refine zT.cVx (o := 0) (idx := 69) (av := [.int p1, .int p2, .int p3]) (rv := some (.int v)) (st := []) hC k_X9_sealFor 7 _ rfl rfl rfl (zIn (w := 5020) (by decide +kernel) rfl) (by decide +kernel) (Nat.le_of_ble_eq_true rfl) (by decide +kernel) rfl rfl ?_
  exact zT.iret (ty := .int) rfl rfl rfl rfl (by decide +kernel)
theorem k_L_sealFor : zOkW yy_L_sealFor [(0, 7, 8, 25), (0, 7, 14, 30)] 4 := ⟨⟨zIn (w := 5019) (by decide +kernel) rfl, zIn (w := 1000) (by decide +kernel) rfl⟩, by decide +kernel, zIn (w := 5018) (by decide +kernel) rfl⟩
noncomputable abbrev yy_L_nonceOf : zY := (yL_nonceOf, cL_nonceOf, 4, (some Jvm.ClassFile.FieldType.int), 11, 243)
theorem c_L_nonceOf (M N' : zM) (sl : Nat → Option Nat) (ext : List va_E) (p1 p2 v : Int32) (hC : zC yy_X9_nonceFor 0 0 [.ref 0, .int p1, .int p2] (sh_X sl ext) M (some (.int v)) (sh_X sl ext) N') : zCW yy_L_nonceOf [(0, 6, 7, 25)] 0 0 [.ref 0, .int p1, .int p2] (sh_X sl ext) M (some (.int v)) (sh_X sl ext) N' := by
  refine zCW.of (by decide +kernel) rfl (Nat.le_of_ble_eq_true rfl) ?_
  refine zT.run [(.aload_n 0, 0, 0, 0), (.iload_n 1, 0, 0, 0), (.iload_n 2, 0, 0, 0)] (pe := 3) (ls' := [some (.ref 0), some (.int p1), some (.int p2), none]) (st' := [.int p2, .int p1, .ref 0]) (M' := M) (by decide +kernel) rfl ?_
  refine zT.cVx (o := 0) (idx := 72) (av := [.int p1, .int p2]) (rv := some (.int v)) (st := []) hC k_X9_nonceFor 7 _ rfl rfl rfl (zIn (w := 5031) (by decide +kernel) rfl) (by decide +kernel) (Nat.le_of_ble_eq_true rfl) (by decide +kernel) rfl rfl ?_
  exact zT.iret (ty := .int) rfl rfl rfl rfl (by decide +kernel)
theorem k_L_nonceOf : zOkW yy_L_nonceOf [(0, 6, 7, 25)] 3 := ⟨⟨zIn (w := 5030) (by decide +kernel) rfl, zIn (w := 1000) (by decide +kernel) rfl⟩, by decide +kernel, zIn (w := 5029) (by decide +kernel) rfl⟩
noncomputable abbrev yy_J9_floorMod_7cf53 : zY := (yJ9_floorMod_7cf53, cJ9_floorMod_7cf53, 3, (some Jvm.ClassFile.FieldType.int), 0, 0)
theorem c_J9_floorMod (x : Int32) (m : Nat) (h0 : 0 < m) (hm : m < 2 ^ 15) : zCr yy_J9_floorMod_7cf53 0 0 [.int x, .int (nI m)] [] zM0 (fun rv sh' _ => sh' = [] ∧ ∃ v, (∃ j, j < m ∧ v = nI j) ∧ rv = some (.int v)) := by
  refine zCr.ofF (by decide +kernel) rfl (Nat.le_of_ble_eq_true rfl) ?_
  refine zT.run [(.iload_n 0, 0, 0, 0), (.iload_n 1, 0, 0, 0)] (pe := 2) (ls' := [some (.int x), some (.int (nI m)), none]) (st' := [.int (nI m), .int x]) (M' := zM0) (by decide +kernel) rfl ?_
  refine zT.irem (nI_ne0 h0 (by omega)) (by decide +kernel) ?_
  have hf := fm_in x m h0 hm
  generalize hr : x - x / nI m * nI m = r at *
  refine zT.run [(.istore_n 2, 0, 0, 0), (.iload_n 0, 0, 0, 0), (.iload_n 1, 0, 0, 0), (.ixor, 0, 0, 0)] (pe := 7) (ls' := [some (.int x), some (.int (nI m)), some (.int r)]) (st' := [.int (x ^^^ (nI m))]) (M' := zM0) (by decide +kernel) rfl ?_
  refine zT.zge (tgt := 18) (off := 11) (by decide +kernel) (by decide) (fun c => ?_) (fun c => ?_)
  · rw [if_pos c] at hf
    refine zT.run [(.iload_n 2, 0, 0, 0)] (pe := 19) (ls' := [some (.int x), some (.int (nI m)), some (.int r)]) (st' := [.int r]) (M' := zM0) (by decide +kernel) rfl ?_
    exact zT.retI (ty := .int) ⟨rfl, _, hf, rfl⟩ rfl rfl (by decide +kernel)
  · rw [if_neg c] at hf
    refine zT.run [(.iload_n 2, 0, 0, 0)] (pe := 11) (ls' := [some (.int x), some (.int (nI m)), some (.int r)]) (st' := [.int r]) (M' := zM0) (by decide +kernel) rfl ?_
    refine zT.zeq (tgt := 18) (off := 7) (by decide +kernel) (by decide) (fun c => ?_) (fun c => ?_)
    · rw [if_pos c] at hf
      refine zT.run [(.iload_n 2, 0, 0, 0)] (pe := 19) (ls' := [some (.int x), some (.int (nI m)), some (.int r)]) (st' := [.int r]) (M' := zM0) (by decide +kernel) rfl ?_
      exact zT.retI (ty := .int) ⟨rfl, _, hf, rfl⟩ rfl rfl (by decide +kernel)
    · rw [if_neg c] at hf
      refine zT.run [(.iload_n 2, 0, 0, 0), (.iload_n 1, 0, 0, 0), (.iadd, 0, 0, 0)] (pe := 17) (ls' := [some (.int x), some (.int (nI m)), some (.int r)]) (st' := [.int (r + (nI m))]) (M' := zM0) (by decide +kernel) rfl ?_
      exact zT.retI (ty := .int) ⟨rfl, _, hf, rfl⟩ rfl rfl (by decide +kernel)
theorem k_J9_floorMod_7cf53 : zCad yy_J9_floorMod_7cf53 2 := ⟨⟨⟨zIn (w := 3115) (by decide +kernel) rfl, zIn (w := 1012) (by decide +kernel) rfl⟩, by decide +kernel⟩, zIn (w := 3114) (by decide +kernel) rfl⟩
/-- a walk that knows the script -/
def zSc (f : Nat → Int32) (L : Nat) (Y : zY) (k n : Nat) (Z : zS → Prop) (S : zS) : Prop :=
  ∀ (p : Program) (l : Launch) (e : Jvm.Env) (R : Room) (s : State) (m : MethodId) (args : Array Value) (below : List Frame) (meth : Method) (c : Code) (D : va_G) (cA : Nat → ClassId) (ex : Nat → Nat) (A : Nat → Prop), zEv Y p l R s m args meth c D cA ex A → va_T .int (ex 998) L (fun j => .int (f j)) A s s.heap →
    ∀ (Q : State → Prop) (cells slots : Nat) (as : Nat → Nat), cells + k ≤ R.cells → slots + n ≤ R.slots →
      (∀ (S' : zS) (as' : Nat → Nat), zAg S.2.2.2.1.length S'.2.2.2.1.length as as' → Z S' → zG Y p l e R s m args below meth c D cA ex A Q (cells + k) (slots + n) as' S') →
      zG Y p l e R s m args below meth c D cA ex A Q cells slots as S
section ZTS
variable {f : Nat → Int32} {L kc nc : Nat} {Y : zY} {Z : zS → Prop} {pc : Nat} {ls : zL} {st : List Value} {sh : List va_E} {M : zM}
theorem zT.scr {S : zS} (h : ∀ f L, L ≤ 260 → zSc f L Y kc nc Z S) : zT Y kc nc Z S := by
  intro p l e R s m args below meth c D cA ex A E Q cells slots as g1 g2 kk
  obtain ⟨L, f, h1, h2⟩ := E.2.2.2.2.2.2.2.1.2.2.2.2.2.2.2.2.2.2.1
  exact h f L h1 p l e R s m args below meth c D cA ex A E h2 Q cells slots as g1 g2 kk
theorem zSc.of {S : zS} (h : zT Y kc nc Z S) : zSc f L Y kc nc Z S := fun p l e R s m args below meth c D cA ex A E _ Q cells slots as g1 g2 kk => h p l e R s m args below meth c D cA ex A E Q cells slots as g1 g2 kk
theorem zSc.v0 {S S1 : zS} (h : zT Y 0 0 (fun S' => S' = S1) S) (k : zSc f L Y kc nc Z S1) : zSc f L Y kc nc Z S := by
  intro p l e R s m args below meth c D cA ex A E hX Q cells slots as g1 g2 kk
  refine h p l e R s m args below meth c D cA ex A E Q cells slots as (by omega) (by omega) fun S' as' ha e' => ?_
  subst e'
  refine k p l e R s m args below meth c D cA ex A E hX Q (cells + 0) (slots + 0) as' (by omega) (by omega) fun S2 as2 hb hz => ?_
  rw [Nat.add_zero, Nat.add_zero]
  exact kk S2 as2 ⟨Nat.le_trans ha.1 hb.1, fun q hq => by
    rcases hq with hq | hq
    · rw [hb.2 q (Or.inl (Nat.lt_of_lt_of_le hq ha.1)), ha.2 q (Or.inl hq)]
    · rw [hb.2 q (Or.inr hq), ha.2 q (Or.inr (Nat.le_trans hb.1 hq))]⟩ hz
theorem zSc.iald {k : Nat} {i : Int32} (hi : i = nI k) (hk : k < L) (hn : L < 2 ^ 31) (hd : decode Y.2.1 pc = .ok (.iaload, 1)) (k1 : zSc f L Y kc nc Z (pc + 1, ls, .int (f k) :: st, sh, M)) : zSc f L Y kc nc Z (pc, ls, .int i :: .retAddr 998 :: st, sh, M) := by
  intro p l e R s0 m args below meth c D cA ex A E hX Q cells slots as g1 g2 kk H locs lsR hP hD hS hl
  refine va_ti E.1 E.2.1 (i := i) (v := .int (f k)) hX hS ?_ ?_ hd (k1 p l e R s0 m args below meth c D cA ex A E hX Q cells slots as g1 g2 kk H locs lsR hP hD hS hl)
  · rw [hi]
    exact nI_in hk hn
  · rw [hi, nI_clamp (by omega)]
theorem zSc.alen (hd : decode Y.2.1 pc = .ok (.arraylength, 1)) (k1 : zSc f L Y kc nc Z (pc + 1, ls, .int (nI L) :: st, sh, M)) : zSc f L Y kc nc Z (pc, ls, .retAddr 998 :: st, sh, M) := by
  intro p l e R s0 m args below meth c D cA ex A E hX Q cells slots as g1 g2 kk H locs lsR hP hD hS hl
  exact va_tlen E.1 E.2.1 hX hS rfl hd (k1 p l e R s0 m args below meth c D cA ex A E hX Q cells slots as g1 g2 kk H locs lsR hP hD hS hl)
end ZTS
noncomputable abbrev yy_L_cell : zY := (yL_cell, cL_cell, 2, (some Jvm.ClassFile.FieldType.int), 0, 0)
theorem c_L_cell (k : Nat) (hk : k < 2 ^ 31) : zCr yy_L_cell 0 0 [.retAddr 998, .int (nI k)] [] zM0 (fun rv sh' _ => sh' = [] ∧ ∃ v, True ∧ rv = some (.int v)) := by
  refine zCr.of (by decide +kernel) rfl (Nat.le_of_ble_eq_true rfl) (zT.scr fun f L hL => ?_)
  refine zSc.v0 (zT.run [(.iload_n 1, 0, 0, 0), (.aload_n 0, 0, 0, 0)] (pe := 2) (ls' := [some (.retAddr 998), some (.int (nI k))]) (st' := [.retAddr 998, .int (nI k)]) (M' := zM0) (by decide +kernel) rfl (zT.here rfl)) ?_
  refine zSc.alen (by decide +kernel) ?_
  by_cases c : nI L ≤ nI k
  · refine zSc.of ?_
    refine zT.cge (tgt := 12) (off := 9) (by decide +kernel) (by decide) (fun _ => ?_) (fun c' => absurd c c')
    refine zT.run [(.iconst 0, 0, 0, 0)] (pe := 13) (ls' := [some (.retAddr 998), some (.int (nI k))]) (st' := [.int 0]) (M' := zM0) (by decide +kernel) rfl ?_
    exact zT.retI (ty := .int) ⟨rfl, _, trivial, rfl⟩ rfl rfl (by decide +kernel)
  · have hkL : k < L := Nat.lt_of_not_le fun q => c (nI_le q hk)
    refine zSc.v0 (zT.cge (tgt := 12) (off := 9) (by decide +kernel) (by decide) (fun c' => absurd c' c) (fun _ => zT.here rfl)) ?_
    refine zSc.v0 (zT.run [(.aload_n 0, 0, 0, 0), (.iload_n 1, 0, 0, 0)] (pe := 8) (ls' := [some (.retAddr 998), some (.int (nI k))]) (st' := [.int (nI k), .retAddr 998]) (M' := zM0) (by decide +kernel) rfl (zT.here rfl)) ?_
    refine zSc.iald rfl hkL (by omega) (by decide +kernel) (zSc.of ?_)
    refine zT.run [(.goto 4, 0, 0, 0)] (pe := 13) (ls' := [some (.retAddr 998), some (.int (nI k))]) (st' := [.int (f k)]) (M' := zM0) (by decide +kernel) rfl ?_
    exact zT.retI (ty := .int) ⟨rfl, _, trivial, rfl⟩ rfl rfl (by decide +kernel)
theorem k_L_cell : zCad yy_L_cell 2 := ⟨⟨⟨zIn (w := 2095) (by decide +kernel) rfl, zIn (w := 1000) (by decide +kernel) rfl⟩, by decide +kernel⟩, zIn (w := 2094) (by decide +kernel) rfl⟩
noncomputable abbrev yy_L_of : zY := (yL_of, cL_of, 4, (some Jvm.ClassFile.FieldType.int), 1, 22)
theorem c_L_of (k lo m : Nat) (hk : k < 2 ^ 31) (h0 : 0 < m) (hm : m < 2 ^ 15) : zCr yy_L_of 0 0 [.retAddr 998, .int (nI k), .int (nI lo), .int (nI m)] [] zM0 (fun rv sh' _ => sh' = [] ∧ ∃ v, (∃ j, j < m ∧ v = nI (lo + j)) ∧ rv = some (.int v)) := by
  refine zCr.of (by decide +kernel) rfl (Nat.le_of_ble_eq_true rfl) ?_
  refine zT.run [(.iload_n 2, 0, 0, 0), (.aload_n 0, 0, 0, 0), (.iload_n 1, 0, 0, 0)] (pe := 3) (ls' := [some (.retAddr 998), some (.int (nI k)), some (.int (nI lo)), some (.int (nI m))]) (st' := [.int (nI k), .retAddr 998, .int (nI lo)]) (M' := zM0) (by decide +kernel) rfl ?_
  refine zT.cSi (sh := []) (av := [.retAddr 998, .int (nI k)]) (idx := 7) (st := [.int (nI lo)]) (c_L_cell k hk) rfl k_L_cell (zIn (w := 2093) (by decide +kernel) rfl) (by decide +kernel) (Nat.le_of_ble_eq_true rfl) rfl rfl (fun q hq => (by cases hq)) (by decide +kernel) rfl rfl (fun x _ => ?_)
  refine zT.run [(.iload_n 3, 0, 0, 0)] (pe := 7) (ls' := [some (.retAddr 998), some (.int (nI k)), some (.int (nI lo)), some (.int (nI m))]) (st' := [.int (nI m), .int x, .int (nI lo)]) (M' := zM0) (by decide +kernel) rfl ?_
  refine zT.cSi (sh := []) (av := [.int x, .int (nI m)]) (idx := 13) (st := [.int (nI lo)]) (c_J9_floorMod x m h0 hm) rfl k_J9_floorMod_7cf53 (zIn (w := 3113) (by decide +kernel) rfl) (by decide +kernel) (Nat.le_of_ble_eq_true rfl) rfl rfl (fun q hq => (by cases hq)) (by decide +kernel) rfl rfl ?_
  rintro v ⟨j, hj, rfl⟩
  refine zT.run [(.iadd, 0, 0, 0)] (pe := 11) (ls' := [some (.retAddr 998), some (.int (nI k)), some (.int (nI lo)), some (.int (nI m))]) (st' := [.int ((nI lo) + (nI j))]) (M' := zM0) (by decide +kernel) rfl ?_
  rw [nI_add]
  exact zT.retI (ty := .int) ⟨rfl, _, ⟨j, hj, rfl⟩, rfl⟩ rfl rfl (by decide +kernel)
theorem k_L_of : zCad yy_L_of 4 := ⟨⟨⟨zIn (w := 3112) (by decide +kernel) rfl, zIn (w := 1000) (by decide +kernel) rfl⟩, by decide +kernel⟩, zIn (w := 3111) (by decide +kernel) rfl⟩
