/-! WHICH DEED stands there: its number, or 15 -/
def zDv (d : Nat) : Value := if d < 15 then .retAddr d else .null
noncomputable abbrev yy_X5_deedThere : zY := (yX5_deedThere, cX5_deedThere, 2, (some (Jvm.ClassFile.FieldType.object "SealedBallots$Deed")), 5, 107)
noncomputable def f_X5_deedThere (M : zM) (ty : Nat) (i : Nat) : Option Nat := if g_X8_isWord (zPl M 1) ty i = 0 then none else some i
noncomputable def g_X5_deedThere (M : zM) (ty : Nat) : Nat := zFst (f_X5_deedThere M ty) 15 15 0
set_option maxRecDepth 100000 in
theorem c_X5_deedThere (M : zM) (ty : Nat) (h600 : ty ≤ 600) (htk : zTq ty (zPl M 1)) : zC yy_X5_deedThere 0 0 [.ref 0] sh_Opener M (some (zDv (g_X5_deedThere M ty))) sh_Opener M := by
  refine zC.of (by decide +kernel) rfl (Nat.le_of_ble_eq_true rfl) ?_
  refine zT.run [(.iconst 0, 0, 0, 0), (.istore_n 1, 0, 0, 0)] (pe := 2) (ls' := [some (.ref 0), some (.int 0)]) (st' := []) (M' := M) (by decide +kernel) rfl ?_
  refine zT.fst (f_X5_deedThere M ty) 15 15 (fun (i : Nat) => (2, [some (.ref 0), some (.int (nI i))], [], sh_Opener, M)) (R := g_X5_deedThere M ty) rfl (fun i hi k1 kk1 => ?_) (fun k1 => ?_)
  · show zT _ _ _ _ (2, [some (.ref 0), some (.int (nI i))], [], sh_Opener, M)
    refine zT.run [(.iload_n 1, 0, 0, 0)] (pe := 3) (ls' := [some (.ref 0), some (.int (nI i))]) (st' := [.int (nI i)]) (M' := M) (by decide +kernel) rfl ?_
    refine zT.getsN (host := "SealedBallots") (idx := 98) 4 rfl rfl (zInN (w := 4038) (by decide +kernel) rfl) (by decide +kernel) ?_
    refine zT.xlen 4 rfl (by decide +kernel) ?_
    refine zT.cge (tgt := 40) (off := 33) (by decide +kernel) (by decide) (fun c => absurd c (zGeN (n := 15) rfl (by omega) (by omega))) (fun _ => ?_)
    refine zT.run [(.aload_n 0, 0, 0, 0), (.getfield 12, 3, 0, 1070)] (pe := 14) (ls' := [some (.ref 0), some (.int (nI i))]) (st' := [.ref 1]) (M' := M) (by decide +kernel) rfl ?_
    refine zT.getsN (host := "SealedBallots") (idx := 98) 4 rfl rfl (zInN (w := 4038) (by decide +kernel) rfl) (by decide +kernel) ?_
    refine zT.run [(.iload_n 1, 0, 0, 0)] (pe := 18) (ls' := [some (.ref 0), some (.int (nI i))]) (st' := [.int (nI i), .retAddr 100, .ref 1]) (M' := M) (by decide +kernel) rfl ?_
    refine zT.xa 4 (j := i) (x := i) rfl rfl (zDeedA i hi) (by decide) (by decide +kernel) ?_
    refine zT.xgetM (idx := 102) (zKdM i hi).2.2 rfl (zIn (w := 5173) (by decide +kernel) rfl) (by decide +kernel) ?_
    refine zT.cV_pure 1 (o := 0) (idx := 62) (av := [.retAddr (200 + i)]) (rv := (some (.int (g_X8_isWord (zPl M 1) ty i)))) (st := []) (S1 := [.int (g_X8_isWord (zPl M 1) ty i)]) (c_X8_isWord (zPl M 1) ty i h600 htk (by omega)) sub_Opener_1_Text k_X8_isWord _ _ rfl rfl rfl (zIn (w := 3223) (by decide +kernel) rfl) (by decide +kernel) (by decide +kernel) rfl (Nat.le_of_ble_eq_true rfl) rfl ?_
    refine zT.zeq (tgt := 34) (off := 9) (by decide +kernel) (by decide) (fun (c1 : (g_X8_isWord (zPl M 1) ty i) = 0) => ?_) (fun (c1 : ¬ (g_X8_isWord (zPl M 1) ty i) = 0) => ?_)
    · refine zT.run [(.iinc 1 1, 0, 0, 0), (.goto (-35), 0, 0, 0)] (pe := 2) (ls' := [some (.ref 0), some (.int ((nI i) + 1))]) (st' := []) (M' := M) (by decide +kernel) rfl ?_
      exact zT.eq (by simp only [nI_succ]) (k1 (by simp only [f_X5_deedThere, if_pos c1]))
    · have e9 : g_X5_deedThere M ty = i := kk1 _ (by simp only [f_X5_deedThere, if_neg c1])
      refine zT.getsN (host := "SealedBallots") (idx := 98) 4 rfl rfl (zInN (w := 4038) (by decide +kernel) rfl) (by decide +kernel) ?_
      refine zT.run [(.iload_n 1, 0, 0, 0)] (pe := 32) (ls' := [some (.ref 0), some (.int (nI i))]) (st' := [.int (nI i), .retAddr 100]) (M' := M) (by decide +kernel) rfl ?_
      refine zT.xa 4 (j := i) (x := i) rfl rfl (zDeedA i hi) (by decide) (by decide +kernel) ?_
      rw [e9]
      exact zT.here ⟨rfl, rfl, by simp [zDv, hi], Or.inr (Or.inr (Or.inl ⟨zDv i, _, rfl, rfl, Or.inl ⟨_, rfl⟩, by simp [zDv, hi], show decode cX5_deedThere 33 = .ok (.areturn, 1) by decide +kernel⟩))⟩
  · show zT _ _ _ _ (2, [some (.ref 0), some (.int (nI 15))], [], sh_Opener, M)
    refine zT.run [(.iload_n 1, 0, 0, 0)] (pe := 3) (ls' := [some (.ref 0), some (.int (nI 15))]) (st' := [.int (nI 15)]) (M' := M) (by decide +kernel) rfl ?_
    refine zT.getsN (host := "SealedBallots") (idx := 98) 4 rfl rfl (zInN (w := 4038) (by decide +kernel) rfl) (by decide +kernel) ?_
    refine zT.xlen 4 rfl (by decide +kernel) ?_
    refine zT.cge (tgt := 40) (off := 33) (by decide +kernel) (by decide) (fun _ => ?_) (fun c => absurd (zGeY (n := 15) rfl) c)
    refine zT.run [(.aconst_null, 0, 0, 0)] (pe := 41) (ls' := [some (.ref 0), some (.int (nI 15))]) (st' := [.null]) (M' := M) (by decide +kernel) rfl ?_
    rw [k1]
    exact zT.here ⟨rfl, rfl, rfl, Or.inr (Or.inr (Or.inl ⟨zDv 15, _, rfl, rfl, Or.inl ⟨_, rfl⟩, Or.inl rfl, show decode cX5_deedThere 41 = .ok (.areturn, 1) by decide +kernel⟩))⟩
theorem k_X5_deedThere : zCal yy_X5_deedThere 0 := ⟨⟨⟨⟨zIn (w := 4037) (by decide +kernel) rfl, zIn (w := 1002) (by decide +kernel) rfl⟩, by decide +kernel⟩, by decide +kernel⟩, ⟨zIn (w := 4036) (by decide +kernel) rfl, zIn (w := 11) (by decide +kernel) rfl⟩⟩
theorem e_rn (M : zM) (ty p k : Nat) (rp : Int32) (h : (g_X5_readNumber M ty p k rp).1 = 0) : (g_X5_readNumber M ty p k rp).2 3 p = M 1 5 ∧ (∀ j, j ≠ p → (g_X5_readNumber M ty p k rp).2 3 j = M 3 j) ∧ ¬ g_X9_fits (M 1 5) k = 0 ∧ (nI k = 7 → M 1 5 < rp) := by
  have e1 : ∀ j, zPs (zU M 3 p (M 1 5)) 1 2 (g_X8_advance (zPl (zU M 3 p (M 1 5)) 1) ty) 3 j = zU M 3 p (M 1 5) 3 j := fun j => by rw [zPs_out (by decide)]
  have e2 : zU M 3 p (M 1 5) 3 p = M 1 5 := by rw [zU_eq]; exact if_pos rfl
  have e3 : ∀ j, j ≠ p → zU M 3 p (M 1 5) 3 j = M 3 j := fun j hj => zU_k hj
  unfold g_X5_readNumber at h ⊢
  by_cases c1 : (g_X8_isNumber (zPl M 1)) = 0
  · rw [if_pos c1] at h
    exact absurd h (show ¬ (1 : Int32) = 0 by decide)
  rw [if_neg c1] at h ⊢
  by_cases c2 : (g_X9_fits (M 1 5) k) = 0
  · rw [if_pos c2] at h
    exact absurd h (show ¬ (2 : Int32) = 0 by decide)
  rw [if_neg c2] at h ⊢
  by_cases c3 : (nI k) = 7
  · rw [if_pos c3] at h ⊢
    by_cases c4 : (M 1 5) < rp
    · rw [if_pos c4]
      exact ⟨(e1 p).trans e2, fun j hj => (e1 j).trans (e3 j hj), c2, fun _ => c4⟩
    · rw [if_neg c4] at h
      exact absurd h (show ¬ (2 : Int32) = 0 by decide)
  · rw [if_neg c3]
    exact ⟨(e1 p).trans e2, fun j hj => (e1 j).trans (e3 j hj), c2, fun q => absurd q c3⟩
theorem e_fit7 {v rp : Int32} {n : Nat} (hr : rp = nI n) (hn : n ≤ 9) (h : ¬ g_X9_fits v 7 = 0) (c : v < rp) : v = nI v.toNatClampNeg ∧ v.toNatClampNeg < n := by
  have h0 : ¬ v < 0 := by
    intro q
    apply h
    unfold g_X9_fits
    rw [show zLo 7 = 0 from rfl, if_pos q]
  exact zBk hr (by omega) h0 c
theorem zKdT : ∀ d, d < 15 → (zKd d 0 = -1 → zKd d 1 = -1) ∧ (zKd d 1 = -1 → zKd d 2 = -1) ∧ ¬ zKd d 2 = 7 := by decide +kernel
theorem e_pk (M : zM) (ty d : Nat) (rp : Int32) {n : Nat} (hd : d < 15) (hr : rp = nI n) (hn : n ≤ 9) (h : (g_X5_readDeed M ty d rp).1 = 0) : zPk d n ((g_X5_readDeed M ty d rp).2 3) := by
  obtain ⟨t1, t2, t3⟩ := zKdT d hd
  have n7 : ∀ p, p < 3 → zKd d p = 7 → (zKd d p).toNatClampNeg = 7 := fun p hp e => by rw [e]; rfl
  have z3 : ∀ {q : Nat → Int32}, (zKd d 0 = 7 → q 0 = nI (q 0).toNatClampNeg ∧ (q 0).toNatClampNeg < n) → (zKd d 1 = 7 → q 1 = nI (q 1).toNatClampNeg ∧ (q 1).toNatClampNeg < n) → zPk d n q := by
    intro q h0 h1 p hp e
    rcases (show p = 0 ∨ p = 1 ∨ p = 2 by omega) with rfl | rfl | rfl
    · exact h0 e
    · exact h1 e
    · exact absurd e t3
  have hm : ∀ x : Int32, x = -1 → ¬ x = 7 := fun x e => by rw [e]; decide
  have hv : ∀ {A : zM} {p : Nat} (hp : p < 3), (g_X5_readNumber A ty p (zKd d p).toNatClampNeg rp).1 = 0 → zKd d p = 7 → (g_X5_readNumber A ty p (zKd d p).toNatClampNeg rp).2 3 p = nI ((g_X5_readNumber A ty p (zKd d p).toNatClampNeg rp).2 3 p).toNatClampNeg ∧ ((g_X5_readNumber A ty p (zKd d p).toNatClampNeg rp).2 3 p).toNatClampNeg < n := by
    intro A p hp h e
    obtain ⟨r1, r2, r3, r4⟩ := e_rn A ty p _ rp h
    rw [r1]
    rw [n7 p hp e] at r3 r4
    exact e_fit7 hr hn r3 (r4 rfl)
  have v0 : (d_X5_readDeed_2 M ty d rp).1 = 0 → zKd d 0 = 7 → (d_X5_readDeed_2 M ty d rp).2 3 0 = nI ((d_X5_readDeed_2 M ty d rp).2 3 0).toNatClampNeg ∧ ((d_X5_readDeed_2 M ty d rp).2 3 0).toNatClampNeg < n := by
    intro a e
    unfold d_X5_readDeed_2 at a ⊢
    exact hv (p := 0) (by decide) a e
  have v1 : (d_X5_readDeed_3 M ty d rp).1 = 0 → zKd d 1 = 7 → (d_X5_readDeed_3 M ty d rp).2 3 1 = nI ((d_X5_readDeed_3 M ty d rp).2 3 1).toNatClampNeg ∧ ((d_X5_readDeed_3 M ty d rp).2 3 1).toNatClampNeg < n := by
    intro a e
    unfold d_X5_readDeed_3 at a ⊢
    exact hv (p := 1) (by decide) a e
  have w1 : (d_X5_readDeed_3 M ty d rp).1 = 0 → (d_X5_readDeed_3 M ty d rp).2 3 0 = (d_X5_readDeed_2 M ty d rp).2 3 0 := by
    intro a
    unfold d_X5_readDeed_3 at a ⊢
    exact (e_rn _ _ _ _ _ a).2.1 0 (by decide)
  have u0 : (d_X5_readDeed_4 M ty d rp).1 = 0 → (d_X5_readDeed_4 M ty d rp).2 3 0 = (d_X5_readDeed_3 M ty d rp).2 3 0 := by
    intro a
    unfold d_X5_readDeed_4 at a ⊢
    exact (e_rn _ _ _ _ _ a).2.1 0 (by decide)
  have u1 : (d_X5_readDeed_4 M ty d rp).1 = 0 → (d_X5_readDeed_4 M ty d rp).2 3 1 = (d_X5_readDeed_3 M ty d rp).2 3 1 := by
    intro a
    unfold d_X5_readDeed_4 at a ⊢
    exact (e_rn _ _ _ _ _ a).2.1 1 (by decide)
  clear hv
  unfold g_X5_readDeed at h ⊢
  generalize d_X5_readDeed_2 M ty d rp = r2 at *
  generalize d_X5_readDeed_3 M ty d rp = r3 at *
  generalize d_X5_readDeed_4 M ty d rp = r4 at *
  generalize zPs M 1 2 (g_X8_advance (zPl M 1) ty) = m1 at *
  generalize zKd d 0 = k0 at *
  generalize zKd d 1 = k1 at *
  generalize zKd d 2 = k2 at *
  by_cases c0 : k0 = -1
  · have n0 := hm _ c0
    have n1 := hm _ (t1 c0)
    exact z3 (fun e => absurd e n0) (fun e => absurd e n1)
  rw [if_neg c0] at h ⊢
  by_cases a0 : r2.1 = 0
  · rw [if_pos a0] at h ⊢
    have v0 := v0 a0
    by_cases c1 : k1 = -1
    · have n1 := hm _ c1
      rw [if_pos c1]
      split <;> exact z3 v0 (fun e => absurd e n1)
    · rw [if_neg c1] at h ⊢
      by_cases a1 : r3.1 = 0
      · rw [if_pos a1] at h ⊢
        have v1 := v1 a1
        have w1 := w1 a1
        rw [← w1] at v0
        by_cases c2 : k2 = -1
        · rw [if_pos c2]
          split <;> exact z3 v0 v1
        · rw [if_neg c2] at h ⊢
          by_cases a2 : r4.1 = 0
          · rw [if_pos a2]
            have u0 := u0 a2
            have u1 := u1 a2
            rw [← u0] at v0
            rw [← u1] at v1
            split <;> exact z3 v0 v1
          · rw [if_neg a2] at h
            exact absurd h a2
      · rw [if_neg a1] at h
        exact absurd h a1
  · rw [if_neg a0] at h
    exact absurd h a0
theorem dj_addReplica (N : zM) (age fresh : Int32) (h : zDj N) (h8 : N 0 0 < 9) : zDj (g_X4_addReplica N (N 0 0).toNatClampNeg age fresh) ∧ g_X4_addReplica N (N 0 0).toNatClampNeg age fresh 0 0 = N 0 0 + 1 := by
  obtain ⟨⟨hn, h9⟩, hs, hc⟩ := h
  have f0 : g_X4_addReplica N (N 0 0).toNatClampNeg age fresh 0 0 = N 0 0 + 1 := by
    unfold g_X4_addReplica
    rw [if_pos h8]
    unfold m_X4_addReplica_1
    rw [fr_l_X4_addReplica_78 _ _ _ _ 0 (by decide)]
    rfl
  have f10 := fr_X4_addReplica N (N 0 0).toNatClampNeg age fresh 10 (by decide)
  have f7 := fr_X4_addReplica N (N 0 0).toNatClampNeg age fresh 7 (by decide)
  refine ⟨⟨?_, by rw [f10]; exact hs, hc.of f7⟩, f0⟩
  rw [f0]
  have hlt := zLtB (n := (N 0 0).toNatClampNeg) (k := 9) hn (by omega) (by decide) h8
  have e : N 0 0 + 1 = nI ((N 0 0).toNatClampNeg + 1) := by rw [nI_succ, ← hn]
  rw [e, nI_clamp (by omega)]
  exact ⟨rfl, by omega⟩
