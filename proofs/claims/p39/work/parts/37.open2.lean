theorem zPk.of {d n : Nat} {q q' : Nat → Int32} (h : zPk d n q) (hn : n ≤ 9) (e : q' = q) : zPk d 9 q' := by
  subst e
  exact fun p hp h7 => ⟨(h p hp h7).1, Nat.lt_of_lt_of_le (h p hp h7).2 hn⟩
theorem e_X8_begin (M : zM) (ty : Nat) (h600 : ty ≤ 600) (hl : M 0 0 = nI ty) : zTq ty (g_X8_begin M ty) := by
  unfold g_X8_begin
  exact e_X8_advance _ ty h600 ⟨hl, 0, Nat.zero_le _, rfl⟩
theorem dj_makeEmpty (N : zM) : zDj (g_X4_makeEmpty N) := by
  have e0 : g_X4_makeEmpty N 0 0 = 0 := by
    unfold g_X4_makeEmpty m_X4_makeEmpty_1
    rw [zU_ne (show 0 ≠ 10 by decide), zPs_out (by decide), zUa_ne (show 0 ≠ 1 by decide)]
    rfl
  have e10 : g_X4_makeEmpty N 10 0 = 0 := rfl
  have e7 : g_X4_makeEmpty N 7 0 = 0 := by
    unfold g_X4_makeEmpty m_X4_makeEmpty_1
    rw [zU_ne (show 7 ≠ 10 by decide), zPs_in (by decide) (by decide)]
    rfl
  refine ⟨?_, ?_, Or.inl e7⟩
  · rw [e0]
    exact ⟨rfl, Nat.zero_le _⟩
  · rw [e10]
    exact ⟨rfl, Nat.zero_le _⟩
theorem e_readReplicas (M : zM) (ty : Nat) (h600 : ty ≤ 600) (htx : zTq ty (zPl M 2)) (hdj : zDj (zPl M 19)) : zTq ty (zPl (g_X5_readReplicas M ty).2 2) ∧ zDj (zPl (g_X5_readReplicas M ty).2 19) := by
  have t1 : zTq ty (zPl (m_X5_readReplicas_1 M ty) 2) := by
    unfold m_X5_readReplicas_1
    exact zTq.of (m := g_X8_advance (zPl M 2) ty) (e_X8_advance _ ty h600 (zTq.e htx)) rfl
  have d1 : zDj (zPl (m_X5_readReplicas_1 M ty) 19) := by
    unfold m_X5_readReplicas_1
    exact zDj.of (N := zPl M 19) hdj rfl rfl (zHc.of rfl hdj.2.2)
  have hw := wr_readReplicas M ty h600 (0, m_X5_readReplicas_1 M ty) ⟨t1, d1, 0, by decide, rfl⟩
  unfold g_X5_readReplicas
  generalize w_X5_readReplicas_23 M ty (0, m_X5_readReplicas_1 M ty) = w at hw ⊢
  (repeat' split) <;> (dsimp only; first | exact ⟨htx, hdj⟩ | exact ⟨hw.1, hw.2.1⟩)
noncomputable abbrev yy_X5_open : zY := (yX5_open, cX5_open, 5, (some Jvm.ClassFile.FieldType.int), 7, 151)
noncomputable def m_X5_open_1 (M : zM) (ty : Nat) : zM := (zPs M 19 14 (g_X4_makeEmpty (zPl M 19)))
noncomputable def m_X5_open_2 (M : zM) (ty : Nat) : zM := (zPs (m_X5_open_1 M ty) 2 2 (g_X8_begin (zPl (m_X5_open_1 M ty) 2) ty))
noncomputable def d_X5_open_1 (M : zM) (ty : Nat) : Int32 × zM := (g_X5_readReplicas (m_X5_open_2 M ty) ty)
noncomputable def m_X5_open_3 (M : zM) (ty : Nat) (x1 : Int32 × Int32 × zM) : zM := (zPs x1.2.2 1 4 (g_X5_readDeed (zPl x1.2.2 1) ty (g_X5_deedThere (zPl x1.2.2 1) ty) (x1.2.2 19 0)).2)
noncomputable def m_X5_open_4 (M : zM) (ty : Nat) (x1 : Int32 × Int32 × zM) : zM := (zPs (m_X5_open_3 M ty x1) 19 14 (zPf (zPl (m_X5_open_3 M ty x1) 19) ((m_X5_open_3 M ty x1) 4) (g_X5_deedThere (zPl x1.2.2 1) ty)).2)
noncomputable def m_X5_open_5 (M : zM) (ty : Nat) (x1 : Int32 × Int32 × zM) : zM := (zPs (m_X5_open_4 M ty x1) 2 2 (g_X8_advance (zPl (m_X5_open_4 M ty x1) 2) ty))
noncomputable def f_X5_open_19 (M : zM) (ty : Nat) (x1 : Int32 × Int32 × zM) : (Int32 × Int32 × zM) ⊕ (Int32 × Int32 × zM) := (if 600 ≤ x1.2.1 then (.inr (x1.1, x1.2.1, x1.2.2)) else (if x1.1 = 0 then (if (g_X8_isEnd (zPl x1.2.2 2)) = 0 then (if (g_X5_deedThere (zPl x1.2.2 1) ty) < 15 then (if (g_X5_readDeed (zPl x1.2.2 1) ty (g_X5_deedThere (zPl x1.2.2 1) ty) (x1.2.2 19 0)).1 = 0 then (if 0 ≤ (zPf (zPl (m_X5_open_3 M ty x1) 19) ((m_X5_open_3 M ty x1) 4) (g_X5_deedThere (zPl x1.2.2 1) ty)).1 then (.inl ((g_X5_readDeed (zPl x1.2.2 1) ty (g_X5_deedThere (zPl x1.2.2 1) ty) (x1.2.2 19 0)).1, (x1.2.1 + 1), (m_X5_open_5 M ty x1))) else (.inl (4, (x1.2.1 + 1), (m_X5_open_4 M ty x1)))) else (.inl ((g_X5_readDeed (zPl x1.2.2 1) ty (g_X5_deedThere (zPl x1.2.2 1) ty) (x1.2.2 19 0)).1, (x1.2.1 + 1), (m_X5_open_3 M ty x1)))) else (.inl (1, (x1.2.1 + 1), x1.2.2))) else (.inr (x1.1, x1.2.1, x1.2.2))) else (.inr (x1.1, x1.2.1, x1.2.2))))
theorem tq_perf {ty : Nat} {m N : zM} (h : zTq ty (zPl m 2)) : zTq ty (zPl (zPs m 19 14 N) 2) := zTq.of (m := zPl m 2) h rfl
theorem tq_adv {ty : Nat} {m : zM} (h600 : ty ≤ 600) (h : zTq ty (zPl m 2)) : zTq ty (zPl (zPs m 2 2 (g_X8_advance (zPl m 2) ty)) 2) := zTq.of (m := g_X8_advance (zPl m 2) ty) (e_X8_advance _ ty h600 (zTq.e h)) rfl
theorem tq_read {ty : Nat} {m : zM} (h600 : ty ≤ 600) (d : Nat) (h : zTq ty (zPl m 2)) : zTq ty (zPl (zPs m 1 4 (g_X5_readDeed (zPl m 1) ty d (m 19 0)).2) 2) := zTq.of (m := zPl (g_X5_readDeed (zPl m 1) ty d (m 19 0)).2 1) (e_X5_readDeed (zPl m 1) ty d (m 19 0) h600 (zTq.of (m := zPl m 2) h rfl)) rfl
theorem dj_out {m N : zM} {b k : Nat} (hb : b + k ≤ 19) (h : zDj (zPl m 19)) : zDj (zPl (zPs m b k N) 19) := by
  have e : ∀ o, (zPl (zPs m b k N) 19) o = zPl m 19 o := fun o => zPs_out (by omega)
  exact zDj.of (N := zPl m 19) h (by rw [e]) (by rw [e]) (zHc.of (e 7) h.2.2)
theorem dj_in {m N : zM} (h : zDj N) : zDj (zPl (zPs m 19 14 N) 19) := zDj.of (N := N) h rfl rfl (zHc.of rfl h.2.2)
theorem pk_read {ty : Nat} {m : zM} (d : Nat) (hd : d < 15) (h : zDj (zPl m 19)) (c : (g_X5_readDeed (zPl m 1) ty d (m 19 0)).1 = 0) : zPk d 9 (zPs m 1 4 (g_X5_readDeed (zPl m 1) ty d (m 19 0)).2 4) := zPk.of (e_pk (zPl m 1) ty d (m 19 0) hd h.1.1 h.1.2 c) h.1.2 rfl
theorem hf_open (M : zM) (ty : Nat) (h600 : ty ≤ 600) : ∀ x y : Int32 × Int32 × zM, (fun (x : Int32 × Int32 × zM) => zTq ty (zPl x.2.2 2) ∧ zDj (zPl x.2.2 19) ∧ ∃ k, k ≤ 600 ∧ x.2.1 = nI k) x → f_X5_open_19 M ty x = .inl y → (fun (x : Int32 × Int32 × zM) => zTq ty (zPl x.2.2 2) ∧ zDj (zPl x.2.2 19) ∧ ∃ k, k ≤ 600 ∧ x.2.1 = nI k) y ∧ 600 - y.2.1.toNatClampNeg < 600 - x.2.1.toNatClampNeg := by
  rintro ⟨cd, t, m⟩ y ⟨h1, h2, k, hk, h3⟩ h
  dsimp only at h1 h2 h3 h
  subst h3
  have hX : ∀ (z : Int32) (m' : zM), zTq ty (zPl m' 2) → zDj (zPl m' 19) → k < 600 → (zTq ty (zPl m' 2) ∧ zDj (zPl m' 19) ∧ ∃ k', k' ≤ 600 ∧ nI k + 1 = nI k') ∧ 600 - (nI k + 1).toNatClampNeg < 600 - (nI k).toNatClampNeg := by
    intro z m' a b c
    refine ⟨⟨a, b, k + 1, by omega, (nI_succ k).symm⟩, ?_⟩
    rw [← nI_succ, nI_clamp (by omega), nI_clamp (by omega)]
    omega
  unfold f_X5_open_19 at h
  dsimp only at h
  by_cases c0 : 600 ≤ nI k
  · rw [if_pos c0] at h
    cases h
  rw [if_neg c0] at h
  have k6 : k < 600 := by
    rcases Nat.lt_or_ge k 600 with q | q
    · exact q
    · exact absurd (nI_le (a := 600) (b := k) q (by omega)) c0
  by_cases c1 : cd = 0
  · rw [if_pos c1] at h
    by_cases c2 : g_X8_isEnd (zPl m 2) = 0
    · rw [if_pos c2] at h
      by_cases c3 : (g_X5_deedThere (zPl m 1) ty) < 15
      · rw [if_pos c3] at h
        have t3 : zTq ty (zPl (m_X5_open_3 M ty (cd, nI k, m)) 2) := by
          unfold m_X5_open_3
          exact tq_read h600 _ h1
        have d3 : zDj (zPl (m_X5_open_3 M ty (cd, nI k, m)) 19) := by
          unfold m_X5_open_3
          exact dj_out (by decide) h2
        by_cases c4 : (g_X5_readDeed (zPl m 1) ty (g_X5_deedThere (zPl m 1) ty) (m 19 0)).1 = 0
        · rw [if_pos c4] at h
          have pk : zPk (g_X5_deedThere (zPl m 1) ty) 9 (m_X5_open_3 M ty (cd, nI k, m) 4) := by
            unfold m_X5_open_3
            exact pk_read _ c3 h2 c4
          have t4 : zTq ty (zPl (m_X5_open_4 M ty (cd, nI k, m)) 2) := by
            unfold m_X5_open_4
            exact tq_perf t3
          have d4 : zDj (zPl (m_X5_open_4 M ty (cd, nI k, m)) 19) := by
            unfold m_X5_open_4
            exact dj_in (dj_zPf _ _ _ c3 d3 pk).1
          have t5 : zTq ty (zPl (m_X5_open_5 M ty (cd, nI k, m)) 2) := by
            unfold m_X5_open_5
            exact tq_adv h600 t4
          have d5 : zDj (zPl (m_X5_open_5 M ty (cd, nI k, m)) 19) := by
            unfold m_X5_open_5
            exact dj_out (by decide) d4
          generalize m_X5_open_5 M ty (cd, nI k, m) = m5 at *
          generalize m_X5_open_4 M ty (cd, nI k, m) = m4 at *
          split at h
          · obtain rfl := Sum.inl.inj h
            exact hX 0 m5 t5 d5 k6
          · obtain rfl := Sum.inl.inj h
            exact hX 0 m4 t4 d4 k6
        · rw [if_neg c4] at h
          generalize m_X5_open_3 M ty (cd, nI k, m) = m3 at *
          obtain rfl := Sum.inl.inj h
          exact hX 0 m3 t3 d3 k6
      · rw [if_neg c3] at h
        obtain rfl := Sum.inl.inj h
        exact hX 0 m h1 h2 k6
    · rw [if_neg c2] at h
      cases h
  · rw [if_neg c1] at h
    cases h
noncomputable def w_X5_open_19 (M : zM) (ty : Nat) (x : Int32 × Int32 × zM) : Int32 × Int32 × zM := zWr (fun (x : Int32 × Int32 × zM) => x) (f_X5_open_19 M ty) (601 + ty) x
theorem wr_open (M : zM) (ty : Nat) (h600 : ty ≤ 600) (x : Int32 × Int32 × zM) (hx : (fun (x : Int32 × Int32 × zM) => zTq ty (zPl x.2.2 2) ∧ zDj (zPl x.2.2 19) ∧ ∃ k, k ≤ 600 ∧ x.2.1 = nI k) x) : zTq ty (zPl (w_X5_open_19 M ty x).2.2 2) ∧ zDj (zPl (w_X5_open_19 M ty x).2.2 19) := by
  refine zWr_P (R := fun (b : Int32 × Int32 × zM) => zTq ty (zPl b.2.2 2) ∧ zDj (zPl b.2.2 19)) (hf_open M ty h600) ?_ _ x hx (by omega)
  rintro ⟨cd, t, m⟩ b ⟨h1, h2, k, hk, h3⟩ h
  unfold f_X5_open_19 at h
  dsimp only at h
  (repeat' split at h) <;> first
    | (cases h; done)
    | (have e := Sum.inr.inj h
       subst e
       exact ⟨h1, h2⟩)
noncomputable def g_X5_open (M : zM) (ty : Nat) : Int32 × zM := (if (w_X5_open_19 M ty ((d_X5_open_1 M ty).1, 0, (d_X5_open_1 M ty).2)).1 = 0 then (((w_X5_open_19 M ty ((d_X5_open_1 M ty).1, 0, (d_X5_open_1 M ty).2)).2.2 19 0), (w_X5_open_19 M ty ((d_X5_open_1 M ty).1, 0, (d_X5_open_1 M ty).2)).2.2) else (((-30) - ((8 * ((w_X5_open_19 M ty ((d_X5_open_1 M ty).1, 0, (d_X5_open_1 M ty).2)).2.2 2 3)) + (w_X5_open_19 M ty ((d_X5_open_1 M ty).1, 0, (d_X5_open_1 M ty).2)).1)), (w_X5_open_19 M ty ((d_X5_open_1 M ty).1, 0, (d_X5_open_1 M ty).2)).2.2))
set_option maxRecDepth 100000 in
theorem c_X5_open (M : zM) (sl : Nat → Option Nat) (ext : List va_E) (ty : Nat) (h600 : ty ≤ 600) (hl : M 2 0 = nI ty) : zC yy_X5_open 0 0 [.ref 1, .ref 19] (sh_X sl ext) M (some (.int (g_X5_open M ty).1)) (sh_X sl ext) (g_X5_open M ty).2 := by
  refine zC.of (by decide +kernel) rfl (Nat.le_of_ble_eq_true rfl) ?_
  refine zT.run [(.aload_n 1, 0, 0, 0)] (pe := 1) (ls' := [some (.ref 1), some (.ref 19), none, none, none]) (st' := [.ref 19]) (M' := M) (by decide +kernel) rfl ?_
  refine zT.cV_sub 19 (o := 0) (idx := 22) (av := []) (rv := none) (st := []) (S1 := []) (c_X4_makeEmpty (zPl M 19)) sub_X_19_Office k_X4_makeEmpty _ _ rfl rfl rfl (zIn (w := 3201) (by decide +kernel) rfl) (by decide +kernel) (by decide +kernel) rfl (Nat.le_of_ble_eq_true rfl) rfl ?_
  refine zT.eqM (M2 := (m_X5_open_1 M ty)) rfl ?_
  refine zT.run [(.aload_n 0, 0, 0, 0), (.getfield 12, 3, 0, 1070)] (pe := 8) (ls' := [some (.ref 1), some (.ref 19), none, none, none]) (st' := [.ref 2]) (M' := (m_X5_open_1 M ty)) (by decide +kernel) rfl ?_
  refine zT.cV_sub 2 (o := 0) (idx := 27) (av := []) (rv := none) (st := []) (S1 := []) (c_X8_begin (zPl (m_X5_open_1 M ty) 2) ty h600 hl) sub_X_2_Text k_X8_begin _ _ rfl rfl rfl (zIn (w := 3202) (by decide +kernel) rfl) (by decide +kernel) (by decide +kernel) rfl (Nat.le_of_ble_eq_true rfl) rfl ?_
  refine zT.eqM (M2 := (m_X5_open_2 M ty)) rfl ?_
  refine zT.run [(.aload_n 0, 0, 0, 0), (.aload_n 1, 0, 0, 0)] (pe := 13) (ls' := [some (.ref 1), some (.ref 19), none, none, none]) (st' := [.ref 19, .ref 1]) (M' := (m_X5_open_2 M ty)) (by decide +kernel) rfl ?_
  refine zT.cV_all (o := 1) (idx := 30) (av := [.ref 19]) (rv := (some (.int (g_X5_readReplicas (m_X5_open_2 M ty) ty).1))) (st := []) (S1 := [.int (g_X5_readReplicas (m_X5_open_2 M ty) ty).1]) (c_X5_readReplicas (m_X5_open_2 M ty) sl ext ty h600 (zTq.of (m := (g_X8_begin (zPl (m_X5_open_1 M ty) 2) ty)) (e_X8_begin (zPl (m_X5_open_1 M ty) 2) ty h600 hl) rfl) (zDj.of (N := zPl (m_X5_open_1 M ty) 19) (zDj.of (N := (g_X4_makeEmpty (zPl M 19))) (dj_makeEmpty (zPl M 19)) rfl rfl (zHc.of rfl (dj_makeEmpty (zPl M 19)).2.2)) rfl rfl (zHc.of rfl ((zDj.of (N := (g_X4_makeEmpty (zPl M 19))) (dj_makeEmpty (zPl M 19)) rfl rfl (zHc.of rfl (dj_makeEmpty (zPl M 19)).2.2))).2.2))) k_X5_readReplicas _ _ rfl rfl rfl (zIn (w := 3218) (by decide +kernel) rfl) (by decide +kernel) (by decide +kernel) rfl (Nat.le_of_ble_eq_true rfl) rfl ?_
  obtain ⟨v1, hv1⟩ : ∃ v, v = (g_X5_readReplicas (m_X5_open_2 M ty) ty) := ⟨_, rfl⟩
  rw [← hv1]
  have ev1 : (d_X5_open_1 M ty) = v1 := by unfold d_X5_open_1; exact hv1.symm
  have tqv1 : zTq ty (zPl v1.2 2) := by rw [hv1]; exact (e_readReplicas (m_X5_open_2 M ty) ty h600 (zTq.of (m := (g_X8_begin (zPl (m_X5_open_1 M ty) 2) ty)) (e_X8_begin (zPl (m_X5_open_1 M ty) 2) ty h600 hl) rfl) (zDj.of (N := zPl (m_X5_open_1 M ty) 19) (zDj.of (N := (g_X4_makeEmpty (zPl M 19))) (dj_makeEmpty (zPl M 19)) rfl rfl (zHc.of rfl (dj_makeEmpty (zPl M 19)).2.2)) rfl rfl (zHc.of rfl ((zDj.of (N := (g_X4_makeEmpty (zPl M 19))) (dj_makeEmpty (zPl M 19)) rfl rfl (zHc.of rfl (dj_makeEmpty (zPl M 19)).2.2))).2.2))).1
  have djv1 : zDj (zPl v1.2 19) := by rw [hv1]; exact (e_readReplicas (m_X5_open_2 M ty) ty h600 (zTq.of (m := (g_X8_begin (zPl (m_X5_open_1 M ty) 2) ty)) (e_X8_begin (zPl (m_X5_open_1 M ty) 2) ty h600 hl) rfl) (zDj.of (N := zPl (m_X5_open_1 M ty) 19) (zDj.of (N := (g_X4_makeEmpty (zPl M 19))) (dj_makeEmpty (zPl M 19)) rfl rfl (zHc.of rfl (dj_makeEmpty (zPl M 19)).2.2)) rfl rfl (zHc.of rfl ((zDj.of (N := (g_X4_makeEmpty (zPl M 19))) (dj_makeEmpty (zPl M 19)) rfl rfl (zHc.of rfl (dj_makeEmpty (zPl M 19)).2.2))).2.2))).2
  refine zT.run [(.istore_n 2, 0, 0, 0), (.iconst 0, 0, 0, 0), (.istore_n 3, 0, 0, 0)] (pe := 19) (ls' := [some (.ref 1), some (.ref 19), some (.int v1.1), some (.int 0), none]) (st' := []) (M' := v1.2) (by decide +kernel) rfl ?_
  refine zT.wx (fun (x : Int32 × Int32 × zM) => x) (f_X5_open_19 M ty) (fun (x : Int32 × Int32 × zM) => zTq ty (zPl x.2.2 2) ∧ zDj (zPl x.2.2 19) ∧ ∃ k, k ≤ 600 ∧ x.2.1 = nI k) (fun (x : Int32 × Int32 × zM) => 600 - x.2.1.toNatClampNeg) (fun (x : Int32 × Int32 × zM) => (19, [some (.ref 1), some (.ref 19), some (.int x.1), some (.int x.2.1), none], [], (sh_X sl ext), x.2.2)) (fun (b : Int32 × Int32 × zM) => (100, [some (.ref 1), some (.ref 19), some (.int b.1), some (.int b.2.1), none], [], (sh_X sl ext), b.2.2)) (hf_open M ty h600) (fun x1 hp1 k1 kk1 => ?_) (601 + ty) (v1.1, 0, v1.2) ⟨tqv1, djv1, 0, by decide, rfl⟩ (by show 600 - (0 : Nat) < _; omega) ?_
  · skip
    show zT _ _ _ _ (19, [some (.ref 1), some (.ref 19), some (.int x1.1), some (.int x1.2.1), none], [], (sh_X sl ext), x1.2.2)
    have htw : zTq ty (zPl x1.2.2 2) := hp1.1
    have hdw : zDj (zPl x1.2.2 19) := hp1.2.1
    refine zT.run [(.iload_n 3, 0, 0, 0), (.sipush 600, 0, 0, 0)] (pe := 23) (ls' := [some (.ref 1), some (.ref 19), some (.int x1.1), some (.int x1.2.1), none]) (st' := [.int 600, .int x1.2.1]) (M' := x1.2.2) (by decide +kernel) rfl ?_
    refine zT.cge (tgt := 100) (off := 77) (by decide +kernel) (by decide) (fun (c1 : 600 ≤ x1.2.1) => ?_) (fun (c1 : ¬ 600 ≤ x1.2.1) => ?_)
    · skip
      exact kk1 (x1.1, x1.2.1, x1.2.2) (by simp only [f_X5_open_19, if_pos c1])
    · skip
      refine zT.run [(.iload_n 2, 0, 0, 0)] (pe := 27) (ls' := [some (.ref 1), some (.ref 19), some (.int x1.1), some (.int x1.2.1), none]) (st' := [.int x1.1]) (M' := x1.2.2) (by decide +kernel) rfl ?_
      refine zT.zne (tgt := 100) (off := 73) (by decide +kernel) (by decide) (fun (c2 : ¬ x1.1 = 0) => ?_) (fun (c2 : x1.1 = 0) => ?_)
      · skip
        exact kk1 (x1.1, x1.2.1, x1.2.2) (by simp only [f_X5_open_19, if_neg c1, if_neg c2])
      · skip
        refine zT.run [(.aload_n 0, 0, 0, 0), (.getfield 12, 3, 0, 1070)] (pe := 34) (ls' := [some (.ref 1), some (.ref 19), some (.int x1.1), some (.int x1.2.1), none]) (st' := [.ref 2]) (M' := x1.2.2) (by decide +kernel) rfl ?_
        refine zT.cV_pure 2 (o := 0) (idx := 34) (av := []) (rv := (some (.int (g_X8_isEnd (zPl x1.2.2 2))))) (st := []) (S1 := [.int (g_X8_isEnd (zPl x1.2.2 2))]) (c_X8_isEnd (zPl x1.2.2 2)) sub_X_2_Text k_X8_isEnd _ _ rfl rfl rfl (zIn (w := 4030) (by decide +kernel) rfl) (by decide +kernel) (by decide +kernel) rfl (Nat.le_of_ble_eq_true rfl) rfl ?_
        refine zT.zne (tgt := 100) (off := 63) (by decide +kernel) (by decide) (fun (c3 : ¬ (g_X8_isEnd (zPl x1.2.2 2)) = 0) => ?_) (fun (c3 : (g_X8_isEnd (zPl x1.2.2 2)) = 0) => ?_)
        · skip
          exact kk1 (x1.1, x1.2.1, x1.2.2) (by simp only [f_X5_open_19, if_neg c1, if_pos c2, if_neg c3])
        · skip
          refine zT.run [(.aload_n 0, 0, 0, 0)] (pe := 41) (ls' := [some (.ref 1), some (.ref 19), some (.int x1.1), some (.int x1.2.1), none]) (st' := [.ref 1]) (M' := x1.2.2) (by decide +kernel) rfl ?_
          by_cases c4 : (g_X5_deedThere (zPl x1.2.2 1) ty) < 15
          · skip
            refine zT.cV_pure 1 (o := 0) (idx := 38) (av := []) (rv := (some (zDv (g_X5_deedThere (zPl x1.2.2 1) ty)))) (st := []) (S1 := [.retAddr ((g_X5_deedThere (zPl x1.2.2 1) ty))]) (c_X5_deedThere (zPl x1.2.2 1) ty h600 (zTq.of (m := zPl x1.2.2 2) htw rfl)) sub_X_1_Opener k_X5_deedThere _ _ rfl rfl rfl (zIn (w := 4034) (by decide +kernel) rfl) (by decide +kernel) (by decide +kernel) rfl (Nat.le_of_ble_eq_true rfl) (by unfold zDv; rw [if_pos c4]; rfl) ?_
            refine zT.run [(.astore 4, 0, 0, 0), (.aload 4, 0, 0, 0)] (pe := 48) (ls' := [some (.ref 1), some (.ref 19), some (.int x1.1), some (.int x1.2.1), some (.retAddr ((g_X5_deedThere (zPl x1.2.2 1) ty)))]) (st' := [.retAddr ((g_X5_deedThere (zPl x1.2.2 1) ty))]) (M' := x1.2.2) (by decide +kernel) rfl ?_
            refine zT.nnulX (off := 8) (tgt := 56) (by decide +kernel) (by decide) ?_
            refine zT.run [(.aload_n 0, 0, 0, 0), (.aload 4, 0, 0, 0), (.aload_n 1, 0, 0, 0), (.getfield 42, 2, 0, 1171)] (pe := 63) (ls' := [some (.ref 1), some (.ref 19), some (.int x1.1), some (.int x1.2.1), some (.retAddr ((g_X5_deedThere (zPl x1.2.2 1) ty)))]) (st' := [.int (x1.2.2 19 0), .retAddr ((g_X5_deedThere (zPl x1.2.2 1) ty)), .ref 1]) (M' := x1.2.2) (by decide +kernel) rfl ?_
            refine zT.cV_sub 1 (o := 0) (idx := 46) (av := [.retAddr ((g_X5_deedThere (zPl x1.2.2 1) ty)), .int (x1.2.2 19 0)]) (rv := (some (.int (g_X5_readDeed (zPl x1.2.2 1) ty (g_X5_deedThere (zPl x1.2.2 1) ty) (x1.2.2 19 0)).1))) (st := []) (S1 := [.int (g_X5_readDeed (zPl x1.2.2 1) ty (g_X5_deedThere (zPl x1.2.2 1) ty) (x1.2.2 19 0)).1]) (c_X5_readDeed (zPl x1.2.2 1) ty (g_X5_deedThere (zPl x1.2.2 1) ty) (x1.2.2 19 0) h600 (zTq.of (m := zPl x1.2.2 2) htw rfl) c4) sub_X_1_Opener k_X5_readDeed _ _ rfl rfl rfl (zIn (w := 4040) (by decide +kernel) rfl) (by decide +kernel) (by decide +kernel) rfl (Nat.le_of_ble_eq_true rfl) rfl ?_
            refine zT.eqM (M2 := (m_X5_open_3 M ty x1)) rfl ?_
            refine zT.run [(.istore_n 2, 0, 0, 0), (.iload_n 2, 0, 0, 0)] (pe := 68) (ls' := [some (.ref 1), some (.ref 19), some (.int (g_X5_readDeed (zPl x1.2.2 1) ty (g_X5_deedThere (zPl x1.2.2 1) ty) (x1.2.2 19 0)).1), some (.int x1.2.1), some (.retAddr ((g_X5_deedThere (zPl x1.2.2 1) ty)))]) (st' := [.int (g_X5_readDeed (zPl x1.2.2 1) ty (g_X5_deedThere (zPl x1.2.2 1) ty) (x1.2.2 19 0)).1]) (M' := (m_X5_open_3 M ty x1)) (by decide +kernel) rfl ?_
            refine zT.zne (tgt := 83) (off := 15) (by decide +kernel) (by decide) (fun (c5 : ¬ (g_X5_readDeed (zPl x1.2.2 1) ty (g_X5_deedThere (zPl x1.2.2 1) ty) (x1.2.2 19 0)).1 = 0) => ?_) (fun (c5 : (g_X5_readDeed (zPl x1.2.2 1) ty (g_X5_deedThere (zPl x1.2.2 1) ty) (x1.2.2 19 0)).1 = 0) => ?_)
            · skip
              refine zT.run [(.iload_n 2, 0, 0, 0)] (pe := 84) (ls' := [some (.ref 1), some (.ref 19), some (.int (g_X5_readDeed (zPl x1.2.2 1) ty (g_X5_deedThere (zPl x1.2.2 1) ty) (x1.2.2 19 0)).1), some (.int x1.2.1), some (.retAddr ((g_X5_deedThere (zPl x1.2.2 1) ty)))]) (st' := [.int (g_X5_readDeed (zPl x1.2.2 1) ty (g_X5_deedThere (zPl x1.2.2 1) ty) (x1.2.2 19 0)).1]) (M' := (m_X5_open_3 M ty x1)) (by decide +kernel) rfl ?_
              refine zT.zne (tgt := 94) (off := 10) (by decide +kernel) (by decide) (fun _ => ?_) (fun c => absurd c c5)
              refine zT.run [(.iinc 3 1, 0, 0, 0), (.goto (-78), 0, 0, 0)] (pe := 19) (ls' := [some (.ref 1), some (.ref 19), some (.int (g_X5_readDeed (zPl x1.2.2 1) ty (g_X5_deedThere (zPl x1.2.2 1) ty) (x1.2.2 19 0)).1), some (.int (x1.2.1 + 1)), some (.retAddr ((g_X5_deedThere (zPl x1.2.2 1) ty)))]) (st' := []) (M' := (m_X5_open_3 M ty x1)) (by decide +kernel) rfl ?_
              refine zT.drop 4 ?_
              simp only [zDl]
              exact k1 ((g_X5_readDeed (zPl x1.2.2 1) ty (g_X5_deedThere (zPl x1.2.2 1) ty) (x1.2.2 19 0)).1, (x1.2.1 + 1), (m_X5_open_3 M ty x1)) (by simp only [f_X5_open_19, if_neg c1, if_pos c2, if_pos c3, if_pos c4, if_neg c5])
            · skip
              refine zT.run [(.aload_n 0, 0, 0, 0), (.aload 4, 0, 0, 0), (.aload_n 1, 0, 0, 0)] (pe := 75) (ls' := [some (.ref 1), some (.ref 19), some (.int (g_X5_readDeed (zPl x1.2.2 1) ty (g_X5_deedThere (zPl x1.2.2 1) ty) (x1.2.2 19 0)).1), some (.int x1.2.1), some (.retAddr ((g_X5_deedThere (zPl x1.2.2 1) ty)))]) (st' := [.ref 19, .retAddr ((g_X5_deedThere (zPl x1.2.2 1) ty)), .ref 1]) (M' := (m_X5_open_3 M ty x1)) (by decide +kernel) rfl ?_
              refine zT.cV_all (o := 1) (idx := 50) (av := [.retAddr (g_X5_deedThere (zPl x1.2.2 1) ty), .ref 19]) (rv := (some (.int (g_X5_performA (m_X5_open_3 M ty x1) (g_X5_deedThere (zPl x1.2.2 1) ty)).1))) (st := []) (S1 := [.int (zPf (zPl (m_X5_open_3 M ty x1) 19) ((m_X5_open_3 M ty x1) 4) (g_X5_deedThere (zPl x1.2.2 1) ty)).1]) (c_X5_performA (m_X5_open_3 M ty x1) sl ext (g_X5_deedThere (zPl x1.2.2 1) ty) c4 (zDj.of (N := zPl x1.2.2 19) hdw rfl rfl (zHc.of rfl (hdw).2.2)) (zPk.of (e_pk (zPl x1.2.2 1) ty (g_X5_deedThere (zPl x1.2.2 1) ty) (x1.2.2 19 0) c4 hdw.1.1 hdw.1.2 c5) hdw.1.2 (by unfold m_X5_open_3; rfl))) k_X5_perform _ _ rfl rfl rfl (zIn (w := 4048) (by decide +kernel) rfl) (by decide +kernel) (by decide +kernel) rfl (Nat.le_of_ble_eq_true rfl) rfl ?_
              refine zT.eqM (M2 := (zPs (m_X5_open_3 M ty x1) 19 14 (zPf (zPl (m_X5_open_3 M ty x1) 19) ((m_X5_open_3 M ty x1) 4) (g_X5_deedThere (zPl x1.2.2 1) ty)).2)) rfl ?_
              refine zT.eqM (M2 := (m_X5_open_4 M ty x1)) rfl ?_
              refine zT.zge (tgt := 83) (off := 5) (by decide +kernel) (by decide) (fun (c6 : 0 ≤ (zPf (zPl (m_X5_open_3 M ty x1) 19) ((m_X5_open_3 M ty x1) 4) (g_X5_deedThere (zPl x1.2.2 1) ty)).1) => ?_) (fun (c6 : ¬ 0 ≤ (zPf (zPl (m_X5_open_3 M ty x1) 19) ((m_X5_open_3 M ty x1) 4) (g_X5_deedThere (zPl x1.2.2 1) ty)).1) => ?_)
              · skip
                refine zT.run [(.iload_n 2, 0, 0, 0)] (pe := 84) (ls' := [some (.ref 1), some (.ref 19), some (.int (g_X5_readDeed (zPl x1.2.2 1) ty (g_X5_deedThere (zPl x1.2.2 1) ty) (x1.2.2 19 0)).1), some (.int x1.2.1), some (.retAddr ((g_X5_deedThere (zPl x1.2.2 1) ty)))]) (st' := [.int (g_X5_readDeed (zPl x1.2.2 1) ty (g_X5_deedThere (zPl x1.2.2 1) ty) (x1.2.2 19 0)).1]) (M' := (m_X5_open_4 M ty x1)) (by decide +kernel) rfl ?_
                refine zT.zne (tgt := 94) (off := 10) (by decide +kernel) (by decide) (fun c => absurd c5 c) (fun _ => ?_)
                refine zT.run [(.aload_n 0, 0, 0, 0), (.getfield 12, 3, 0, 1070)] (pe := 91) (ls' := [some (.ref 1), some (.ref 19), some (.int (g_X5_readDeed (zPl x1.2.2 1) ty (g_X5_deedThere (zPl x1.2.2 1) ty) (x1.2.2 19 0)).1), some (.int x1.2.1), some (.retAddr ((g_X5_deedThere (zPl x1.2.2 1) ty)))]) (st' := [.ref 2]) (M' := (m_X5_open_4 M ty x1)) (by decide +kernel) rfl ?_
                refine zT.cV_sub 2 (o := 0) (idx := 54) (av := []) (rv := none) (st := []) (S1 := []) (c_X8_advance (zPl (m_X5_open_4 M ty x1) 2) ty h600 (zTq.e (zTq.of (m := zPl (m_X5_open_3 M ty x1) 2) (zTq.of (m := zPl (g_X5_readDeed (zPl x1.2.2 1) ty (g_X5_deedThere (zPl x1.2.2 1) ty) (x1.2.2 19 0)).2 1) (e_X5_readDeed (zPl x1.2.2 1) ty _ _ h600 (zTq.of (m := zPl x1.2.2 2) htw rfl)) rfl) rfl))) sub_X_2_Text k_X8_advance _ _ rfl rfl rfl (zIn (w := 4004) (by decide +kernel) rfl) (by decide +kernel) (by decide +kernel) rfl (Nat.le_of_ble_eq_true rfl) rfl ?_
                refine zT.eqM (M2 := (m_X5_open_5 M ty x1)) rfl ?_
                refine zT.run [(.iinc 3 1, 0, 0, 0), (.goto (-78), 0, 0, 0)] (pe := 19) (ls' := [some (.ref 1), some (.ref 19), some (.int (g_X5_readDeed (zPl x1.2.2 1) ty (g_X5_deedThere (zPl x1.2.2 1) ty) (x1.2.2 19 0)).1), some (.int (x1.2.1 + 1)), some (.retAddr ((g_X5_deedThere (zPl x1.2.2 1) ty)))]) (st' := []) (M' := (m_X5_open_5 M ty x1)) (by decide +kernel) rfl ?_
                refine zT.drop 4 ?_
                simp only [zDl]
                exact k1 ((g_X5_readDeed (zPl x1.2.2 1) ty (g_X5_deedThere (zPl x1.2.2 1) ty) (x1.2.2 19 0)).1, (x1.2.1 + 1), (m_X5_open_5 M ty x1)) (by simp only [f_X5_open_19, if_neg c1, if_pos c2, if_pos c3, if_pos c4, if_pos c5, if_pos c6])
              · skip
                refine zT.run [(.iconst 4, 0, 0, 0), (.istore_n 2, 0, 0, 0), (.iload_n 2, 0, 0, 0)] (pe := 84) (ls' := [some (.ref 1), some (.ref 19), some (.int 4), some (.int x1.2.1), some (.retAddr ((g_X5_deedThere (zPl x1.2.2 1) ty)))]) (st' := [.int 4]) (M' := (m_X5_open_4 M ty x1)) (by decide +kernel) rfl ?_
                refine zT.zne (tgt := 94) (off := 10) (by decide +kernel) (by decide) (fun _ => ?_) (fun c => absurd c (by decide))
                refine zT.run [(.iinc 3 1, 0, 0, 0), (.goto (-78), 0, 0, 0)] (pe := 19) (ls' := [some (.ref 1), some (.ref 19), some (.int 4), some (.int (x1.2.1 + 1)), some (.retAddr ((g_X5_deedThere (zPl x1.2.2 1) ty)))]) (st' := []) (M' := (m_X5_open_4 M ty x1)) (by decide +kernel) rfl ?_
                refine zT.drop 4 ?_
                simp only [zDl]
                exact k1 (4, (x1.2.1 + 1), (m_X5_open_4 M ty x1)) (by simp only [f_X5_open_19, if_neg c1, if_pos c2, if_pos c3, if_pos c4, if_pos c5, if_neg c6])
          · skip
            refine zT.cV_pure 1 (o := 0) (idx := 38) (av := []) (rv := (some (zDv (g_X5_deedThere (zPl x1.2.2 1) ty)))) (st := []) (S1 := [.null]) (c_X5_deedThere (zPl x1.2.2 1) ty h600 (zTq.of (m := zPl x1.2.2 2) htw rfl)) sub_X_1_Opener k_X5_deedThere _ _ rfl rfl rfl (zIn (w := 4034) (by decide +kernel) rfl) (by decide +kernel) (by decide +kernel) rfl (Nat.le_of_ble_eq_true rfl) (by unfold zDv; rw [if_neg c4]; rfl) ?_
            refine zT.run [(.astore 4, 0, 0, 0), (.aload 4, 0, 0, 0)] (pe := 48) (ls' := [some (.ref 1), some (.ref 19), some (.int x1.1), some (.int x1.2.1), some (.null)]) (st' := [.null]) (M' := x1.2.2) (by decide +kernel) rfl ?_
            refine zT.nnulN (off := 8) (by decide +kernel) ?_
            refine zT.run [(.iconst 1, 0, 0, 0), (.istore_n 2, 0, 0, 0), (.goto 30, 0, 0, 0), (.iload_n 2, 0, 0, 0)] (pe := 84) (ls' := [some (.ref 1), some (.ref 19), some (.int 1), some (.int x1.2.1), some (.null)]) (st' := [.int 1]) (M' := x1.2.2) (by decide +kernel) rfl ?_
            refine zT.zne (tgt := 94) (off := 10) (by decide +kernel) (by decide) (fun _ => ?_) (fun c => absurd c (by decide))
            refine zT.run [(.iinc 3 1, 0, 0, 0), (.goto (-78), 0, 0, 0)] (pe := 19) (ls' := [some (.ref 1), some (.ref 19), some (.int 1), some (.int (x1.2.1 + 1)), some (.null)]) (st' := []) (M' := x1.2.2) (by decide +kernel) rfl ?_
            refine zT.drop 4 ?_
            simp only [zDl]
            exact k1 (1, (x1.2.1 + 1), x1.2.2) (by simp only [f_X5_open_19, if_neg c1, if_pos c2, if_pos c3, if_neg c4])
  · skip
    have hwo := wr_open M ty h600 (v1.1, 0, v1.2) ⟨tqv1, djv1, 0, by decide, rfl⟩
    show zT _ _ _ _ (100, [some (.ref 1), some (.ref 19), some (.int (w_X5_open_19 M ty (v1.1, 0, v1.2)).1), some (.int (w_X5_open_19 M ty (v1.1, 0, v1.2)).2.1), none], [], (sh_X sl ext), (w_X5_open_19 M ty (v1.1, 0, v1.2)).2.2)
    refine zT.run [(.iload_n 2, 0, 0, 0)] (pe := 101) (ls' := [some (.ref 1), some (.ref 19), some (.int (w_X5_open_19 M ty (v1.1, 0, v1.2)).1), some (.int (w_X5_open_19 M ty (v1.1, 0, v1.2)).2.1), none]) (st' := [.int (w_X5_open_19 M ty (v1.1, 0, v1.2)).1]) (M' := (w_X5_open_19 M ty (v1.1, 0, v1.2)).2.2) (by decide +kernel) rfl ?_
    refine zT.zne (tgt := 111) (off := 10) (by decide +kernel) (by decide) (fun (c7 : ¬ (w_X5_open_19 M ty (v1.1, 0, v1.2)).1 = 0) => ?_) (fun (c7 : (w_X5_open_19 M ty (v1.1, 0, v1.2)).1 = 0) => ?_)
    · skip
      refine zT.run [(.bipush (-30), 0, 0, 0), (.bipush 8, 0, 0, 0), (.aload_n 0, 0, 0, 0), (.getfield 12, 3, 0, 1070), (.getfield 57, 6, 3, 1051), (.imul, 0, 0, 0), (.iload_n 2, 0, 0, 0), (.iadd, 0, 0, 0), (.isub, 0, 0, 0)] (pe := 126) (ls' := [some (.ref 1), some (.ref 19), some (.int (w_X5_open_19 M ty (v1.1, 0, v1.2)).1), some (.int (w_X5_open_19 M ty (v1.1, 0, v1.2)).2.1), none]) (st' := [.int ((-30) - ((8 * ((w_X5_open_19 M ty (v1.1, 0, v1.2)).2.2 2 3)) + (w_X5_open_19 M ty (v1.1, 0, v1.2)).1))]) (M' := (w_X5_open_19 M ty (v1.1, 0, v1.2)).2.2) (by decide +kernel) rfl ?_
      exact zT.iret (ty := Jvm.ClassFile.FieldType.int) (by unfold g_X5_open; (try rw [ev1]); first | done | rw [if_neg c7] | rfl) (by unfold g_X5_open; (try rw [ev1]); first | done | rw [if_neg c7] | rfl) rfl rfl (by decide +kernel)
    · skip
      refine zT.run [(.aload_n 1, 0, 0, 0), (.getfield 42, 2, 0, 1171), (.goto 18, 0, 0, 0)] (pe := 126) (ls' := [some (.ref 1), some (.ref 19), some (.int (w_X5_open_19 M ty (v1.1, 0, v1.2)).1), some (.int (w_X5_open_19 M ty (v1.1, 0, v1.2)).2.1), none]) (st' := [.int ((w_X5_open_19 M ty (v1.1, 0, v1.2)).2.2 19 0)]) (M' := (w_X5_open_19 M ty (v1.1, 0, v1.2)).2.2) (by decide +kernel) rfl ?_
      exact zT.iret (ty := Jvm.ClassFile.FieldType.int) (by unfold g_X5_open; (try rw [ev1]); first | done | rw [if_pos c7] | rfl) (by unfold g_X5_open; (try rw [ev1]); first | done | rw [if_pos c7] | rfl) rfl rfl (by decide +kernel)
theorem k_X5_open : zCal yy_X5_open 1 := ⟨⟨⟨⟨zIn (w := 3200) (by decide +kernel) rfl, zIn (w := 1002) (by decide +kernel) rfl⟩, by decide +kernel⟩, by decide +kernel⟩, ⟨zIn (w := 3198) (by decide +kernel) rfl, zIn (w := 3199) (by decide +kernel) rfl⟩⟩
