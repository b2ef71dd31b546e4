/-! THE REPLICAS, one after another, on both sides -/
theorem pS.cell {ty f a k : Nat} {M m : zM} (h : pS ty f a k M m) : M 1 3 = nI f ∧ m 0 15 = nI f ∧ f ≤ ty := by
  obtain ⟨⟨b1, z3, m15, z4, m14, hfa, hat, -⟩, -⟩ := h
  exact ⟨z3, m15, by omega⟩
/-- one replica is read -/
theorem rp_read {ty f a k i : Nat} {M m : zM} (h6 : ty ≤ 600) (hS : pS ty f a k M m) (hk : k ≠ 0) (hi : i < 9) (R R1 : Int32 × zM) (eR : R = g_X10_read (g_X10_scan m ty) ty 1 99) (eR1 : R1 = g_X10_read R.2 ty 0 999) :
    rD ty f (g_X5_readReplica M ty (nI i)).1 (g_X5_readReplica M ty (nI i)).2 R1.2 ∧ ((g_X5_readReplica M ty (nI i)).1 = 0 → ((g_X5_readReplica M ty (nI i)).2 3 0 = R.1 ∧ ¬ R.1 < 1 ∧ R.1 ≤ 99) ∧ (g_X5_readReplica M ty (nI i)).2 3 1 = R1.1 ∧ ¬ R1.1 < 0 ∧ R1.1 ≤ 999) := by
  have s1 := (cS.first h6 hS hk).step h6 0 5 (nI i) 1 99 (fit_n (nI i) (by decide) rfl rfl)
  rw [← eR] at s1
  have eD2 : d_X5_readReplica_3 M ty (nI i) = g_X5_readNumber (d_X5_readReplica_2 M ty (nI i)).2 ty 1 6 (nI i) := rfl
  have eD : d_X5_readReplica_2 M ty (nI i) = g_X5_readNumber (zPs M 1 2 (g_X8_advance (zPl M 1) ty)) ty 0 5 (nI i) := rfl
  rw [eD] at eD2
  unfold g_X5_readReplica
  rw [if_pos (show nI i < 9 from nI_lt (b := 9) hi (by decide)), eD2, eD]
  generalize g_X5_readNumber (zPs M 1 2 (g_X8_advance (zPl M 1) ty)) ty 0 5 (nI i) = D at *
  by_cases c : D.1 = 0
  · rw [if_pos c]
    have s1' := s1.1
    rw [c] at s1'
    have s2 := s1'.step h6 1 6 (nI i) 0 999 (fit_n (nI i) (by decide) rfl rfl)
    rw [← eR1] at s2
    generalize g_X5_readNumber D.2 ty 1 6 (nI i) = E at *
    by_cases c2 : E.1 = 0
    · rw [if_pos c2, ite_pr]
      exact ⟨s2.1.semi c2, fun _ => ⟨⟨((s2.2 c2).2.1 0 (by decide)).trans (s1.2 c).1, (s1.2 c).2.2⟩, (s2.2 c2).1, (s2.2 c2).2.2⟩⟩
    · rw [if_neg c2]
      exact ⟨(s2.1.bad h6 c2).1, fun q => absurd q c2⟩
  · rw [if_neg c]
    obtain ⟨g1, g2⟩ := s1.1.bad h6 c
    have e3 : R1 = (0, R.2) := by rw [eR1]; exact fs_read g2
    rw [e3]
    exact ⟨g1, fun q => absurd q c⟩
/-- an error, the same on both sides -/
def eS (ty b : Nat) (c : Int32) (X m : zM) : Prop := ∃ k f1, 1 ≤ k ∧ k ≤ b ∧ f1 ≤ ty ∧ c = nI k ∧ X 2 3 = nI f1 ∧ m 0 18 = nI (8 * f1 + k)
theorem eS.ne {ty b : Nat} {c : Int32} {X m : zM} (h6 : ty ≤ 600) (hb : b < 8) (h : eS ty b c X m) : ¬ c = 0 ∧ ¬ m 0 18 = 0 := by
  obtain ⟨k, f1, k1, k2, k3, rfl, -, e⟩ := h
  exact ⟨nI_ne0 (by omega) (by omega), by rw [e]; exact nz8 (by omega) k1 (by omega)⟩
/-- at a token, with i replicas -/
def iS (ty i : Nat) (X m : zM) : Prop := ∃ f a k, pS ty f a k (zPl X 1) m ∧ rl0 i (zPl X 19) m
theorem rp_step {ty i : Nat} {X m : zM} (h6 : ty ≤ 600) (h : iS ty i X m) (hi : i ≤ 9) (A B : zM) :
    (f_X5_readReplicas_23 A ty (nI i, X) = .inr (0, nI i, X) ∧ f_X10_replicas_0 B ty m = .inr m ∧ g_X10_isWord m ty 19 = 0) ∨
    (∃ X' m', f_X5_readReplicas_23 A ty (nI i, X) = .inl (nI (i + 1), X') ∧ f_X10_replicas_0 B ty m = .inl m' ∧ iS ty (i + 1) X' m' ∧ i < 9) ∨
    ∃ c X' m', f_X5_readReplicas_23 A ty (nI i, X) = .inr (c, nI i, X') ∧ f_X10_replicas_0 B ty m = .inl m' ∧ eS ty 3 c X' m' := by
  obtain ⟨f, a, k, hS, h0⟩ := h
  have eN : X 19 0 = nI i := h0.1.1.2.1
  have em : m 1 0 = nI i := h0.1.1.2.2
  have h2 := hS.at2
  have h18 := hS.2
  have ew : g_X8_isWord (zPl X 2) ty 19 = g_X10_isWord m ty 19 := word_eq h6 h2 h18 (by decide)
  have n9 : ¬ (9 : Int32) < nI i := nI_nlt (a := 9) hi (by decide)
  by_cases w : g_X10_isWord m ty 19 = 0
  · refine Or.inl ⟨?_, if_pos w, w⟩
    unfold f_X5_readReplicas_23
    dsimp only
    rw [if_neg n9, ew, if_pos w]
  · have hk : k ≠ 0 := fun q => w (by
      have m16 := hS.1.2.2.2.2.2.2.2.2.2.1
      unfold g_X10_isWord
      rw [h18, if_pos rfl, m16, q]
      exact if_neg (by decide))
    right
    have eC : f_X5_readReplicas_23 A ty (nI i, X) = if (g_X5_readReplica (zPl X 1) ty (nI i)).1 = 0 then .inl (nI i + 1, m_X5_readReplicas_4 A ty (nI i, X)) else .inr ((g_X5_readReplica (zPl X 1) ty (nI i)).1, nI i, m_X5_readReplicas_2 A ty (nI i, X)) := by
      unfold f_X5_readReplicas_23
      dsimp only
      rw [if_neg n9, ew, if_neg w]
      show (if (g_X5_readReplica (zPl X 1) ty (X 19 0)).1 = 0 then _ else _) = _
      rw [eN]
    have eM2 : m_X5_readReplicas_2 A ty (nI i, X) = zPs X 1 4 (g_X5_readReplica (zPl X 1) ty (nI i)).2 := by
      unfold m_X5_readReplicas_2
      dsimp only
      rw [eN]
    by_cases c9 : i = 9
    · subst c9
      right
      have e3 : g_X5_readReplica (zPl X 1) ty (nI 9) = (3, zPl X 1) := by
        unfold g_X5_readReplica
        exact if_neg (by decide)
      obtain ⟨z3, m15, hf⟩ := hS.cell
      obtain ⟨w1, -, -⟩ := w_ok (c := 3) h18 m15
      have w1' : ¬ g_X10_wrong m 3 0 18 = 0 := by
        rw [show g_X10_wrong m 3 0 18 = nI (8 * f + 3) from w1]
        exact nz8 (by omega) (by decide) (by decide)
      refine ⟨3, zPs X 1 4 (zPl X 1), g_X10_wrong m 3, ?_, ?_, 3, f, by decide, by decide, hf, rfl, ?_, w1⟩
      · rw [eC, eM2, e3, if_neg (show ¬ (3 : Int32) = 0 by decide)]
      · unfold f_X10_replicas_0
        rw [if_neg w, if_pos (show m 1 0 = 9 from em)]
        have g9 : d_X10_replicas_9 B ty m = g_X10_wrong m 3 := by
          unfold d_X10_replicas_9 d_X10_replicas_8
          exact fs_goOn w1'
        have g10 : d_X10_replicas_10 B ty m = (0, g_X10_wrong m 3) := by
          unfold d_X10_replicas_10
          rw [g9]
          exact fs_read w1'
        have g11 : d_X10_replicas_11 B ty m = (0, g_X10_wrong m 3) := by
          unfold d_X10_replicas_11
          rw [g10]
          exact fs_read w1'
        have g12 : d_X10_replicas_12 B ty m = (0, g_X10_wrong m 3) := by
          unfold d_X10_replicas_12
          rw [g11]
          exact fs_ends w1'
        have g13 : d_X10_replicas_13 B ty m = g_X10_wrong m 3 := by
          unfold d_X10_replicas_13
          rw [g12]
          exact fs_goOn w1'
        rw [g12, g13, if_pos (show (0 : Int32) = 0 from rfl)]
      · rw [zPs_in (by decide) (by decide)]
        exact z3
    · have hi9 : i < 9 := by omega
      have n9' : ¬ m 1 0 = 9 := by
        rw [em]
        exact fun q => c9 ((nI_eq9 (b := 9) (by omega) (by decide)).mp q)
      have eF : f_X10_replicas_0 B ty m = if (d_X10_replicas_4 B ty m).1 = 0 then .inl (d_X10_replicas_5 B ty m) else .inl (d_X10_replicas_7 B ty m) := by
        unfold f_X10_replicas_0
        rw [if_neg w, if_neg n9']
      have g1 : d_X10_replicas_1 B ty m = g_X10_scan m ty := goOn_0 h18
      obtain ⟨q1, q2⟩ := rp_read h6 hS hk hi9 (d_X10_replicas_2 B ty m) (d_X10_replicas_3 B ty m) (by unfold d_X10_replicas_2; rw [g1]) rfl
      have eD4 : d_X10_replicas_4 B ty m = g_X10_ends (d_X10_replicas_3 B ty m).2 0 := rfl
      have eD5 : d_X10_replicas_5 B ty m = g_X10_goOn (d_X10_replicas_4 B ty m).2 ty := rfl
      have eD6 : d_X10_replicas_6 B ty m = g_X10_addReplica (d_X10_replicas_4 B ty m).2 i (d_X10_replicas_2 B ty m).1 (d_X10_replicas_3 B ty m).1 := by
        unfold d_X10_replicas_6
        rw [em, nI_clamp (by omega)]
      have eD7 : d_X10_replicas_7 B ty m = g_X10_goOn (d_X10_replicas_6 B ty m) ty := rfl
      have hm1 : (d_X10_replicas_3 B ty m).2 1 = m 1 := by
        unfold d_X10_replicas_3 d_X10_replicas_2
        rw [g1, fr_X10_read _ _ _ _ 1 (by decide), fr_X10_read _ _ _ _ 1 (by decide), fr_X10_scan _ _ 1 (by decide)]
      generalize d_X10_replicas_4 B ty m = D4 at *
      generalize d_X10_replicas_5 B ty m = D5 at *
      generalize d_X10_replicas_6 B ty m = D6 at *
      generalize d_X10_replicas_7 B ty m = D7 at *
      generalize d_X10_replicas_3 B ty m = D3 at *
      generalize d_X10_replicas_2 B ty m = D2 at *
      have he := q1.ends h6 0
      rw [ens_0, ← eD4] at he
      rcases he with ⟨hc, f1, a1, p1, p2, p3⟩ | ⟨kk, f1, k1, k2, p1, p2, p3, p4, p5⟩
      · rcases p3 with ⟨-, r2⟩ | ⟨r1, -⟩
        · left
          rw [r2] at eF eD5 eD6
          rw [if_neg (show ¬ (1 : Int32) = 0 by decide)] at eF
          rw [hc, if_pos (show (0 : Int32) = 0 from rfl), nI_1] at eC
          refine ⟨_, _, eC, eF, ?_, hi9⟩
          obtain ⟨⟨v1, v2, v3⟩, v4, v5, v6⟩ := q2 hc
          obtain ⟨ag, hag, eag⟩ := num_of 99 (by decide) (fun q => v2 (Int32.lt_of_lt_of_le q (by decide))) v3
          obtain ⟨fs, hfs, efs⟩ := num_of 999 (by decide) v5 v6
          have hadd := st_add (n := i) (N := zPl X 19) (M := D3.2) (h0.eq (fun _ _ => rfl) hm1) hi9 ⟨ag, hag, eag⟩ ⟨fs, hfs, efs⟩
          have f6 : ∀ o, o ≠ 1 → D6 o = D3.2 o := fun o ho => by rw [eD6]; exact fr_X10_addReplica _ _ _ _ o ho
          have eM4 : m_X5_readReplicas_4 A ty (nI i, X) = zPs (m_X5_readReplicas_3 A ty (nI i, X)) 2 2 (g_X8_advance (zPl (m_X5_readReplicas_3 A ty (nI i, X)) 2) ty) := rfl
          have eM3 : m_X5_readReplicas_3 A ty (nI i, X) = zPs (m_X5_readReplicas_2 A ty (nI i, X)) 19 14 (g_X4_addReplica (zPl X 19) i D2.1 D3.1) := by
            unfold m_X5_readReplicas_3
            dsimp only
            rw [eN, v1, v4, nI_clamp (by omega)]
            have : ∀ o, o < 14 → zPl (m_X5_readReplicas_2 A ty (nI i, X)) 19 o = zPl X 19 o := fun o _ => by
              show m_X5_readReplicas_2 A ty (nI i, X) (19 + o) = X (19 + o)
              rw [eM2]
              exact zPs_out (by omega)
            rw [show zPl (m_X5_readReplicas_2 A ty (nI i, X)) 19 = zPl X 19 from funext fun o => by
              show m_X5_readReplicas_2 A ty (nI i, X) (19 + o) = X (19 + o)
              rw [eM2]
              exact zPs_out (by omega)]
          have hk3 : kR ty f1 a1 3 (zPl (m_X5_readReplicas_3 A ty (nI i, X)) 2) D6 := by
            refine p2.1.of ?_ ?_ (f6 18 (by decide)) (fun j _ => by rw [f6 0 (by decide)])
            · show m_X5_readReplicas_3 A ty (nI i, X) 2 = _
              rw [eM3, zPs_out (by decide), eM2, zPs_in (by decide) (by decide)]
              rfl
            · show m_X5_readReplicas_3 A ty (nI i, X) 3 = _
              rw [eM3, zPs_out (by decide), eM2, zPs_in (by decide) (by decide)]
              rfl
          have h618 : D6 0 18 = 0 := by rw [f6 0 (by decide)]; exact p2.2
          obtain ⟨f', a', k', t1, t2⟩ := adv2 h6 hk3 h618
          rw [← eM4] at t2
          have e7 : D7 = g_X10_scan D6 ty := by rw [eD7]; exact goOn_0 h618
          rw [e7]
          refine ⟨f', a', k', t2, hadd.eq (fun o ho => ?_) (by rw [fr_X10_scan _ _ 1 (by decide), eD6])⟩
          show m_X5_readReplicas_4 A ty (nI i, X) (19 + o) = _
          rw [eM4, zPs_out (by omega), eM3, zPs_in (by omega) (by omega), show 19 + o - 19 = o by omega]
        · exact absurd rfl r1
      · right
        have p3' : ¬ (g_X5_readReplica (zPl X 1) ty (nI i)).1 = 0 := by rw [p2]; exact nI_ne0 (by omega) (by omega)
        have p5' : ¬ D4.2 0 18 = 0 := by rw [p5]; exact nz8 (by omega) k1 (by omega)
        rw [if_neg p3'] at eC
        rw [if_pos p4, eD5, fs_goOn p5'] at eF
        refine ⟨_, _, _, eC, eF, kk, f1, k1, by omega, p1, p2, ?_, p5⟩
        rw [eM2, zPs_in (by decide) (by decide)]
        exact p3
theorem rp_loop {ty : Nat} (h6 : ty ≤ 600) (A B : zM) : ∀ j i, i + j = 9 → ∀ X m, iS ty i X m → ∀ kc km, j + 1 < kc → j + 2 < km → ((zWr (fun (x : Int32 × zM) => ((0 : Int32), x)) (f_X5_readReplicas_23 A ty) kc (nI i, X)).1 = 0 ∧ ∃ i', i' ≤ 9 ∧ iS ty i' (zWr (fun (x : Int32 × zM) => ((0 : Int32), x)) (f_X5_readReplicas_23 A ty) kc (nI i, X)).2.2 (zWr (fun (m : zM) => m) (f_X10_replicas_0 B ty) km m)) ∨
    eS ty 3 (zWr (fun (x : Int32 × zM) => ((0 : Int32), x)) (f_X5_readReplicas_23 A ty) kc (nI i, X)).1 (zWr (fun (x : Int32 × zM) => ((0 : Int32), x)) (f_X5_readReplicas_23 A ty) kc (nI i, X)).2.2 (zWr (fun (m : zM) => m) (f_X10_replicas_0 B ty) km m) := by
  intro j
  induction j with
  | zero =>
    intro i hij X m h kc km hkc hkm
    obtain ⟨kc, rfl⟩ : ∃ z, kc = z + 1 := ⟨kc - 1, by omega⟩
    obtain ⟨km, rfl⟩ : ∃ z, km = z + 2 := ⟨km - 2, by omega⟩
    rcases rp_step h6 h (by omega) A B with ⟨e1, e2, -⟩ | ⟨X', m', -, -, -, q⟩ | ⟨c, X', m', e1, e2, e3⟩
    · rw [zWr, e1, zWr, e2]
      exact Or.inl ⟨rfl, i, by omega, h⟩
    · exact absurd q (by omega)
    · have e4 : f_X10_replicas_0 B ty m' = .inr m' := if_pos (wd_not (e3.ne h6 (by decide)).2)
      rw [zWr, e1, zWr, e2]
      dsimp only
      rw [zWr, e4]
      exact Or.inr e3
  | succ j ih =>
    intro i hij X m h kc km hkc hkm
    obtain ⟨kc, rfl⟩ : ∃ z, kc = z + 1 := ⟨kc - 1, by omega⟩
    obtain ⟨km, rfl⟩ : ∃ z, km = z + 2 := ⟨km - 2, by omega⟩
    rcases rp_step h6 h (by omega) A B with ⟨e1, e2, -⟩ | ⟨X', m', e1, e2, e3, q⟩ | ⟨c, X', m', e1, e2, e3⟩
    · rw [zWr, e1, zWr, e2]
      exact Or.inl ⟨rfl, i, by omega, h⟩
    · have := ih (i + 1) (by omega) X' m' e3 kc (km + 1) (by omega) (by omega)
      rw [zWr, e1, show km + 2 = km + 1 + 1 from rfl, zWr, e2]
      exact this
    · have e4 : f_X10_replicas_0 B ty m' = .inr m' := if_pos (wd_not (e3.ne h6 (by decide)).2)
      rw [zWr, e1, zWr, e2]
      dsimp only
      rw [zWr, e4]
      exact Or.inr e3
