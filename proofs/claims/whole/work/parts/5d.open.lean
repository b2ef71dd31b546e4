/-! A TEXT IS OPENED, on both sides: its head -/
theorem isDeed_0 {m : zM} {ty : Nat} (hw : ∀ i, i < 15 → g_X10_isWord m ty i = 0) : g_X10_isDeed m ty = 0 := by
  unfold g_X10_isDeed
  rw [hw 0 (by decide), hw 1 (by decide), hw 2 (by decide), hw 3 (by decide), hw 4 (by decide), hw 5 (by decide), hw 6 (by decide), hw 7 (by decide), hw 8 (by decide), hw 9 (by decide), hw 10 (by decide), hw 11 (by decide), hw 12 (by decide), hw 13 (by decide), hw 14 (by decide)]
  decide
theorem isDeed_1 {m : zM} {ty d : Nat} (hd : d < 15) (hw : ∀ i, i < 15 → g_X10_isWord m ty i = bI (i == d)) : ¬ g_X10_isDeed m ty = 0 := by
  unfold g_X10_isDeed
  rw [hw 0 (by decide), hw 1 (by decide), hw 2 (by decide), hw 3 (by decide), hw 4 (by decide), hw 5 (by decide), hw 6 (by decide), hw 7 (by decide), hw 8 (by decide), hw 9 (by decide), hw 10 (by decide), hw 11 (by decide), hw 12 (by decide), hw 13 (by decide), hw 14 (by decide)]
  clear hw
  revert d
  decide +kernel
/-- behind the replicas: at a deed or the end; an error; or an error that the class has not told yet -/
def hSt (ty : Nat) (c : Int32) (X m : zM) : Prop := (c = 0 ∧ ∃ n f a k, 2 ≤ n ∧ pS ty f a k (zPl X 1) m ∧ rl n 0 0 (zPl X 19) (m 1)) ∨ eS ty 3 c X m ∨ (c = 0 ∧ ∃ f, f ≤ ty ∧ X 2 3 = nI f ∧ m 0 18 = nI (8 * f + 1) ∧ g_X8_isEnd (zPl X 2) = 0 ∧ ¬ g_X5_deedThere (zPl X 1) ty < 15)
theorem end_at {ty f a k : Nat} {Z m : zM} (h : kR ty f a k Z m) : (k = 0 → m 0 16 = 0 ∧ ¬ g_X8_isEnd Z = 0) ∧ (k ≠ 0 → ¬ m 0 16 = 0 ∧ g_X8_isEnd Z = 0) := by
  obtain ⟨b1, z3, m15, z4, m14, hfa, hat, hk5, z2, m16, -⟩ := h
  refine ⟨fun e => ?_, fun e => ?_⟩
  · subst e
    refine ⟨m16, ?_⟩
    unfold g_X8_isEnd
    rw [z2, if_pos (show nI 0 = 0 from rfl)]
    decide
  · refine ⟨?_, ?_⟩
    · rw [m16]
      have : ∀ k, k < 5 → k ≠ 0 → ¬ nI (qKd k) = 0 := by decide +kernel
      exact this k hk5 e
    · unfold g_X8_isEnd
      rw [z2, if_neg (nI_ne0 (by omega) (by omega))]
theorem op_repl {ty f a k : Nat} {Y m : zM} (h6 : ty ≤ 600) (hS : pS ty f a k (zPl Y 1) m) (h0 : ∀ Z, rl0 0 (zPl Y 19) (g_X10_begin Z)) : hSt ty (g_X5_readReplicas Y ty).1 (g_X5_readReplicas Y ty).2 (if g_X10_isWord m ty 18 = 0 then g_X10_wrong m 1 else g_X10_replicas (g_X10_begin (g_X10_scan m ty)) ty) := by
  obtain ⟨z3, m15, hf⟩ := hS.cell
  have h18 := hS.2
  have ew : g_X8_isWord (zPl Y 2) ty 18 = g_X10_isWord m ty 18 := word_eq h6 hS.at2 h18 (by decide)
  unfold g_X5_readReplicas
  rw [ew]
  by_cases w : g_X10_isWord m ty 18 = 0
  · rw [if_pos w, if_pos w]
    exact Or.inr (Or.inl ⟨1, f, by decide, by decide, hf, rfl, z3, (w_ok (c := 1) h18 m15).1⟩)
  · rw [if_neg w, if_neg w]
    have hi : iS ty 0 (m_X5_readReplicas_1 Y ty) (g_X10_begin (g_X10_scan m ty)) := by
      obtain ⟨f', a', k', t1, t2⟩ := adv2 h6 hS.at2 h18
      have fb : ∀ o, o ≠ 1 → g_X10_begin (g_X10_scan m ty) o = g_X10_scan m ty o := fun o ho => fr_X10_begin _ o ho
      refine ⟨f', a', k', ⟨t2.1.of rfl rfl (fb 18 (by decide)) (fun j _ => by rw [fb 0 (by decide)]), (congrFun (fb 0 (by decide)) 18).trans t2.2⟩, (h0 (g_X10_scan m ty)).eq (fun o ho => ?_) rfl⟩
      show m_X5_readReplicas_1 Y ty (19 + o) = Y (19 + o)
      unfold m_X5_readReplicas_1
      exact zPs_out (by omega)
    have hL := rp_loop h6 Y (g_X10_begin (g_X10_scan m ty)) 9 0 rfl _ _ hi (11 + ty) 1202 (by omega) (by decide)
    unfold g_X10_replicas d_X10_replicas_19 d_X10_replicas_18 d_X10_replicas_17 d_X10_replicas_16
    have eW : w_X5_readReplicas_23 Y ty (0, m_X5_readReplicas_1 Y ty) = zWr (fun (x : Int32 × zM) => ((0 : Int32), x)) (f_X5_readReplicas_23 Y ty) (11 + ty) (nI 0, m_X5_readReplicas_1 Y ty) := by
      unfold w_X5_readReplicas_23
      rw [nI_0]
    have eV : w_X10_replicas_0 (g_X10_begin (g_X10_scan m ty)) ty (g_X10_begin (g_X10_scan m ty)) = zWr (fun (m : zM) => m) (f_X10_replicas_0 (g_X10_begin (g_X10_scan m ty)) ty) 1202 (g_X10_begin (g_X10_scan m ty)) := by
      unfold w_X10_replicas_0
      rfl
    rw [← eW, ← eV] at hL
    generalize w_X5_readReplicas_23 Y ty (0, m_X5_readReplicas_1 Y ty) = W at *
    generalize w_X10_replicas_0 (g_X10_begin (g_X10_scan m ty)) ty (g_X10_begin (g_X10_scan m ty)) = V at *
    rcases hL with ⟨hW, i, hi9, f', a', k', p1, p2⟩ | he
    · obtain ⟨y3, v15, hf'⟩ := p1.cell
      have v18 := p1.2
      have e19 : W.2.2 19 0 = nI i := p2.1.1.2.1
      have e10 : V 1 0 = nI i := p2.1.1.2.2
      have ee := end_at p1.at2
      have w3 := (w_ok (c := 3) v18 v15).1
      have w1 := (w_ok (c := 1) v18 v15).1
      have w1n : ¬ g_X10_wrong V 1 0 18 = 0 := by
        rw [show g_X10_wrong V 1 0 18 = nI (8 * f' + 1) from w1]
        exact nz8 (by omega) (by decide) (by decide)
      rw [if_pos hW, if_pos v18, e19, e10]
      by_cases c0 : k' = 0
      · rw [if_pos (ee.1 c0).1, if_neg (ee.1 c0).2]
        by_cases c2 : i < 2
        · rw [if_pos (show nI i < 2 from nI_lt (b := 2) c2 (by decide)), if_neg (show ¬ (2 : Int32) ≤ nI i from nI_ge (b := 2) c2 (by decide))]
          exact Or.inr (Or.inl ⟨3, f', by decide, by decide, hf', rfl, y3, w3⟩)
        · rw [if_neg (show ¬ nI i < 2 from nI_nlt (b := 2) (by omega) (by omega)), if_pos (show (2 : Int32) ≤ nI i from nI_le (a := 2) (by omega) (by omega))]
          exact Or.inl ⟨rfl, i, f', a', k', by omega, p1, p2.1⟩
      · rw [if_neg (ee.2 c0).1, if_pos (ee.2 c0).2]
        rcases wd_there h6 p1 with ⟨hd, hw⟩ | ⟨hd, hw⟩
        · rw [if_pos hd, if_neg (isDeed_1 hd hw)]
          by_cases c2 : i < 2
          · rw [if_pos (show nI i < 2 from nI_lt (b := 2) c2 (by decide)), if_neg (show ¬ (2 : Int32) ≤ nI i from nI_ge (b := 2) c2 (by decide))]
            exact Or.inr (Or.inl ⟨3, f', by decide, by decide, hf', rfl, y3, w3⟩)
          · rw [if_neg (show ¬ nI i < 2 from nI_nlt (b := 2) (by omega) (by omega)), if_pos (show (2 : Int32) ≤ nI i from nI_le (a := 2) (by omega) (by omega))]
            exact Or.inl ⟨rfl, i, f', a', k', by omega, p1, p2.1⟩
        · have hnd : ¬ g_X5_deedThere (zPl W.2.2 1) ty < 15 := by omega
          rw [if_neg hnd, if_pos (isDeed_0 hw), if_neg w1n]
          by_cases c2 : i < 2
          · rw [if_pos (show nI i < 2 from nI_lt (b := 2) c2 (by decide))]
            exact Or.inr (Or.inl ⟨1, f', by decide, by decide, hf', rfl, y3, w1⟩)
          · rw [if_neg (show ¬ nI i < 2 from nI_nlt (b := 2) (by omega) (by omega))]
            exact Or.inr (Or.inr ⟨rfl, f', hf', y3, w1, (ee.2 c0).2, hnd⟩)
    · have hn := he.ne h6 (by decide)
      rw [if_neg hn.1, if_neg hn.2]
      exact Or.inr (Or.inl he)
/-! ITS DEEDS -/
def oSt (ty : Nat) (c : Int32) (X m : zM) : Prop := (c = 0 ∧ m 0 18 = 0 ∧ ∃ n oz, 2 ≤ n ∧ rl n oz 600 (zPl X 19) (m 1)) ∨ eS ty 4 c X m
theorem op_none {m : zM} {ty n oz f : Nat} (hf : f ≤ 600) (h18 : m 0 18 = 0) (m15 : m 0 15 = nI f) (hw : ∀ i, i < 15 → g_X10_isWord m ty i = 0) : g_X10_deed m ty n oz 0 18 = nI (8 * f + 1) := by
  have w1 := (w_ok (c := 1) h18 m15).1
  have w1n : ¬ g_X10_wrong m 1 0 18 = 0 := by
    rw [show g_X10_wrong m 1 0 18 = nI (8 * f + 1) from w1]
    exact nz8 hf (by decide) (by decide)
  have e11 : d_X10_bareDeed_11 m ty n oz = g_X10_wrong m 1 := fs_goOn w1n
  have e12 : d_X10_bareDeed_12 m ty n oz = (0, g_X10_wrong m 1) := by
    unfold d_X10_bareDeed_12
    rw [e11]
    exact fs_ends w1n
  have e : g_X10_deed m ty n oz = g_X10_wrong m 1 := by
    unfold g_X10_deed
    rw [if_pos (hw 0 (by decide)), if_pos (hw 1 (by decide)), if_pos (hw 2 (by decide)), if_pos (hw 3 (by decide)), if_pos (hw 4 (by decide)), if_pos (hw 7 (by decide)), if_pos (hw 5 (by decide)), if_pos (hw 9 (by decide)), if_pos (hw 12 (by decide)), if_pos (hw 11 (by decide)), if_pos (hw 14 (by decide)), if_pos (hw 13 (by decide))]
    unfold d_X10_deed_16 g_X10_bareDeed
    rw [if_pos (hw 6 (by decide)), if_pos (hw 8 (by decide)), if_pos (hw 10 (by decide)), e12, if_pos (show (0 : Int32) = 0 from rfl)]
  rw [e]
  exact w1
theorem op_stop {A X : zM} {ty : Nat} {c t : Int32} (hc : ¬ c = 0) : f_X5_open_19 A ty (c, t, X) = .inr (c, t, X) := by
  unfold f_X5_open_19
  dsimp only
  split
  · rfl
  · first | rfl | rw [if_neg hc]
theorem op_step {t n oz ty f a k : Nat} {X m : zM} (h6 : ty ≤ 600) (hS : pS ty f a k (zPl X 1) m) (h2 : 2 ≤ n) (hr : rl n oz t (zPl X 19) (m 1)) (htf : t ≤ f) (A : zM) :
    (f_X5_open_19 A ty (0, nI t, X) = .inr (0, nI t, X) ∧ zQg ty m = .inr m) ∨
    (∃ X' m' f' a' k' oz', f_X5_open_19 A ty (0, nI t, X) = .inl (0, nI (t + 1), X') ∧ zQg ty m = .inl m' ∧ pS ty f' a' k' (zPl X' 1) m' ∧ rl n oz' (t + 1) (zPl X' 19) (m' 1) ∧ f + 1 ≤ f') ∨
    ∃ c X' m', f_X5_open_19 A ty (0, nI t, X) = .inl (c, nI (t + 1), X') ∧ zQg ty m = .inl m' ∧ eS ty 4 c X' m' := by
  have h18 := hS.2
  obtain ⟨z3, m15, hf⟩ := hS.cell
  have ee := end_at hS.at2
  have eN : X 19 0 = nI n := hr.1.2.1
  have h9 : n ≤ 9 := hr.1.1
  have em : m 1 0 = nI n := hr.1.2.2
  have hoz : m 1 9 = nI oz := hr.2.2.2.2.2.2.2.2.2.2.2.2.1.2.2.1
  have hoz12 : oz ≤ 12 := hr.2.2.2.2.2.2.2.2.2.2.2.2.1.1
  have eQ : zQg ty m = if m 0 16 = 0 then .inr m else .inl (g_X10_goOn (g_X10_deed m ty n oz) ty) := by
    unfold zQg zQd
    rw [if_pos h18, em, hoz, nI_clamp (by omega), nI_clamp (by omega)]
  by_cases c0 : k = 0
  · refine Or.inl ⟨?_, by rw [eQ, if_pos (ee.1 c0).1]⟩
    unfold f_X5_open_19
    dsimp only
    split
    · rfl
    · rw [if_pos rfl, if_neg (ee.1 c0).2]
  · have hfa : f < a := hS.1.2.2.2.2.2.2.2.2.2.2.2.2 c0
    have hat : a ≤ ty := hS.1.2.2.2.2.2.2.1
    rw [if_neg (ee.2 c0).1] at eQ
    right
    have n6 : ¬ (600 : Int32) ≤ nI t := nI_ge (b := 600) (by omega) (by decide)
    have eM3 : m_X5_open_3 A ty (0, nI t, X) = zPs X 1 4 (g_X5_readDeed (zPl X 1) ty (g_X5_deedThere (zPl X 1) ty) (nI n)).2 := by
      unfold m_X5_open_3
      dsimp only
      rw [eN]
    rcases wd_there h6 hS with ⟨hd, hw⟩ | ⟨hd, hw⟩
    · generalize hdd : g_X5_deedThere (zPl X 1) ty = d at *
      have eC : f_X5_open_19 A ty (0, nI t, X) = if (g_X5_readDeed (zPl X 1) ty d (nI n)).1 = 0 then (if 0 ≤ (zPf (zPl (m_X5_open_3 A ty (0, nI t, X)) 19) (m_X5_open_3 A ty (0, nI t, X) 4) d).1 then .inl ((g_X5_readDeed (zPl X 1) ty d (nI n)).1, nI t + 1, m_X5_open_5 A ty (0, nI t, X)) else .inl (4, nI t + 1, m_X5_open_4 A ty (0, nI t, X))) else .inl ((g_X5_readDeed (zPl X 1) ty d (nI n)).1, nI t + 1, m_X5_open_3 A ty (0, nI t, X)) := by
        unfold f_X5_open_19
        dsimp only
        rw [if_neg n6, if_pos rfl, if_pos (ee.2 c0).2]
        show (if g_X5_deedThere (zPl X 1) ty < 15 then (if (g_X5_readDeed (zPl X 1) ty (g_X5_deedThere (zPl X 1) ty) (X 19 0)).1 = 0 then (if 0 ≤ (zPf (zPl (m_X5_open_3 A ty (0, nI t, X)) 19) (m_X5_open_3 A ty (0, nI t, X) 4) (g_X5_deedThere (zPl X 1) ty)).1 then _ else _) else _) else _) = _
        rw [hdd, if_pos hd, eN]
      have eM4 : m_X5_open_4 A ty (0, nI t, X) = zPs (m_X5_open_3 A ty (0, nI t, X)) 19 14 (zPf (zPl (m_X5_open_3 A ty (0, nI t, X)) 19) (m_X5_open_3 A ty (0, nI t, X) 4) d).2 := by
        unfold m_X5_open_4
        dsimp only
        rw [hdd]
      have eM5 : m_X5_open_5 A ty (0, nI t, X) = zPs (m_X5_open_4 A ty (0, nI t, X)) 2 2 (g_X8_advance (zPl (m_X5_open_4 A ty (0, nI t, X)) 2) ty) := rfl
      have e319 : zPl (m_X5_open_3 A ty (0, nI t, X)) 19 = zPl X 19 := funext fun o => by
        show m_X5_open_3 A ty (0, nI t, X) (19 + o) = X (19 + o)
        rw [eM3]
        exact zPs_out (by omega)
      have e34 : m_X5_open_3 A ty (0, nI t, X) 4 = (g_X5_readDeed (zPl X 1) ty d (nI n)).2 3 := by
        rw [eM3, zPs_in (by decide) (by decide)]
      rw [e319, e34, nI_1] at eC
      rw [e319, e34] at eM4
      have hD := is_deed h6 hS c0 hr (by omega) (by omega) hd hw
      generalize g_X10_deed m ty n oz = D at *
      generalize zPf (zPl X 19) ((g_X5_readDeed (zPl X 1) ty d (nI n)).2 3) d = P at *
      generalize g_X5_readDeed (zPl X 1) ty d (nI n) = R at *
      generalize m_X5_open_3 A ty (0, nI t, X) = M3 at *
      generalize m_X5_open_4 A ty (0, nI t, X) = M4 at *
      generalize m_X5_open_5 A ty (0, nI t, X) = M5 at *
      have t23 : M3 2 = R.2 1 := by rw [eM3, zPs_in (by decide) (by decide)]
      have t33 : M3 3 = R.2 2 := by rw [eM3, zPs_in (by decide) (by decide)]
      have t24 : M4 2 = R.2 1 := by rw [eM4, zPs_out (by decide), t23]
      have t34 : M4 3 = R.2 2 := by rw [eM4, zPs_out (by decide), t33]
      rcases hD with ⟨r1, r2, oz', f1, a1, r3, r4, r5⟩ | ⟨r1, r2, f1, r3, r4, r5⟩ | ⟨kk, f1, k1, k2, r3, r4, r5, r6⟩
      · left
        rw [if_pos r1, if_pos r2, r1] at eC
        rw [goOn_0 r5.2] at eQ
        have hk : kR ty f1 a1 3 (zPl M4 2) D := r5.1.of t24 t34 rfl (fun _ _ => rfl)
        obtain ⟨f', a', k', q1, q2⟩ := adv2 h6 hk r5.2
        rw [← eM5] at q2
        refine ⟨_, _, f', a', k', oz', eC, eQ, q2, r4.eq (fun o ho => ?_) (fun k _ => by rw [fr_X10_scan D ty 1 (by decide)]), ?_⟩
        · show M5 (19 + o) = P.2 o
          rw [eM5, zPs_out (by omega), eM4, zPs_in (by omega) (by omega), show 19 + o - 19 = o by omega]
        · have := r5.1.2.2.2.2.2.1
          omega
      · right
        rw [if_pos r1, if_neg r2] at eC
        rw [fs_goOn (by rw [r5]; exact nz8 (by omega) (by decide) (by decide))] at eQ
        exact ⟨4, _, _, eC, eQ, 4, f1, by decide, by decide, r3, rfl, by rw [t24]; exact r4, r5⟩
      · right
        rw [if_neg (by rw [r4]; exact nI_ne0 (by omega) (by omega))] at eC
        rw [fs_goOn (by rw [r6]; exact nz8 (by omega) k1 (by omega))] at eQ
        exact ⟨_, _, _, eC, eQ, kk, f1, k1, by omega, r3, r4, by rw [t23]; exact r5, r6⟩
    · right
      have w1 := op_none (n := n) (oz := oz) (by omega) h18 m15 hw
      rw [fs_goOn (by rw [w1]; exact nz8 (by omega) (by decide) (by decide))] at eQ
      refine ⟨1, X, _, ?_, eQ, 1, f, by decide, by decide, hf, rfl, z3, w1⟩
      unfold f_X5_open_19
      dsimp only
      rw [if_neg n6, if_pos rfl, if_pos (ee.2 c0).2, if_neg (show ¬ g_X5_deedThere (zPl X 1) ty < 15 by omega), nI_1]
theorem op_loop {ty n : Nat} (h6 : ty ≤ 600) (h2 : 2 ≤ n) (A : zM) : ∀ j t oz f a k X m, pS ty f a k (zPl X 1) m → rl n oz t (zPl X 19) (m 1) → t ≤ f → ty ≤ f + j → ∀ kc km, j + 1 < kc → j + 1 < km → oSt ty (zWr (fun (x : Int32 × Int32 × zM) => x) (f_X5_open_19 A ty) kc (0, nI t, X)).1 (zWr (fun (x : Int32 × Int32 × zM) => x) (f_X5_open_19 A ty) kc (0, nI t, X)).2.2 (zWr (fun (m : zM) => m) (zQg ty) km m) := by
  intro j
  induction j with
  | zero =>
    intro t oz f a k X m hS hr htf hj kc km hkc hkm
    obtain ⟨kc, rfl⟩ : ∃ z, kc = z + 2 := ⟨kc - 2, by omega⟩
    obtain ⟨km, rfl⟩ : ∃ z, km = z + 2 := ⟨km - 2, by omega⟩
    have hf := hS.cell.2.2
    rcases op_step h6 hS h2 hr htf A with ⟨e1, e2⟩ | ⟨X', m', f', a', k', oz', e1, e2, e3, -, q⟩ | ⟨c, X', m', e1, e2, e3⟩
    · rw [zWr, e1, zWr, e2]
      exact Or.inl ⟨rfl, hS.2, n, oz, h2, hr.up (by omega)⟩
    · have := e3.cell.2.2
      omega
    · have hn := e3.ne h6 (by decide)
      have e4 : zQg ty m' = .inr m' := if_neg hn.2
      rw [zWr, e1, zWr, e2]
      dsimp only
      rw [zWr, op_stop hn.1, zWr, e4]
      exact Or.inr e3
  | succ j ih =>
    intro t oz f a k X m hS hr htf hj kc km hkc hkm
    obtain ⟨kc, rfl⟩ : ∃ z, kc = z + 2 := ⟨kc - 2, by omega⟩
    obtain ⟨km, rfl⟩ : ∃ z, km = z + 2 := ⟨km - 2, by omega⟩
    have hf := hS.cell.2.2
    rcases op_step h6 hS h2 hr htf A with ⟨e1, e2⟩ | ⟨X', m', f', a', k', oz', e1, e2, e3, e4, q⟩ | ⟨c, X', m', e1, e2, e3⟩
    · rw [zWr, e1, zWr, e2]
      exact Or.inl ⟨rfl, hS.2, n, oz, h2, hr.up (by omega)⟩
    · have := ih (t + 1) oz' f' a' k' X' m' e3 e4 (by omega) (by omega) (kc + 1) (km + 1) (by omega) (by omega)
      rw [show kc + 2 = kc + 1 + 1 from rfl, show km + 2 = km + 1 + 1 from rfl, zWr, e1, zWr, e2]
      exact this
    · have hn := e3.ne h6 (by decide)
      have e4 : zQg ty m' = .inr m' := if_neg hn.2
      rw [zWr, e1, zWr, e2]
      dsimp only
      rw [zWr, op_stop hn.1, zWr, e4]
      exact Or.inr e3
theorem op_all {ty : Nat} {c : Int32} {X m A : zM} (h6 : ty ≤ 600) (h : hSt ty c X m) : oSt ty (w_X5_open_19 A ty (c, 0, X)).1 (w_X5_open_19 A ty (c, 0, X)).2.2 (zQw ty m) := by
  unfold w_X5_open_19 zQw
  obtain ⟨kc, ekc⟩ : ∃ z, 601 + ty = z + 2 := ⟨599 + ty, by omega⟩
  obtain ⟨km, ekm⟩ : ∃ z, 1202 + ty = z + 2 := ⟨1200 + ty, by omega⟩
  rcases h with ⟨rfl, n, f, a, k, h2, hS, hr⟩ | he | ⟨rfl, f, hf, x3, m18, hE, hD⟩
  · have := op_loop h6 h2 A ty 0 0 f a k X m hS hr (by omega) (by omega) (601 + ty) (1202 + ty) (by omega) (by omega)
    rw [nI_0] at this
    exact this
  · have hn := he.ne h6 (by decide)
    have e4 : zQg ty m = .inr m := if_neg hn.2
    rw [ekc, ekm, zWr, op_stop hn.1, zWr, e4]
    obtain ⟨k, f1, k1, k2, r⟩ := he
    exact Or.inr ⟨k, f1, k1, by omega, r⟩
  · have hn : ¬ m 0 18 = 0 := by rw [m18]; exact nz8 (by omega) (by decide) (by decide)
    have e4 : zQg ty m = .inr m := if_neg hn
    have e5 : f_X5_open_19 A ty (0, 0, X) = .inl (1, 0 + 1, X) := by
      unfold f_X5_open_19
      dsimp only
      rw [if_neg (show ¬ (600 : Int32) ≤ 0 by decide), if_pos rfl, if_pos hE, if_neg hD]
    rw [ekc, ekm, zWr, e5, zWr, e4]
    dsimp only
    rw [zWr, op_stop (show ¬ (1 : Int32) = 0 by decide)]
    exact Or.inr ⟨1, f, by decide, by decide, hf, rfl, x3, m18⟩
