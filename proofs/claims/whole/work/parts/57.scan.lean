/-! THE NEXT TOKEN, on both sides -/
def qKd (k : Nat) : Nat := ([0, 3, 2, 1, 4] : List Nat).getD k 0
/-- the text, and a token of kind k from f to a -/
def kR (ty f a k : Nat) (Z m : zM) : Prop := bR ty Z m ∧ Z 0 3 = nI f ∧ m 0 15 = nI f ∧ Z 0 4 = nI a ∧ m 0 14 = nI a ∧ f ≤ a ∧ a ≤ ty ∧ k < 5 ∧ Z 0 2 = nI k ∧ m 0 16 = nI (qKd k) ∧ (k = 2 → Z 0 5 = m 0 17) ∧ (k = 0 → f = ty) ∧ (k ≠ 0 → f < a)
section SCAN
variable {ty : Nat} {Z m : zM}
theorem zWr_one {α : Type} {f : α → α ⊕ α} {x : α} (h : f x = .inr x) (k : Nat) : zWr (fun z => z) f k x = x := by
  cases k with
  | zero => rfl
  | succ k => rw [zWr, h]
theorem next_tok (h6 : ty ≤ 600) (hb : bR ty Z m) {a0 : Nat} (h0 : a0 ≤ ty) (z4 : Z 0 4 = nI a0) (m14 : m 0 14 = nI a0) : (∃ f a k, a0 ≤ f ∧ kR ty f a k (g_X8_advance Z ty) (g_X10_scan m ty)) ∧ (∀ o, o ≠ 0 → g_X8_advance Z ty o = Z o) ∧ (∀ o, o ≠ 0 → g_X10_scan m ty o = m o) ∧ ∀ k, k < 14 ∨ 17 < k → g_X10_scan m ty 0 k = m 0 k := by
  refine ⟨?_, fun o ho => fr_X8_advance Z ty o ho, fun o ho => fr_X10_scan m ty o ho, fun k hk => e2_X10_scan m ty k (by omega) (by omega) (by omega) (by omega)⟩
  have hL := l_blank h6 hb Z m h0
  unfold g_X8_advance g_X10_scan
  have em : zU m 0 14 (nI a0) = m := by
    funext o k
    by_cases e : o = 0
    · subst e
      rw [zU_c]
      by_cases ek : k = 14
      · rw [if_pos ek, ek, m14]
      · rw [if_neg ek]
    · rw [zU_ne e]
  rw [em] at hL
  rw [z4]
  generalize w_X8_advance_8 Z ty (zU Z 0 3 (nI a0)) = A at *
  generalize w_X10_scan_0 m ty m = P at *
  obtain ⟨⟨f, f1, f2, f3, f4⟩, A1, A2, P1, P2⟩ := hL
  have p8 : P 0 8 = nI ty := (P2 8 (by decide)).trans hb.2.1
  rw [f3, f4, p8, nI_clamp (by omega)]
  -- the class: at the token's start
  have hbB : bR ty (zU A 0 4 (nI f)) (zU P 0 15 (nI f)) := ⟨(zU_k (by decide)).trans ((A2 0 (by decide)).trans hb.1), (zU_k (by decide)).trans p8, fun k hk => by
    rw [zU_ne (show (1 : Nat) ≠ 0 by decide), zU_ne (show (18 : Nat) ≠ 0 by decide), A1 1 (by decide), P1 18 (by decide)]
    exact hb.2.2 k hk⟩
  have eb1 : (zU A 0 4 (nI f)) 1 = Z 1 := (zU_ne (by decide)).trans (A1 1 (by decide))
  have ep18 : (zU P 0 15 (nI f)) 18 = m 18 := (zU_ne (by decide)).trans (P1 18 (by decide))
  have hW := l_word h6 hbB (zU A 0 4 (nI f)) m f2 zU_s ((zU_k (by decide)).trans f4)
  have hw1 : g_X8_takeWord (zU A 0 4 (nI f)) ty = w_X8_takeWord_0 (zU A 0 4 (nI f)) ty (zU A 0 4 (nI f)) := rfl
  have hst : f = ty ∨ (Z 1 f < 97 ∨ 122 < Z 1 f) → w_X8_takeWord_0 (zU A 0 4 (nI f)) ty (zU A 0 4 (nI f)) = zU A 0 4 (nI f) := fun hq => by
    unfold w_X8_takeWord_0
    refine zWr_one ?_ _
    rw [f_let h6 _ f2 hbB.1 zU_s, eb1]
    by_cases e : f = ty
    · rw [if_pos e]
    · rw [if_neg e, if_pos (hq.resolve_left e)]
  have hgo : f < ty → ¬ (Z 1 f < 97 ∨ 122 < Z 1 f) → ∃ a, f < a ∧ a ≤ ty ∧ w_X8_takeWord_0 (zU A 0 4 (nI f)) ty (zU A 0 4 (nI f)) 0 4 = nI a ∧ w_X10_scan_90 m ty (zU P 0 15 (nI f)) 0 14 = nI a := fun hf hc => by
    have h1 : w_X8_takeWord_0 (zU A 0 4 (nI f)) ty (zU A 0 4 (nI f)) = zWr (fun z => z) (f_X8_takeWord_0 (zU A 0 4 (nI f)) ty) ty (zU (zU A 0 4 (nI f)) 0 4 (nI f + 1)) := by
      unfold w_X8_takeWord_0
      rw [zWr, f_let h6 _ f2 hbB.1 zU_s, eb1, if_neg (by omega), if_neg hc]
    obtain ⟨⟨a, a1, a2, a3, a4⟩, -⟩ := hW
    refine ⟨a, ?_, a2, a3, a4⟩
    rcases Nat.lt_or_ge f a with q | q
    · exact q
    · exfalso
      have ea : a = f := by omega
      subst ea
      -- the place never falls behind a + 1
      have key : ∀ k (s : zM) (b : Nat), a + 1 ≤ b → b ≤ ty → s 0 0 = nI ty → s 0 4 = nI b → ∃ c, a + 1 ≤ c ∧ c ≤ ty ∧ zWr (fun z => z) (f_X8_takeWord_0 (zU A 0 4 (nI a)) ty) k s 0 4 = nI c := by
        intro k
        induction k with
        | zero => exact fun s b hb1 hb2 _ hb4 => ⟨b, hb1, hb2, hb4⟩
        | succ k ih =>
          intro s b hb1 hb2 hb0 hb4
          rw [zWr, f_let h6 _ hb2 hb0 hb4]
          by_cases e : b = ty
          · rw [if_pos e]
            exact ⟨b, hb1, hb2, hb4⟩
          · rw [if_neg e]
            by_cases h : s 1 b < 97 ∨ 122 < s 1 b
            · rw [if_pos h]
              exact ⟨b, hb1, hb2, hb4⟩
            · rw [if_neg h]
              exact ih _ (b + 1) (by omega) (by omega) ((zU_k (by decide)).trans hb0) (zU_s.trans (nI_1 b))
      obtain ⟨c, c1, c2, c3⟩ := key ty _ (a + 1) (Nat.le_refl _) (by omega) ((zU_k (by decide)).trans hbB.1) (zU_s.trans (nI_1 a))
      rw [← h1, a3] at c3
      have := (nI_eq9 (by omega) (by omega)).mp c3
      omega
  rw [hw1]
  have hle : zU A 0 4 (nI f) 0 4 ≤ zU A 0 4 (nI f) 0 3 := by
    rw [zU_s, zU_k (by decide), f3]
    exact Int32.le_refl _
  by_cases ef : f = ty
  · -- the end
    rw [hst (Or.inl ef), if_pos hle, if_pos (show nI f = nI ty from by rw [ef])]
    have hnum : g_X8_takeNumber (zU A 0 4 (nI f)) ty = zU (zU A 0 4 (nI f)) 0 5 0 := by
      unfold g_X8_takeNumber w_X8_takeNumber_5
      refine zWr_one ?_ _
      rw [f_dig h6 _ f2 ((zU_k (by decide)).trans hbB.1) ((zU_k (by decide)).trans zU_s), if_pos ef]
    rw [hnum]
    have n4 : zU (zU A 0 4 (nI f)) 0 5 0 0 4 = nI f := (zU_k (by decide)).trans zU_s
    have n3 : zU (zU A 0 4 (nI f)) 0 5 0 0 3 = nI f := (zU_k (by decide)).trans ((zU_k (by decide)).trans f3)
    have n0 : zU (zU A 0 4 (nI f)) 0 5 0 0 0 = nI ty := (zU_k (by decide)).trans hbB.1
    rw [n4, n3, n0, if_pos (Int32.le_refl _), if_neg (by rw [ef]; exact Int32.lt_irrefl)]
    refine ⟨f, f, 0, f1, ⟨(zU_k (by decide)).trans n0, (zU_k (by decide)).trans hbB.2.1, fun k hk => ?_⟩, (zU_k (by decide)).trans n3, (zU_k (by decide)).trans zU_s, (zU_k (by decide)).trans n4, (zU_k (by decide)).trans ((zU_k (by decide)).trans f4), Nat.le_refl f, f2, by decide, zU_s, zU_s, fun q => absurd q (by decide), fun _ => ef, fun q => absurd rfl q⟩
    rw [zU_ne (show (1 : Nat) ≠ 0 by decide), zU_ne (show (18 : Nat) ≠ 0 by decide), zU_ne (show (1 : Nat) ≠ 0 by decide)]
    exact hbB.2.2 k hk
  · have hft : f < ty := by omega
    have hq := hb.2.2 f hft
    rw [if_neg (show ¬ nI f = nI ty from fun q => ef ((nI_eq9 (by omega) (by omega)).mp q)), let_at h6 f2 hbB.2.1, dig_at h6 f2 hbB.2.1, ep18, if_neg ef, if_neg ef]
    by_cases cl : Z 1 f < 97 ∨ 122 < Z 1 f
    · -- no word
      rw [if_pos ((by_lt hq).mp cl), if_pos (show (0 : Int32) = 0 from rfl), hst (Or.inr cl), if_pos hle]
      by_cases cd : Z 1 f < 48 ∨ 57 < Z 1 f
      · -- no number
        rw [if_pos ((by_dg hq).1.mp cd), if_pos (show (0 : Int32) = 0 from rfl)]
        have hnum : g_X8_takeNumber (zU A 0 4 (nI f)) ty = zU (zU A 0 4 (nI f)) 0 5 0 := by
          unfold g_X8_takeNumber w_X8_takeNumber_5
          refine zWr_one ?_ _
          rw [f_dig h6 _ f2 ((zU_k (by decide)).trans hbB.1) ((zU_k (by decide)).trans zU_s), if_neg ef, zU_ne (show (1 : Nat) ≠ 0 by decide), eb1, if_pos cd]
        rw [hnum]
        have n4 : zU (zU A 0 4 (nI f)) 0 5 0 0 4 = nI f := (zU_k (by decide)).trans zU_s
        have n3 : zU (zU A 0 4 (nI f)) 0 5 0 0 3 = nI f := (zU_k (by decide)).trans ((zU_k (by decide)).trans f3)
        have n0 : zU (zU A 0 4 (nI f)) 0 5 0 0 0 = nI ty := (zU_k (by decide)).trans hbB.1
        have n1 : zU (zU A 0 4 (nI f)) 0 5 0 1 = Z 1 := (zU_ne (by decide)).trans eb1
        rw [n4, n3, n0, n1, if_pos (Int32.le_refl _), if_pos (nI_lt hft (by omega)), nI_clamp (by omega), P1 18 (by decide)]
        have e59 : Z 1 f = 59 ↔ m 18 f = 59 := by_eq hq (t := 59) (by decide)
        have hk : ∃ k, (k = 3 ∨ k = 4) ∧ (if Z 1 f = 59 then (3 : Int32) else 4) = nI k ∧ (if m 18 f = 59 then (1 : Int32) else 4) = nI (qKd k) := by
          by_cases c : Z 1 f = 59
          · exact ⟨3, Or.inl rfl, if_pos c, if_pos (e59.mp c)⟩
          · exact ⟨4, Or.inr rfl, if_neg c, if_neg (fun q => c (e59.mpr q))⟩
        obtain ⟨k, k1, k2, k3⟩ := hk
        refine ⟨f, f + 1, k, f1, ⟨(zU_k (by decide)).trans ((zU_k (by decide)).trans n0), (zU_k (by decide)).trans ((zU_k (by decide)).trans hbB.2.1), fun k hk => ?_⟩, (zU_k (by decide)).trans ((zU_k (by decide)).trans n3), (zU_k (by decide)).trans ((zU_k (by decide)).trans zU_s), (zU_k (by decide)).trans (zU_s.trans (nI_1 f)), zU_s.trans (nI_1 f), Nat.le_succ f, hft, by omega, zU_s.trans k2, (zU_k (by decide)).trans (zU_s.trans k3), fun q => by omega, fun q => by omega, fun _ => Nat.lt_succ_self f⟩
        rw [zU_ne (show (1 : Nat) ≠ 0 by decide), zU_ne (show (1 : Nat) ≠ 0 by decide), n1, zU_ne (show (18 : Nat) ≠ 0 by decide), zU_ne (show (18 : Nat) ≠ 0 by decide), ep18]
        exact hb.2.2 k hk
      · -- a number
        rw [if_neg (fun q => cd ((by_dg hq).1.mpr q)), if_neg (show ¬ (1 : Int32) = 0 by decide)]
        have hbN : bR ty (zU (zU A 0 4 (nI f)) 0 5 0) (zU (zU P 0 15 (nI f)) 0 17 0) := ⟨(zU_k (by decide)).trans hbB.1, (zU_k (by decide)).trans hbB.2.1, fun k hk => by
          rw [zU_ne (show (1 : Nat) ≠ 0 by decide), zU_ne (show (18 : Nat) ≠ 0 by decide)]
          exact hbB.2.2 k hk⟩
        have hN := l_numb h6 hbN (zU A 0 4 (nI f)) m f2 ((zU_k (by decide)).trans zU_s) ((zU_k (by decide)).trans ((zU_k (by decide)).trans f4)) ((zU_k (by decide)).trans zU_s) zU_s zU_s
        have hnum : g_X8_takeNumber (zU A 0 4 (nI f)) ty = w_X8_takeNumber_5 (zU A 0 4 (nI f)) ty (zU (zU A 0 4 (nI f)) 0 5 0) := rfl
        have hN1 : w_X8_takeNumber_5 (zU A 0 4 (nI f)) ty (zU (zU A 0 4 (nI f)) 0 5 0) 0 4 ≠ nI f := fun e4 => by
          have h1 : w_X8_takeNumber_5 (zU A 0 4 (nI f)) ty (zU (zU A 0 4 (nI f)) 0 5 0) = zWr (fun z => z) (f_X8_takeNumber_5 (zU A 0 4 (nI f)) ty) ty (zU (zU (zU (zU A 0 4 (nI f)) 0 5 0) 0 5 (((10 * ((zU (zU A 0 4 (nI f)) 0 5 0) 0 5)) + (Z 1 f)) - 48)) 0 4 (nI f + 1)) := by
            unfold w_X8_takeNumber_5
            rw [zWr, f_dig h6 _ f2 hbN.1 ((zU_k (by decide)).trans zU_s), if_neg ef, zU_ne (show (1 : Nat) ≠ 0 by decide), eb1, if_neg cd]
          have key : ∀ k (s : zM) (b : Nat), f + 1 ≤ b → b ≤ ty → s 0 0 = nI ty → s 0 4 = nI b → ∃ c, f + 1 ≤ c ∧ c ≤ ty ∧ zWr (fun z => z) (f_X8_takeNumber_5 (zU A 0 4 (nI f)) ty) k s 0 4 = nI c := by
            intro k
            induction k with
            | zero => exact fun s b hb1 hb2 _ hb4 => ⟨b, hb1, hb2, hb4⟩
            | succ k ih =>
              intro s b hb1 hb2 hb0 hb4
              rw [zWr, f_dig h6 _ hb2 hb0 hb4]
              by_cases e : b = ty
              · rw [if_pos e]
                exact ⟨b, hb1, hb2, hb4⟩
              · rw [if_neg e]
                by_cases h : s 1 b < 48 ∨ 57 < s 1 b
                · rw [if_pos h]
                  exact ⟨b, hb1, hb2, hb4⟩
                · rw [if_neg h]
                  exact ih _ (b + 1) (by omega) (by omega) ((zU_k (by decide)).trans ((zU_k (by decide)).trans hb0)) (zU_s.trans (nI_1 b))
          obtain ⟨c, c1, c2, c3⟩ := key ty _ (f + 1) (Nat.le_refl _) (by omega) ((zU_k (show (0 : Nat) ≠ 4 by decide)).trans ((zU_k (show (0 : Nat) ≠ 5 by decide)).trans hbN.1)) (zU_s.trans (nI_1 f))
          rw [← h1, e4] at c3
          have := (nI_eq9 (by omega) (by omega)).mp c3
          omega
        rw [hnum]
        generalize w_X8_takeNumber_5 (zU A 0 4 (nI f)) ty (zU (zU A 0 4 (nI f)) 0 5 0) = C at *
        generalize w_X10_scan_138 m ty (zU (zU P 0 15 (nI f)) 0 17 0) = Q at *
        obtain ⟨⟨⟨a, a1, a2, a3, a4⟩, C1, C2, Q1, Q2⟩, hv⟩ := hN
        have hfa : f < a := by
          rcases Nat.lt_or_ge f a with q | q
          · exact q
          · exact absurd (a3.trans (by rw [show a = f by omega])) hN1
        have c3 : C 0 3 = nI f := (C2 3 (by decide)).trans ((zU_k (by decide)).trans ((zU_k (by decide)).trans f3))
        have q15 : Q 0 15 = nI f := (Q2 15 (by decide)).trans ((zU_k (by decide)).trans zU_s)
        rw [a3, a4, c3, q15, if_neg (nI_ge hfa (by omega)), pk_sub a1]
        have hk : ∃ k, (k = 2 ∧ a ≤ f + 5 ∨ k = 4) ∧ (if nI (a - f) ≤ 5 then (2 : Int32) else 4) = nI k ∧ (if nI (a - f) ≤ 5 then (2 : Int32) else 4) = nI (qKd k) := by
          by_cases c : nI (a - f) ≤ 5
          · have := (nI_le9 (b := 5) (by omega) (by decide)).mp c
            exact ⟨2, Or.inl ⟨rfl, by omega⟩, if_pos c, if_pos c⟩
          · exact ⟨4, Or.inr rfl, if_neg c, if_neg c⟩
        obtain ⟨k, k1, k2, k3⟩ := hk
        refine ⟨f, a, k, f1, ⟨(zU_k (by decide)).trans ((C2 0 (by decide)).trans hbN.1), (zU_k (by decide)).trans ((Q2 8 (by decide)).trans hbN.2.1), fun k hk => ?_⟩, (zU_k (by decide)).trans c3, (zU_k (by decide)).trans q15, (zU_k (by decide)).trans a3, (zU_k (by decide)).trans a4, a1, a2, by omega, zU_s.trans k2, zU_s.trans k3, fun q => ?_, fun q => by omega, fun _ => hfa⟩
        · rw [zU_ne (show (1 : Nat) ≠ 0 by decide), zU_ne (show (18 : Nat) ≠ 0 by decide), C1 1 (by decide), Q1 18 (by decide)]
          exact hbN.2.2 k hk
        · rw [zU_k (show (5 : Nat) ≠ 2 by decide), zU_k (show (17 : Nat) ≠ 16 by decide)]
          exact hv a a3 a2 (by omega)
    · -- a word
      rw [if_neg (fun q => cl ((by_lt hq).mpr q)), if_neg (show ¬ (1 : Int32) = 0 by decide)]
      obtain ⟨a, hfa, a2, a3, a4⟩ := hgo hft cl
      generalize w_X8_takeWord_0 (zU A 0 4 (nI f)) ty (zU A 0 4 (nI f)) = C at *
      generalize w_X10_scan_90 m ty (zU P 0 15 (nI f)) = Q at *
      obtain ⟨-, C1, C2, Q1, Q2⟩ := hW
      have c3 : C 0 3 = nI f := (C2 3 (by decide)).trans ((zU_k (by decide)).trans f3)
      have q15 : Q 0 15 = nI f := (Q2 15 (by decide)).trans zU_s
      rw [a3, c3, if_neg (nI_ge hfa (by omega))]
      refine ⟨f, a, 1, f1, ⟨(zU_k (by decide)).trans ((C2 0 (by decide)).trans hbB.1), (zU_k (by decide)).trans ((Q2 8 (by decide)).trans hbB.2.1), fun k hk => ?_⟩, (zU_k (by decide)).trans c3, (zU_k (by decide)).trans q15, (zU_k (by decide)).trans a3, (zU_k (by decide)).trans a4, by omega, a2, by decide, zU_s, zU_s, fun q => absurd q (by decide), fun q => absurd q (by decide), fun _ => hfa⟩
      rw [zU_ne (show (1 : Nat) ≠ 0 by decide), zU_ne (show (18 : Nat) ≠ 0 by decide), C1 1 (by decide), Q1 18 (by decide)]
      exact hbB.2.2 k hk
theorem word_eq {f a k : Nat} (h6 : ty ≤ 600) (h : kR ty f a k Z m) (h18 : m 0 18 = 0) {tx : Nat} (htx : tx < 20) : g_X8_isWord Z ty tx = g_X10_isWord m ty tx := by
  obtain ⟨⟨b1, b2, b3⟩, z3, m15, z4, m14, hfa, hat, hk5, z2, m16, -⟩ := h
  have ht : ∀ tx, tx < 20 → (zTxt tx).length < 600 ∧ ∀ i, i < (zTxt tx).length → (zTxt tx).getD i 0 < 128 := by decide +kernel
  unfold g_X8_isWord g_X10_isWord
  rw [h18, if_pos rfl, z2, m16, z4, z3, m14, m15, pk_sub hfa]
  have hkk : ∀ k, k < 5 → (nI k = 1 ↔ nI (qKd k) = 3) := by decide +kernel
  by_cases c : nI k = 1
  · rw [if_pos c, if_pos ((hkk k hk5).mp c)]
    by_cases cl : nI (a - f) = nI (zTxt tx).length
    · rw [if_pos cl, if_pos cl]
      have hl : a - f = (zTxt tx).length := (nI_eq9 (by omega) (by have := (ht tx htx).1; omega)).mp cl
      refine zFst_congr _ 0 fun i _ hi => ?_
      unfold f_X8_isWord_28 f_X10_isWord_39
      rw [b1, z3, m15, nI_add, if_neg (nI_ge (show f + i < ty by omega) (by omega)), nI_clamp (by omega)]
      have hq := by_eq (b3 (f + i) (by omega)) ((ht tx htx).2 i (by omega))
      by_cases cc : Z 1 (f + i) = nI ((zTxt tx).getD i 0)
      · rw [if_pos cc, if_pos (hq.mp cc)]
      · rw [if_neg cc, if_neg (fun q => cc (hq.mpr q))]
    · rw [if_neg cl, if_neg cl]
  · rw [if_neg c, if_neg (fun q => c ((hkk k hk5).mpr q))]
end SCAN
