/-! A TEXT OF REPLICAS, as the class reads it -/
section PRS
variable {ty : Nat} {T : Nat → Nat}
/-- the text's letters -/
def tX (ty : Nat) (T : Nat → Nat) (m : zM) : Prop := m 0 0 = nI ty ∧ ∀ j, j < ty → m 1 j = nI (T j)
theorem tX.of {m m' : zM} (h : tX ty T m) (h0 : m' 0 0 = m 0 0) (h1 : m' 1 = m 1) : tX ty T m' := ⟨h0.trans h.1, fun j hj => by rw [h1]; exact h.2 j hj⟩
def isL (c : Nat) : Prop := 97 ≤ c ∧ c ≤ 122
def isD (c : Nat) : Prop := 48 ≤ c ∧ c ≤ 57
theorem nl {a b : Nat} (ha : a < 128) (hb : b < 128) : nI a < nI b ↔ a < b := by
  have := nI_nlt (a := a) (b := b)
  constructor
  · intro h
    by_cases c : a < b
    · exact c
    · exact absurd h (nI_nlt (by omega) (by omega))
  · intro h
    exact nI_lt h (by omega)
theorem ne1 {a b : Nat} (ha : a < 128) (hb : b < 128) : nI a = nI b ↔ a = b := nI_eq (by omega) (by omega)
theorem p_skip (h6 : ty ≤ 600) (hT : ∀ j, T j < 128) (A : zM) : ∀ (d fuel a : Nat) (s : zM), tX ty T s → s 0 3 = nI a → a + d ≤ ty → (∀ j, a ≤ j → j < a + d → T j = 32) → (a + d = ty ∨ (T (a + d) ≠ 32 ∧ T (a + d) ≠ 10)) → d < fuel →
    ∃ r, zWr (fun m => m) (f_X8_advance_8 A ty) fuel s = r ∧ r 0 3 = nI (a + d) ∧ (∀ k, k ≠ 3 → r 0 k = s 0 k) ∧ r 1 = s 1 := by
  intro d
  induction d with
  | zero =>
    intro fuel a s hX h3 hle hb he hf
    rw [Nat.add_zero] at hle he ⊢
    refine ⟨s, zWr_one ?_ fuel, h3, fun _ _ => rfl, rfl⟩
    unfold f_X8_advance_8
    rw [hX.1, h3, nI_clamp (by omega)]
    rcases he with e | e
    · rw [if_pos ((g_le h6 hle).mpr e)]
    · by_cases c : a = ty
      · rw [if_pos ((g_le h6 hle).mpr c)]
      · have hz := hX.2 a (by omega)
        rw [if_neg (fun q => c ((g_le h6 hle).mp q)), hz, if_neg (show ¬ nI (T a) = 32 from fun q => e.1 ((ne1 (hT a) (b := 32) (by decide)).mp q)), if_neg (show ¬ nI (T a) = 10 from fun q => e.2 ((ne1 (hT a) (b := 10) (by decide)).mp q))]
  | succ d ih =>
    intro fuel a s hX h3 hle hb he hf
    cases fuel with
    | zero => omega
    | succ fuel =>
      have hs : f_X8_advance_8 A ty s = .inl (zU s 0 3 (nI (a + 1))) := by
        unfold f_X8_advance_8
        rw [hX.1, h3, nI_clamp (by omega), if_neg (fun q => absurd ((g_le h6 (by omega)).mp q) (by omega)), hX.2 a (by omega), hb a (Nat.le_refl _) (by omega), if_pos (show nI 32 = 32 from rfl), nI_1]
      rw [zWr, hs]
      obtain ⟨r, r1, r2, r3, r4⟩ := ih fuel (a + 1) (zU s 0 3 (nI (a + 1))) (hX.of (zU_k (by decide)) (zU_ne (by decide))) zU_s (by omega) (fun j h1 h2 => hb j (by omega) (by omega)) (by rw [show a + 1 + d = a + (d + 1) by omega]; exact he) (by omega)
      exact ⟨r, r1, by rw [r2]; congr 1; omega, fun k hk => (r3 k hk).trans (zU_k hk), r4.trans (zU_ne (by decide))⟩
theorem p_let (h6 : ty ≤ 600) (hT : ∀ j, T j < 128) (A : zM) : ∀ (d fuel a : Nat) (s : zM), tX ty T s → s 0 4 = nI a → a + d ≤ ty → (∀ j, a ≤ j → j < a + d → isL (T j)) → (a + d = ty ∨ ¬ isL (T (a + d))) → d < fuel →
    ∃ r, zWr (fun m => m) (f_X8_takeWord_0 A ty) fuel s = r ∧ r 0 4 = nI (a + d) ∧ (∀ k, k ≠ 4 → r 0 k = s 0 k) ∧ r 1 = s 1 := by
  intro d
  induction d with
  | zero =>
    intro fuel a s hX h3 hle hb he hf
    rw [Nat.add_zero] at hle he ⊢
    refine ⟨s, zWr_one ?_ fuel, h3, fun _ _ => rfl, rfl⟩
    rw [f_let h6 A hle hX.1 h3]
    by_cases c : a = ty
    · rw [if_pos c]
    · rw [if_neg c, hX.2 a (by omega), if_pos]
      have e : ¬ isL (T a) := he.resolve_left c
      unfold isL at e
      by_cases e1 : T a < 97
      · exact Or.inl ((nl (hT a) (b := 97) (by decide)).mpr e1)
      · exact Or.inr ((nl (a := 122) (by decide) (hT a)).mpr (by omega))
  | succ d ih =>
    intro fuel a s hX h3 hle hb he hf
    cases fuel with
    | zero => omega
    | succ fuel =>
      have hz := hb a (Nat.le_refl _) (by omega)
      have hs : f_X8_takeWord_0 A ty s = .inl (zU s 0 4 (nI (a + 1))) := by
        rw [f_let h6 A (by omega) hX.1 h3, if_neg (by omega), hX.2 a (by omega), if_neg, nI_1]
        rintro (q | q)
        · exact absurd ((nl (hT a) (b := 97) (by decide)).mp q) (by have := hz.1; omega)
        · exact absurd ((nl (a := 122) (by decide) (hT a)).mp q) (by have := hz.2; omega)
      rw [zWr, hs]
      obtain ⟨r, r1, r2, r3, r4⟩ := ih fuel (a + 1) (zU s 0 4 (nI (a + 1))) (hX.of (zU_k (by decide)) (zU_ne (by decide))) zU_s (by omega) (fun j h1 h2 => hb j (by omega) (by omega)) (by rw [show a + 1 + d = a + (d + 1) by omega]; exact he) (by omega)
      exact ⟨r, r1, by rw [r2]; congr 1; omega, fun k hk => (r3 k hk).trans (zU_k hk), r4.trans (zU_ne (by decide))⟩
/-- the number of d digits from a on, behind v -/
def nv (T : Nat → Nat) : Nat → Nat → Nat → Nat
  | _, 0, v => v
  | a, d + 1, v => nv T (a + 1) d (10 * v + T a - 48)
theorem p_dig (h6 : ty ≤ 600) (hT : ∀ j, T j < 128) (A : zM) : ∀ (d fuel a v : Nat) (s : zM), tX ty T s → s 0 4 = nI a → s 0 5 = nI v → a + d ≤ ty → (∀ j, a ≤ j → j < a + d → isD (T j)) → (a + d = ty ∨ ¬ isD (T (a + d))) → d < fuel →
    ∃ r, zWr (fun m => m) (f_X8_takeNumber_5 A ty) fuel s = r ∧ r 0 4 = nI (a + d) ∧ r 0 5 = nI (nv T a d v) ∧ (∀ k, k ≠ 4 → k ≠ 5 → r 0 k = s 0 k) ∧ r 1 = s 1 := by
  intro d
  induction d with
  | zero =>
    intro fuel a v s hX h3 h5 hle hb he hf
    rw [Nat.add_zero] at hle he ⊢
    refine ⟨s, zWr_one ?_ fuel, h3, h5, fun _ _ _ => rfl, rfl⟩
    rw [f_dig h6 A hle hX.1 h3]
    by_cases c : a = ty
    · rw [if_pos c]
    · rw [if_neg c, hX.2 a (by omega), if_pos]
      have e : ¬ isD (T a) := he.resolve_left c
      unfold isD at e
      by_cases e1 : T a < 48
      · exact Or.inl ((nl (hT a) (b := 48) (by decide)).mpr e1)
      · exact Or.inr ((nl (a := 57) (by decide) (hT a)).mpr (by omega))
  | succ d ih =>
    intro fuel a v s hX h3 h5 hle hb he hf
    cases fuel with
    | zero => omega
    | succ fuel =>
      have hz := hb a (Nat.le_refl _) (by omega)
      have e5 : ((10 : Int32) * nI v + nI (T a)) - 48 = nI (10 * v + T a - 48) := by
        rw [show (10 : Int32) * nI v = nI (10 * v) from (Int32.ofNat_mul 10 v).symm, nI_add]
        exact pk_sub (a := 10 * v + T a) (b := 48) (by have := hz.1; omega)
      have hs : f_X8_takeNumber_5 A ty s = .inl (zU (zU s 0 5 (nI (10 * v + T a - 48))) 0 4 (nI (a + 1))) := by
        rw [f_dig h6 A (by omega) hX.1 h3, if_neg (by omega), hX.2 a (by omega), if_neg, h5, e5, nI_1]
        rintro (q | q)
        · exact absurd ((nl (hT a) (b := 48) (by decide)).mp q) (by have := hz.1; omega)
        · exact absurd ((nl (a := 57) (by decide) (hT a)).mp q) (by have := hz.2; omega)
      rw [zWr, hs]
      obtain ⟨r, r1, r2, r5, r3, r4⟩ := ih fuel (a + 1) (10 * v + T a - 48) (zU (zU s 0 5 (nI (10 * v + T a - 48))) 0 4 (nI (a + 1))) (hX.of ((zU_k (by decide)).trans (zU_k (by decide))) ((zU_ne (by decide)).trans (zU_ne (by decide)))) zU_s ((zU_k (by decide)).trans zU_s) (by omega) (fun j h1 h2 => hb j (by omega) (by omega)) (by rw [show a + 1 + d = a + (d + 1) by omega]; exact he) (by omega)
      exact ⟨r, r1, by rw [r2]; congr 1; omega, r5, fun k h4 h5 => (r3 k h4 h5).trans ((zU_k h4).trans (zU_k h5)), r4.trans ((zU_ne (by decide)).trans (zU_ne (by decide)))⟩
theorem p_adv {M s1 s3 s4 : zM} (h1 : w_X8_advance_8 M ty (zU M 0 3 (M 0 4)) = s1) (h3 : g_X8_takeWord (zU s1 0 4 (s1 0 3)) ty = s3) (h4 : g_X8_takeNumber s3 ty = s4) : g_X8_advance M ty = (if (s3 0 4) ≤ (s3 0 3) then (if (s4 0 4) ≤ (s4 0 3) then (if (s4 0 3) < (s4 0 0) then (zU (zU s4 0 4 ((s4 0 3) + 1)) 0 2 (if (s4 1 (s4 0 3).toNatClampNeg) = 59 then (3 : Int32) else (4 : Int32))) else (zU s4 0 2 0)) else (zU s4 0 2 (if ((s4 0 4) - (s4 0 3)) ≤ 5 then (2 : Int32) else (4 : Int32)))) else (zU s3 0 2 1)) := by
  subst h1 h3 h4
  rfl
/-- up to the token: it begins at a -/
theorem p_start (h6 : ty ≤ 600) (hT : ∀ j, T j < 128) {M : zM} (hX : tX ty T M) {e d : Nat} (he : M 0 4 = nI e) (hle : e + d ≤ ty) (hb : ∀ j, e ≤ j → j < e + d → T j = 32) (hn : e + d = ty ∨ (T (e + d) ≠ 32 ∧ T (e + d) ≠ 10)) :
    ∃ s, w_X8_advance_8 M ty (zU M 0 3 (M 0 4)) = s ∧ s 0 3 = nI (e + d) ∧ tX ty T s := by
  obtain ⟨r, r1, r2, r3, r4⟩ := p_skip h6 hT M d (ty + 1) e (zU M 0 3 (M 0 4)) (hX.of (zU_k (by decide)) (zU_ne (by decide))) (zU_s.trans he) hle hb hn (by omega)
  exact ⟨r, r1, r2, hX.of ((r3 0 (by decide)).trans (zU_k (by decide))) (r4.trans (zU_ne (by decide)))⟩
def tK (ty : Nat) (T : Nat → Nat) (r : zM) (k : Int32) (a b : Nat) : Prop := tX ty T r ∧ r 0 2 = k ∧ r 0 3 = nI a ∧ r 0 4 = nI b
theorem t_word (h6 : ty ≤ 600) (hT : ∀ j, T j < 128) {M : zM} (hX : tX ty T M) {e d l : Nat} (he : M 0 4 = nI e) (hle : e + d + l ≤ ty) (hb : ∀ j, e ≤ j → j < e + d → T j = 32) (hl0 : 0 < l) (hl : ∀ j, e + d ≤ j → j < e + d + l → isL (T j)) (hn : e + d + l = ty ∨ ¬ isL (T (e + d + l))) : tK ty T (g_X8_advance M ty) 1 (e + d) (e + d + l) := by
  have hz := hl (e + d) (Nat.le_refl _) (by omega)
  obtain ⟨s, h1, h3, hs⟩ := p_start h6 hT hX he (by omega) hb (Or.inr ⟨by have := hz.1; omega, by have := hz.1; omega⟩)
  obtain ⟨r, r1, r2, r3, r4⟩ := p_let h6 hT (zU s 0 4 (s 0 3)) l (ty + 1) (e + d) (zU s 0 4 (s 0 3)) (hs.of (zU_k (by decide)) (zU_ne (by decide))) (zU_s.trans h3) hle hl hn (by omega)
  have r30 : r 0 3 = nI (e + d) := (r3 3 (by decide)).trans ((zU_k (by decide)).trans h3)
  rw [p_adv h1 (s3 := r) r1 rfl, r2, r30, if_neg (nI_ge (a := e + d) (b := e + d + l) (by omega) (by omega))]
  exact ⟨hs.of ((zU_k (by decide)).trans ((r3 0 (by decide)).trans (zU_k (by decide)))) ((zU_ne (by decide)).trans (r4.trans (zU_ne (by decide)))), zU_s, (zU_k (by decide)).trans r30, (zU_k (by decide)).trans r2⟩
/-- no word there -/
theorem t_now (h6 : ty ≤ 600) (hT : ∀ j, T j < 128) {M : zM} (hX : tX ty T M) {e d : Nat} (he : M 0 4 = nI e) (hle : e + d ≤ ty) (hb : ∀ j, e ≤ j → j < e + d → T j = 32) (hn : e + d = ty ∨ (T (e + d) ≠ 32 ∧ T (e + d) ≠ 10 ∧ ¬ isL (T (e + d)))) :
    ∃ s r, w_X8_advance_8 M ty (zU M 0 3 (M 0 4)) = s ∧ g_X8_takeWord (zU s 0 4 (s 0 3)) ty = r ∧ tX ty T r ∧ r 0 3 = nI (e + d) ∧ r 0 4 = nI (e + d) := by
  obtain ⟨s, h1, h3, hs⟩ := p_start h6 hT hX he (by omega) hb (hn.imp id fun q => ⟨q.1, q.2.1⟩)
  obtain ⟨r, r1, r2, r3, r4⟩ := p_let h6 hT (zU s 0 4 (s 0 3)) 0 (ty + 1) (e + d) (zU s 0 4 (s 0 3)) (hs.of (zU_k (by decide)) (zU_ne (by decide))) (zU_s.trans h3) hle (fun j h1 h2 => absurd h2 (by omega)) (hn.imp id fun q => q.2.2) (by omega)
  exact ⟨s, r, h1, r1, hs.of ((r3 0 (by decide)).trans (zU_k (by decide))) (r4.trans (zU_ne (by decide))), (r3 3 (by decide)).trans ((zU_k (by decide)).trans h3), r2⟩
theorem t_num (h6 : ty ≤ 600) (hT : ∀ j, T j < 128) {M : zM} (hX : tX ty T M) {e d l : Nat} (he : M 0 4 = nI e) (hle : e + d + l ≤ ty) (hb : ∀ j, e ≤ j → j < e + d → T j = 32) (hl0 : 0 < l) (hl5 : l ≤ 5) (hl : ∀ j, e + d ≤ j → j < e + d + l → isD (T j)) (hn : e + d + l = ty ∨ ¬ isD (T (e + d + l))) : tK ty T (g_X8_advance M ty) 2 (e + d) (e + d + l) ∧ g_X8_advance M ty 0 5 = nI (nv T (e + d) l 0) := by
  have hz := hl (e + d) (Nat.le_refl _) (by omega)
  obtain ⟨s, r, h1, hr, hr1, hr3, hr4⟩ := t_now h6 hT hX he (by omega) hb (Or.inr ⟨by have := hz.1; omega, by have := hz.1; omega, by unfold isL; have := hz.2; omega⟩)
  obtain ⟨q, q1, q2, q5, q3, q4⟩ := p_dig h6 hT r l (ty + 1) (e + d) 0 (zU r 0 5 0) (hr1.of (zU_k (by decide)) (zU_ne (by decide))) ((zU_k (by decide)).trans hr4) zU_s hle hl hn (by omega)
  have q30 : q 0 3 = nI (e + d) := (q3 3 (by decide) (by decide)).trans ((zU_k (by decide)).trans hr3)
  have es : nI (e + d + l) - nI (e + d) = nI l := by rw [pk_sub (by omega)]; congr 1; omega
  rw [p_adv h1 hr (s4 := q) q1, hr3, hr4, if_pos (Int32.le_refl _), q2, q30, if_neg (nI_ge (a := e + d) (b := e + d + l) (by omega) (by omega)), es, if_pos (show nI l ≤ 5 from nI_le (b := 5) hl5 (by decide))]
  exact ⟨⟨hr1.of ((zU_k (by decide)).trans ((q3 0 (by decide) (by decide)).trans (zU_k (by decide)))) ((zU_ne (by decide)).trans (q4.trans (zU_ne (by decide)))), zU_s, (zU_k (by decide)).trans q30, (zU_k (by decide)).trans q2⟩, (zU_k (by decide)).trans q5⟩
theorem t_semi (h6 : ty ≤ 600) (hT : ∀ j, T j < 128) {M : zM} (hX : tX ty T M) {e d : Nat} (he : M 0 4 = nI e) (hle : e + d < ty) (hb : ∀ j, e ≤ j → j < e + d → T j = 32) (hs : T (e + d) = 59) : tK ty T (g_X8_advance M ty) 3 (e + d) (e + d + 1) := by
  obtain ⟨s, r, h1, hr, hr1, hr3, hr4⟩ := t_now h6 hT hX he (by omega) hb (Or.inr ⟨by omega, by omega, by unfold isL; omega⟩)
  obtain ⟨q, q1, q2, q5, q3, q4⟩ := p_dig h6 hT r 0 (ty + 1) (e + d) 0 (zU r 0 5 0) (hr1.of (zU_k (by decide)) (zU_ne (by decide))) ((zU_k (by decide)).trans hr4) zU_s (by omega) (fun j h1 h2 => absurd h2 (by omega)) (Or.inr (by show ¬ isD (T (e + d)); unfold isD; omega)) (by omega)
  have q30 : q 0 3 = nI (e + d) := (q3 3 (by decide) (by decide)).trans ((zU_k (by decide)).trans hr3)
  have q00 : q 0 0 = nI ty := (q3 0 (by decide) (by decide)).trans ((zU_k (by decide)).trans hr1.1)
  have q2' : q 0 4 = nI (e + d) := q2
  have q1x : q 1 = r 1 := q4.trans (zU_ne (by decide))
  rw [p_adv h1 hr (s4 := q) q1, hr3, hr4, if_pos (Int32.le_refl _), q2', q30, if_pos (Int32.le_refl _), q00, if_pos (nI_lt hle (by omega)), nI_clamp (by omega), q1x, hr1.2 _ hle, hs, if_pos (show nI 59 = 59 from rfl), nI_1]
  exact ⟨hr1.of ((zU_k (by decide)).trans ((zU_k (by decide)).trans (q00.trans hr1.1.symm))) ((zU_ne (by decide)).trans ((zU_ne (by decide)).trans q1x)), zU_s, (zU_k (by decide)).trans ((zU_k (by decide)).trans q30), (zU_k (by decide)).trans zU_s⟩
theorem t_end (h6 : ty ≤ 600) (hT : ∀ j, T j < 128) {M : zM} (hX : tX ty T M) {e d : Nat} (he : M 0 4 = nI e) (hle : e + d = ty) (hb : ∀ j, e ≤ j → j < e + d → T j = 32) : g_X8_advance M ty 0 2 = 0 := by
  obtain ⟨s, r, h1, hr, hr1, hr3, hr4⟩ := t_now h6 hT hX he (by omega) hb (Or.inl hle)
  obtain ⟨q, q1, q2, q5, q3, q4⟩ := p_dig h6 hT r 0 (ty + 1) (e + d) 0 (zU r 0 5 0) (hr1.of (zU_k (by decide)) (zU_ne (by decide))) ((zU_k (by decide)).trans hr4) zU_s (by omega) (fun j h1 h2 => absurd h2 (by omega)) (Or.inl hle) (by omega)
  have q30 : q 0 3 = nI (e + d) := (q3 3 (by decide) (by decide)).trans ((zU_k (by decide)).trans hr3)
  have q00 : q 0 0 = nI ty := (q3 0 (by decide) (by decide)).trans ((zU_k (by decide)).trans hr1.1)
  have q2' : q 0 4 = nI (e + d) := q2
  rw [p_adv h1 hr (s4 := q) q1, hr3, hr4, if_pos (Int32.le_refl _), q2', q30, if_pos (Int32.le_refl _), q00, hle, if_neg (Int32.lt_irrefl)]
  exact zU_s
end PRS
