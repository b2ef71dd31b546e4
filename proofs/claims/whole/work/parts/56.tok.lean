/-! TOKENS, on both sides -/
theorem zWr_rel {α β : Type} {f : α → α ⊕ α} {g : β → β ⊕ β} {R : α → β → Prop} (h : ∀ x y, R x y → (∃ x' y', f x = .inl x' ∧ g y = .inl y' ∧ R x' y') ∨ (∃ x' y', f x = .inr x' ∧ g y = .inr y' ∧ R x' y')) : ∀ (k : Nat) (x : α) (y : β), R x y → R (zWr (fun z => z) f k x) (zWr (fun z => z) g k y)
  | 0, _, _, hr => hr
  | k + 1, x, y, hr => by
    rcases h x y hr with ⟨x', y', e1, e2, h2⟩ | ⟨x', y', e1, e2, h2⟩
    · rw [zWr, zWr, e1, e2]
      exact zWr_rel h k x' y' h2
    · rw [zWr, zWr, e1, e2]
      exact h2
theorem by_eq {a b : Int32} (h : qBy a b) {t : Nat} (ht : t < 128) : a = nI t ↔ b = nI t := by
  obtain ⟨v, hv, rfl, rfl⟩ := h
  have : ∀ v, v < 256 → ∀ t, t < 128 → ((nI v).toInt8.toInt32 = nI t ↔ nI v = nI t) := by decide +kernel
  exact this v hv t ht
theorem by_lt {a b : Int32} (h : qBy a b) : (a < 97 ∨ 122 < a) ↔ (b < 97 ∨ 122 < b) := by
  obtain ⟨v, hv, rfl, rfl⟩ := h
  have : ∀ v, v < 256 → (((nI v).toInt8.toInt32 < 97 ∨ 122 < (nI v).toInt8.toInt32) ↔ (nI v < 97 ∨ 122 < nI v)) := by decide +kernel
  exact this v hv
theorem by_dg {a b : Int32} (h : qBy a b) : ((a < 48 ∨ 57 < a) ↔ (b < 48 ∨ 57 < b)) ∧ (¬ (a < 48 ∨ 57 < a) → a = b) := by
  obtain ⟨v, hv, rfl, rfl⟩ := h
  have : ∀ v, v < 256 → (((nI v).toInt8.toInt32 < 48 ∨ 57 < (nI v).toInt8.toInt32) ↔ (nI v < 48 ∨ 57 < nI v)) ∧ (¬ ((nI v).toInt8.toInt32 < 48 ∨ 57 < (nI v).toInt8.toInt32) → (nI v).toInt8.toInt32 = nI v) := by decide +kernel
  exact this v hv
/-- the text on both sides -/
def bR (ty : Nat) (Z m : zM) : Prop := Z 0 0 = nI ty ∧ m 0 8 = nI ty ∧ ∀ k, k < ty → qBy (Z 1 k) (m 18 k)
/-- as a loop goes on along the text: from a0, with the place in field fc -/
def lR (ty a0 fc : Nat) (Z m : zM) (X : Nat → Prop) (Y : Nat → Prop) (s t : zM) : Prop := (∃ a, a0 ≤ a ∧ a ≤ ty ∧ s 0 fc = nI a ∧ t 0 14 = nI a) ∧ (∀ o, o ≠ 0 → s o = Z o) ∧ (∀ k, X k → s 0 k = Z 0 k) ∧ (∀ o, o ≠ 0 → t o = m o) ∧ ∀ k, Y k → t 0 k = m 0 k
section TOK
variable {ty : Nat} {Z m : zM}
theorem g_le {a : Nat} (h6 : ty ≤ 600) (ha : a ≤ ty) : (nI ty ≤ nI a) ↔ a = ty := by
  rw [nI_le9 (by omega) (by omega)]
  omega
theorem l_blank (h6 : ty ≤ 600) (hb : bR ty Z m) (A B : zM) {a0 : Nat} (h0 : a0 ≤ ty) : lR ty a0 3 Z m (fun k => k ≠ 3) (fun k => k ≠ 14) (w_X8_advance_8 A ty (zU Z 0 3 (nI a0))) (w_X10_scan_0 B ty (zU m 0 14 (nI a0))) := by
  unfold w_X8_advance_8 w_X10_scan_0
  refine zWr_rel (R := lR ty a0 3 Z m (fun k => k ≠ 3) (fun k => k ≠ 14)) ?_ (ty + 1) _ _ ⟨⟨a0, Nat.le_refl _, h0, zU_s, zU_s⟩, fun o ho => zU_ne ho, fun k hk => zU_k hk, fun o ho => zU_ne ho, fun k hk => zU_k hk⟩
  intro s t h
  obtain ⟨⟨a, h1, h2, h3, h4⟩, h5, h6', h7, h8⟩ := id h
  unfold f_X8_advance_8 f_X10_scan_0
  rw [h6' 0 (by decide), h8 8 (by decide), hb.1, hb.2.1, h3, h4, h5 1 (by decide), h7 18 (by decide)]
  by_cases e : a = ty
  · rw [if_pos ((g_le h6 h2).mpr e), if_pos ((g_le h6 h2).mpr e)]
    exact Or.inr ⟨s, t, rfl, rfl, h⟩
  · rw [if_neg (fun q => e ((g_le h6 h2).mp q)), if_neg (fun q => e ((g_le h6 h2).mp q)), nI_clamp (by omega)]
    have hq := hb.2.2 a (by omega)
    have hnext : lR ty a0 3 Z m (fun k => k ≠ 3) (fun k => k ≠ 14) (zU s 0 3 (nI a + 1)) (zU t 0 14 (nI a + 1)) := ⟨⟨a + 1, by omega, by omega, zU_s.trans (nI_1 a), zU_s.trans (nI_1 a)⟩, fun o ho => (zU_ne ho).trans (h5 o ho), fun k hk => (zU_k hk).trans (h6' k hk), fun o ho => (zU_ne ho).trans (h7 o ho), fun k hk => (zU_k hk).trans (h8 k hk)⟩
    have e32 : Z 1 a = 32 ↔ m 18 a = 32 := by_eq hq (t := 32) (by decide)
    have e10 : Z 1 a = 10 ↔ m 18 a = 10 := by_eq hq (t := 10) (by decide)
    by_cases c1 : Z 1 a = 32
    · rw [if_pos c1, if_pos (e32.mp c1)]
      exact Or.inl ⟨_, _, rfl, rfl, hnext⟩
    · rw [if_neg c1, if_neg (fun q => c1 (e32.mpr q))]
      by_cases c2 : Z 1 a = 10
      · rw [if_pos c2, if_pos (e10.mp c2)]
        exact Or.inl ⟨_, _, rfl, rfl, hnext⟩
      · rw [if_neg c2, if_neg (fun q => c2 (e10.mpr q))]
        exact Or.inr ⟨s, t, rfl, rfl, h⟩
/-- letters and digits, at a place -/
theorem let_at (h6 : ty ≤ 600) {t : zM} {a : Nat} (ha : a ≤ ty) (h8 : t 0 8 = nI ty) : g_X10_letterAt t ty a = if a = ty then 0 else (if t 18 a < 97 ∨ 122 < t 18 a then 0 else 1) := by
  unfold g_X10_letterAt
  rw [h8]
  by_cases e : a = ty
  · rw [if_pos ((g_le h6 ha).mpr e), if_pos e]
  · rw [if_neg (fun q => e ((g_le h6 ha).mp q)), if_neg e]
    by_cases c1 : t 18 a < 97
    · rw [if_pos c1, if_pos (Or.inl c1)]
    · rw [if_neg c1]
      by_cases c2 : 122 < t 18 a
      · rw [if_pos c2, if_pos (Or.inr c2)]
      · rw [if_neg c2, if_neg (fun q => q.elim c1 c2)]
theorem dig_at (h6 : ty ≤ 600) {t : zM} {a : Nat} (ha : a ≤ ty) (h8 : t 0 8 = nI ty) : g_X10_digitAt t ty a = if a = ty then 0 else (if t 18 a < 48 ∨ 57 < t 18 a then 0 else 1) := by
  unfold g_X10_digitAt
  rw [h8]
  by_cases e : a = ty
  · rw [if_pos ((g_le h6 ha).mpr e), if_pos e]
  · rw [if_neg (fun q => e ((g_le h6 ha).mp q)), if_neg e]
    by_cases c1 : t 18 a < 48
    · rw [if_pos c1, if_pos (Or.inl c1)]
    · rw [if_neg c1]
      by_cases c2 : 57 < t 18 a
      · rw [if_pos c2, if_pos (Or.inr c2)]
      · rw [if_neg c2, if_neg (fun q => q.elim c1 c2)]
/-- one round of the class's letters -/
theorem f_let (h6 : ty ≤ 600) (A : zM) {s : zM} {a : Nat} (ha : a ≤ ty) (h0 : s 0 0 = nI ty) (h4 : s 0 4 = nI a) : f_X8_takeWord_0 A ty s = if a = ty then .inr s else (if s 1 a < 97 ∨ 122 < s 1 a then .inr s else .inl (zU s 0 4 (nI a + 1))) := by
  unfold f_X8_takeWord_0
  rw [h0, h4, nI_clamp (by omega)]
  by_cases e : a = ty
  · rw [if_pos ((g_le h6 ha).mpr e), if_pos e]
  · rw [if_neg (fun q => e ((g_le h6 ha).mp q)), if_neg e]
    by_cases c1 : s 1 a < 97
    · rw [if_pos c1, if_pos (Or.inl c1)]
    · rw [if_neg c1]
      by_cases c2 : 122 < s 1 a
      · rw [if_pos c2, if_pos (Or.inr c2)]
      · rw [if_neg c2, if_neg (fun q => q.elim c1 c2)]
theorem f_dig (h6 : ty ≤ 600) (A : zM) {s : zM} {a : Nat} (ha : a ≤ ty) (h0 : s 0 0 = nI ty) (h4 : s 0 4 = nI a) : f_X8_takeNumber_5 A ty s = if a = ty then .inr s else (if s 1 a < 48 ∨ 57 < s 1 a then .inr s else .inl (zU (zU s 0 5 (((10 * (s 0 5)) + (s 1 a)) - 48)) 0 4 (nI a + 1))) := by
  unfold f_X8_takeNumber_5
  rw [h0, h4, nI_clamp (by omega)]
  by_cases e : a = ty
  · rw [if_pos ((g_le h6 ha).mpr e), if_pos e]
  · rw [if_neg (fun q => e ((g_le h6 ha).mp q)), if_neg e]
    by_cases c1 : s 1 a < 48
    · rw [if_pos c1, if_pos (Or.inl c1)]
    · rw [if_neg c1]
      by_cases c2 : 57 < s 1 a
      · rw [if_pos c2, if_pos (Or.inr c2)]
      · rw [if_neg c2, if_neg (fun q => q.elim c1 c2)]
theorem l_word (h6 : ty ≤ 600) (hb : bR ty Z m) (A B : zM) {a0 : Nat} (h0 : a0 ≤ ty) (z4 : Z 0 4 = nI a0) (m14 : m 0 14 = nI a0) : lR ty a0 4 Z m (fun k => k ≠ 4) (fun k => k ≠ 14) (w_X8_takeWord_0 A ty Z) (w_X10_scan_90 B ty m) := by
  unfold w_X8_takeWord_0 w_X10_scan_90
  refine zWr_rel (R := lR ty a0 4 Z m (fun k => k ≠ 4) (fun k => k ≠ 14)) ?_ (ty + 1) _ _ ⟨⟨a0, Nat.le_refl _, h0, z4, m14⟩, fun _ _ => rfl, fun _ _ => rfl, fun _ _ => rfl, fun _ _ => rfl⟩
  intro s t h
  obtain ⟨⟨a, h1, h2, h3, h4⟩, h5, h6', h7, h8⟩ := id h
  rw [f_let h6 A h2 ((h6' 0 (by decide)).trans hb.1) h3]
  unfold f_X10_scan_90
  rw [h4, nI_clamp (by omega), let_at h6 h2 ((h8 8 (by decide)).trans hb.2.1), h5 1 (by decide), h7 18 (by decide)]
  by_cases e : a = ty
  · rw [if_pos e, if_pos e, if_pos rfl]
    exact Or.inr ⟨s, t, rfl, rfl, h⟩
  · rw [if_neg e, if_neg e]
    have hq := by_lt (hb.2.2 a (by omega))
    by_cases c : Z 1 a < 97 ∨ 122 < Z 1 a
    · rw [if_pos c, if_pos (hq.mp c), if_pos rfl]
      exact Or.inr ⟨s, t, rfl, rfl, h⟩
    · rw [if_neg c, if_neg (fun q => c (hq.mpr q)), if_neg (by decide)]
      exact Or.inl ⟨_, _, rfl, rfl, ⟨a + 1, by omega, by omega, zU_s.trans (nI_1 a), zU_s.trans (nI_1 a)⟩, fun o ho => (zU_ne ho).trans (h5 o ho), fun k hk => (zU_k hk).trans (h6' k hk), fun o ho => (zU_ne ho).trans (h7 o ho), fun k hk => (zU_k hk).trans (h8 k hk)⟩
theorem l_numb (h6 : ty ≤ 600) (hb : bR ty Z m) (A B : zM) {a0 : Nat} (h0 : a0 ≤ ty) (z4 : Z 0 4 = nI a0) (m14 : m 0 14 = nI a0) (m15 : m 0 15 = nI a0) (z5 : Z 0 5 = 0) (m17 : m 0 17 = 0) : lR ty a0 4 Z m (fun k => k ≠ 4 ∧ k ≠ 5) (fun k => k ≠ 14 ∧ k ≠ 17) (w_X8_takeNumber_5 A ty Z) (w_X10_scan_138 B ty m) ∧ ∀ a, w_X8_takeNumber_5 A ty Z 0 4 = nI a → a ≤ ty → a ≤ a0 + 5 → w_X8_takeNumber_5 A ty Z 0 5 = w_X10_scan_138 B ty m 0 17 := by
  unfold w_X8_takeNumber_5 w_X10_scan_138
  refine zWr_rel (R := fun s t => lR ty a0 4 Z m (fun k => k ≠ 4 ∧ k ≠ 5) (fun k => k ≠ 14 ∧ k ≠ 17) s t ∧ ∀ a, s 0 4 = nI a → a ≤ ty → a ≤ a0 + 5 → s 0 5 = t 0 17) ?_ (ty + 1) _ _ ⟨⟨⟨a0, Nat.le_refl _, h0, z4, m14⟩, fun _ _ => rfl, fun _ _ => rfl, fun _ _ => rfl, fun _ _ => rfl⟩, fun _ _ _ _ => z5.trans m17.symm⟩
  intro s t hh
  obtain ⟨⟨⟨a, h1, h2, h3, h4⟩, h5, h6', h7, h8⟩, hv⟩ := id hh
  rw [f_dig h6 A h2 ((h6' 0 (by decide)).trans hb.1) h3]
  unfold f_X10_scan_138
  rw [h4, nI_clamp (by omega), dig_at h6 h2 ((h8 8 (by decide)).trans hb.2.1), h5 1 (by decide), h7 18 (by decide), h8 15 (by decide), m15, pk_sub h1]
  by_cases e : a = ty
  · rw [if_pos e, if_pos e, if_pos rfl]
    exact Or.inr ⟨s, t, rfl, rfl, hh⟩
  · rw [if_neg e, if_neg e]
    have hq := by_dg (hb.2.2 a (by omega))
    by_cases c : Z 1 a < 48 ∨ 57 < Z 1 a
    · rw [if_pos c, if_pos (hq.1.mp c), if_pos rfl]
      exact Or.inr ⟨s, t, rfl, rfl, hh⟩
    · rw [if_neg c, if_neg (fun q => c (hq.1.mpr q)), if_neg (by decide)]
      refine Or.inl ⟨_, _, rfl, rfl, ⟨⟨a + 1, by omega, by omega, zU_s.trans (nI_1 a), zU_s.trans (nI_1 a)⟩, fun o ho => (zU_ne ho).trans ((zU_ne ho).trans (h5 o ho)), fun k hk => (zU_k hk.1).trans ((zU_k hk.2).trans (h6' k hk)), fun o ho => (zU_ne ho).trans ((zU_ne ho).trans (h7 o ho)), fun k hk => (zU_k hk.1).trans ((zU_k hk.2).trans (h8 k hk))⟩, fun b hb4 hbt hb5 => ?_⟩
      have ea : nI a + 1 = nI b := zU_s.symm.trans hb4
      rw [nI_1] at ea
      have eab : a + 1 = b := (nI_eq9 (by omega) (by omega)).mp ea
      have hva := hv a h3 h2 (by omega)
      rw [zU_k (by decide), zU_s, zU_k (by decide), zU_s, if_neg (show ¬ (5 : Int32) ≤ nI (a - a0) from fun q => absurd ((nI_le9 (a := 5) (by decide) (by omega)).mp q) (by omega)), hva, hq.2 c]
end TOK
