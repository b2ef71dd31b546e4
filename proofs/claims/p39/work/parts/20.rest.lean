theorem zU_k {M : zM} {c i o : Nat} {x : Int32} (h : o ≠ i) : zU M c i x c o = M c o := by
  rw [zU_eq]
  exact if_neg h
/-- the outcomes, when there is room for one more -/
def zOn2 (oz : Nat) : Nat := if oz = 12 then 11 else oz
theorem zT.eqSh {Y : zY} {kc nc : Nat} {Z : zS → Prop} {pc : Nat} {ls : zL} {st : List Value} {sh sh2 : List va_E} {M : zM} (h : sh = sh2) (k1 : zT Y kc nc Z (pc, ls, st, sh2, M)) : zT Y kc nc Z (pc, ls, st, sh, M) := h ▸ k1
theorem zBack.all {sh sh' : List va_E} (h : sh'.length = sh.length) : zBack sh 0 sh.length sh' sh' := by
  refine ⟨h, fun k => ?_⟩
  by_cases hk : k < sh.length
  · rw [if_pos ⟨Nat.zero_le _, by omega⟩, Nat.sub_zero]
    cases zSg sh' k <;> simp [zRe_0]
  · rw [if_neg (by omega), zSg_eq, zSg_eq, List.getElem?_eq_none (by omega), List.getElem?_eq_none (by omega)]
section ZWO
variable {Y Yc : zY} {kc nc : Nat} {Z : zS → Prop} {pc idx n : Nat} {ls : zL} {st S0 S1 av : List Value} {sh sh' : List va_E} {M N' : zM} {o : Nat} {rv : Option Value}
end ZWO
/-! COPY: a row's numbers into another's -/
/-! KEEPPAST: the rows of the past, in the order that the outer row gives; the eldest is used again -/
theorem zP1 {a : Nat} : nI a + 1 = nI (a + 1) := nI_1 a
theorem zP2 {a : Nat} : nI a + 1 + 1 = nI (a + 2) := by rw [nI_1, nI_1]
theorem zP3 {a : Nat} : nI a + 1 + 1 + 1 = nI (a + 3) := by rw [nI_1, nI_1, nI_1]
theorem zP4 {a : Nat} : nI a + 1 + 1 + 1 + 1 = nI (a + 4) := by rw [nI_1, nI_1, nI_1, nI_1]
theorem zTyI {x : Int32} {ty : Nat} (hty : x = nI ty) (h : ty ≤ 600) (c : x + 20 ≤ 600) : ty + 20 ≤ 600 := by
  rw [hty, show (20 : Int32) = nI 20 from rfl, nI_add, show (600 : Int32) = nI 600 from rfl] at c
  exact (nI_leI (by omega) (by decide)).mp c
section ZFL
variable {Y : zY} {kc nc : Nat} {Z : zS → Prop} {pc : Nat} {ls : zL} {st : List Value} {sh : List va_E} {M M' : zM}
theorem zT.fret {v v' : UInt32} (hv : v' = v) (hm : M' = M) (hr : Y.2.2.2.1 = some .float) (hd : decode Y.2.1 pc = .ok (.freturn, 1)) : zT Y 0 0 (zEnd Y (some (.float v')) sh M') (pc, ls, [.float v], sh, M) := by
  subst hv hm
  exact zT.here ⟨rfl, rfl, rfl, Or.inr (Or.inr (Or.inr (Or.inl ⟨_, rfl, hr, hd⟩)))⟩
theorem zT.dret {v v' : UInt64} (hv : v' = v) (hm : M' = M) (hr : Y.2.2.2.1 = some .double) (hd : decode Y.2.1 pc = .ok (.dreturn, 1)) : zT Y 0 0 (zEnd Y (some (.double v')) sh M') (pc, ls, [.double v], sh, M) := by
  subst hv hm
  exact zT.here ⟨rfl, rfl, rfl, Or.inr (Or.inr (Or.inr (Or.inr ⟨_, rfl, hr, hd⟩)))⟩
end ZFL
theorem zT.wx {Y : zY} {kc nc : Nat} {Z : zS → Prop} {α β : Type} (d : α → β) (f : α → α ⊕ β) (P : α → Prop) (μ : α → Nat) (S : α → zS) (Es : β → zS)
    (hf : ∀ x y, P x → f x = .inl y → P y ∧ μ y < μ x)
    (hb : ∀ x, P x → (∀ y, f x = .inl y → zT Y kc nc Z (S y)) → (∀ b, f x = .inr b → zT Y kc nc Z (Es b)) → zT Y kc nc Z (S x)) (k : Nat) (x : α) (hx : P x) (hk : μ x < k) (he : zT Y kc nc Z (Es (zWr d f k x))) : zT Y kc nc Z (S x) :=
  zT.wr d f P μ S (fun b => zT Y kc nc Z (Es b)) hf hb k x hx hk he
theorem zWr_P {α β : Type} {d : α → β} {f : α → α ⊕ β} {P : α → Prop} {μ : α → Nat} {R : β → Prop} (hf : ∀ x y, P x → f x = .inl y → P y ∧ μ y < μ x) (hr : ∀ x b, P x → f x = .inr b → R b) :
    ∀ (k : Nat) (x : α), P x → μ x < k → R (zWr d f k x)
  | 0, x, _, h => absurd h (Nat.not_lt_zero _)
  | k + 1, x, hx, hk => by
    cases e : f x with
    | inl y =>
      obtain ⟨h1, h2⟩ := hf x y hx e
      rw [zWr, e]
      exact zWr_P hf hr k y h1 (by omega)
    | inr b =>
      rw [zWr, e]
      exact hr x b hx e
/-- what a step keeps, the loop keeps -/
theorem zWr_keep {γ : Type} {f : zM → zM ⊕ zM} (q : zM → γ) (hi : ∀ x y, f x = .inl y → q y = q x) (hr : ∀ x y, f x = .inr y → q y = q x) : ∀ (k : Nat) (x : zM), q (zWr (fun m => m) f k x) = q x
  | 0, x => rfl
  | k + 1, x => by
    cases e : f x with
    | inl y => rw [zWr, e]; exact (zWr_keep q hi hr k y).trans (hi x y e)
    | inr b => rw [zWr, e]; exact hr x b e
