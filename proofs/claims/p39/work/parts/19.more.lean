/-! LOOPS THAT LOOK FOR THE FIRST, and loops that end by a measure -/
def zFst {β : Type} (f : Nat → Option β) (d : β) : Nat → Nat → β
  | 0, _ => d
  | k + 1, i => match f i with
    | some b => b
    | none => zFst f d k (i + 1)
theorem zT.fst {Y : zY} {kc nc : Nat} {Z : zS → Prop} {β : Type} (f : Nat → Option β) (d : β) (n : Nat) (S : Nat → zS) {R : β} (hR : R = zFst f d n 0)
    (hb : ∀ i, i < n → (f i = none → zT Y kc nc Z (S (i + 1))) → (∀ b, f i = some b → R = b) → zT Y kc nc Z (S i)) (he : R = d → zT Y kc nc Z (S n)) : zT Y kc nc Z (S 0) := by
  have key : ∀ k, k ≤ n → R = zFst f d k (n - k) → zT Y kc nc Z (S (n - k)) := by
    intro k
    induction k with
    | zero => intro _ h; exact he h
    | succ k ih =>
      intro hk h
      refine hb (n - (k + 1)) (by omega) (fun e => ?_) (fun b e => ?_)
      · have h1 := ih (by omega)
        rw [show n - k = n - (k + 1) + 1 by omega] at h1
        refine h1 ?_
        rw [h]
        show (match f (n - (k + 1)) with | some b => b | none => _) = _
        rw [e]
      · rw [h]
        show (match f (n - (k + 1)) with | some b => b | none => _) = _
        rw [e]
  have h := key n (Nat.le_refl n)
  rw [Nat.sub_self] at h
  exact h hR
def zWr {α β : Type} (d : α → β) (f : α → α ⊕ β) : Nat → α → β
  | 0, x => d x
  | k + 1, x => match f x with
    | .inl y => zWr d f k y
    | .inr b => b
theorem zT.wr {Y : zY} {kc nc : Nat} {Z : zS → Prop} {α β : Type} (d : α → β) (f : α → α ⊕ β) (P : α → Prop) (μ : α → Nat) (S : α → zS) (E : β → Prop)
    (hf : ∀ x y, P x → f x = .inl y → P y ∧ μ y < μ x)
    (hb : ∀ x, P x → (∀ y, f x = .inl y → zT Y kc nc Z (S y)) → (∀ b, f x = .inr b → E b) → zT Y kc nc Z (S x)) :
    ∀ (k : Nat) (x : α), P x → μ x < k → E (zWr d f k x) → zT Y kc nc Z (S x)
  | 0, x, _, h, _ => absurd h (Nat.not_lt_zero _)
  | k + 1, x, hx, hk, he => by
    refine hb x hx (fun y e => ?_) (fun b e => ?_)
    · obtain ⟨h1, h2⟩ := hf x y hx e
      refine zT.wr d f P μ S E hf hb k y h1 (by omega) ?_
      rw [zWr, e] at he
      exact he
    · rw [zWr, e] at he
      exact he
/-! A ROW OF INTS stored into a row of rows -/
