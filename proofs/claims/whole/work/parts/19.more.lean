/-! LOOPS THAT LOOK FOR THE FIRST, and loops that end by a measure -/
def zFst {β : Type} (f : Nat → Option β) (d : β) : Nat → Nat → β
  | 0, _ => d
  | k + 1, i => match f i with
    | some b => b
    | none => zFst f d k (i + 1)
theorem zT.fst {Y : zY} {kc nc : Nat} {Z : zS → Prop} {β : Type} (f : Nat → Option β) (d : β) (n : Nat) (S : Nat → zS) {R : β} (hR : R = zFst f d n 0)
    (hb : ∀ i, i < n → (f i = none → zT Y kc nc Z (S (i + 1))) → (∀ b, f i = some b → R = b) → zT Y kc nc Z (S i)) (he : R = d → zT Y kc nc Z (S n)) : zT Y kc nc Z (S 0) := by
  have key : ∀ k, k ≤ n → R = zFst f d k (n - k) → zT Y kc nc Z (S (n - k)) := by
    intro k
    induction k with
    | zero => intro _ h; exact he h
    | succ k ih =>
      intro hk h
      refine hb (n - (k + 1)) (by omega) (fun e => ?_) (fun b e => ?_)
      · have h1 := ih (by omega)
        rw [show n - k = n - (k + 1) + 1 by omega] at h1
        refine h1 ?_
        rw [h]
        show (match f (n - (k + 1)) with | some b => b | none => _) = _
        rw [e]
      · rw [h]
        show (match f (n - (k + 1)) with | some b => b | none => _) = _
        rw [e]
  have h := key n (Nat.le_refl n)
  rw [Nat.sub_self] at h
  exact h hR
def zWr {α β : Type} (d : α → β) (f : α → α ⊕ β) : Nat → α → β
  | 0, x => d x
  | k + 1, x => match f x with
    | .inl y => zWr d f k y
    | .inr b => b
theorem zT.wr {Y : zY} {kc nc : Nat} {Z : zS → Prop} {α β : Type} (d : α → β) (f : α → α ⊕ β) (P : α → Prop) (μ : α → Nat) (S : α → zS) (E : β → Prop)
    (hf : ∀ x y, P x → f x = .inl y → P y ∧ μ y < μ x)
    (hb : ∀ x, P x → (∀ y, f x = .inl y → zT Y kc nc Z (S y)) → (∀ b, f x = .inr b → E b) → zT Y kc nc Z (S x)) :
    ∀ (k : Nat) (x : α), P x → μ x < k → E (zWr d f k x) → zT Y kc nc Z (S x)
  | 0, x, _, h, _ => absurd h (Nat.not_lt_zero _)
  | k + 1, x, hx, hk, he => by
    refine hb x hx (fun y e => ?_) (fun b e => ?_)
    · obtain ⟨h1, h2⟩ := hf x y hx e
      refine zT.wr d f P μ S E hf hb k y h1 (by omega) ?_
      rw [zWr, e] at he
      exact he
    · rw [zWr, e] at he
      exact he
/-! A ROW OF INTS stored into a row of rows -/
theorem zAsg (v : Vm) (c : ClassId) : v.assignable c c = true := by
  show ((c == c) || _) = true
  rw [beq_self_eq_true, Bool.true_or]
set_option maxHeartbeats 2000000 in
theorem zT.rast {Y : zY} {kc nc : Nat} {Z : zS → Prop} {pc : Nat} {ls : zL} {st : List Value} {sh : List va_E} {M : zM} {o n nq k q : Nat} {i : Int32} {g : Nat → Option Nat} {z : Nat → Int32}
    (hs : zSg sh o = some (.inl (4, n, .inr (.inr (.inr (.inr g)))))) (hq : zSg sh q = some (.inl (0, nq, .inl z))) (hi : i = nI k) (hk : k < n) (hn : n < 2 ^ 31) (hd : decode Y.2.1 pc = .ok (.aastore, 1))
    (k1 : zT Y kc nc Z (pc + 1, ls, st, sh.set o (.inl (4, n, .inr (.inr (.inr (.inr (fun j => if j = k then some q else g j)))))), M)) : zT Y kc nc Z (pc, ls, .ref q :: .int i :: .ref o :: st, sh, M) := by
  refine zT.step (S1 := (pc + 1, ls, st, sh.set o (.inl (4, n, .inr (.inr (.inr (.inr (fun j => if j = k then some q else g j)))))), M)) (by simp) ?_ k1
  intro p l e R s m args below meth c D cA ex A E Q cells slots as _ _ k9 H locs lsR hP hD hS hl
  subst hi
  have ha := zWd_at (cA := cA) (as := as) (ex := ex) (M := M) hs
  have hv := zWd_at (cA := cA) (as := as) (ex := ex) (M := M) hq
  obtain ⟨comp, c4, kA, f1, -, f2, f3, f4⟩ := zAOA (args := #[]) (E.2.2.2.2.2.2.2.1.2.2.2.2.2.2.2.2.2.2.1 : va_AOA .int s)
  have r0 : s.vm.findClass "[I" = some (cA 0) := (E.2.2.2.2.2.1.2 0 _ rfl).2
  have r4 : s.vm.findClass "[[I" = some (cA 4) := (E.2.2.2.2.2.1.2 4 _ rfl).2
  have e0 : comp = cA 0 := Option.some.inj (f1.symm.trans r0)
  have e4 : c4 = cA 4 := Option.some.inj (f2.symm.trans r4)
  subst e0
  subst e4
  obtain ⟨kC, hkC, -⟩ := Vm.findClass_spec r0
  refine W.aast E.1 E.2.1 (hP o _ ha) (fun q h => by cases h) (fun h => by cases h) f3 f4 rfl hkC ⟨nI_pos (by omega), by rw [nI_clamp (by omega)]; show _ < (arrV _ _ _).slots.size; rw [arrV_size]; exact hk⟩ (hP q _ hv) (fun q h => by cases h) hkC (zAsg s.vm (cA 0)) rfl rfl hd fun H1 e1 z1 oq => ?_
  have hW : (zWd cA as ex M 0 sh).set o (as o, .inl (cA 4, n, .inr (.inr (.inr (.inr (va_up (fun j => (g j).map as) k (some (as q)))))))) = zWd cA as ex M 0 (sh.set o (.inl (4, n, .inr (.inr (.inr (.inr (fun j => if j = k then some q else g j))))))) := by
    have h8 := zWd_set (cA := cA) (as := as) (ex := ex) (M := M) (M' := M) (sh := sh) (k := o) (q' := .inl (4, n, .inr (.inr (.inr (.inr (fun j => if j = k then some q else g j)))))) (fun j hj => rfl)
    rw [← h8]
    congr 1
    refine congrArg (fun f : Nat → Option Nat => ((as o, Sum.inl (cA 4, n, Sum.inr (Sum.inr (Sum.inr (Sum.inr f))))) : Nat × va_E)) (funext fun j => ?_)
    by_cases hj : j = k
    · subst hj
      simp [va_up]
    · simp [va_up, hj]
  have hP1 := hP.set hD ha (e := .inl (cA 4, n, .inr (.inr (.inr (.inr (va_up (fun j => (g j).map as) k (some (as q)))))))) ?_ oq
  · have hD1 := hD.set ha (e := .inl (cA 4, n, .inr (.inr (.inr (.inr (va_up (fun j => (g j).map as) k (some (as q))))))))
    rw [hW] at hP1 hD1
    exact k9 H1 _ lsR hP1 hD1 (hS.put z1 oq (hD.2 o _ ha)) hl
  · show H1[as o]? = some (vp_cell _ _)
    rw [e1, nI_clamp (by omega)]
    show some ((vp_cell (cA 4) (n, .inr (.inr (.inr (.inr (fun j => (g j).map as)))))).setSlot k (.ref (as q))) = _
    rw [vp_cell_q, vp_cell_q, arrV_store]
    congr 2
    funext j
    by_cases hj : j = k
    · subst hj
      simp [updV, va_up, va_rf]
    · simp [updV, va_up, hj]
