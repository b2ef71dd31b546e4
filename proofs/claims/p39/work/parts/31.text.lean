/-! THE TEXT BUFFER: a place f of it lies in the text -/
def zAq (f ty : Nat) (m : zM) : Prop := m 0 0 = nI ty ∧ ∃ a, a ≤ ty ∧ m 0 f = nI a
theorem zAqL {f ty : Nat} {m : zM} (h : zAq f ty m) (h6 : ty ≤ 600) : m 0 f = nI (m 0 f).toNatClampNeg ∧ (m 0 f).toNatClampNeg ≤ ty := by
  obtain ⟨h1, a, h2, h3⟩ := h
  rw [h3, nI_clamp (by omega)]
  exact ⟨rfl, h2⟩
theorem zAqI {f ty : Nat} {m : zM} (h : zAq f ty m) (h6 : ty ≤ 600) (c : ¬ m 0 0 ≤ m 0 f) : m 0 f = nI (m 0 f).toNatClampNeg ∧ (m 0 f).toNatClampNeg < ty := by
  obtain ⟨h1, a, h2, h3⟩ := h
  rw [h3, nI_clamp (by omega)]
  refine ⟨rfl, ?_⟩
  rw [h1, h3] at c
  exact zLt rfl (by omega) (by omega) c
theorem zAqJ {f ty : Nat} {m : zM} (h : zAq f ty m) (h6 : ty ≤ 600) (c : m 0 f < m 0 0) : m 0 f = nI (m 0 f).toNatClampNeg ∧ (m 0 f).toNatClampNeg < ty := zAqI h h6 (fun q => absurd c (Int32.not_lt.mpr q))
theorem zAqS {f ty : Nat} {m m' : zM} (h : zAq f ty m) (h6 : ty ≤ 600) (c : ¬ m 0 0 ≤ m 0 f) (e1 : m' 0 0 = m 0 0) (e2 : m' 0 f = m 0 f + 1) : zAq f ty m' ∧ ty - (m' 0 f).toNatClampNeg < ty - (m 0 f).toNatClampNeg := by
  have hI := zAqI h h6 c
  obtain ⟨h1, a, h2, h3⟩ := h
  rw [h3, nI_clamp (by omega)] at hI
  have e3 : m' 0 f = nI (a + 1) := by rw [e2, h3, nI_1]
  refine ⟨⟨e1.trans h1, a + 1, by omega, e3⟩, ?_⟩
  rw [e3, h3, nI_clamp (by omega), nI_clamp (by omega)]
  omega
theorem zAq.of {f ty : Nat} {m m' : zM} (h : zAq f ty m) (e1 : m' 0 0 = m 0 0) (e2 : m' 0 f = m 0 f) : zAq f ty m' := by
  unfold zAq at h ⊢
  rw [e1, e2]
  exact h
/-- .. no sooner than a0 -/
def zAqG (f ty a0 : Nat) (m : zM) : Prop := zAq f ty m ∧ a0 ≤ (m 0 f).toNatClampNeg
/-- a token in the text -/
def zTq (ty : Nat) (m : zM) : Prop := m 0 0 = nI ty ∧ ∃ f a, f ≤ a ∧ a ≤ ty ∧ m 0 3 = nI f ∧ m 0 4 = nI a
theorem zTq.e {ty : Nat} {m : zM} (h : zTq ty m) : zAq 4 ty m := by
  obtain ⟨h1, f, a, h2, h3, h4, h5⟩ := h
  exact ⟨h1, a, h3, h5⟩
theorem zTq.of {ty : Nat} {m m' : zM} (h : zTq ty m) (e : m' 0 = m 0) : zTq ty m' := by
  unfold zTq at h ⊢
  rw [e]
  exact h
theorem zTqI {ty i : Nat} {m : zM} (h : zTq ty m) (h6 : ty ≤ 600) (hi : i < 600) (c : ¬ m 0 0 ≤ m 0 3 + nI i) : m 0 3 + nI i = nI ((m 0 3).toNatClampNeg + i) ∧ (m 0 3).toNatClampNeg + i < 600 := by
  obtain ⟨h1, f, a, h2, h3, h4, h5⟩ := h
  rw [h1, h4, nI_add] at c
  have h7 := zLt rfl (by omega) (by omega) c
  rw [h4, nI_clamp (by omega), nI_add]
  exact ⟨rfl, by omega⟩
noncomputable abbrev yy_X8_takeWord : zY := (yX8_takeWord, cX8_takeWord, 1, none, 0, 0)
noncomputable def f_X8_takeWord_0 (M : zM) (ty : Nat) (m1 : zM) : zM ⊕ zM := (if (m1 0 0) ≤ (m1 0 4) then (.inr m1) else (if (m1 1 (m1 0 4).toNatClampNeg) < 97 then (.inr m1) else (if 122 < (m1 1 (m1 0 4).toNatClampNeg) then (.inr m1) else (.inl (zU m1 0 4 ((m1 0 4) + 1))))))
theorem hf_takeWord (M : zM) (ty : Nat) (h600 : ty ≤ 600) : ∀ x y : zM, zAq 4 ty x → f_X8_takeWord_0 M ty x = .inl y → zAq 4 ty y ∧ ty - (y 0 4).toNatClampNeg < ty - (x 0 4).toNatClampNeg := by
  intro x y hx h
  simp only [f_X8_takeWord_0] at h
  (repeat' split at h) <;> first
    | (cases h; done)
    | (have e := Sum.inl.inj h
       subst e
       exact zAqS hx h600 (by assumption) rfl rfl)
noncomputable def w_X8_takeWord_0 (M : zM) (ty : Nat) (m : zM) : zM := zWr (fun (m : zM) => m) (f_X8_takeWord_0 M ty) (ty + 1) m
theorem wr_takeWord (M : zM) (ty : Nat) (h600 : ty ≤ 600) (m : zM) (hm : zAq 4 ty m) : zAq 4 ty (w_X8_takeWord_0 M ty m) := by
  refine zWr_P (hf_takeWord M ty h600) (fun x b hx e => ?_) _ m hm (by omega)
  simp only [f_X8_takeWord_0] at e
  (repeat' split at e) <;> first
    | (cases e; done)
    | (have e := Sum.inr.inj e
       subst e
       exact hx)
theorem mo_takeWord (M : zM) (ty a0 : Nat) (h600 : ty ≤ 600) (m : zM) (hm : zAqG 4 ty a0 m) : zAqG 4 ty a0 (w_X8_takeWord_0 M ty m) := by
  refine zWr_P (P := zAqG 4 ty a0) (μ := fun m => ty - (m 0 4).toNatClampNeg) (fun x y hx e => ?_) (fun x b hx e => ?_) _ m hm (by omega)
  · have h := hf_takeWord M ty h600 x y hx.1 e
    have h1 := (zAqL hx.1 h600).2
    have h2 := (zAqL h.1 h600).2
    exact ⟨⟨h.1, by have := h.2; have := hx.2; omega⟩, h.2⟩
  · simp only [f_X8_takeWord_0] at e
    (repeat' split at e) <;> first
      | (cases e; done)
      | (have e := Sum.inr.inj e
         subst e
         exact hx)
theorem kp_takeWord (M : zM) (ty : Nat) (m : zM) : (∀ o, o ≠ 0 → w_X8_takeWord_0 M ty m o = m o) ∧ ∀ k, k ≠ 4 → w_X8_takeWord_0 M ty m 0 k = m 0 k := by
  refine ⟨fun o ho => zWr_keep (fun m => m o) (fun x y e => ?_) (fun x y e => ?_) _ m, fun k h1 => zWr_keep (fun m => m 0 k) (fun x y e => ?_) (fun x y e => ?_) _ m⟩ <;>
    (simp only [f_X8_takeWord_0] at e
     (repeat' split at e) <;> first
      | (cases e; done)
      | (have e := Sum.inl.inj e; subst e; first | rfl | simp only [zU_ne ho] | simp only [zU_k (o := k) h1])
      | (have e := Sum.inr.inj e; subst e; rfl))
noncomputable def g_X8_takeWord (M : zM) (ty : Nat) : zM := (w_X8_takeWord_0 M ty M)
set_option maxRecDepth 100000 in
theorem c_X8_takeWord (M : zM) (ty : Nat) (h600 : ty ≤ 600) (hat : zAq 4 ty M) : zC yy_X8_takeWord 0 0 [.ref 0] sh_Text M none sh_Text (g_X8_takeWord M ty) := by
  refine zC.of (by decide +kernel) rfl (Nat.le_of_ble_eq_true rfl) ?_
  refine zT.wx (fun (m : zM) => m) (f_X8_takeWord_0 M ty) (zAq 4 ty) (fun (m : zM) => ty - (m 0 4).toNatClampNeg) (fun (m : zM) => (0, [some (.ref 0)], [], sh_Text, m)) (fun (m : zM) => (52, [some (.ref 0)], [], sh_Text, m)) (hf_takeWord M ty h600) (fun m1 hp1 k1 kk1 => ?_) (ty + 1) M hat (by omega) ?_
  · skip
    show zT _ _ _ _ (0, [some (.ref 0)], [], sh_Text, m1)
    refine zT.run [(.aload_n 0, 0, 0, 0), (.getfield 19, 6, 4, 1053), (.aload_n 0, 0, 0, 0), (.getfield 15, 6, 0, 1047)] (pe := 8) (ls' := [some (.ref 0)]) (st' := [.int (m1 0 0), .int (m1 0 4)]) (M' := m1) (by decide +kernel) rfl ?_
    refine zT.cge (tgt := 52) (off := 44) (by decide +kernel) (by decide) (fun (c1 : (m1 0 0) ≤ (m1 0 4)) => ?_) (fun (c1 : ¬ (m1 0 0) ≤ (m1 0 4)) => ?_)
    · skip
      exact kk1 _ (by simp only [f_X8_takeWord_0, if_pos c1])
    · skip
      refine zT.run [(.aload_n 0, 0, 0, 0), (.getfield 9, 6, 1, 1049), (.aload_n 0, 0, 0, 0), (.getfield 19, 6, 4, 1053)] (pe := 19) (ls' := [some (.ref 0)]) (st' := [.int (m1 0 4), .ref 1]) (M' := m1) (by decide +kernel) rfl ?_
      refine zT.bald (n := 600) (k := (m1 0 4).toNatClampNeg) rfl (zAqI hp1 h600 (by assumption)).1 (by have := (zAqI hp1 h600 (by assumption)).2; omega) (by decide) (by decide +kernel) ?_
      refine zT.run [(.bipush 97, 0, 0, 0)] (pe := 22) (ls' := [some (.ref 0)]) (st' := [.int 97, .int (m1 1 (m1 0 4).toNatClampNeg)]) (M' := m1) (by decide +kernel) rfl ?_
      refine zT.clt (tgt := 52) (off := 30) (by decide +kernel) (by decide) (fun (c2 : (m1 1 (m1 0 4).toNatClampNeg) < 97) => ?_) (fun (c2 : ¬ (m1 1 (m1 0 4).toNatClampNeg) < 97) => ?_)
      · skip
        exact kk1 _ (by simp only [f_X8_takeWord_0, if_neg c1, if_pos c2])
      · skip
        refine zT.run [(.aload_n 0, 0, 0, 0), (.getfield 9, 6, 1, 1049), (.aload_n 0, 0, 0, 0), (.getfield 19, 6, 4, 1053)] (pe := 33) (ls' := [some (.ref 0)]) (st' := [.int (m1 0 4), .ref 1]) (M' := m1) (by decide +kernel) rfl ?_
        refine zT.bald (n := 600) (k := (m1 0 4).toNatClampNeg) rfl (zAqI hp1 h600 (by assumption)).1 (by have := (zAqI hp1 h600 (by assumption)).2; omega) (by decide) (by decide +kernel) ?_
        refine zT.run [(.bipush 122, 0, 0, 0)] (pe := 36) (ls' := [some (.ref 0)]) (st' := [.int 122, .int (m1 1 (m1 0 4).toNatClampNeg)]) (M' := m1) (by decide +kernel) rfl ?_
        refine zT.cgt (tgt := 52) (off := 16) (by decide +kernel) (by decide) (fun (c3 : 122 < (m1 1 (m1 0 4).toNatClampNeg)) => ?_) (fun (c3 : ¬ 122 < (m1 1 (m1 0 4).toNatClampNeg)) => ?_)
        · skip
          exact kk1 _ (by simp only [f_X8_takeWord_0, if_neg c1, if_neg c2, if_pos c3])
        · skip
          refine zT.run [(.aload_n 0, 0, 0, 0), (.dup, 0, 0, 0), (.getfield 19, 6, 4, 1053), (.iconst 1, 0, 0, 0), (.iadd, 0, 0, 0), (.putfield 19, 6, 4, 1053), (.goto (-49), 0, 0, 0)] (pe := 0) (ls' := [some (.ref 0)]) (st' := []) (M' := (zU m1 0 4 ((m1 0 4) + 1))) (by decide +kernel) rfl ?_
          exact k1 _ (by simp only [f_X8_takeWord_0, if_neg c1, if_neg c2, if_neg c3])
  · skip
    show zT _ _ _ _ (52, [some (.ref 0)], [], sh_Text, (w_X8_takeWord_0 M ty M))
    have hw0 : zAq 4 ty (w_X8_takeWord_0 M ty M) := wr_takeWord M ty h600 M hat
    exact zT.vret (by simp only [g_X8_takeWord]; try rfl) rfl (by decide +kernel)
theorem fr_X8_takeWord (M : zM) (ty : Nat) (o : Nat) (ho : o ≠ 0) : (g_X8_takeWord M ty) o = M o := by
  simp only [g_X8_takeWord]
  (repeat' split) <;> simp only [zU_ne ho, zUa_ne ho, (fun MM ty mm => (kp_takeWord MM ty mm).1 o (by omega))]
theorem k_X8_takeWord : zCal yy_X8_takeWord 0 := ⟨⟨⟨⟨zIn (w := 3213) (by decide +kernel) rfl, zIn (w := 1003) (by decide +kernel) rfl⟩, by decide +kernel⟩, by decide +kernel⟩, ⟨zIn (w := 3212) (by decide +kernel) rfl, zIn (w := 6) (by decide +kernel) rfl⟩⟩
noncomputable abbrev yy_X8_takeNumber : zY := (yX8_takeNumber, cX8_takeNumber, 1, none, 0, 0)
noncomputable def f_X8_takeNumber_5 (M : zM) (ty : Nat) (m1 : zM) : zM ⊕ zM := (if (m1 0 0) ≤ (m1 0 4) then (.inr m1) else (if (m1 1 (m1 0 4).toNatClampNeg) < 48 then (.inr m1) else (if 57 < (m1 1 (m1 0 4).toNatClampNeg) then (.inr m1) else (.inl (zU (zU m1 0 5 (((10 * (m1 0 5)) + (m1 1 (m1 0 4).toNatClampNeg)) - 48)) 0 4 ((m1 0 4) + 1))))))
theorem hf_takeNumber (M : zM) (ty : Nat) (h600 : ty ≤ 600) : ∀ x y : zM, zAq 4 ty x → f_X8_takeNumber_5 M ty x = .inl y → zAq 4 ty y ∧ ty - (y 0 4).toNatClampNeg < ty - (x 0 4).toNatClampNeg := by
  intro x y hx h
  simp only [f_X8_takeNumber_5] at h
  (repeat' split at h) <;> first
    | (cases h; done)
    | (have e := Sum.inl.inj h
       subst e
       exact zAqS hx h600 (by assumption) rfl rfl)
noncomputable def w_X8_takeNumber_5 (M : zM) (ty : Nat) (m : zM) : zM := zWr (fun (m : zM) => m) (f_X8_takeNumber_5 M ty) (ty + 1) m
theorem wr_takeNumber (M : zM) (ty : Nat) (h600 : ty ≤ 600) (m : zM) (hm : zAq 4 ty m) : zAq 4 ty (w_X8_takeNumber_5 M ty m) := by
  refine zWr_P (hf_takeNumber M ty h600) (fun x b hx e => ?_) _ m hm (by omega)
  simp only [f_X8_takeNumber_5] at e
  (repeat' split at e) <;> first
    | (cases e; done)
    | (have e := Sum.inr.inj e
       subst e
       exact hx)
theorem mo_takeNumber (M : zM) (ty a0 : Nat) (h600 : ty ≤ 600) (m : zM) (hm : zAqG 4 ty a0 m) : zAqG 4 ty a0 (w_X8_takeNumber_5 M ty m) := by
  refine zWr_P (P := zAqG 4 ty a0) (μ := fun m => ty - (m 0 4).toNatClampNeg) (fun x y hx e => ?_) (fun x b hx e => ?_) _ m hm (by omega)
  · have h := hf_takeNumber M ty h600 x y hx.1 e
    have h1 := (zAqL hx.1 h600).2
    have h2 := (zAqL h.1 h600).2
    exact ⟨⟨h.1, by have := h.2; have := hx.2; omega⟩, h.2⟩
  · simp only [f_X8_takeNumber_5] at e
    (repeat' split at e) <;> first
      | (cases e; done)
      | (have e := Sum.inr.inj e
         subst e
         exact hx)
theorem kp_takeNumber (M : zM) (ty : Nat) (m : zM) : (∀ o, o ≠ 0 → w_X8_takeNumber_5 M ty m o = m o) ∧ ∀ k, k ≠ 4 → k ≠ 5 → w_X8_takeNumber_5 M ty m 0 k = m 0 k := by
  refine ⟨fun o ho => zWr_keep (fun m => m o) (fun x y e => ?_) (fun x y e => ?_) _ m, fun k h1 h2 => zWr_keep (fun m => m 0 k) (fun x y e => ?_) (fun x y e => ?_) _ m⟩ <;>
    (simp only [f_X8_takeNumber_5] at e
     (repeat' split at e) <;> first
      | (cases e; done)
      | (have e := Sum.inl.inj e; subst e; first | rfl | simp only [zU_ne ho] | simp only [zU_k (o := k) h1, zU_k (o := k) h2])
      | (have e := Sum.inr.inj e; subst e; rfl))
noncomputable def g_X8_takeNumber (M : zM) (ty : Nat) : zM := (w_X8_takeNumber_5 M ty (zU M 0 5 0))
set_option maxRecDepth 100000 in
theorem c_X8_takeNumber (M : zM) (ty : Nat) (h600 : ty ≤ 600) (hat : zAq 4 ty M) : zC yy_X8_takeNumber 0 0 [.ref 0] sh_Text M none sh_Text (g_X8_takeNumber M ty) := by
  refine zC.of (by decide +kernel) rfl (Nat.le_of_ble_eq_true rfl) ?_
  refine zT.run [(.aload_n 0, 0, 0, 0), (.iconst 0, 0, 0, 0), (.putfield 37, 6, 5, 1054)] (pe := 5) (ls' := [some (.ref 0)]) (st' := []) (M' := (zU M 0 5 0)) (by decide +kernel) rfl ?_
  refine zT.wx (fun (m : zM) => m) (f_X8_takeNumber_5 M ty) (zAq 4 ty) (fun (m : zM) => ty - (m 0 4).toNatClampNeg) (fun (m : zM) => (5, [some (.ref 0)], [], sh_Text, m)) (fun (m : zM) => (81, [some (.ref 0)], [], sh_Text, m)) (hf_takeNumber M ty h600) (fun m1 hp1 k1 kk1 => ?_) (ty + 1) (zU M 0 5 0) hat (by omega) ?_
  · skip
    show zT _ _ _ _ (5, [some (.ref 0)], [], sh_Text, m1)
    refine zT.run [(.aload_n 0, 0, 0, 0), (.getfield 19, 6, 4, 1053), (.aload_n 0, 0, 0, 0), (.getfield 15, 6, 0, 1047)] (pe := 13) (ls' := [some (.ref 0)]) (st' := [.int (m1 0 0), .int (m1 0 4)]) (M' := m1) (by decide +kernel) rfl ?_
    refine zT.cge (tgt := 81) (off := 68) (by decide +kernel) (by decide) (fun (c1 : (m1 0 0) ≤ (m1 0 4)) => ?_) (fun (c1 : ¬ (m1 0 0) ≤ (m1 0 4)) => ?_)
    · skip
      exact kk1 _ (by simp only [f_X8_takeNumber_5, if_pos c1])
    · skip
      refine zT.run [(.aload_n 0, 0, 0, 0), (.getfield 9, 6, 1, 1049), (.aload_n 0, 0, 0, 0), (.getfield 19, 6, 4, 1053)] (pe := 24) (ls' := [some (.ref 0)]) (st' := [.int (m1 0 4), .ref 1]) (M' := m1) (by decide +kernel) rfl ?_
      refine zT.bald (n := 600) (k := (m1 0 4).toNatClampNeg) rfl (zAqI hp1 h600 (by assumption)).1 (by have := (zAqI hp1 h600 (by assumption)).2; omega) (by decide) (by decide +kernel) ?_
      refine zT.run [(.bipush 48, 0, 0, 0)] (pe := 27) (ls' := [some (.ref 0)]) (st' := [.int 48, .int (m1 1 (m1 0 4).toNatClampNeg)]) (M' := m1) (by decide +kernel) rfl ?_
      refine zT.clt (tgt := 81) (off := 54) (by decide +kernel) (by decide) (fun (c2 : (m1 1 (m1 0 4).toNatClampNeg) < 48) => ?_) (fun (c2 : ¬ (m1 1 (m1 0 4).toNatClampNeg) < 48) => ?_)
      · skip
        exact kk1 _ (by simp only [f_X8_takeNumber_5, if_neg c1, if_pos c2])
      · skip
        refine zT.run [(.aload_n 0, 0, 0, 0), (.getfield 9, 6, 1, 1049), (.aload_n 0, 0, 0, 0), (.getfield 19, 6, 4, 1053)] (pe := 38) (ls' := [some (.ref 0)]) (st' := [.int (m1 0 4), .ref 1]) (M' := m1) (by decide +kernel) rfl ?_
        refine zT.bald (n := 600) (k := (m1 0 4).toNatClampNeg) rfl (zAqI hp1 h600 (by assumption)).1 (by have := (zAqI hp1 h600 (by assumption)).2; omega) (by decide) (by decide +kernel) ?_
        refine zT.run [(.bipush 57, 0, 0, 0)] (pe := 41) (ls' := [some (.ref 0)]) (st' := [.int 57, .int (m1 1 (m1 0 4).toNatClampNeg)]) (M' := m1) (by decide +kernel) rfl ?_
        refine zT.cgt (tgt := 81) (off := 40) (by decide +kernel) (by decide) (fun (c3 : 57 < (m1 1 (m1 0 4).toNatClampNeg)) => ?_) (fun (c3 : ¬ 57 < (m1 1 (m1 0 4).toNatClampNeg)) => ?_)
        · skip
          exact kk1 _ (by simp only [f_X8_takeNumber_5, if_neg c1, if_neg c2, if_pos c3])
        · skip
          refine zT.run [(.aload_n 0, 0, 0, 0), (.bipush 10, 0, 0, 0), (.aload_n 0, 0, 0, 0), (.getfield 37, 6, 5, 1054), (.imul, 0, 0, 0), (.aload_n 0, 0, 0, 0), (.getfield 9, 6, 1, 1049), (.aload_n 0, 0, 0, 0), (.getfield 19, 6, 4, 1053)] (pe := 60) (ls' := [some (.ref 0)]) (st' := [.int (m1 0 4), .ref 1, .int (10 * (m1 0 5)), .ref 0]) (M' := m1) (by decide +kernel) rfl ?_
          refine zT.bald (n := 600) (k := (m1 0 4).toNatClampNeg) rfl (zAqI hp1 h600 (by assumption)).1 (by have := (zAqI hp1 h600 (by assumption)).2; omega) (by decide) (by decide +kernel) ?_
          refine zT.run [(.iadd, 0, 0, 0), (.bipush 48, 0, 0, 0), (.isub, 0, 0, 0), (.putfield 37, 6, 5, 1054), (.aload_n 0, 0, 0, 0), (.dup, 0, 0, 0), (.getfield 19, 6, 4, 1053), (.iconst 1, 0, 0, 0), (.iadd, 0, 0, 0), (.putfield 19, 6, 4, 1053), (.goto (-73), 0, 0, 0)] (pe := 5) (ls' := [some (.ref 0)]) (st' := []) (M' := (zU (zU m1 0 5 (((10 * (m1 0 5)) + (m1 1 (m1 0 4).toNatClampNeg)) - 48)) 0 4 ((m1 0 4) + 1))) (by decide +kernel) rfl ?_
          exact k1 _ (by simp only [f_X8_takeNumber_5, if_neg c1, if_neg c2, if_neg c3])
  · skip
    show zT _ _ _ _ (81, [some (.ref 0)], [], sh_Text, (w_X8_takeNumber_5 M ty (zU M 0 5 0)))
    have hw5 : zAq 4 ty (w_X8_takeNumber_5 M ty (zU M 0 5 0)) := wr_takeNumber M ty h600 (zU M 0 5 0) hat
    exact zT.vret (by simp only [g_X8_takeNumber]; try rfl) rfl (by decide +kernel)
theorem fr_X8_takeNumber (M : zM) (ty : Nat) (o : Nat) (ho : o ≠ 0) : (g_X8_takeNumber M ty) o = M o := by
  simp only [g_X8_takeNumber]
  (repeat' split) <;> simp only [zU_ne ho, zUa_ne ho, (fun MM ty mm => (kp_takeNumber MM ty mm).1 o (by omega))]
theorem k_X8_takeNumber : zCal yy_X8_takeNumber 0 := ⟨⟨⟨⟨zIn (w := 3217) (by decide +kernel) rfl, zIn (w := 1003) (by decide +kernel) rfl⟩, by decide +kernel⟩, by decide +kernel⟩, ⟨zIn (w := 3216) (by decide +kernel) rfl, zIn (w := 7) (by decide +kernel) rfl⟩⟩
theorem e_X8_takeWord (M : zM) (ty a0 : Nat) (h600 : ty ≤ 600) (hm : zAqG 4 ty a0 M) : zAqG 4 ty a0 (g_X8_takeWord M ty) := mo_takeWord M ty a0 h600 M hm
theorem e_X8_takeNumber (M : zM) (ty a0 : Nat) (h600 : ty ≤ 600) (hm : zAqG 4 ty a0 M) : zAqG 4 ty a0 (g_X8_takeNumber M ty) := mo_takeNumber M ty a0 h600 _ hm
theorem e2_X8_takeWord (M : zM) (ty k : Nat) (h : k ≠ 4) : g_X8_takeWord M ty 0 k = M 0 k := (kp_takeWord M ty M).2 k h
theorem e2_X8_takeNumber (M : zM) (ty k : Nat) (h : k ≠ 4) (h2 : k ≠ 5) : g_X8_takeNumber M ty 0 k = M 0 k := ((kp_takeNumber M ty _).2 k h h2).trans (zU_k h2)
theorem zAq3_tw {M : zM} {ty : Nat} (h : zAq 3 ty M) : zAq 3 ty (g_X8_takeWord M ty) := h.of (e2_X8_takeWord M ty 0 (by decide)) (e2_X8_takeWord M ty 3 (by decide))
theorem zAq3_tn {M : zM} {ty : Nat} (h : zAq 3 ty M) : zAq 3 ty (g_X8_takeNumber M ty) := h.of (e2_X8_takeNumber M ty 0 (by decide) (by decide)) (e2_X8_takeNumber M ty 3 (by decide) (by decide))
theorem zAq4_tw {M : zM} {ty : Nat} (h600 : ty ≤ 600) (h : zAq 4 ty M) : zAq 4 ty (g_X8_takeWord M ty) := (e_X8_takeWord M ty 0 h600 ⟨h, Nat.zero_le _⟩).1
noncomputable abbrev yy_X8_advance : zY := (yX8_advance, cX8_advance, 1, none, 1, 20)
noncomputable def f_X8_advance_8 (M : zM) (ty : Nat) (m1 : zM) : zM ⊕ zM := (if (m1 0 0) ≤ (m1 0 3) then (.inr m1) else (if (m1 1 (m1 0 3).toNatClampNeg) = 32 then (.inl (zU m1 0 3 ((m1 0 3) + 1))) else (if (m1 1 (m1 0 3).toNatClampNeg) = 10 then (.inl (zU m1 0 3 ((m1 0 3) + 1))) else (.inr m1))))
theorem hf_advance (M : zM) (ty : Nat) (h600 : ty ≤ 600) : ∀ x y : zM, zAq 3 ty x → f_X8_advance_8 M ty x = .inl y → zAq 3 ty y ∧ ty - (y 0 3).toNatClampNeg < ty - (x 0 3).toNatClampNeg := by
  intro x y hx h
  simp only [f_X8_advance_8] at h
  (repeat' split at h) <;> first
    | (cases h; done)
    | (have e := Sum.inl.inj h
       subst e
       exact zAqS hx h600 (by assumption) rfl rfl)
noncomputable def w_X8_advance_8 (M : zM) (ty : Nat) (m : zM) : zM := zWr (fun (m : zM) => m) (f_X8_advance_8 M ty) (ty + 1) m
theorem wr_advance (M : zM) (ty : Nat) (h600 : ty ≤ 600) (m : zM) (hm : zAq 3 ty m) : zAq 3 ty (w_X8_advance_8 M ty m) := by
  refine zWr_P (hf_advance M ty h600) (fun x b hx e => ?_) _ m hm (by omega)
  simp only [f_X8_advance_8] at e
  (repeat' split at e) <;> first
    | (cases e; done)
    | (have e := Sum.inr.inj e
       subst e
       exact hx)
theorem kp_advance (M : zM) (ty : Nat) (m : zM) : (∀ o, o ≠ 0 → w_X8_advance_8 M ty m o = m o) ∧ ∀ k, k ≠ 3 → w_X8_advance_8 M ty m 0 k = m 0 k := by
  refine ⟨fun o ho => zWr_keep (fun m => m o) (fun x y e => ?_) (fun x y e => ?_) _ m, fun k h1 => zWr_keep (fun m => m 0 k) (fun x y e => ?_) (fun x y e => ?_) _ m⟩ <;>
    (simp only [f_X8_advance_8] at e
     (repeat' split at e) <;> first
      | (cases e; done)
      | (have e := Sum.inl.inj e; subst e; first | rfl | simp only [zU_ne ho] | simp only [zU_k (o := k) h1])
      | (have e := Sum.inr.inj e; subst e; rfl))
noncomputable def g_X8_advance (M : zM) (ty : Nat) : zM := (if ((g_X8_takeWord (zU (w_X8_advance_8 M ty (zU M 0 3 (M 0 4))) 0 4 ((w_X8_advance_8 M ty (zU M 0 3 (M 0 4))) 0 3)) ty) 0 4) ≤ ((g_X8_takeWord (zU (w_X8_advance_8 M ty (zU M 0 3 (M 0 4))) 0 4 ((w_X8_advance_8 M ty (zU M 0 3 (M 0 4))) 0 3)) ty) 0 3) then (if ((g_X8_takeNumber (g_X8_takeWord (zU (w_X8_advance_8 M ty (zU M 0 3 (M 0 4))) 0 4 ((w_X8_advance_8 M ty (zU M 0 3 (M 0 4))) 0 3)) ty) ty) 0 4) ≤ ((g_X8_takeNumber (g_X8_takeWord (zU (w_X8_advance_8 M ty (zU M 0 3 (M 0 4))) 0 4 ((w_X8_advance_8 M ty (zU M 0 3 (M 0 4))) 0 3)) ty) ty) 0 3) then (if ((g_X8_takeNumber (g_X8_takeWord (zU (w_X8_advance_8 M ty (zU M 0 3 (M 0 4))) 0 4 ((w_X8_advance_8 M ty (zU M 0 3 (M 0 4))) 0 3)) ty) ty) 0 3) < ((g_X8_takeNumber (g_X8_takeWord (zU (w_X8_advance_8 M ty (zU M 0 3 (M 0 4))) 0 4 ((w_X8_advance_8 M ty (zU M 0 3 (M 0 4))) 0 3)) ty) ty) 0 0) then (zU (zU (g_X8_takeNumber (g_X8_takeWord (zU (w_X8_advance_8 M ty (zU M 0 3 (M 0 4))) 0 4 ((w_X8_advance_8 M ty (zU M 0 3 (M 0 4))) 0 3)) ty) ty) 0 4 (((g_X8_takeNumber (g_X8_takeWord (zU (w_X8_advance_8 M ty (zU M 0 3 (M 0 4))) 0 4 ((w_X8_advance_8 M ty (zU M 0 3 (M 0 4))) 0 3)) ty) ty) 0 3) + 1)) 0 2 (if ((g_X8_takeNumber (g_X8_takeWord (zU (w_X8_advance_8 M ty (zU M 0 3 (M 0 4))) 0 4 ((w_X8_advance_8 M ty (zU M 0 3 (M 0 4))) 0 3)) ty) ty) 1 ((g_X8_takeNumber (g_X8_takeWord (zU (w_X8_advance_8 M ty (zU M 0 3 (M 0 4))) 0 4 ((w_X8_advance_8 M ty (zU M 0 3 (M 0 4))) 0 3)) ty) ty) 0 3).toNatClampNeg) = 59 then (3 : Int32) else (4 : Int32))) else (zU (g_X8_takeNumber (g_X8_takeWord (zU (w_X8_advance_8 M ty (zU M 0 3 (M 0 4))) 0 4 ((w_X8_advance_8 M ty (zU M 0 3 (M 0 4))) 0 3)) ty) ty) 0 2 0)) else (zU (g_X8_takeNumber (g_X8_takeWord (zU (w_X8_advance_8 M ty (zU M 0 3 (M 0 4))) 0 4 ((w_X8_advance_8 M ty (zU M 0 3 (M 0 4))) 0 3)) ty) ty) 0 2 (if (((g_X8_takeNumber (g_X8_takeWord (zU (w_X8_advance_8 M ty (zU M 0 3 (M 0 4))) 0 4 ((w_X8_advance_8 M ty (zU M 0 3 (M 0 4))) 0 3)) ty) ty) 0 4) - ((g_X8_takeNumber (g_X8_takeWord (zU (w_X8_advance_8 M ty (zU M 0 3 (M 0 4))) 0 4 ((w_X8_advance_8 M ty (zU M 0 3 (M 0 4))) 0 3)) ty) ty) 0 3)) ≤ 5 then (2 : Int32) else (4 : Int32)))) else (zU (g_X8_takeWord (zU (w_X8_advance_8 M ty (zU M 0 3 (M 0 4))) 0 4 ((w_X8_advance_8 M ty (zU M 0 3 (M 0 4))) 0 3)) ty) 0 2 1))
set_option maxRecDepth 100000 in
theorem c_X8_advance (M : zM) (ty : Nat) (h600 : ty ≤ 600) (hat : zAq 4 ty M) : zC yy_X8_advance 0 0 [.ref 0] sh_Text M none sh_Text (g_X8_advance M ty) := by
  refine zC.of (by decide +kernel) rfl (Nat.le_of_ble_eq_true rfl) ?_
  refine zT.run [(.aload_n 0, 0, 0, 0), (.aload_n 0, 0, 0, 0), (.getfield 19, 6, 4, 1053), (.putfield 25, 6, 3, 1052)] (pe := 8) (ls' := [some (.ref 0)]) (st' := []) (M' := (zU M 0 3 (M 0 4))) (by decide +kernel) rfl ?_
  refine zT.wx (fun (m : zM) => m) (f_X8_advance_8 M ty) (zAq 3 ty) (fun (m : zM) => ty - (m 0 3).toNatClampNeg) (fun (m : zM) => (8, [some (.ref 0)], [], sh_Text, m)) (fun (m : zM) => (60, [some (.ref 0)], [], sh_Text, m)) (hf_advance M ty h600) (fun m1 hp1 k1 kk1 => ?_) (ty + 1) (zU M 0 3 (M 0 4)) hat (by omega) ?_
  · skip
    show zT _ _ _ _ (8, [some (.ref 0)], [], sh_Text, m1)
    refine zT.run [(.aload_n 0, 0, 0, 0), (.getfield 25, 6, 3, 1052), (.aload_n 0, 0, 0, 0), (.getfield 15, 6, 0, 1047)] (pe := 16) (ls' := [some (.ref 0)]) (st' := [.int (m1 0 0), .int (m1 0 3)]) (M' := m1) (by decide +kernel) rfl ?_
    refine zT.cge (tgt := 60) (off := 44) (by decide +kernel) (by decide) (fun (c1 : (m1 0 0) ≤ (m1 0 3)) => ?_) (fun (c1 : ¬ (m1 0 0) ≤ (m1 0 3)) => ?_)
    · skip
      exact kk1 _ (by simp only [f_X8_advance_8, if_pos c1])
    · skip
      refine zT.run [(.aload_n 0, 0, 0, 0), (.getfield 9, 6, 1, 1049), (.aload_n 0, 0, 0, 0), (.getfield 25, 6, 3, 1052)] (pe := 27) (ls' := [some (.ref 0)]) (st' := [.int (m1 0 3), .ref 1]) (M' := m1) (by decide +kernel) rfl ?_
      refine zT.bald (n := 600) (k := (m1 0 3).toNatClampNeg) rfl (zAqI hp1 h600 (by assumption)).1 (by have := (zAqI hp1 h600 (by assumption)).2; omega) (by decide) (by decide +kernel) ?_
      refine zT.run [(.bipush 32, 0, 0, 0)] (pe := 30) (ls' := [some (.ref 0)]) (st' := [.int 32, .int (m1 1 (m1 0 3).toNatClampNeg)]) (M' := m1) (by decide +kernel) rfl ?_
      refine zT.ceq (tgt := 47) (off := 17) (by decide +kernel) (by decide) (fun (c2 : (m1 1 (m1 0 3).toNatClampNeg) = 32) => ?_) (fun (c2 : ¬ (m1 1 (m1 0 3).toNatClampNeg) = 32) => ?_)
      · skip
        refine zT.run [(.aload_n 0, 0, 0, 0), (.dup, 0, 0, 0), (.getfield 25, 6, 3, 1052), (.iconst 1, 0, 0, 0), (.iadd, 0, 0, 0), (.putfield 25, 6, 3, 1052), (.goto (-49), 0, 0, 0)] (pe := 8) (ls' := [some (.ref 0)]) (st' := []) (M' := (zU m1 0 3 ((m1 0 3) + 1))) (by decide +kernel) rfl ?_
        exact k1 _ (by simp only [f_X8_advance_8, if_neg c1, if_pos c2])
      · skip
        refine zT.run [(.aload_n 0, 0, 0, 0), (.getfield 9, 6, 1, 1049), (.aload_n 0, 0, 0, 0), (.getfield 25, 6, 3, 1052)] (pe := 41) (ls' := [some (.ref 0)]) (st' := [.int (m1 0 3), .ref 1]) (M' := m1) (by decide +kernel) rfl ?_
        refine zT.bald (n := 600) (k := (m1 0 3).toNatClampNeg) rfl (zAqI hp1 h600 (by assumption)).1 (by have := (zAqI hp1 h600 (by assumption)).2; omega) (by decide) (by decide +kernel) ?_
        refine zT.run [(.bipush 10, 0, 0, 0)] (pe := 44) (ls' := [some (.ref 0)]) (st' := [.int 10, .int (m1 1 (m1 0 3).toNatClampNeg)]) (M' := m1) (by decide +kernel) rfl ?_
        refine zT.cne (tgt := 60) (off := 16) (by decide +kernel) (by decide) (fun (c3 : ¬ (m1 1 (m1 0 3).toNatClampNeg) = 10) => ?_) (fun (c3 : (m1 1 (m1 0 3).toNatClampNeg) = 10) => ?_)
        · skip
          exact kk1 _ (by simp only [f_X8_advance_8, if_neg c1, if_neg c2, if_neg c3])
        · skip
          refine zT.run [(.aload_n 0, 0, 0, 0), (.dup, 0, 0, 0), (.getfield 25, 6, 3, 1052), (.iconst 1, 0, 0, 0), (.iadd, 0, 0, 0), (.putfield 25, 6, 3, 1052), (.goto (-49), 0, 0, 0)] (pe := 8) (ls' := [some (.ref 0)]) (st' := []) (M' := (zU m1 0 3 ((m1 0 3) + 1))) (by decide +kernel) rfl ?_
          exact k1 _ (by simp only [f_X8_advance_8, if_neg c1, if_neg c2, if_pos c3])
  · skip
    show zT _ _ _ _ (60, [some (.ref 0)], [], sh_Text, (w_X8_advance_8 M ty (zU M 0 3 (M 0 4))))
    have hw8 : zAq 3 ty (w_X8_advance_8 M ty (zU M 0 3 (M 0 4))) := wr_advance M ty h600 (zU M 0 3 (M 0 4)) hat
    refine zT.run [(.aload_n 0, 0, 0, 0), (.aload_n 0, 0, 0, 0), (.getfield 25, 6, 3, 1052), (.putfield 19, 6, 4, 1053), (.aload_n 0, 0, 0, 0)] (pe := 69) (ls' := [some (.ref 0)]) (st' := [.ref 0]) (M' := (zU (w_X8_advance_8 M ty (zU M 0 3 (M 0 4))) 0 4 ((w_X8_advance_8 M ty (zU M 0 3 (M 0 4))) 0 3))) (by decide +kernel) rfl ?_
    refine zT.cV_all (o := 0) (idx := 28) (av := []) (rv := none) (st := []) (S1 := []) (c_X8_takeWord (zU (w_X8_advance_8 M ty (zU M 0 3 (M 0 4))) 0 4 ((w_X8_advance_8 M ty (zU M 0 3 (M 0 4))) 0 3)) ty h600 hw8) k_X8_takeWord _ _ rfl rfl rfl (zIn (w := 3210) (by decide +kernel) rfl) (by decide +kernel) (by decide +kernel) rfl (Nat.le_of_ble_eq_true rfl) rfl ?_
    refine zT.run [(.aload_n 0, 0, 0, 0), (.getfield 19, 6, 4, 1053), (.aload_n 0, 0, 0, 0), (.getfield 25, 6, 3, 1052)] (pe := 80) (ls' := [some (.ref 0)]) (st' := [.int ((g_X8_takeWord (zU (w_X8_advance_8 M ty (zU M 0 3 (M 0 4))) 0 4 ((w_X8_advance_8 M ty (zU M 0 3 (M 0 4))) 0 3)) ty) 0 3), .int ((g_X8_takeWord (zU (w_X8_advance_8 M ty (zU M 0 3 (M 0 4))) 0 4 ((w_X8_advance_8 M ty (zU M 0 3 (M 0 4))) 0 3)) ty) 0 4)]) (M' := (g_X8_takeWord (zU (w_X8_advance_8 M ty (zU M 0 3 (M 0 4))) 0 4 ((w_X8_advance_8 M ty (zU M 0 3 (M 0 4))) 0 3)) ty)) (by decide +kernel) rfl ?_
    refine zT.cle (tgt := 89) (off := 9) (by decide +kernel) (by decide) (fun (c4 : ((g_X8_takeWord (zU (w_X8_advance_8 M ty (zU M 0 3 (M 0 4))) 0 4 ((w_X8_advance_8 M ty (zU M 0 3 (M 0 4))) 0 3)) ty) 0 4) ≤ ((g_X8_takeWord (zU (w_X8_advance_8 M ty (zU M 0 3 (M 0 4))) 0 4 ((w_X8_advance_8 M ty (zU M 0 3 (M 0 4))) 0 3)) ty) 0 3)) => ?_) (fun (c4 : ¬ ((g_X8_takeWord (zU (w_X8_advance_8 M ty (zU M 0 3 (M 0 4))) 0 4 ((w_X8_advance_8 M ty (zU M 0 3 (M 0 4))) 0 3)) ty) 0 4) ≤ ((g_X8_takeWord (zU (w_X8_advance_8 M ty (zU M 0 3 (M 0 4))) 0 4 ((w_X8_advance_8 M ty (zU M 0 3 (M 0 4))) 0 3)) ty) 0 3)) => ?_)
    · skip
      refine zT.run [(.aload_n 0, 0, 0, 0)] (pe := 90) (ls' := [some (.ref 0)]) (st' := [.ref 0]) (M' := (g_X8_takeWord (zU (w_X8_advance_8 M ty (zU M 0 3 (M 0 4))) 0 4 ((w_X8_advance_8 M ty (zU M 0 3 (M 0 4))) 0 3)) ty)) (by decide +kernel) rfl ?_
      refine zT.cV_all (o := 0) (idx := 34) (av := []) (rv := none) (st := []) (S1 := []) (c_X8_takeNumber (g_X8_takeWord (zU (w_X8_advance_8 M ty (zU M 0 3 (M 0 4))) 0 4 ((w_X8_advance_8 M ty (zU M 0 3 (M 0 4))) 0 3)) ty) ty h600 (zAq4_tw h600 hw8)) k_X8_takeNumber _ _ rfl rfl rfl (zIn (w := 3214) (by decide +kernel) rfl) (by decide +kernel) (by decide +kernel) rfl (Nat.le_of_ble_eq_true rfl) rfl ?_
      refine zT.run [(.aload_n 0, 0, 0, 0), (.getfield 19, 6, 4, 1053), (.aload_n 0, 0, 0, 0), (.getfield 25, 6, 3, 1052)] (pe := 101) (ls' := [some (.ref 0)]) (st' := [.int ((g_X8_takeNumber (g_X8_takeWord (zU (w_X8_advance_8 M ty (zU M 0 3 (M 0 4))) 0 4 ((w_X8_advance_8 M ty (zU M 0 3 (M 0 4))) 0 3)) ty) ty) 0 3), .int ((g_X8_takeNumber (g_X8_takeWord (zU (w_X8_advance_8 M ty (zU M 0 3 (M 0 4))) 0 4 ((w_X8_advance_8 M ty (zU M 0 3 (M 0 4))) 0 3)) ty) ty) 0 4)]) (M' := (g_X8_takeNumber (g_X8_takeWord (zU (w_X8_advance_8 M ty (zU M 0 3 (M 0 4))) 0 4 ((w_X8_advance_8 M ty (zU M 0 3 (M 0 4))) 0 3)) ty) ty)) (by decide +kernel) rfl ?_
      refine zT.cle (tgt := 129) (off := 28) (by decide +kernel) (by decide) (fun (c5 : ((g_X8_takeNumber (g_X8_takeWord (zU (w_X8_advance_8 M ty (zU M 0 3 (M 0 4))) 0 4 ((w_X8_advance_8 M ty (zU M 0 3 (M 0 4))) 0 3)) ty) ty) 0 4) ≤ ((g_X8_takeNumber (g_X8_takeWord (zU (w_X8_advance_8 M ty (zU M 0 3 (M 0 4))) 0 4 ((w_X8_advance_8 M ty (zU M 0 3 (M 0 4))) 0 3)) ty) ty) 0 3)) => ?_) (fun (c5 : ¬ ((g_X8_takeNumber (g_X8_takeWord (zU (w_X8_advance_8 M ty (zU M 0 3 (M 0 4))) 0 4 ((w_X8_advance_8 M ty (zU M 0 3 (M 0 4))) 0 3)) ty) ty) 0 4) ≤ ((g_X8_takeNumber (g_X8_takeWord (zU (w_X8_advance_8 M ty (zU M 0 3 (M 0 4))) 0 4 ((w_X8_advance_8 M ty (zU M 0 3 (M 0 4))) 0 3)) ty) ty) 0 3)) => ?_)
      · skip
        refine zT.run [(.aload_n 0, 0, 0, 0), (.getfield 25, 6, 3, 1052), (.aload_n 0, 0, 0, 0), (.getfield 15, 6, 0, 1047)] (pe := 137) (ls' := [some (.ref 0)]) (st' := [.int ((g_X8_takeNumber (g_X8_takeWord (zU (w_X8_advance_8 M ty (zU M 0 3 (M 0 4))) 0 4 ((w_X8_advance_8 M ty (zU M 0 3 (M 0 4))) 0 3)) ty) ty) 0 0), .int ((g_X8_takeNumber (g_X8_takeWord (zU (w_X8_advance_8 M ty (zU M 0 3 (M 0 4))) 0 4 ((w_X8_advance_8 M ty (zU M 0 3 (M 0 4))) 0 3)) ty) ty) 0 3)]) (M' := (g_X8_takeNumber (g_X8_takeWord (zU (w_X8_advance_8 M ty (zU M 0 3 (M 0 4))) 0 4 ((w_X8_advance_8 M ty (zU M 0 3 (M 0 4))) 0 3)) ty) ty)) (by decide +kernel) rfl ?_
        refine zT.clt (tgt := 148) (off := 11) (by decide +kernel) (by decide) (fun (c6 : ((g_X8_takeNumber (g_X8_takeWord (zU (w_X8_advance_8 M ty (zU M 0 3 (M 0 4))) 0 4 ((w_X8_advance_8 M ty (zU M 0 3 (M 0 4))) 0 3)) ty) ty) 0 3) < ((g_X8_takeNumber (g_X8_takeWord (zU (w_X8_advance_8 M ty (zU M 0 3 (M 0 4))) 0 4 ((w_X8_advance_8 M ty (zU M 0 3 (M 0 4))) 0 3)) ty) ty) 0 0)) => ?_) (fun (c6 : ¬ ((g_X8_takeNumber (g_X8_takeWord (zU (w_X8_advance_8 M ty (zU M 0 3 (M 0 4))) 0 4 ((w_X8_advance_8 M ty (zU M 0 3 (M 0 4))) 0 3)) ty) ty) 0 3) < ((g_X8_takeNumber (g_X8_takeWord (zU (w_X8_advance_8 M ty (zU M 0 3 (M 0 4))) 0 4 ((w_X8_advance_8 M ty (zU M 0 3 (M 0 4))) 0 3)) ty) ty) 0 0)) => ?_)
        · skip
          refine zT.run [(.aload_n 0, 0, 0, 0), (.aload_n 0, 0, 0, 0), (.getfield 25, 6, 3, 1052), (.iconst 1, 0, 0, 0), (.iadd, 0, 0, 0), (.putfield 19, 6, 4, 1053), (.aload_n 0, 0, 0, 0), (.aload_n 0, 0, 0, 0), (.getfield 9, 6, 1, 1049), (.aload_n 0, 0, 0, 0), (.getfield 25, 6, 3, 1052)] (pe := 167) (ls' := [some (.ref 0)]) (st' := [.int ((g_X8_takeNumber (g_X8_takeWord (zU (w_X8_advance_8 M ty (zU M 0 3 (M 0 4))) 0 4 ((w_X8_advance_8 M ty (zU M 0 3 (M 0 4))) 0 3)) ty) ty) 0 3), .ref 1, .ref 0]) (M' := (zU (g_X8_takeNumber (g_X8_takeWord (zU (w_X8_advance_8 M ty (zU M 0 3 (M 0 4))) 0 4 ((w_X8_advance_8 M ty (zU M 0 3 (M 0 4))) 0 3)) ty) ty) 0 4 (((g_X8_takeNumber (g_X8_takeWord (zU (w_X8_advance_8 M ty (zU M 0 3 (M 0 4))) 0 4 ((w_X8_advance_8 M ty (zU M 0 3 (M 0 4))) 0 3)) ty) ty) 0 3) + 1))) (by decide +kernel) rfl ?_
          refine zT.bald (n := 600) (k := ((g_X8_takeNumber (g_X8_takeWord (zU (w_X8_advance_8 M ty (zU M 0 3 (M 0 4))) 0 4 ((w_X8_advance_8 M ty (zU M 0 3 (M 0 4))) 0 3)) ty) ty) 0 3).toNatClampNeg) rfl (zAqJ (zAq3_tn (M := (g_X8_takeWord (zU (w_X8_advance_8 M ty (zU M 0 3 (M 0 4))) 0 4 ((w_X8_advance_8 M ty (zU M 0 3 (M 0 4))) 0 3)) ty)) (zAq3_tw (M := (zU (w_X8_advance_8 M ty (zU M 0 3 (M 0 4))) 0 4 ((w_X8_advance_8 M ty (zU M 0 3 (M 0 4))) 0 3))) hw8)) h600 c6).1 (by have := (zAqJ (zAq3_tn (M := (g_X8_takeWord (zU (w_X8_advance_8 M ty (zU M 0 3 (M 0 4))) 0 4 ((w_X8_advance_8 M ty (zU M 0 3 (M 0 4))) 0 3)) ty)) (zAq3_tw (M := (zU (w_X8_advance_8 M ty (zU M 0 3 (M 0 4))) 0 4 ((w_X8_advance_8 M ty (zU M 0 3 (M 0 4))) 0 3))) hw8)) h600 c6).2; omega) (by decide) (by decide +kernel) ?_
          refine zT.run [(.bipush 59, 0, 0, 0)] (pe := 170) (ls' := [some (.ref 0)]) (st' := [.int 59, .int ((g_X8_takeNumber (g_X8_takeWord (zU (w_X8_advance_8 M ty (zU M 0 3 (M 0 4))) 0 4 ((w_X8_advance_8 M ty (zU M 0 3 (M 0 4))) 0 3)) ty) ty) 1 ((g_X8_takeNumber (g_X8_takeWord (zU (w_X8_advance_8 M ty (zU M 0 3 (M 0 4))) 0 4 ((w_X8_advance_8 M ty (zU M 0 3 (M 0 4))) 0 3)) ty) ty) 0 3).toNatClampNeg), .ref 0]) (M' := (zU (g_X8_takeNumber (g_X8_takeWord (zU (w_X8_advance_8 M ty (zU M 0 3 (M 0 4))) 0 4 ((w_X8_advance_8 M ty (zU M 0 3 (M 0 4))) 0 3)) ty) ty) 0 4 (((g_X8_takeNumber (g_X8_takeWord (zU (w_X8_advance_8 M ty (zU M 0 3 (M 0 4))) 0 4 ((w_X8_advance_8 M ty (zU M 0 3 (M 0 4))) 0 3)) ty) ty) 0 3) + 1))) (by decide +kernel) rfl ?_
          refine zT.join (178, [some (.ref 0)], [.int (if ((g_X8_takeNumber (g_X8_takeWord (zU (w_X8_advance_8 M ty (zU M 0 3 (M 0 4))) 0 4 ((w_X8_advance_8 M ty (zU M 0 3 (M 0 4))) 0 3)) ty) ty) 1 ((g_X8_takeNumber (g_X8_takeWord (zU (w_X8_advance_8 M ty (zU M 0 3 (M 0 4))) 0 4 ((w_X8_advance_8 M ty (zU M 0 3 (M 0 4))) 0 3)) ty) ty) 0 3).toNatClampNeg) = 59 then (3 : Int32) else (4 : Int32)), .ref 0], sh_Text, (zU (g_X8_takeNumber (g_X8_takeWord (zU (w_X8_advance_8 M ty (zU M 0 3 (M 0 4))) 0 4 ((w_X8_advance_8 M ty (zU M 0 3 (M 0 4))) 0 3)) ty) ty) 0 4 (((g_X8_takeNumber (g_X8_takeWord (zU (w_X8_advance_8 M ty (zU M 0 3 (M 0 4))) 0 4 ((w_X8_advance_8 M ty (zU M 0 3 (M 0 4))) 0 3)) ty) ty) 0 3) + 1))) ?_ ?_
          · refine zT.cne (tgt := 177) (off := 7) (by decide +kernel) (by decide) (fun (c7 : ¬ ((g_X8_takeNumber (g_X8_takeWord (zU (w_X8_advance_8 M ty (zU M 0 3 (M 0 4))) 0 4 ((w_X8_advance_8 M ty (zU M 0 3 (M 0 4))) 0 3)) ty) ty) 1 ((g_X8_takeNumber (g_X8_takeWord (zU (w_X8_advance_8 M ty (zU M 0 3 (M 0 4))) 0 4 ((w_X8_advance_8 M ty (zU M 0 3 (M 0 4))) 0 3)) ty) ty) 0 3).toNatClampNeg) = 59) => ?_) (fun (c7 : ((g_X8_takeNumber (g_X8_takeWord (zU (w_X8_advance_8 M ty (zU M 0 3 (M 0 4))) 0 4 ((w_X8_advance_8 M ty (zU M 0 3 (M 0 4))) 0 3)) ty) ty) 1 ((g_X8_takeNumber (g_X8_takeWord (zU (w_X8_advance_8 M ty (zU M 0 3 (M 0 4))) 0 4 ((w_X8_advance_8 M ty (zU M 0 3 (M 0 4))) 0 3)) ty) ty) 0 3).toNatClampNeg) = 59) => ?_)
            · skip
              refine zT.run [(.iconst 4, 0, 0, 0)] (pe := 178) (ls' := [some (.ref 0)]) (st' := [.int 4, .ref 0]) (M' := (zU (g_X8_takeNumber (g_X8_takeWord (zU (w_X8_advance_8 M ty (zU M 0 3 (M 0 4))) 0 4 ((w_X8_advance_8 M ty (zU M 0 3 (M 0 4))) 0 3)) ty) ty) 0 4 (((g_X8_takeNumber (g_X8_takeWord (zU (w_X8_advance_8 M ty (zU M 0 3 (M 0 4))) 0 4 ((w_X8_advance_8 M ty (zU M 0 3 (M 0 4))) 0 3)) ty) ty) 0 3) + 1))) (by decide +kernel) rfl ?_
              exact zT.here (by simp only [if_neg c7])
            · skip
              refine zT.run [(.iconst 3, 0, 0, 0), (.goto 4, 0, 0, 0)] (pe := 178) (ls' := [some (.ref 0)]) (st' := [.int 3, .ref 0]) (M' := (zU (g_X8_takeNumber (g_X8_takeWord (zU (w_X8_advance_8 M ty (zU M 0 3 (M 0 4))) 0 4 ((w_X8_advance_8 M ty (zU M 0 3 (M 0 4))) 0 3)) ty) ty) 0 4 (((g_X8_takeNumber (g_X8_takeWord (zU (w_X8_advance_8 M ty (zU M 0 3 (M 0 4))) 0 4 ((w_X8_advance_8 M ty (zU M 0 3 (M 0 4))) 0 3)) ty) ty) 0 3) + 1))) (by decide +kernel) rfl ?_
              exact zT.here (by simp only [if_pos c7])
          · skip
            refine zT.run [(.putfield 31, 6, 2, 1050)] (pe := 181) (ls' := [some (.ref 0)]) (st' := []) (M' := (zU (zU (g_X8_takeNumber (g_X8_takeWord (zU (w_X8_advance_8 M ty (zU M 0 3 (M 0 4))) 0 4 ((w_X8_advance_8 M ty (zU M 0 3 (M 0 4))) 0 3)) ty) ty) 0 4 (((g_X8_takeNumber (g_X8_takeWord (zU (w_X8_advance_8 M ty (zU M 0 3 (M 0 4))) 0 4 ((w_X8_advance_8 M ty (zU M 0 3 (M 0 4))) 0 3)) ty) ty) 0 3) + 1)) 0 2 (if ((g_X8_takeNumber (g_X8_takeWord (zU (w_X8_advance_8 M ty (zU M 0 3 (M 0 4))) 0 4 ((w_X8_advance_8 M ty (zU M 0 3 (M 0 4))) 0 3)) ty) ty) 1 ((g_X8_takeNumber (g_X8_takeWord (zU (w_X8_advance_8 M ty (zU M 0 3 (M 0 4))) 0 4 ((w_X8_advance_8 M ty (zU M 0 3 (M 0 4))) 0 3)) ty) ty) 0 3).toNatClampNeg) = 59 then (3 : Int32) else (4 : Int32)))) (by decide +kernel) rfl ?_
            exact zT.vret (by simp only [g_X8_advance, if_pos c4, if_pos c5, if_pos c6]; try rfl) rfl (by decide +kernel)
        · skip
          refine zT.run [(.aload_n 0, 0, 0, 0), (.iconst 0, 0, 0, 0), (.putfield 31, 6, 2, 1050), (.goto 36, 0, 0, 0)] (pe := 181) (ls' := [some (.ref 0)]) (st' := []) (M' := (zU (g_X8_takeNumber (g_X8_takeWord (zU (w_X8_advance_8 M ty (zU M 0 3 (M 0 4))) 0 4 ((w_X8_advance_8 M ty (zU M 0 3 (M 0 4))) 0 3)) ty) ty) 0 2 0)) (by decide +kernel) rfl ?_
          exact zT.vret (by simp only [g_X8_advance, if_pos c4, if_pos c5, if_neg c6]; try rfl) rfl (by decide +kernel)
      · skip
        refine zT.run [(.aload_n 0, 0, 0, 0), (.aload_n 0, 0, 0, 0), (.getfield 19, 6, 4, 1053), (.aload_n 0, 0, 0, 0), (.getfield 25, 6, 3, 1052), (.isub, 0, 0, 0), (.iconst 5, 0, 0, 0)] (pe := 115) (ls' := [some (.ref 0)]) (st' := [.int 5, .int (((g_X8_takeNumber (g_X8_takeWord (zU (w_X8_advance_8 M ty (zU M 0 3 (M 0 4))) 0 4 ((w_X8_advance_8 M ty (zU M 0 3 (M 0 4))) 0 3)) ty) ty) 0 4) - ((g_X8_takeNumber (g_X8_takeWord (zU (w_X8_advance_8 M ty (zU M 0 3 (M 0 4))) 0 4 ((w_X8_advance_8 M ty (zU M 0 3 (M 0 4))) 0 3)) ty) ty) 0 3)), .ref 0]) (M' := (g_X8_takeNumber (g_X8_takeWord (zU (w_X8_advance_8 M ty (zU M 0 3 (M 0 4))) 0 4 ((w_X8_advance_8 M ty (zU M 0 3 (M 0 4))) 0 3)) ty) ty)) (by decide +kernel) rfl ?_
        refine zT.join (123, [some (.ref 0)], [.int (if (((g_X8_takeNumber (g_X8_takeWord (zU (w_X8_advance_8 M ty (zU M 0 3 (M 0 4))) 0 4 ((w_X8_advance_8 M ty (zU M 0 3 (M 0 4))) 0 3)) ty) ty) 0 4) - ((g_X8_takeNumber (g_X8_takeWord (zU (w_X8_advance_8 M ty (zU M 0 3 (M 0 4))) 0 4 ((w_X8_advance_8 M ty (zU M 0 3 (M 0 4))) 0 3)) ty) ty) 0 3)) ≤ 5 then (2 : Int32) else (4 : Int32)), .ref 0], sh_Text, (g_X8_takeNumber (g_X8_takeWord (zU (w_X8_advance_8 M ty (zU M 0 3 (M 0 4))) 0 4 ((w_X8_advance_8 M ty (zU M 0 3 (M 0 4))) 0 3)) ty) ty)) ?_ ?_
        · refine zT.cle (tgt := 122) (off := 7) (by decide +kernel) (by decide) (fun (c8 : (((g_X8_takeNumber (g_X8_takeWord (zU (w_X8_advance_8 M ty (zU M 0 3 (M 0 4))) 0 4 ((w_X8_advance_8 M ty (zU M 0 3 (M 0 4))) 0 3)) ty) ty) 0 4) - ((g_X8_takeNumber (g_X8_takeWord (zU (w_X8_advance_8 M ty (zU M 0 3 (M 0 4))) 0 4 ((w_X8_advance_8 M ty (zU M 0 3 (M 0 4))) 0 3)) ty) ty) 0 3)) ≤ 5) => ?_) (fun (c8 : ¬ (((g_X8_takeNumber (g_X8_takeWord (zU (w_X8_advance_8 M ty (zU M 0 3 (M 0 4))) 0 4 ((w_X8_advance_8 M ty (zU M 0 3 (M 0 4))) 0 3)) ty) ty) 0 4) - ((g_X8_takeNumber (g_X8_takeWord (zU (w_X8_advance_8 M ty (zU M 0 3 (M 0 4))) 0 4 ((w_X8_advance_8 M ty (zU M 0 3 (M 0 4))) 0 3)) ty) ty) 0 3)) ≤ 5) => ?_)
          · skip
            refine zT.run [(.iconst 2, 0, 0, 0)] (pe := 123) (ls' := [some (.ref 0)]) (st' := [.int 2, .ref 0]) (M' := (g_X8_takeNumber (g_X8_takeWord (zU (w_X8_advance_8 M ty (zU M 0 3 (M 0 4))) 0 4 ((w_X8_advance_8 M ty (zU M 0 3 (M 0 4))) 0 3)) ty) ty)) (by decide +kernel) rfl ?_
            exact zT.here (by simp only [if_pos c8])
          · skip
            refine zT.run [(.iconst 4, 0, 0, 0), (.goto 4, 0, 0, 0)] (pe := 123) (ls' := [some (.ref 0)]) (st' := [.int 4, .ref 0]) (M' := (g_X8_takeNumber (g_X8_takeWord (zU (w_X8_advance_8 M ty (zU M 0 3 (M 0 4))) 0 4 ((w_X8_advance_8 M ty (zU M 0 3 (M 0 4))) 0 3)) ty) ty)) (by decide +kernel) rfl ?_
            exact zT.here (by simp only [if_neg c8])
        · skip
          refine zT.run [(.putfield 31, 6, 2, 1050), (.goto 55, 0, 0, 0)] (pe := 181) (ls' := [some (.ref 0)]) (st' := []) (M' := (zU (g_X8_takeNumber (g_X8_takeWord (zU (w_X8_advance_8 M ty (zU M 0 3 (M 0 4))) 0 4 ((w_X8_advance_8 M ty (zU M 0 3 (M 0 4))) 0 3)) ty) ty) 0 2 (if (((g_X8_takeNumber (g_X8_takeWord (zU (w_X8_advance_8 M ty (zU M 0 3 (M 0 4))) 0 4 ((w_X8_advance_8 M ty (zU M 0 3 (M 0 4))) 0 3)) ty) ty) 0 4) - ((g_X8_takeNumber (g_X8_takeWord (zU (w_X8_advance_8 M ty (zU M 0 3 (M 0 4))) 0 4 ((w_X8_advance_8 M ty (zU M 0 3 (M 0 4))) 0 3)) ty) ty) 0 3)) ≤ 5 then (2 : Int32) else (4 : Int32)))) (by decide +kernel) rfl ?_
          exact zT.vret (by simp only [g_X8_advance, if_pos c4, if_neg c5]; try rfl) rfl (by decide +kernel)
    · skip
      refine zT.run [(.aload_n 0, 0, 0, 0), (.iconst 1, 0, 0, 0), (.putfield 31, 6, 2, 1050)] (pe := 88) (ls' := [some (.ref 0)]) (st' := []) (M' := (zU (g_X8_takeWord (zU (w_X8_advance_8 M ty (zU M 0 3 (M 0 4))) 0 4 ((w_X8_advance_8 M ty (zU M 0 3 (M 0 4))) 0 3)) ty) 0 2 1)) (by decide +kernel) rfl ?_
      exact zT.vret (by simp only [g_X8_advance, if_neg c4]; try rfl) rfl (by decide +kernel)
theorem fr_X8_advance (M : zM) (ty : Nat) (o : Nat) (ho : o ≠ 0) : (g_X8_advance M ty) o = M o := by
  simp only [g_X8_advance]
  (repeat' split) <;> simp only [zU_ne ho, zUa_ne ho, (fun (MM : zM) (ty : Nat) => fr_X8_takeNumber MM ty o (by omega)), (fun (MM : zM) (ty : Nat) => fr_X8_takeWord MM ty o (by omega)), (fun MM ty mm => (kp_advance MM ty mm).1 o (by omega))]
theorem k_X8_advance : zCal yy_X8_advance 0 := ⟨⟨⟨⟨zIn (w := 3209) (by decide +kernel) rfl, zIn (w := 1003) (by decide +kernel) rfl⟩, by decide +kernel⟩, by decide +kernel⟩, ⟨zIn (w := 3207) (by decide +kernel) rfl, zIn (w := 3208) (by decide +kernel) rfl⟩⟩
theorem zAqG.of {f ty a : Nat} {m m' : zM} (h : zAqG f ty a m) (e1 : m' 0 0 = m 0 0) (e2 : m' 0 f = m 0 f) : zAqG f ty a m' := ⟨h.1.of e1 e2, by rw [e2]; exact h.2⟩
theorem e_X8_advance (M : zM) (ty : Nat) (h600 : ty ≤ 600) (hat : zAq 4 ty M) : zTq ty (g_X8_advance M ty) := by
  have h0 : zAq 3 ty (w_X8_advance_8 M ty (zU M 0 3 (M 0 4))) := wr_advance M ty h600 _ hat
  generalize hW : w_X8_advance_8 M ty (zU M 0 3 (M 0 4)) = W1 at h0
  have hL := zAqL h0 h600
  generalize hS : (W1 0 3).toNatClampNeg = f at hL
  have hs : zAqG 4 ty f (zU W1 0 4 (W1 0 3)) := ⟨h0, by show f ≤ (W1 0 3).toNatClampNeg; omega⟩
  have key : ∀ m : zM, zAqG 4 ty f m → m 0 3 = nI f → ∀ x : Int32, zTq ty (zU m 0 2 x) := by
    intro m hm e x
    have h1 := zAqL hm.1 h600
    exact ⟨hm.1.1, f, _, hm.2, h1.2, e, h1.1⟩
  have t1 := e_X8_takeWord (zU W1 0 4 (W1 0 3)) ty f h600 hs
  have s1 : g_X8_takeWord (zU W1 0 4 (W1 0 3)) ty 0 3 = nI f := (e2_X8_takeWord _ ty 3 (by decide)).trans hL.1
  have t2 := e_X8_takeNumber _ ty f h600 t1
  have s2 : g_X8_takeNumber (g_X8_takeWord (zU W1 0 4 (W1 0 3)) ty) ty 0 3 = nI f := (e2_X8_takeNumber _ ty 3 (by decide) (by decide)).trans s1
  unfold g_X8_advance
  rw [hW]
  generalize g_X8_takeWord (zU W1 0 4 (W1 0 3)) ty = W2 at t1 s1 t2 s2 ⊢
  by_cases c1 : W2 0 4 ≤ W2 0 3
  · rw [if_pos c1]
    by_cases c2 : g_X8_takeNumber W2 ty 0 4 ≤ g_X8_takeNumber W2 ty 0 3
    · rw [if_pos c2]
      by_cases c3 : g_X8_takeNumber W2 ty 0 3 < g_X8_takeNumber W2 ty 0 0
      · rw [if_pos c3]
        have h3 : zAq 3 ty (g_X8_takeNumber W2 ty) := ⟨t2.1.1, f, hL.2, s2⟩
        have h4 := zAqJ h3 h600 c3
        rw [s2, nI_clamp (by omega)] at h4
        refine ⟨t2.1.1, f, f + 1, by omega, by omega, s2, ?_⟩
        show g_X8_takeNumber W2 ty 0 3 + 1 = _
        rw [s2, nI_succ]
      · rw [if_neg c3]
        exact key _ t2 s2 _
    · rw [if_neg c2]
      exact key _ t2 s2 _
  · rw [if_neg c1]
    exact key _ t1 s1 _
noncomputable abbrev yy_X8_begin : zY := (yX8_begin, cX8_begin, 1, none, 2, 40)
noncomputable def g_X8_begin (M : zM) (ty : Nat) : zM := (g_X8_advance (zU M 0 4 0) ty)
set_option maxRecDepth 100000 in
theorem c_X8_begin (M : zM) (ty : Nat) (h600 : ty ≤ 600) (hl : M 0 0 = nI ty) : zC yy_X8_begin 0 0 [.ref 0] sh_Text M none sh_Text (g_X8_begin M ty) := by
  refine zC.of (by decide +kernel) rfl (Nat.le_of_ble_eq_true rfl) ?_
  refine zT.run [(.aload_n 0, 0, 0, 0), (.iconst 0, 0, 0, 0), (.putfield 19, 6, 4, 1053), (.aload_n 0, 0, 0, 0)] (pe := 6) (ls' := [some (.ref 0)]) (st' := [.ref 0]) (M' := (zU M 0 4 0)) (by decide +kernel) rfl ?_
  refine zT.cV_all (o := 0) (idx := 22) (av := []) (rv := none) (st := []) (S1 := []) (c_X8_advance (zU M 0 4 0) ty h600 ⟨hl, 0, Nat.zero_le _, rfl⟩) k_X8_advance _ _ rfl rfl rfl (zIn (w := 3206) (by decide +kernel) rfl) (by decide +kernel) (by decide +kernel) rfl (Nat.le_of_ble_eq_true rfl) rfl ?_
  exact zT.vret (by simp only [g_X8_begin]; try rfl) rfl (by decide +kernel)
theorem fr_X8_begin (M : zM) (ty : Nat) (o : Nat) (ho : o ≠ 0) : (g_X8_begin M ty) o = M o := by
  simp only [g_X8_begin]
  (repeat' split) <;> simp only [zU_ne ho, zUa_ne ho, (fun (MM : zM) (ty : Nat) => fr_X8_advance MM ty o (by omega))]
theorem k_X8_begin : zCal yy_X8_begin 0 := ⟨⟨⟨⟨zIn (w := 3205) (by decide +kernel) rfl, zIn (w := 1003) (by decide +kernel) rfl⟩, by decide +kernel⟩, by decide +kernel⟩, ⟨zIn (w := 3203) (by decide +kernel) rfl, zIn (w := 3204) (by decide +kernel) rfl⟩⟩
noncomputable abbrev yy_X8_isEnd : zY := (yX8_isEnd, cX8_isEnd, 1, (some Jvm.ClassFile.FieldType.boolean), 0, 0)
noncomputable def g_X8_isEnd (M : zM)  : Int32 := (if (M 0 2) = 0 then 1 else 0)
set_option maxRecDepth 100000 in
theorem c_X8_isEnd (M : zM)   : zC yy_X8_isEnd 0 0 [.ref 0] sh_Text M (some (.int (g_X8_isEnd M))) sh_Text M := by
  refine zC.of (by decide +kernel) rfl (Nat.le_of_ble_eq_true rfl) ?_
  refine zT.run [(.aload_n 0, 0, 0, 0), (.getfield 31, 6, 2, 1050)] (pe := 4) (ls' := [some (.ref 0)]) (st' := [.int (M 0 2)]) (M' := M) (by decide +kernel) rfl ?_
  refine zT.zne (tgt := 11) (off := 7) (by decide +kernel) (by decide) (fun (c1 : ¬ (M 0 2) = 0) => ?_) (fun (c1 : (M 0 2) = 0) => ?_)
  · skip
    refine zT.run [(.iconst 0, 0, 0, 0)] (pe := 12) (ls' := [some (.ref 0)]) (st' := [.int 0]) (M' := M) (by decide +kernel) rfl ?_
    exact zT.iret (ty := Jvm.ClassFile.FieldType.boolean) (by simp only [g_X8_isEnd, if_neg c1]; try rfl) rfl rfl rfl (by decide +kernel)
  · skip
    refine zT.run [(.iconst 1, 0, 0, 0), (.goto 4, 0, 0, 0)] (pe := 12) (ls' := [some (.ref 0)]) (st' := [.int 1]) (M' := M) (by decide +kernel) rfl ?_
    exact zT.iret (ty := Jvm.ClassFile.FieldType.boolean) (by simp only [g_X8_isEnd, if_pos c1]; try rfl) rfl rfl rfl (by decide +kernel)
theorem k_X8_isEnd : zCal yy_X8_isEnd 0 := ⟨⟨⟨⟨zIn (w := 4033) (by decide +kernel) rfl, zIn (w := 1003) (by decide +kernel) rfl⟩, by decide +kernel⟩, by decide +kernel⟩, ⟨zIn (w := 4031) (by decide +kernel) rfl, zIn (w := 4032) (by decide +kernel) rfl⟩⟩
noncomputable abbrev yy_X8_isNumber : zY := (yX8_isNumber, cX8_isNumber, 1, (some Jvm.ClassFile.FieldType.boolean), 0, 0)
noncomputable def g_X8_isNumber (M : zM)  : Int32 := (if (M 0 2) = 2 then 1 else 0)
set_option maxRecDepth 100000 in
theorem c_X8_isNumber (M : zM)   : zC yy_X8_isNumber 0 0 [.ref 0] sh_Text M (some (.int (g_X8_isNumber M))) sh_Text M := by
  refine zC.of (by decide +kernel) rfl (Nat.le_of_ble_eq_true rfl) ?_
  refine zT.run [(.aload_n 0, 0, 0, 0), (.getfield 31, 6, 2, 1050), (.iconst 2, 0, 0, 0)] (pe := 5) (ls' := [some (.ref 0)]) (st' := [.int 2, .int (M 0 2)]) (M' := M) (by decide +kernel) rfl ?_
  refine zT.cne (tgt := 12) (off := 7) (by decide +kernel) (by decide) (fun (c1 : ¬ (M 0 2) = 2) => ?_) (fun (c1 : (M 0 2) = 2) => ?_)
  · skip
    refine zT.run [(.iconst 0, 0, 0, 0)] (pe := 13) (ls' := [some (.ref 0)]) (st' := [.int 0]) (M' := M) (by decide +kernel) rfl ?_
    exact zT.iret (ty := Jvm.ClassFile.FieldType.boolean) (by simp only [g_X8_isNumber, if_neg c1]; try rfl) rfl rfl rfl (by decide +kernel)
  · skip
    refine zT.run [(.iconst 1, 0, 0, 0), (.goto 4, 0, 0, 0)] (pe := 13) (ls' := [some (.ref 0)]) (st' := [.int 1]) (M' := M) (by decide +kernel) rfl ?_
    exact zT.iret (ty := Jvm.ClassFile.FieldType.boolean) (by simp only [g_X8_isNumber, if_pos c1]; try rfl) rfl rfl rfl (by decide +kernel)
theorem k_X8_isNumber : zCal yy_X8_isNumber 0 := ⟨⟨⟨⟨zIn (w := 4017) (by decide +kernel) rfl, zIn (w := 1003) (by decide +kernel) rfl⟩, by decide +kernel⟩, by decide +kernel⟩, ⟨zIn (w := 4015) (by decide +kernel) rfl, zIn (w := 4016) (by decide +kernel) rfl⟩⟩
noncomputable abbrev yy_X8_isSemicolon : zY := (yX8_isSemicolon, cX8_isSemicolon, 1, (some Jvm.ClassFile.FieldType.boolean), 0, 0)
noncomputable def g_X8_isSemicolon (M : zM)  : Int32 := (if (M 0 2) = 3 then 1 else 0)
set_option maxRecDepth 100000 in
theorem c_X8_isSemicolon (M : zM)   : zC yy_X8_isSemicolon 0 0 [.ref 0] sh_Text M (some (.int (g_X8_isSemicolon M))) sh_Text M := by
  refine zC.of (by decide +kernel) rfl (Nat.le_of_ble_eq_true rfl) ?_
  refine zT.run [(.aload_n 0, 0, 0, 0), (.getfield 31, 6, 2, 1050), (.iconst 3, 0, 0, 0)] (pe := 5) (ls' := [some (.ref 0)]) (st' := [.int 3, .int (M 0 2)]) (M' := M) (by decide +kernel) rfl ?_
  refine zT.cne (tgt := 12) (off := 7) (by decide +kernel) (by decide) (fun (c1 : ¬ (M 0 2) = 3) => ?_) (fun (c1 : (M 0 2) = 3) => ?_)
  · skip
    refine zT.run [(.iconst 0, 0, 0, 0)] (pe := 13) (ls' := [some (.ref 0)]) (st' := [.int 0]) (M' := M) (by decide +kernel) rfl ?_
    exact zT.iret (ty := Jvm.ClassFile.FieldType.boolean) (by simp only [g_X8_isSemicolon, if_neg c1]; try rfl) rfl rfl rfl (by decide +kernel)
  · skip
    refine zT.run [(.iconst 1, 0, 0, 0), (.goto 4, 0, 0, 0)] (pe := 13) (ls' := [some (.ref 0)]) (st' := [.int 1]) (M' := M) (by decide +kernel) rfl ?_
    exact zT.iret (ty := Jvm.ClassFile.FieldType.boolean) (by simp only [g_X8_isSemicolon, if_pos c1]; try rfl) rfl rfl rfl (by decide +kernel)
theorem k_X8_isSemicolon : zCal yy_X8_isSemicolon 0 := ⟨⟨⟨⟨zIn (w := 4028) (by decide +kernel) rfl, zIn (w := 1003) (by decide +kernel) rfl⟩, by decide +kernel⟩, by decide +kernel⟩, ⟨zIn (w := 4026) (by decide +kernel) rfl, zIn (w := 4027) (by decide +kernel) rfl⟩⟩
noncomputable abbrev yy_X8_isWord : zY := (yX8_isWord, cX8_isWord, 3, (some Jvm.ClassFile.FieldType.boolean), 4, 85)
noncomputable def f_X8_isWord_28 (M : zM) (ty : Nat) (tx : Nat) (i1 : Nat) : Option Int32 := (if (M 0 0) ≤ ((M 0 3) + (nI i1)) then (some (1 : Int32)) else (if (M 1 ((M 0 3).toNatClampNeg + i1)) = (nI ((zTxt tx).getD i1 0)) then none else (some (0 : Int32))))
noncomputable def g_X8_isWord (M : zM) (ty : Nat) (tx : Nat) : Int32 := (if (M 0 2) = 1 then (if ((M 0 4) - (M 0 3)) = (nI (zTxt tx).length) then (zFst (f_X8_isWord_28 M ty tx) (1 : Int32) (zTxt tx).length 0) else 0) else 0)
set_option maxRecDepth 100000 in
theorem c_X8_isWord (M : zM) (ty : Nat) (tx : Nat) (h600 : ty ≤ 600) (htk : zTq ty M) (htx : tx < 21) : zC yy_X8_isWord 0 0 [.ref 0, .retAddr (200 + tx)] sh_Text M (some (.int (g_X8_isWord M ty tx))) sh_Text M := by
  refine zC.of (by decide +kernel) rfl (Nat.le_of_ble_eq_true rfl) ?_
  have hlen := zTx_len tx htx
  refine zT.run [(.aload_n 0, 0, 0, 0), (.getfield 31, 6, 2, 1050), (.iconst 1, 0, 0, 0)] (pe := 5) (ls' := [some (.ref 0), some (.retAddr (200 + tx)), none]) (st' := [.int 1, .int (M 0 2)]) (M' := M) (by decide +kernel) rfl ?_
  refine zT.cne (tgt := 24) (off := 19) (by decide +kernel) (by decide) (fun (c1 : ¬ (M 0 2) = 1) => ?_) (fun (c1 : (M 0 2) = 1) => ?_)
  · skip
    refine zT.run [(.iconst 0, 0, 0, 0)] (pe := 25) (ls' := [some (.ref 0), some (.retAddr (200 + tx)), none]) (st' := [.int 0]) (M' := M) (by decide +kernel) rfl ?_
    exact zT.iret (ty := Jvm.ClassFile.FieldType.boolean) (by simp only [g_X8_isWord, if_neg c1]; try rfl) rfl rfl rfl (by decide +kernel)
  · skip
    refine zT.run [(.aload_n 0, 0, 0, 0), (.getfield 19, 6, 4, 1053), (.aload_n 0, 0, 0, 0), (.getfield 25, 6, 3, 1052), (.isub, 0, 0, 0), (.aload_n 1, 0, 0, 0)] (pe := 18) (ls' := [some (.ref 0), some (.retAddr (200 + tx)), none]) (st' := [.retAddr (200 + tx), .int ((M 0 4) - (M 0 3))]) (M' := M) (by decide +kernel) rfl ?_
    refine zT.cX (idx := 40) (av := []) (rv := some (.int (nI (zTxt tx).length))) (st := [.int ((M 0 4) - (M 0 3))]) (S1 := [.int (nI (zTxt tx).length), .int ((M 0 4) - (M 0 3))]) (c_J0_length tx htx) k_J0_length_8abf5 (zTx_obj tx htx) rfl (zIn (w := 3227) (by decide +kernel) rfl) (by decide +kernel) (by decide +kernel) rfl (Nat.le_of_ble_eq_true rfl) rfl ?_
    refine zT.ceq (tgt := 26) (off := 5) (by decide +kernel) (by decide) (fun (c2 : ((M 0 4) - (M 0 3)) = (nI (zTxt tx).length)) => ?_) (fun (c2 : ¬ ((M 0 4) - (M 0 3)) = (nI (zTxt tx).length)) => ?_)
    · skip
      refine zT.run [(.iconst 0, 0, 0, 0), (.istore_n 2, 0, 0, 0)] (pe := 28) (ls' := [some (.ref 0), some (.retAddr (200 + tx)), some (.int 0)]) (st' := []) (M' := M) (by decide +kernel) rfl ?_
      refine zT.fst (f_X8_isWord_28 M ty tx) (1 : Int32) (zTxt tx).length (fun (i : Nat) => (28, [some (.ref 0), some (.retAddr (200 + tx)), some (.int (nI i))], [], sh_Text, M)) (R := (zFst (f_X8_isWord_28 M ty tx) (1 : Int32) (zTxt tx).length 0)) rfl (fun i1 hi1 k1 kk1 => ?_) (fun k1 => ?_)
      · skip
        show zT _ _ _ _ (28, [some (.ref 0), some (.retAddr (200 + tx)), some (.int (nI i1))], [], sh_Text, M)
        refine zT.run [(.iload_n 2, 0, 0, 0), (.aload_n 1, 0, 0, 0)] (pe := 30) (ls' := [some (.ref 0), some (.retAddr (200 + tx)), some (.int (nI i1))]) (st' := [.retAddr (200 + tx), .int (nI i1)]) (M' := M) (by decide +kernel) rfl ?_
        refine zT.cX (idx := 40) (av := []) (rv := some (.int (nI (zTxt tx).length))) (st := [.int (nI i1)]) (S1 := [.int (nI (zTxt tx).length), .int (nI i1)]) (c_J0_length tx htx) k_J0_length_8abf5 (zTx_obj tx htx) rfl (zIn (w := 3227) (by decide +kernel) rfl) (by decide +kernel) (by decide +kernel) rfl (Nat.le_of_ble_eq_true rfl) rfl ?_
        refine zT.cge (tgt := 76) (off := 43) (by decide +kernel) (by decide) (fun c => absurd c (zGeN (n := (zTxt tx).length) rfl (by omega) (by omega))) (fun _ => ?_)
        refine zT.run [(.aload_n 0, 0, 0, 0), (.getfield 25, 6, 3, 1052), (.iload_n 2, 0, 0, 0), (.iadd, 0, 0, 0), (.aload_n 0, 0, 0, 0), (.getfield 15, 6, 0, 1047)] (pe := 46) (ls' := [some (.ref 0), some (.retAddr (200 + tx)), some (.int (nI i1))]) (st' := [.int (M 0 0), .int ((M 0 3) + (nI i1))]) (M' := M) (by decide +kernel) rfl ?_
        refine zT.cge (tgt := 76) (off := 30) (by decide +kernel) (by decide) (fun (c3 : (M 0 0) ≤ ((M 0 3) + (nI i1))) => ?_) (fun (c3 : ¬ (M 0 0) ≤ ((M 0 3) + (nI i1))) => ?_)
        · skip
          refine zT.run [(.iconst 1, 0, 0, 0)] (pe := 77) (ls' := [some (.ref 0), some (.retAddr (200 + tx)), some (.int (nI i1))]) (st' := [.int 1]) (M' := M) (by decide +kernel) rfl ?_
          exact zT.iret (ty := Jvm.ClassFile.FieldType.boolean) ((show _ = (zFst (f_X8_isWord_28 M ty tx) (1 : Int32) (zTxt tx).length 0) from (by simp only [g_X8_isWord, if_pos c1, if_pos c2]; try rfl)).trans (kk1 _ (by simp only [f_X8_isWord_28, if_pos c3]))) rfl rfl rfl (by decide +kernel)
        · skip
          refine zT.run [(.aload_n 0, 0, 0, 0), (.getfield 9, 6, 1, 1049), (.aload_n 0, 0, 0, 0), (.getfield 25, 6, 3, 1052), (.iload_n 2, 0, 0, 0), (.iadd, 0, 0, 0)] (pe := 59) (ls' := [some (.ref 0), some (.retAddr (200 + tx)), some (.int (nI i1))]) (st' := [.int ((M 0 3) + (nI i1)), .ref 1]) (M' := M) (by decide +kernel) rfl ?_
          refine zT.bald (n := 600) (k := ((M 0 3).toNatClampNeg + i1)) rfl (zTqI htk h600 (by omega) (by assumption)).1 (zTqI htk h600 (by omega) (by assumption)).2 (by decide) (by decide +kernel) ?_
          refine zT.run [(.aload_n 1, 0, 0, 0), (.iload_n 2, 0, 0, 0)] (pe := 62) (ls' := [some (.ref 0), some (.retAddr (200 + tx)), some (.int (nI i1))]) (st' := [.int (nI i1), .retAddr (200 + tx), .int (M 1 ((M 0 3).toNatClampNeg + i1))]) (M' := M) (by decide +kernel) rfl ?_
          refine zT.cX (idx := 45) (av := [.int (nI i1)]) (rv := some (.int (nI ((zTxt tx).getD i1 0)))) (st := [.int (M 1 ((M 0 3).toNatClampNeg + i1))]) (S1 := [.int (nI ((zTxt tx).getD i1 0)), .int (M 1 ((M 0 3).toNatClampNeg + i1))]) (c_J0_charAt tx htx i1 (by omega)) k_J0_charAt_5068e (zTx_obj tx htx) rfl (zIn (w := 3228) (by decide +kernel) rfl) (by decide +kernel) (by decide +kernel) rfl (Nat.le_of_ble_eq_true rfl) rfl ?_
          refine zT.ceq (tgt := 70) (off := 5) (by decide +kernel) (by decide) (fun (c4 : (M 1 ((M 0 3).toNatClampNeg + i1)) = (nI ((zTxt tx).getD i1 0))) => ?_) (fun (c4 : ¬ (M 1 ((M 0 3).toNatClampNeg + i1)) = (nI ((zTxt tx).getD i1 0))) => ?_)
          · skip
            refine zT.run [(.iinc 2 1, 0, 0, 0), (.goto (-45), 0, 0, 0)] (pe := 28) (ls' := [some (.ref 0), some (.retAddr (200 + tx)), some (.int ((nI i1) + 1))]) (st' := []) (M' := M) (by decide +kernel) rfl ?_
            exact zT.eq (by simp only [nI_succ, zDl]; try rfl) (k1 (by simp only [f_X8_isWord_28, if_neg c3, if_pos c4]))
          · skip
            refine zT.run [(.iconst 0, 0, 0, 0)] (pe := 69) (ls' := [some (.ref 0), some (.retAddr (200 + tx)), some (.int (nI i1))]) (st' := [.int 0]) (M' := M) (by decide +kernel) rfl ?_
            exact zT.iret (ty := Jvm.ClassFile.FieldType.boolean) ((show _ = (zFst (f_X8_isWord_28 M ty tx) (1 : Int32) (zTxt tx).length 0) from (by simp only [g_X8_isWord, if_pos c1, if_pos c2]; try rfl)).trans (kk1 _ (by simp only [f_X8_isWord_28, if_neg c3, if_neg c4]))) rfl rfl rfl (by decide +kernel)
      · skip
        show zT _ _ _ _ (28, [some (.ref 0), some (.retAddr (200 + tx)), some (.int (nI (zTxt tx).length))], [], sh_Text, M)
        refine zT.run [(.iload_n 2, 0, 0, 0), (.aload_n 1, 0, 0, 0)] (pe := 30) (ls' := [some (.ref 0), some (.retAddr (200 + tx)), some (.int (nI (zTxt tx).length))]) (st' := [.retAddr (200 + tx), .int (nI (zTxt tx).length)]) (M' := M) (by decide +kernel) rfl ?_
        refine zT.cX (idx := 40) (av := []) (rv := some (.int (nI (zTxt tx).length))) (st := [.int (nI (zTxt tx).length)]) (S1 := [.int (nI (zTxt tx).length), .int (nI (zTxt tx).length)]) (c_J0_length tx htx) k_J0_length_8abf5 (zTx_obj tx htx) rfl (zIn (w := 3227) (by decide +kernel) rfl) (by decide +kernel) (by decide +kernel) rfl (Nat.le_of_ble_eq_true rfl) rfl ?_
        refine zT.cge (tgt := 76) (off := 43) (by decide +kernel) (by decide) (fun _ => ?_) (fun c => absurd (zGeY (n := (zTxt tx).length) rfl) c)
        refine zT.run [(.iconst 1, 0, 0, 0)] (pe := 77) (ls' := [some (.ref 0), some (.retAddr (200 + tx)), some (.int (nI (zTxt tx).length))]) (st' := [.int 1]) (M' := M) (by decide +kernel) rfl ?_
        exact zT.iret (ty := Jvm.ClassFile.FieldType.boolean) ((show _ = (zFst (f_X8_isWord_28 M ty tx) (1 : Int32) (zTxt tx).length 0) from (by simp only [g_X8_isWord, if_pos c1, if_pos c2]; try rfl)).trans k1) rfl rfl rfl (by decide +kernel)
    · skip
      refine zT.run [(.iconst 0, 0, 0, 0)] (pe := 25) (ls' := [some (.ref 0), some (.retAddr (200 + tx)), none]) (st' := [.int 0]) (M' := M) (by decide +kernel) rfl ?_
      exact zT.iret (ty := Jvm.ClassFile.FieldType.boolean) (by simp only [g_X8_isWord, if_pos c1, if_neg c2]; try rfl) rfl rfl rfl (by decide +kernel)
theorem k_X8_isWord : zCal yy_X8_isWord 1 := ⟨⟨⟨⟨zIn (w := 3226) (by decide +kernel) rfl, zIn (w := 1003) (by decide +kernel) rfl⟩, by decide +kernel⟩, by decide +kernel⟩, ⟨zIn (w := 3224) (by decide +kernel) rfl, zIn (w := 3225) (by decide +kernel) rfl⟩⟩
noncomputable abbrev yy_X8_putFour : zY := (yX8_putFour, cX8_putFour, 3, none, 0, 0)
noncomputable def g_X8_putFour (M : zM) (ty : Nat) (x : Int32) : zM := (zU (zU (zU (zU (zU (zU (zU (zU M 1 ty (vp_nar .byte (((x >>> (24 &&& 31))).toInt8.toInt32))) 0 0 ((M 0 0) + 1)) 1 (ty + 1) (vp_nar .byte (((x >>> (16 &&& 31))).toInt8.toInt32))) 0 0 (((M 0 0) + 1) + 1)) 1 (ty + 2) (vp_nar .byte (((x >>> (8 &&& 31))).toInt8.toInt32))) 0 0 ((((M 0 0) + 1) + 1) + 1)) 1 (ty + 3) (vp_nar .byte (((x >>> (0 &&& 31))).toInt8.toInt32))) 0 0 (((((M 0 0) + 1) + 1) + 1) + 1))
set_option maxRecDepth 100000 in
theorem c_X8_putFour (M : zM) (ty : Nat) (x : Int32) (hty : M 0 0 = nI ty) (h600 : ty + 4 ≤ 600) : zC yy_X8_putFour 0 0 [.ref 0, .int x] sh_Text M none sh_Text (g_X8_putFour M ty x) := by
  refine zC.of (by decide +kernel) rfl (Nat.le_of_ble_eq_true rfl) ?_
  refine zT.run [(.bipush 24, 0, 0, 0), (.istore_n 2, 0, 0, 0), (.iload_n 2, 0, 0, 0)] (pe := 4) (ls' := [some (.ref 0), some (.int x), some (.int 24)]) (st' := [.int 24]) (M' := M) (by decide +kernel) rfl ?_
  refine zT.zlt (tgt := 46) (off := 42) (by decide +kernel) (by decide) (fun c => absurd c (by decide)) (fun _ => ?_)
  refine zT.run [(.aload_n 0, 0, 0, 0), (.getfield 15, 6, 0, 1047), (.sipush 600, 0, 0, 0)] (pe := 14) (ls' := [some (.ref 0), some (.int x), some (.int 24)]) (st' := [.int 600, .int (M 0 0)]) (M' := M) (by decide +kernel) rfl ?_
  refine zT.cge (tgt := 46) (off := 32) (by decide +kernel) (by decide) (fun c => absurd c (by rw [hty]; exact zGeN (n := 600) rfl (by omega) (by decide))) (fun _ => ?_)
  refine zT.run [(.aload_n 0, 0, 0, 0), (.getfield 9, 6, 1, 1049), (.aload_n 0, 0, 0, 0), (.getfield 15, 6, 0, 1047), (.iload_n 1, 0, 0, 0), (.iload_n 2, 0, 0, 0), (.ishr, 0, 0, 0), (.i2b, 0, 0, 0)] (pe := 29) (ls' := [some (.ref 0), some (.int x), some (.int 24)]) (st' := [.int (((x >>> (24 &&& 31))).toInt8.toInt32), .int (M 0 0), .ref 1]) (M' := M) (by decide +kernel) rfl ?_
  refine zT.bast (n := 600) (k := ty) rfl (by rw [hty]) (by omega) (by decide) (by decide +kernel) ?_
  refine zT.run [(.aload_n 0, 0, 0, 0), (.dup, 0, 0, 0), (.getfield 15, 6, 0, 1047), (.iconst 1, 0, 0, 0), (.iadd, 0, 0, 0), (.putfield 15, 6, 0, 1047), (.iinc 2 (-8), 0, 0, 0), (.goto (-40), 0, 0, 0), (.iload_n 2, 0, 0, 0)] (pe := 4) (ls' := [some (.ref 0), some (.int x), some (.int 16)]) (st' := [.int 16]) (M' := (zU (zU M 1 ty (vp_nar .byte (((x >>> (24 &&& 31))).toInt8.toInt32))) 0 0 ((M 0 0) + 1))) (by decide +kernel) rfl ?_
  refine zT.zlt (tgt := 46) (off := 42) (by decide +kernel) (by decide) (fun c => absurd c (by decide)) (fun _ => ?_)
  refine zT.run [(.aload_n 0, 0, 0, 0), (.getfield 15, 6, 0, 1047), (.sipush 600, 0, 0, 0)] (pe := 14) (ls' := [some (.ref 0), some (.int x), some (.int 16)]) (st' := [.int 600, .int ((M 0 0) + 1)]) (M' := (zU (zU M 1 ty (vp_nar .byte (((x >>> (24 &&& 31))).toInt8.toInt32))) 0 0 ((M 0 0) + 1))) (by decide +kernel) rfl ?_
  refine zT.cge (tgt := 46) (off := 32) (by decide +kernel) (by decide) (fun c => absurd c (by rw [hty, zP1]; exact zGeN (n := 600) rfl (by omega) (by decide))) (fun _ => ?_)
  refine zT.run [(.aload_n 0, 0, 0, 0), (.getfield 9, 6, 1, 1049), (.aload_n 0, 0, 0, 0), (.getfield 15, 6, 0, 1047), (.iload_n 1, 0, 0, 0), (.iload_n 2, 0, 0, 0), (.ishr, 0, 0, 0), (.i2b, 0, 0, 0)] (pe := 29) (ls' := [some (.ref 0), some (.int x), some (.int 16)]) (st' := [.int (((x >>> (16 &&& 31))).toInt8.toInt32), .int ((M 0 0) + 1), .ref 1]) (M' := (zU (zU M 1 ty (vp_nar .byte (((x >>> (24 &&& 31))).toInt8.toInt32))) 0 0 ((M 0 0) + 1))) (by decide +kernel) rfl ?_
  refine zT.bast (n := 600) (k := (ty + 1)) rfl (by rw [hty, zP1]) (by omega) (by decide) (by decide +kernel) ?_
  refine zT.run [(.aload_n 0, 0, 0, 0), (.dup, 0, 0, 0), (.getfield 15, 6, 0, 1047), (.iconst 1, 0, 0, 0), (.iadd, 0, 0, 0), (.putfield 15, 6, 0, 1047), (.iinc 2 (-8), 0, 0, 0), (.goto (-40), 0, 0, 0), (.iload_n 2, 0, 0, 0)] (pe := 4) (ls' := [some (.ref 0), some (.int x), some (.int 8)]) (st' := [.int 8]) (M' := (zU (zU (zU (zU M 1 ty (vp_nar .byte (((x >>> (24 &&& 31))).toInt8.toInt32))) 0 0 ((M 0 0) + 1)) 1 (ty + 1) (vp_nar .byte (((x >>> (16 &&& 31))).toInt8.toInt32))) 0 0 (((M 0 0) + 1) + 1))) (by decide +kernel) rfl ?_
  refine zT.zlt (tgt := 46) (off := 42) (by decide +kernel) (by decide) (fun c => absurd c (by decide)) (fun _ => ?_)
  refine zT.run [(.aload_n 0, 0, 0, 0), (.getfield 15, 6, 0, 1047), (.sipush 600, 0, 0, 0)] (pe := 14) (ls' := [some (.ref 0), some (.int x), some (.int 8)]) (st' := [.int 600, .int (((M 0 0) + 1) + 1)]) (M' := (zU (zU (zU (zU M 1 ty (vp_nar .byte (((x >>> (24 &&& 31))).toInt8.toInt32))) 0 0 ((M 0 0) + 1)) 1 (ty + 1) (vp_nar .byte (((x >>> (16 &&& 31))).toInt8.toInt32))) 0 0 (((M 0 0) + 1) + 1))) (by decide +kernel) rfl ?_
  refine zT.cge (tgt := 46) (off := 32) (by decide +kernel) (by decide) (fun c => absurd c (by rw [hty, zP2]; exact zGeN (n := 600) rfl (by omega) (by decide))) (fun _ => ?_)
  refine zT.run [(.aload_n 0, 0, 0, 0), (.getfield 9, 6, 1, 1049), (.aload_n 0, 0, 0, 0), (.getfield 15, 6, 0, 1047), (.iload_n 1, 0, 0, 0), (.iload_n 2, 0, 0, 0), (.ishr, 0, 0, 0), (.i2b, 0, 0, 0)] (pe := 29) (ls' := [some (.ref 0), some (.int x), some (.int 8)]) (st' := [.int (((x >>> (8 &&& 31))).toInt8.toInt32), .int (((M 0 0) + 1) + 1), .ref 1]) (M' := (zU (zU (zU (zU M 1 ty (vp_nar .byte (((x >>> (24 &&& 31))).toInt8.toInt32))) 0 0 ((M 0 0) + 1)) 1 (ty + 1) (vp_nar .byte (((x >>> (16 &&& 31))).toInt8.toInt32))) 0 0 (((M 0 0) + 1) + 1))) (by decide +kernel) rfl ?_
  refine zT.bast (n := 600) (k := (ty + 2)) rfl (by rw [hty, zP2]) (by omega) (by decide) (by decide +kernel) ?_
  refine zT.run [(.aload_n 0, 0, 0, 0), (.dup, 0, 0, 0), (.getfield 15, 6, 0, 1047), (.iconst 1, 0, 0, 0), (.iadd, 0, 0, 0), (.putfield 15, 6, 0, 1047), (.iinc 2 (-8), 0, 0, 0), (.goto (-40), 0, 0, 0), (.iload_n 2, 0, 0, 0)] (pe := 4) (ls' := [some (.ref 0), some (.int x), some (.int 0)]) (st' := [.int 0]) (M' := (zU (zU (zU (zU (zU (zU M 1 ty (vp_nar .byte (((x >>> (24 &&& 31))).toInt8.toInt32))) 0 0 ((M 0 0) + 1)) 1 (ty + 1) (vp_nar .byte (((x >>> (16 &&& 31))).toInt8.toInt32))) 0 0 (((M 0 0) + 1) + 1)) 1 (ty + 2) (vp_nar .byte (((x >>> (8 &&& 31))).toInt8.toInt32))) 0 0 ((((M 0 0) + 1) + 1) + 1))) (by decide +kernel) rfl ?_
  refine zT.zlt (tgt := 46) (off := 42) (by decide +kernel) (by decide) (fun c => absurd c (by decide)) (fun _ => ?_)
  refine zT.run [(.aload_n 0, 0, 0, 0), (.getfield 15, 6, 0, 1047), (.sipush 600, 0, 0, 0)] (pe := 14) (ls' := [some (.ref 0), some (.int x), some (.int 0)]) (st' := [.int 600, .int ((((M 0 0) + 1) + 1) + 1)]) (M' := (zU (zU (zU (zU (zU (zU M 1 ty (vp_nar .byte (((x >>> (24 &&& 31))).toInt8.toInt32))) 0 0 ((M 0 0) + 1)) 1 (ty + 1) (vp_nar .byte (((x >>> (16 &&& 31))).toInt8.toInt32))) 0 0 (((M 0 0) + 1) + 1)) 1 (ty + 2) (vp_nar .byte (((x >>> (8 &&& 31))).toInt8.toInt32))) 0 0 ((((M 0 0) + 1) + 1) + 1))) (by decide +kernel) rfl ?_
  refine zT.cge (tgt := 46) (off := 32) (by decide +kernel) (by decide) (fun c => absurd c (by rw [hty, zP3]; exact zGeN (n := 600) rfl (by omega) (by decide))) (fun _ => ?_)
  refine zT.run [(.aload_n 0, 0, 0, 0), (.getfield 9, 6, 1, 1049), (.aload_n 0, 0, 0, 0), (.getfield 15, 6, 0, 1047), (.iload_n 1, 0, 0, 0), (.iload_n 2, 0, 0, 0), (.ishr, 0, 0, 0), (.i2b, 0, 0, 0)] (pe := 29) (ls' := [some (.ref 0), some (.int x), some (.int 0)]) (st' := [.int (((x >>> (0 &&& 31))).toInt8.toInt32), .int ((((M 0 0) + 1) + 1) + 1), .ref 1]) (M' := (zU (zU (zU (zU (zU (zU M 1 ty (vp_nar .byte (((x >>> (24 &&& 31))).toInt8.toInt32))) 0 0 ((M 0 0) + 1)) 1 (ty + 1) (vp_nar .byte (((x >>> (16 &&& 31))).toInt8.toInt32))) 0 0 (((M 0 0) + 1) + 1)) 1 (ty + 2) (vp_nar .byte (((x >>> (8 &&& 31))).toInt8.toInt32))) 0 0 ((((M 0 0) + 1) + 1) + 1))) (by decide +kernel) rfl ?_
  refine zT.bast (n := 600) (k := (ty + 3)) rfl (by rw [hty, zP3]) (by omega) (by decide) (by decide +kernel) ?_
  refine zT.run [(.aload_n 0, 0, 0, 0), (.dup, 0, 0, 0), (.getfield 15, 6, 0, 1047), (.iconst 1, 0, 0, 0), (.iadd, 0, 0, 0), (.putfield 15, 6, 0, 1047), (.iinc 2 (-8), 0, 0, 0), (.goto (-40), 0, 0, 0), (.iload_n 2, 0, 0, 0)] (pe := 4) (ls' := [some (.ref 0), some (.int x), some (.int (-8))]) (st' := [.int (-8)]) (M' := (zU (zU (zU (zU (zU (zU (zU (zU M 1 ty (vp_nar .byte (((x >>> (24 &&& 31))).toInt8.toInt32))) 0 0 ((M 0 0) + 1)) 1 (ty + 1) (vp_nar .byte (((x >>> (16 &&& 31))).toInt8.toInt32))) 0 0 (((M 0 0) + 1) + 1)) 1 (ty + 2) (vp_nar .byte (((x >>> (8 &&& 31))).toInt8.toInt32))) 0 0 ((((M 0 0) + 1) + 1) + 1)) 1 (ty + 3) (vp_nar .byte (((x >>> (0 &&& 31))).toInt8.toInt32))) 0 0 (((((M 0 0) + 1) + 1) + 1) + 1))) (by decide +kernel) rfl ?_
  refine zT.zlt (tgt := 46) (off := 42) (by decide +kernel) (by decide) (fun _ => ?_) (fun c => absurd (by decide) c)
  exact zT.vret (by simp only [g_X8_putFour]; try rfl) rfl (by decide +kernel)
theorem fr_X8_putFour (M : zM) (ty : Nat) (x : Int32) (o : Nat) (ho : o ≠ 0 ∧ o ≠ 1) : (g_X8_putFour M ty x) o = M o := by
  simp only [g_X8_putFour]
  (repeat' split) <;> simp only [zU_ne ho.1, zU_ne ho.2, zUa_ne ho.1, zUa_ne ho.2]
theorem k_X8_putFour : zCal yy_X8_putFour 1 := ⟨⟨⟨⟨zIn (w := 3192) (by decide +kernel) rfl, zIn (w := 1003) (by decide +kernel) rfl⟩, by decide +kernel⟩, by decide +kernel⟩, ⟨zIn (w := 3190) (by decide +kernel) rfl, zIn (w := 3191) (by decide +kernel) rfl⟩⟩
theorem e_X8_putFour {M : zM} {ty : Nat} {x : Int32} (hty : M 0 0 = nI ty) : g_X8_putFour M ty x 0 0 = nI (ty + 4) := by
  rw [← zP4, ← hty]
  rfl
