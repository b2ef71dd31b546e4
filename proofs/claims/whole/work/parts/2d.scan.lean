theorem zT.wx {Y : zY} {kc nc : Nat} {Z : zS → Prop} {α β : Type} (d : α → β) (f : α → α ⊕ β) (P : α → Prop) (μ : α → Nat) (S : α → zS) (Es : β → zS)
    (hf : ∀ x y, P x → f x = .inl y → P y ∧ μ y < μ x)
    (hb : ∀ x, P x → (∀ y, f x = .inl y → zT Y kc nc Z (S y)) → (∀ b, f x = .inr b → zT Y kc nc Z (Es b)) → zT Y kc nc Z (S x)) (k : Nat) (x : α) (hx : P x) (hk : μ x < k) (he : zT Y kc nc Z (Es (zWr d f k x))) : zT Y kc nc Z (S x) :=
  zT.wr d f P μ S (fun b => zT Y kc nc Z (Es b)) hf hb k x hx hk he
theorem zWr_P {α β : Type} {d : α → β} {f : α → α ⊕ β} {P : α → Prop} {μ : α → Nat} {R : β → Prop} (hf : ∀ x y, P x → f x = .inl y → P y ∧ μ y < μ x) (hr : ∀ x b, P x → f x = .inr b → R b) :
    ∀ (k : Nat) (x : α), P x → μ x < k → R (zWr d f k x)
  | 0, x, _, h => absurd h (Nat.not_lt_zero _)
  | k + 1, x, hx, hk => by
    cases e : f x with
    | inl y =>
      obtain ⟨h1, h2⟩ := hf x y hx e
      rw [zWr, e]
      exact zWr_P hf hr k y h1 (by omega)
    | inr b =>
      rw [zWr, e]
      exact hr x b hx e
/-- what a step keeps, the loop keeps -/
theorem zWr_keep {γ : Type} {f : zM → zM ⊕ zM} (q : zM → γ) (hi : ∀ x y, f x = .inl y → q y = q x) (hr : ∀ x y, f x = .inr y → q y = q x) : ∀ (k : Nat) (x : zM), q (zWr (fun m => m) f k x) = q x
  | 0, x => rfl
  | k + 1, x => by
    cases e : f x with
    | inl y => rw [zWr, e]; exact (zWr_keep q hi hr k y).trans (hi x y e)
    | inr b => rw [zWr, e]; exact hr x b e
/-- the place in the text -/
def zAtP (ty : Nat) (m : zM) : Prop := m 0 8 = nI ty ∧ ∃ a, a ≤ ty ∧ m 0 14 = nI a
theorem zAtL {ty : Nat} {m : zM} (h : zAtP ty m) (h6 : ty ≤ 600) : m 0 14 = nI (m 0 14).toNatClampNeg ∧ (m 0 14).toNatClampNeg ≤ ty := by
  obtain ⟨h1, a, h2, h3⟩ := h
  rw [h3, nI_clamp (by omega)]
  exact ⟨rfl, h2⟩
theorem zAtI {ty : Nat} {m : zM} (h : zAtP ty m) (h6 : ty ≤ 600) (c : ¬ m 0 8 ≤ m 0 14) : m 0 14 = nI (m 0 14).toNatClampNeg ∧ (m 0 14).toNatClampNeg < ty := by
  obtain ⟨h1, a, h2, h3⟩ := h
  rw [h3, nI_clamp (by omega)]
  refine ⟨rfl, ?_⟩
  rw [h1, h3] at c
  exact zLt rfl (by omega) (by omega) c
theorem zAtN {ty : Nat} {m : zM} (h : zAtP ty m) (h6 : ty ≤ 600) (c : ¬ m 0 14 = m 0 8) : m 0 14 = nI (m 0 14).toNatClampNeg ∧ (m 0 14).toNatClampNeg < ty := by
  refine zAtI h h6 fun q => ?_
  obtain ⟨h1, a, h2, h3⟩ := h
  rw [h1, h3] at q c
  have := (nI_leI (by omega) (by omega)).mp q
  exact c (by rw [show a = ty by omega])
theorem zAtS {ty : Nat} {m m' : zM} (h : zAtP ty m) (h6 : ty ≤ 600) (c : ¬ m 0 8 ≤ m 0 14) (e1 : m' 0 8 = m 0 8) (e2 : m' 0 14 = m 0 14 + 1) : zAtP ty m' ∧ ty - (m' 0 14).toNatClampNeg < ty - (m 0 14).toNatClampNeg := by
  have hI := zAtI h h6 c
  obtain ⟨h1, a, h2, h3⟩ := h
  rw [h3, nI_clamp (by omega)] at hI
  have e3 : m' 0 14 = nI (a + 1) := by rw [e2, h3, nI_1]
  refine ⟨⟨e1.trans h1, a + 1, by omega, e3⟩, ?_⟩
  rw [e3, h3, nI_clamp (by omega), nI_clamp (by omega)]
  omega
noncomputable abbrev yy_X10_letterAt : zY := (yX10_letterAt, cX10_letterAt, 2, (some Jvm.ClassFile.FieldType.boolean), 0, 0)
noncomputable def g_X10_letterAt (M : zM) (ty : Nat) (i : Nat) : Int32 := (if (M 0 8) ≤ (nI i) then 0 else (if (M 18 i) < 97 then 0 else (if 122 < (M 18 i) then 0 else 1)))
set_option maxRecDepth 100000 in
theorem c_X10_letterAt (M : zM) (gp : Nat → Option Nat) (ty : Nat) (i : Nat) (hty : M 0 8 = nI ty) (h600 : ty ≤ 600) (h_i : i < 601) : zC yy_X10_letterAt 0 0 [.ref 0, .int (nI i)] (sh_Model gp) M (some (.int (g_X10_letterAt M ty i))) (sh_Model gp) M := by
  refine zC.of (by decide +kernel) rfl (Nat.le_of_ble_eq_true rfl) ?_
  refine zT.run [(.iload_n 1, 0, 0, 0), (.aload_n 0, 0, 0, 0), (.getfield 214, 8, 8, 5157)] (pe := 5) (ls' := [some (.ref 0), some (.int (nI i))]) (st' := [.int (M 0 8), .int (nI i)]) (M' := M) (by decide +kernel) rfl ?_
  refine zT.cge (tgt := 34) (off := 29) (by decide +kernel) (by decide) (fun (c1 : (M 0 8) ≤ (nI i)) => ?_) (fun (c1 : ¬ (M 0 8) ≤ (nI i)) => ?_)
  · skip
    refine zT.run [(.iconst 0, 0, 0, 0)] (pe := 35) (ls' := [some (.ref 0), some (.int (nI i))]) (st' := [.int 0]) (M' := M) (by decide +kernel) rfl ?_
    exact zT.iret (ty := Jvm.ClassFile.FieldType.boolean) (by simp only [g_X10_letterAt, if_pos c1]; try rfl) rfl rfl rfl (by decide +kernel)
  · skip
    refine zT.run [(.aload_n 0, 0, 0, 0), (.getfield 28, 8, 7, 5156), (.iload_n 1, 0, 0, 0)] (pe := 13) (ls' := [some (.ref 0), some (.int (nI i))]) (st' := [.int (nI i), .ref 18]) (M' := M) (by decide +kernel) rfl ?_
    refine zT.iald (n := 600) (k := i) rfl rfl (by have := zLt (B := nI i) (n := i) (k := ty) rfl (by omega) (by omega) (by rw [← hty]; assumption); omega) (by decide) (by decide +kernel) ?_
    refine zT.run [(.bipush 97, 0, 0, 0)] (pe := 16) (ls' := [some (.ref 0), some (.int (nI i))]) (st' := [.int 97, .int (M 18 i)]) (M' := M) (by decide +kernel) rfl ?_
    refine zT.clt (tgt := 34) (off := 18) (by decide +kernel) (by decide) (fun (c2 : (M 18 i) < 97) => ?_) (fun (c2 : ¬ (M 18 i) < 97) => ?_)
    · skip
      refine zT.run [(.iconst 0, 0, 0, 0)] (pe := 35) (ls' := [some (.ref 0), some (.int (nI i))]) (st' := [.int 0]) (M' := M) (by decide +kernel) rfl ?_
      exact zT.iret (ty := Jvm.ClassFile.FieldType.boolean) (by simp only [g_X10_letterAt, if_neg c1, if_pos c2]; try rfl) rfl rfl rfl (by decide +kernel)
    · skip
      refine zT.run [(.aload_n 0, 0, 0, 0), (.getfield 28, 8, 7, 5156), (.iload_n 1, 0, 0, 0)] (pe := 24) (ls' := [some (.ref 0), some (.int (nI i))]) (st' := [.int (nI i), .ref 18]) (M' := M) (by decide +kernel) rfl ?_
      refine zT.iald (n := 600) (k := i) rfl rfl (by have := zLt (B := nI i) (n := i) (k := ty) rfl (by omega) (by omega) (by rw [← hty]; assumption); omega) (by decide) (by decide +kernel) ?_
      refine zT.run [(.bipush 122, 0, 0, 0)] (pe := 27) (ls' := [some (.ref 0), some (.int (nI i))]) (st' := [.int 122, .int (M 18 i)]) (M' := M) (by decide +kernel) rfl ?_
      refine zT.cgt (tgt := 34) (off := 7) (by decide +kernel) (by decide) (fun (c3 : 122 < (M 18 i)) => ?_) (fun (c3 : ¬ 122 < (M 18 i)) => ?_)
      · skip
        refine zT.run [(.iconst 0, 0, 0, 0)] (pe := 35) (ls' := [some (.ref 0), some (.int (nI i))]) (st' := [.int 0]) (M' := M) (by decide +kernel) rfl ?_
        exact zT.iret (ty := Jvm.ClassFile.FieldType.boolean) (by simp only [g_X10_letterAt, if_neg c1, if_neg c2, if_pos c3]; try rfl) rfl rfl rfl (by decide +kernel)
      · skip
        refine zT.run [(.iconst 1, 0, 0, 0), (.goto 4, 0, 0, 0)] (pe := 35) (ls' := [some (.ref 0), some (.int (nI i))]) (st' := [.int 1]) (M' := M) (by decide +kernel) rfl ?_
        exact zT.iret (ty := Jvm.ClassFile.FieldType.boolean) (by simp only [g_X10_letterAt, if_neg c1, if_neg c2, if_neg c3]; try rfl) rfl rfl rfl (by decide +kernel)
theorem k_X10_letterAt : zCal yy_X10_letterAt 1 := ⟨⟨⟨⟨zIn (w := 6168) (by decide +kernel) rfl, zIn (w := 1012) (by decide +kernel) rfl⟩, by decide +kernel⟩, by decide +kernel⟩, ⟨zIn (w := 6167) (by decide +kernel) rfl, zIn (w := 60) (by decide +kernel) rfl⟩⟩
theorem nb_X10_letterAt {M : zM} {ty : Nat} {i : Nat} : narrow .boolean (.int (g_X10_letterAt M ty i)) = .int (g_X10_letterAt M ty i) := by
  simp only [g_X10_letterAt]
  (repeat' split) <;> rfl
theorem e_X10_letterAt {M : zM} {ty i : Nat} (h : ¬ g_X10_letterAt M ty i = 0) : ¬ M 0 8 ≤ nI i := by
  intro c
  apply h
  simp only [g_X10_letterAt, if_pos c]
noncomputable abbrev yy_X10_digitAt : zY := (yX10_digitAt, cX10_digitAt, 2, (some Jvm.ClassFile.FieldType.boolean), 0, 0)
noncomputable def g_X10_digitAt (M : zM) (ty : Nat) (i : Nat) : Int32 := (if (M 0 8) ≤ (nI i) then 0 else (if (M 18 i) < 48 then 0 else (if 57 < (M 18 i) then 0 else 1)))
set_option maxRecDepth 100000 in
theorem c_X10_digitAt (M : zM) (gp : Nat → Option Nat) (ty : Nat) (i : Nat) (hty : M 0 8 = nI ty) (h600 : ty ≤ 600) (h_i : i < 601) : zC yy_X10_digitAt 0 0 [.ref 0, .int (nI i)] (sh_Model gp) M (some (.int (g_X10_digitAt M ty i))) (sh_Model gp) M := by
  refine zC.of (by decide +kernel) rfl (Nat.le_of_ble_eq_true rfl) ?_
  refine zT.run [(.iload_n 1, 0, 0, 0), (.aload_n 0, 0, 0, 0), (.getfield 214, 8, 8, 5157)] (pe := 5) (ls' := [some (.ref 0), some (.int (nI i))]) (st' := [.int (M 0 8), .int (nI i)]) (M' := M) (by decide +kernel) rfl ?_
  refine zT.cge (tgt := 34) (off := 29) (by decide +kernel) (by decide) (fun (c1 : (M 0 8) ≤ (nI i)) => ?_) (fun (c1 : ¬ (M 0 8) ≤ (nI i)) => ?_)
  · skip
    refine zT.run [(.iconst 0, 0, 0, 0)] (pe := 35) (ls' := [some (.ref 0), some (.int (nI i))]) (st' := [.int 0]) (M' := M) (by decide +kernel) rfl ?_
    exact zT.iret (ty := Jvm.ClassFile.FieldType.boolean) (by simp only [g_X10_digitAt, if_pos c1]; try rfl) rfl rfl rfl (by decide +kernel)
  · skip
    refine zT.run [(.aload_n 0, 0, 0, 0), (.getfield 28, 8, 7, 5156), (.iload_n 1, 0, 0, 0)] (pe := 13) (ls' := [some (.ref 0), some (.int (nI i))]) (st' := [.int (nI i), .ref 18]) (M' := M) (by decide +kernel) rfl ?_
    refine zT.iald (n := 600) (k := i) rfl rfl (by have := zLt (B := nI i) (n := i) (k := ty) rfl (by omega) (by omega) (by rw [← hty]; assumption); omega) (by decide) (by decide +kernel) ?_
    refine zT.run [(.bipush 48, 0, 0, 0)] (pe := 16) (ls' := [some (.ref 0), some (.int (nI i))]) (st' := [.int 48, .int (M 18 i)]) (M' := M) (by decide +kernel) rfl ?_
    refine zT.clt (tgt := 34) (off := 18) (by decide +kernel) (by decide) (fun (c2 : (M 18 i) < 48) => ?_) (fun (c2 : ¬ (M 18 i) < 48) => ?_)
    · skip
      refine zT.run [(.iconst 0, 0, 0, 0)] (pe := 35) (ls' := [some (.ref 0), some (.int (nI i))]) (st' := [.int 0]) (M' := M) (by decide +kernel) rfl ?_
      exact zT.iret (ty := Jvm.ClassFile.FieldType.boolean) (by simp only [g_X10_digitAt, if_neg c1, if_pos c2]; try rfl) rfl rfl rfl (by decide +kernel)
    · skip
      refine zT.run [(.aload_n 0, 0, 0, 0), (.getfield 28, 8, 7, 5156), (.iload_n 1, 0, 0, 0)] (pe := 24) (ls' := [some (.ref 0), some (.int (nI i))]) (st' := [.int (nI i), .ref 18]) (M' := M) (by decide +kernel) rfl ?_
      refine zT.iald (n := 600) (k := i) rfl rfl (by have := zLt (B := nI i) (n := i) (k := ty) rfl (by omega) (by omega) (by rw [← hty]; assumption); omega) (by decide) (by decide +kernel) ?_
      refine zT.run [(.bipush 57, 0, 0, 0)] (pe := 27) (ls' := [some (.ref 0), some (.int (nI i))]) (st' := [.int 57, .int (M 18 i)]) (M' := M) (by decide +kernel) rfl ?_
      refine zT.cgt (tgt := 34) (off := 7) (by decide +kernel) (by decide) (fun (c3 : 57 < (M 18 i)) => ?_) (fun (c3 : ¬ 57 < (M 18 i)) => ?_)
      · skip
        refine zT.run [(.iconst 0, 0, 0, 0)] (pe := 35) (ls' := [some (.ref 0), some (.int (nI i))]) (st' := [.int 0]) (M' := M) (by decide +kernel) rfl ?_
        exact zT.iret (ty := Jvm.ClassFile.FieldType.boolean) (by simp only [g_X10_digitAt, if_neg c1, if_neg c2, if_pos c3]; try rfl) rfl rfl rfl (by decide +kernel)
      · skip
        refine zT.run [(.iconst 1, 0, 0, 0), (.goto 4, 0, 0, 0)] (pe := 35) (ls' := [some (.ref 0), some (.int (nI i))]) (st' := [.int 1]) (M' := M) (by decide +kernel) rfl ?_
        exact zT.iret (ty := Jvm.ClassFile.FieldType.boolean) (by simp only [g_X10_digitAt, if_neg c1, if_neg c2, if_neg c3]; try rfl) rfl rfl rfl (by decide +kernel)
theorem k_X10_digitAt : zCal yy_X10_digitAt 1 := ⟨⟨⟨⟨zIn (w := 6172) (by decide +kernel) rfl, zIn (w := 1012) (by decide +kernel) rfl⟩, by decide +kernel⟩, by decide +kernel⟩, ⟨zIn (w := 6171) (by decide +kernel) rfl, zIn (w := 61) (by decide +kernel) rfl⟩⟩
theorem nb_X10_digitAt {M : zM} {ty : Nat} {i : Nat} : narrow .boolean (.int (g_X10_digitAt M ty i)) = .int (g_X10_digitAt M ty i) := by
  simp only [g_X10_digitAt]
  (repeat' split) <;> rfl
theorem e_X10_digitAt {M : zM} {ty i : Nat} (h : ¬ g_X10_digitAt M ty i = 0) : ¬ M 0 8 ≤ nI i := by
  intro c
  apply h
  simp only [g_X10_digitAt, if_pos c]
theorem zDg {m : zM} {ty : Nat} (hp : zAtP ty m) (h6 : ty ≤ 600) (h : ¬ g_X10_digitAt m ty (m 0 14).toNatClampNeg = 0) : ¬ m 0 8 ≤ m 0 14 := by
  have := e_X10_digitAt h
  rwa [← (zAtL hp h6).1] at this
theorem zLg {m : zM} {ty : Nat} (hp : zAtP ty m) (h6 : ty ≤ 600) (h : ¬ g_X10_letterAt m ty (m 0 14).toNatClampNeg = 0) : ¬ m 0 8 ≤ m 0 14 := by
  have := e_X10_letterAt h
  rwa [← (zAtL hp h6).1] at this
noncomputable abbrev yy_X10_scan : zY := (yX10_scan, cX10_scan, 1, none, 1, 21)
noncomputable def f_X10_scan_0 (M : zM) (ty : Nat) (m1 : zM) : zM ⊕ zM := (if (m1 0 8) ≤ (m1 0 14) then (.inr m1) else (if (m1 18 (m1 0 14).toNatClampNeg) = 32 then (.inl (zU m1 0 14 ((m1 0 14) + 1))) else (if (m1 18 (m1 0 14).toNatClampNeg) = 10 then (.inl (zU m1 0 14 ((m1 0 14) + 1))) else (.inr m1))))
theorem hf_scan_0 (M : zM) (ty : Nat) (h600 : ty ≤ 600) : ∀ x y : zM, zAtP ty x → f_X10_scan_0 M ty x = .inl y → zAtP ty y ∧ ty - (y 0 14).toNatClampNeg < ty - (x 0 14).toNatClampNeg := by
  intro x y hx h
  simp only [f_X10_scan_0] at h
  (repeat' split at h) <;> first
    | (cases h; done)
    | (have e := Sum.inl.inj h
       subst e
       exact zAtS hx h600 (by assumption) rfl rfl)
noncomputable def w_X10_scan_0 (M : zM) (ty : Nat) (m : zM) : zM := zWr (fun (m : zM) => m) (f_X10_scan_0 M ty) (ty + 1) m
theorem wr_scan_0 (M : zM) (ty : Nat) (h600 : ty ≤ 600) (m : zM) (hm : zAtP ty m) : zAtP ty (w_X10_scan_0 M ty m) := by
  refine zWr_P (hf_scan_0 M ty h600) (fun x b hx e => ?_) _ m hm (by omega)
  simp only [f_X10_scan_0] at e
  (repeat' split at e) <;> first
    | (cases e; done)
    | (have e := Sum.inr.inj e
       subst e
       exact hx)
theorem kp_scan_0 (M : zM) (ty : Nat) (m : zM) : (∀ o, o ≠ 0 → w_X10_scan_0 M ty m o = m o) ∧ ∀ k, k ≠ 14 → k ≠ 17 → w_X10_scan_0 M ty m 0 k = m 0 k := by
  refine ⟨fun o ho => zWr_keep (fun m => m o) (fun x y e => ?_) (fun x y e => ?_) _ m, fun k h1 h2 => zWr_keep (fun m => m 0 k) (fun x y e => ?_) (fun x y e => ?_) _ m⟩ <;>
    (simp only [f_X10_scan_0] at e
     (repeat' split at e) <;> first
      | (cases e; done)
      | (have e := Sum.inl.inj e; subst e; first | rfl | simp only [zU_ne ho] | simp only [zU_k (o := k) h1, zU_k (o := k) h2])
      | (have e := Sum.inr.inj e; subst e; rfl))
noncomputable def f_X10_scan_138 (M : zM) (ty : Nat) (m2 : zM) : zM ⊕ zM := (if (g_X10_digitAt m2 ty (m2 0 14).toNatClampNeg) = 0 then (.inr m2) else (.inl (zU (zU m2 0 17 (if 5 ≤ ((m2 0 14) - (m2 0 15)) then (m2 0 17) else (((10 * (m2 0 17)) + (m2 18 (m2 0 14).toNatClampNeg)) - 48))) 0 14 ((m2 0 14) + 1))))
theorem hf_scan_138 (M : zM) (ty : Nat) (h600 : ty ≤ 600) : ∀ x y : zM, zAtP ty x → f_X10_scan_138 M ty x = .inl y → zAtP ty y ∧ ty - (y 0 14).toNatClampNeg < ty - (x 0 14).toNatClampNeg := by
  intro x y hx h
  simp only [f_X10_scan_138] at h
  (repeat' split at h) <;> first
    | (cases h; done)
    | (have e := Sum.inl.inj h
       subst e
       exact zAtS hx h600 (by exact zDg hx h600 (by assumption)) rfl rfl)
noncomputable def w_X10_scan_138 (M : zM) (ty : Nat) (m : zM) : zM := zWr (fun (m : zM) => m) (f_X10_scan_138 M ty) (ty + 1) m
theorem wr_scan_138 (M : zM) (ty : Nat) (h600 : ty ≤ 600) (m : zM) (hm : zAtP ty m) : zAtP ty (w_X10_scan_138 M ty m) := by
  refine zWr_P (hf_scan_138 M ty h600) (fun x b hx e => ?_) _ m hm (by omega)
  simp only [f_X10_scan_138] at e
  (repeat' split at e) <;> first
    | (cases e; done)
    | (have e := Sum.inr.inj e
       subst e
       exact hx)
theorem kp_scan_138 (M : zM) (ty : Nat) (m : zM) : (∀ o, o ≠ 0 → w_X10_scan_138 M ty m o = m o) ∧ ∀ k, k ≠ 14 → k ≠ 17 → w_X10_scan_138 M ty m 0 k = m 0 k := by
  refine ⟨fun o ho => zWr_keep (fun m => m o) (fun x y e => ?_) (fun x y e => ?_) _ m, fun k h1 h2 => zWr_keep (fun m => m 0 k) (fun x y e => ?_) (fun x y e => ?_) _ m⟩ <;>
    (simp only [f_X10_scan_138] at e
     (repeat' split at e) <;> first
      | (cases e; done)
      | (have e := Sum.inl.inj e; subst e; first | rfl | simp only [zU_ne ho] | simp only [zU_k (o := k) h1, zU_k (o := k) h2])
      | (have e := Sum.inr.inj e; subst e; rfl))
noncomputable def f_X10_scan_90 (M : zM) (ty : Nat) (m3 : zM) : zM ⊕ zM := (if (g_X10_letterAt m3 ty (m3 0 14).toNatClampNeg) = 0 then (.inr m3) else (.inl (zU m3 0 14 ((m3 0 14) + 1))))
theorem hf_scan_90 (M : zM) (ty : Nat) (h600 : ty ≤ 600) : ∀ x y : zM, zAtP ty x → f_X10_scan_90 M ty x = .inl y → zAtP ty y ∧ ty - (y 0 14).toNatClampNeg < ty - (x 0 14).toNatClampNeg := by
  intro x y hx h
  simp only [f_X10_scan_90] at h
  (repeat' split at h) <;> first
    | (cases h; done)
    | (have e := Sum.inl.inj h
       subst e
       exact zAtS hx h600 (by exact zLg hx h600 (by assumption)) rfl rfl)
noncomputable def w_X10_scan_90 (M : zM) (ty : Nat) (m : zM) : zM := zWr (fun (m : zM) => m) (f_X10_scan_90 M ty) (ty + 1) m
theorem wr_scan_90 (M : zM) (ty : Nat) (h600 : ty ≤ 600) (m : zM) (hm : zAtP ty m) : zAtP ty (w_X10_scan_90 M ty m) := by
  refine zWr_P (hf_scan_90 M ty h600) (fun x b hx e => ?_) _ m hm (by omega)
  simp only [f_X10_scan_90] at e
  (repeat' split at e) <;> first
    | (cases e; done)
    | (have e := Sum.inr.inj e
       subst e
       exact hx)
theorem kp_scan_90 (M : zM) (ty : Nat) (m : zM) : (∀ o, o ≠ 0 → w_X10_scan_90 M ty m o = m o) ∧ ∀ k, k ≠ 14 → k ≠ 17 → w_X10_scan_90 M ty m 0 k = m 0 k := by
  refine ⟨fun o ho => zWr_keep (fun m => m o) (fun x y e => ?_) (fun x y e => ?_) _ m, fun k h1 h2 => zWr_keep (fun m => m 0 k) (fun x y e => ?_) (fun x y e => ?_) _ m⟩ <;>
    (simp only [f_X10_scan_90] at e
     (repeat' split at e) <;> first
      | (cases e; done)
      | (have e := Sum.inl.inj e; subst e; first | rfl | simp only [zU_ne ho] | simp only [zU_k (o := k) h1, zU_k (o := k) h2])
      | (have e := Sum.inr.inj e; subst e; rfl))
noncomputable def g_X10_scan (M : zM) (ty : Nat) : zM := (if ((w_X10_scan_0 M ty M) 0 14) = ((w_X10_scan_0 M ty M) 0 8) then (zU (zU (w_X10_scan_0 M ty M) 0 15 ((w_X10_scan_0 M ty M) 0 14)) 0 16 0) else (if (g_X10_letterAt (zU (w_X10_scan_0 M ty M) 0 15 ((w_X10_scan_0 M ty M) 0 14)) ty ((w_X10_scan_0 M ty M) 0 14).toNatClampNeg) = 0 then (if (g_X10_digitAt (zU (w_X10_scan_0 M ty M) 0 15 ((w_X10_scan_0 M ty M) 0 14)) ty ((w_X10_scan_0 M ty M) 0 14).toNatClampNeg) = 0 then (zU (zU (zU (w_X10_scan_0 M ty M) 0 15 ((w_X10_scan_0 M ty M) 0 14)) 0 16 (if ((w_X10_scan_0 M ty M) 18 ((w_X10_scan_0 M ty M) 0 14).toNatClampNeg) = 59 then (1 : Int32) else (4 : Int32))) 0 14 (((w_X10_scan_0 M ty M) 0 14) + 1)) else (zU (w_X10_scan_138 M ty (zU (zU (w_X10_scan_0 M ty M) 0 15 ((w_X10_scan_0 M ty M) 0 14)) 0 17 0)) 0 16 (if (((w_X10_scan_138 M ty (zU (zU (w_X10_scan_0 M ty M) 0 15 ((w_X10_scan_0 M ty M) 0 14)) 0 17 0)) 0 14) - ((w_X10_scan_138 M ty (zU (zU (w_X10_scan_0 M ty M) 0 15 ((w_X10_scan_0 M ty M) 0 14)) 0 17 0)) 0 15)) ≤ 5 then (2 : Int32) else (4 : Int32)))) else (zU (w_X10_scan_90 M ty (zU (w_X10_scan_0 M ty M) 0 15 ((w_X10_scan_0 M ty M) 0 14))) 0 16 3)))
set_option maxRecDepth 100000 in
theorem c_X10_scan (M : zM) (gp : Nat → Option Nat) (ty : Nat) (h600 : ty ≤ 600) (hat : zAtP ty M) : zC yy_X10_scan 0 0 [.ref 0] (sh_Model gp) M none (sh_Model gp) (g_X10_scan M ty) := by
  refine zC.of (by decide +kernel) rfl (Nat.le_of_ble_eq_true rfl) ?_
  refine zT.wx (fun (m : zM) => m) (f_X10_scan_0 M ty) (zAtP ty) (fun (m : zM) => ty - (m 0 14).toNatClampNeg) (fun (m : zM) => (0, [some (.ref 0)], [], (sh_Model gp), m)) (fun (m : zM) => (52, [some (.ref 0)], [], (sh_Model gp), m)) (hf_scan_0 M ty h600) (fun m1 hp1 k1 kk1 => ?_) (ty + 1) M hat (by omega) ?_
  · skip
    show zT _ _ _ _ (0, [some (.ref 0)], [], (sh_Model gp), m1)
    refine zT.run [(.aload_n 0, 0, 0, 0), (.getfield 217, 8, 14, 5163), (.aload_n 0, 0, 0, 0), (.getfield 214, 8, 8, 5157)] (pe := 8) (ls' := [some (.ref 0)]) (st' := [.int (m1 0 8), .int (m1 0 14)]) (M' := m1) (by decide +kernel) rfl ?_
    refine zT.cge (tgt := 52) (off := 44) (by decide +kernel) (by decide) (fun (c1 : (m1 0 8) ≤ (m1 0 14)) => ?_) (fun (c1 : ¬ (m1 0 8) ≤ (m1 0 14)) => ?_)
    · skip
      exact kk1 _ (by simp only [f_X10_scan_0, if_pos c1])
    · skip
      refine zT.run [(.aload_n 0, 0, 0, 0), (.getfield 28, 8, 7, 5156), (.aload_n 0, 0, 0, 0), (.getfield 217, 8, 14, 5163)] (pe := 19) (ls' := [some (.ref 0)]) (st' := [.int (m1 0 14), .ref 18]) (M' := m1) (by decide +kernel) rfl ?_
      refine zT.iald (n := 600) (k := (m1 0 14).toNatClampNeg) rfl (zAtI hp1 h600 (by assumption)).1 (by have := (zAtI hp1 h600 (by assumption)).2; omega) (by decide) (by decide +kernel) ?_
      refine zT.run [(.bipush 32, 0, 0, 0)] (pe := 22) (ls' := [some (.ref 0)]) (st' := [.int 32, .int (m1 18 (m1 0 14).toNatClampNeg)]) (M' := m1) (by decide +kernel) rfl ?_
      refine zT.ceq (tgt := 39) (off := 17) (by decide +kernel) (by decide) (fun (c2 : (m1 18 (m1 0 14).toNatClampNeg) = 32) => ?_) (fun (c2 : ¬ (m1 18 (m1 0 14).toNatClampNeg) = 32) => ?_)
      · skip
        refine zT.run [(.aload_n 0, 0, 0, 0), (.dup, 0, 0, 0), (.getfield 217, 8, 14, 5163), (.iconst 1, 0, 0, 0), (.iadd, 0, 0, 0), (.putfield 217, 8, 14, 5163), (.goto (-49), 0, 0, 0)] (pe := 0) (ls' := [some (.ref 0)]) (st' := []) (M' := (zU m1 0 14 ((m1 0 14) + 1))) (by decide +kernel) rfl ?_
        exact k1 _ (by simp only [f_X10_scan_0, if_neg c1, if_pos c2])
      · skip
        refine zT.run [(.aload_n 0, 0, 0, 0), (.getfield 28, 8, 7, 5156), (.aload_n 0, 0, 0, 0), (.getfield 217, 8, 14, 5163)] (pe := 33) (ls' := [some (.ref 0)]) (st' := [.int (m1 0 14), .ref 18]) (M' := m1) (by decide +kernel) rfl ?_
        refine zT.iald (n := 600) (k := (m1 0 14).toNatClampNeg) rfl (zAtI hp1 h600 (by assumption)).1 (by have := (zAtI hp1 h600 (by assumption)).2; omega) (by decide) (by decide +kernel) ?_
        refine zT.run [(.bipush 10, 0, 0, 0)] (pe := 36) (ls' := [some (.ref 0)]) (st' := [.int 10, .int (m1 18 (m1 0 14).toNatClampNeg)]) (M' := m1) (by decide +kernel) rfl ?_
        refine zT.cne (tgt := 52) (off := 16) (by decide +kernel) (by decide) (fun (c3 : ¬ (m1 18 (m1 0 14).toNatClampNeg) = 10) => ?_) (fun (c3 : (m1 18 (m1 0 14).toNatClampNeg) = 10) => ?_)
        · skip
          exact kk1 _ (by simp only [f_X10_scan_0, if_neg c1, if_neg c2, if_neg c3])
        · skip
          refine zT.run [(.aload_n 0, 0, 0, 0), (.dup, 0, 0, 0), (.getfield 217, 8, 14, 5163), (.iconst 1, 0, 0, 0), (.iadd, 0, 0, 0), (.putfield 217, 8, 14, 5163), (.goto (-49), 0, 0, 0)] (pe := 0) (ls' := [some (.ref 0)]) (st' := []) (M' := (zU m1 0 14 ((m1 0 14) + 1))) (by decide +kernel) rfl ?_
          exact k1 _ (by simp only [f_X10_scan_0, if_neg c1, if_neg c2, if_pos c3])
  · skip
    show zT _ _ _ _ (52, [some (.ref 0)], [], (sh_Model gp), (w_X10_scan_0 M ty M))
    have hw0 : zAtP ty (w_X10_scan_0 M ty M) := wr_scan_0 M ty h600 M hat
    refine zT.run [(.aload_n 0, 0, 0, 0), (.aload_n 0, 0, 0, 0), (.getfield 217, 8, 14, 5163), (.putfield 220, 8, 15, 5164), (.aload_n 0, 0, 0, 0), (.getfield 217, 8, 14, 5163), (.aload_n 0, 0, 0, 0), (.getfield 214, 8, 8, 5157)] (pe := 68) (ls' := [some (.ref 0)]) (st' := [.int ((w_X10_scan_0 M ty M) 0 8), .int ((w_X10_scan_0 M ty M) 0 14)]) (M' := (zU (w_X10_scan_0 M ty M) 0 15 ((w_X10_scan_0 M ty M) 0 14))) (by decide +kernel) rfl ?_
    refine zT.cne (tgt := 79) (off := 11) (by decide +kernel) (by decide) (fun (c4 : ¬ ((w_X10_scan_0 M ty M) 0 14) = ((w_X10_scan_0 M ty M) 0 8)) => ?_) (fun (c4 : ((w_X10_scan_0 M ty M) 0 14) = ((w_X10_scan_0 M ty M) 0 8)) => ?_)
    · skip
      refine zT.run [(.aload_n 0, 0, 0, 0), (.aload_n 0, 0, 0, 0), (.getfield 217, 8, 14, 5163)] (pe := 84) (ls' := [some (.ref 0)]) (st' := [.int ((w_X10_scan_0 M ty M) 0 14), .ref 0]) (M' := (zU (w_X10_scan_0 M ty M) 0 15 ((w_X10_scan_0 M ty M) 0 14))) (by decide +kernel) rfl ?_
      refine zT.eqS (congrArg (fun v : Int32 => ([.int v, .ref 0] : List Value)) (zAtL hw0 h600).1) ?_
      refine zT.cV_own (o := 0) (idx := 226) (av := [.int (nI ((w_X10_scan_0 M ty M) 0 14).toNatClampNeg)]) (rv := (some (.int (g_X10_letterAt (zU (w_X10_scan_0 M ty M) 0 15 ((w_X10_scan_0 M ty M) 0 14)) ty ((w_X10_scan_0 M ty M) 0 14).toNatClampNeg)))) (st := []) (S1 := [.int (g_X10_letterAt (zU (w_X10_scan_0 M ty M) 0 15 ((w_X10_scan_0 M ty M) 0 14)) ty ((w_X10_scan_0 M ty M) 0 14).toNatClampNeg)]) (c_X10_letterAt (zU (w_X10_scan_0 M ty M) 0 15 ((w_X10_scan_0 M ty M) 0 14)) gp ty ((w_X10_scan_0 M ty M) 0 14).toNatClampNeg (hw0).1 h600 (by have := (zAtL hw0 h600).2; omega)) k_X10_letterAt _ _ rfl rfl rfl (zIn (w := 6165) (by decide +kernel) rfl) (by decide +kernel) (by decide +kernel) rfl (Nat.le_of_ble_eq_true rfl) rfl ?_
      refine zT.zeq (tgt := 122) (off := 35) (by decide +kernel) (by decide) (fun (c5 : (g_X10_letterAt (zU (w_X10_scan_0 M ty M) 0 15 ((w_X10_scan_0 M ty M) 0 14)) ty ((w_X10_scan_0 M ty M) 0 14).toNatClampNeg) = 0) => ?_) (fun (c5 : ¬ (g_X10_letterAt (zU (w_X10_scan_0 M ty M) 0 15 ((w_X10_scan_0 M ty M) 0 14)) ty ((w_X10_scan_0 M ty M) 0 14).toNatClampNeg) = 0) => ?_)
      · skip
        refine zT.run [(.aload_n 0, 0, 0, 0), (.aload_n 0, 0, 0, 0), (.getfield 217, 8, 14, 5163)] (pe := 127) (ls' := [some (.ref 0)]) (st' := [.int ((w_X10_scan_0 M ty M) 0 14), .ref 0]) (M' := (zU (w_X10_scan_0 M ty M) 0 15 ((w_X10_scan_0 M ty M) 0 14))) (by decide +kernel) rfl ?_
        refine zT.eqS (congrArg (fun v : Int32 => ([.int v, .ref 0] : List Value)) (zAtL hw0 h600).1) ?_
        refine zT.cV_own (o := 0) (idx := 229) (av := [.int (nI ((w_X10_scan_0 M ty M) 0 14).toNatClampNeg)]) (rv := (some (.int (g_X10_digitAt (zU (w_X10_scan_0 M ty M) 0 15 ((w_X10_scan_0 M ty M) 0 14)) ty ((w_X10_scan_0 M ty M) 0 14).toNatClampNeg)))) (st := []) (S1 := [.int (g_X10_digitAt (zU (w_X10_scan_0 M ty M) 0 15 ((w_X10_scan_0 M ty M) 0 14)) ty ((w_X10_scan_0 M ty M) 0 14).toNatClampNeg)]) (c_X10_digitAt (zU (w_X10_scan_0 M ty M) 0 15 ((w_X10_scan_0 M ty M) 0 14)) gp ty ((w_X10_scan_0 M ty M) 0 14).toNatClampNeg (hw0).1 h600 (by have := (zAtL hw0 h600).2; omega)) k_X10_digitAt _ _ rfl rfl rfl (zIn (w := 6169) (by decide +kernel) rfl) (by decide +kernel) (by decide +kernel) rfl (Nat.le_of_ble_eq_true rfl) rfl ?_
        refine zT.zeq (tgt := 231) (off := 101) (by decide +kernel) (by decide) (fun (c6 : (g_X10_digitAt (zU (w_X10_scan_0 M ty M) 0 15 ((w_X10_scan_0 M ty M) 0 14)) ty ((w_X10_scan_0 M ty M) 0 14).toNatClampNeg) = 0) => ?_) (fun (c6 : ¬ (g_X10_digitAt (zU (w_X10_scan_0 M ty M) 0 15 ((w_X10_scan_0 M ty M) 0 14)) ty ((w_X10_scan_0 M ty M) 0 14).toNatClampNeg) = 0) => ?_)
        · skip
          refine zT.run [(.aload_n 0, 0, 0, 0), (.aload_n 0, 0, 0, 0), (.getfield 28, 8, 7, 5156), (.aload_n 0, 0, 0, 0), (.getfield 217, 8, 14, 5163)] (pe := 240) (ls' := [some (.ref 0)]) (st' := [.int ((w_X10_scan_0 M ty M) 0 14), .ref 18, .ref 0]) (M' := (zU (w_X10_scan_0 M ty M) 0 15 ((w_X10_scan_0 M ty M) 0 14))) (by decide +kernel) rfl ?_
          refine zT.iald (n := 600) (k := ((w_X10_scan_0 M ty M) 0 14).toNatClampNeg) rfl (zAtN hw0 h600 (by assumption)).1 (by have := (zAtN hw0 h600 (by assumption)).2; omega) (by decide) (by decide +kernel) ?_
          refine zT.run [(.bipush 59, 0, 0, 0)] (pe := 243) (ls' := [some (.ref 0)]) (st' := [.int 59, .int ((w_X10_scan_0 M ty M) 18 ((w_X10_scan_0 M ty M) 0 14).toNatClampNeg), .ref 0]) (M' := (zU (w_X10_scan_0 M ty M) 0 15 ((w_X10_scan_0 M ty M) 0 14))) (by decide +kernel) rfl ?_
          refine zT.join (251, [some (.ref 0)], [.int (if ((w_X10_scan_0 M ty M) 18 ((w_X10_scan_0 M ty M) 0 14).toNatClampNeg) = 59 then (1 : Int32) else (4 : Int32)), .ref 0], (sh_Model gp), (zU (w_X10_scan_0 M ty M) 0 15 ((w_X10_scan_0 M ty M) 0 14))) ?_ ?_
          · refine zT.cne (tgt := 250) (off := 7) (by decide +kernel) (by decide) (fun (c7 : ¬ ((w_X10_scan_0 M ty M) 18 ((w_X10_scan_0 M ty M) 0 14).toNatClampNeg) = 59) => ?_) (fun (c7 : ((w_X10_scan_0 M ty M) 18 ((w_X10_scan_0 M ty M) 0 14).toNatClampNeg) = 59) => ?_)
            · skip
              refine zT.run [(.iconst 4, 0, 0, 0)] (pe := 251) (ls' := [some (.ref 0)]) (st' := [.int 4, .ref 0]) (M' := (zU (w_X10_scan_0 M ty M) 0 15 ((w_X10_scan_0 M ty M) 0 14))) (by decide +kernel) rfl ?_
              exact zT.here (by simp only [if_neg c7]; try rfl)
            · skip
              refine zT.run [(.iconst 1, 0, 0, 0), (.goto 4, 0, 0, 0)] (pe := 251) (ls' := [some (.ref 0)]) (st' := [.int 1, .ref 0]) (M' := (zU (w_X10_scan_0 M ty M) 0 15 ((w_X10_scan_0 M ty M) 0 14))) (by decide +kernel) rfl ?_
              exact zT.here (by simp only [if_pos c7]; try rfl)
          · skip
            refine zT.run [(.putfield 223, 8, 16, 5165), (.aload_n 0, 0, 0, 0), (.dup, 0, 0, 0), (.getfield 217, 8, 14, 5163), (.iconst 1, 0, 0, 0), (.iadd, 0, 0, 0), (.putfield 217, 8, 14, 5163)] (pe := 264) (ls' := [some (.ref 0)]) (st' := []) (M' := (zU (zU (zU (w_X10_scan_0 M ty M) 0 15 ((w_X10_scan_0 M ty M) 0 14)) 0 16 (if ((w_X10_scan_0 M ty M) 18 ((w_X10_scan_0 M ty M) 0 14).toNatClampNeg) = 59 then (1 : Int32) else (4 : Int32))) 0 14 (((w_X10_scan_0 M ty M) 0 14) + 1))) (by decide +kernel) rfl ?_
            exact zT.vret (by simp only [g_X10_scan, if_neg c4, if_pos c5, if_pos c6]; try rfl) rfl (by decide +kernel)
        · skip
          refine zT.run [(.aload_n 0, 0, 0, 0), (.iconst 0, 0, 0, 0), (.putfield 232, 8, 17, 5166)] (pe := 138) (ls' := [some (.ref 0)]) (st' := []) (M' := (zU (zU (w_X10_scan_0 M ty M) 0 15 ((w_X10_scan_0 M ty M) 0 14)) 0 17 0)) (by decide +kernel) rfl ?_
          refine zT.wx (fun (m : zM) => m) (f_X10_scan_138 M ty) (zAtP ty) (fun (m : zM) => ty - (m 0 14).toNatClampNeg) (fun (m : zM) => (138, [some (.ref 0)], [], (sh_Model gp), m)) (fun (m : zM) => (206, [some (.ref 0)], [], (sh_Model gp), m)) (hf_scan_138 M ty h600) (fun m2 hp2 k2 kk2 => ?_) (ty + 1) (zU (zU (w_X10_scan_0 M ty M) 0 15 ((w_X10_scan_0 M ty M) 0 14)) 0 17 0) hw0 (by omega) ?_
          · skip
            show zT _ _ _ _ (138, [some (.ref 0)], [], (sh_Model gp), m2)
            refine zT.run [(.aload_n 0, 0, 0, 0), (.aload_n 0, 0, 0, 0), (.getfield 217, 8, 14, 5163)] (pe := 143) (ls' := [some (.ref 0)]) (st' := [.int (m2 0 14), .ref 0]) (M' := m2) (by decide +kernel) rfl ?_
            refine zT.eqS (congrArg (fun v : Int32 => ([.int v, .ref 0] : List Value)) (zAtL hp2 h600).1) ?_
            refine zT.cV_own (o := 0) (idx := 229) (av := [.int (nI (m2 0 14).toNatClampNeg)]) (rv := (some (.int (g_X10_digitAt m2 ty (m2 0 14).toNatClampNeg)))) (st := []) (S1 := [.int (g_X10_digitAt m2 ty (m2 0 14).toNatClampNeg)]) (c_X10_digitAt m2 gp ty (m2 0 14).toNatClampNeg (hp2).1 h600 (by have := (zAtL hp2 h600).2; omega)) k_X10_digitAt _ _ rfl rfl rfl (zIn (w := 6169) (by decide +kernel) rfl) (by decide +kernel) (by decide +kernel) rfl (Nat.le_of_ble_eq_true rfl) rfl ?_
            refine zT.zeq (tgt := 206) (off := 60) (by decide +kernel) (by decide) (fun (c8 : (g_X10_digitAt m2 ty (m2 0 14).toNatClampNeg) = 0) => ?_) (fun (c8 : ¬ (g_X10_digitAt m2 ty (m2 0 14).toNatClampNeg) = 0) => ?_)
            · skip
              exact kk2 _ (by simp only [f_X10_scan_138, if_pos c8])
            · skip
              refine zT.run [(.aload_n 0, 0, 0, 0), (.aload_n 0, 0, 0, 0), (.getfield 217, 8, 14, 5163), (.aload_n 0, 0, 0, 0), (.getfield 220, 8, 15, 5164), (.isub, 0, 0, 0), (.iconst 5, 0, 0, 0)] (pe := 160) (ls' := [some (.ref 0)]) (st' := [.int 5, .int ((m2 0 14) - (m2 0 15)), .ref 0]) (M' := m2) (by decide +kernel) rfl ?_
              refine zT.join (190, [some (.ref 0)], [.int (if 5 ≤ ((m2 0 14) - (m2 0 15)) then (m2 0 17) else (((10 * (m2 0 17)) + (m2 18 (m2 0 14).toNatClampNeg)) - 48)), .ref 0], (sh_Model gp), m2) ?_ ?_
              · refine zT.cge (tgt := 186) (off := 26) (by decide +kernel) (by decide) (fun (c9 : 5 ≤ ((m2 0 14) - (m2 0 15))) => ?_) (fun (c9 : ¬ 5 ≤ ((m2 0 14) - (m2 0 15))) => ?_)
                · skip
                  refine zT.run [(.aload_n 0, 0, 0, 0), (.getfield 232, 8, 17, 5166)] (pe := 190) (ls' := [some (.ref 0)]) (st' := [.int (m2 0 17), .ref 0]) (M' := m2) (by decide +kernel) rfl ?_
                  exact zT.here (by simp only [if_pos c9]; try rfl)
                · skip
                  refine zT.run [(.bipush 10, 0, 0, 0), (.aload_n 0, 0, 0, 0), (.getfield 232, 8, 17, 5166), (.imul, 0, 0, 0), (.aload_n 0, 0, 0, 0), (.getfield 28, 8, 7, 5156), (.aload_n 0, 0, 0, 0), (.getfield 217, 8, 14, 5163)] (pe := 178) (ls' := [some (.ref 0)]) (st' := [.int (m2 0 14), .ref 18, .int (10 * (m2 0 17)), .ref 0]) (M' := m2) (by decide +kernel) rfl ?_
                  refine zT.iald (n := 600) (k := (m2 0 14).toNatClampNeg) rfl (zAtI hp2 h600 (zDg hp2 h600 (by assumption))).1 (by have := (zAtI hp2 h600 (zDg hp2 h600 (by assumption))).2; omega) (by decide) (by decide +kernel) ?_
                  refine zT.run [(.iadd, 0, 0, 0), (.bipush 48, 0, 0, 0), (.isub, 0, 0, 0), (.goto 7, 0, 0, 0)] (pe := 190) (ls' := [some (.ref 0)]) (st' := [.int (((10 * (m2 0 17)) + (m2 18 (m2 0 14).toNatClampNeg)) - 48), .ref 0]) (M' := m2) (by decide +kernel) rfl ?_
                  exact zT.here (by simp only [if_neg c9]; try rfl)
              · skip
                refine zT.run [(.putfield 232, 8, 17, 5166), (.aload_n 0, 0, 0, 0), (.dup, 0, 0, 0), (.getfield 217, 8, 14, 5163), (.iconst 1, 0, 0, 0), (.iadd, 0, 0, 0), (.putfield 217, 8, 14, 5163), (.goto (-65), 0, 0, 0)] (pe := 138) (ls' := [some (.ref 0)]) (st' := []) (M' := (zU (zU m2 0 17 (if 5 ≤ ((m2 0 14) - (m2 0 15)) then (m2 0 17) else (((10 * (m2 0 17)) + (m2 18 (m2 0 14).toNatClampNeg)) - 48))) 0 14 ((m2 0 14) + 1))) (by decide +kernel) rfl ?_
                exact k2 _ (by simp only [f_X10_scan_138, if_neg c8])
          · skip
            show zT _ _ _ _ (206, [some (.ref 0)], [], (sh_Model gp), (w_X10_scan_138 M ty (zU (zU (w_X10_scan_0 M ty M) 0 15 ((w_X10_scan_0 M ty M) 0 14)) 0 17 0)))
            have hw138 : zAtP ty (w_X10_scan_138 M ty (zU (zU (w_X10_scan_0 M ty M) 0 15 ((w_X10_scan_0 M ty M) 0 14)) 0 17 0)) := wr_scan_138 M ty h600 (zU (zU (w_X10_scan_0 M ty M) 0 15 ((w_X10_scan_0 M ty M) 0 14)) 0 17 0) hw0
            refine zT.run [(.aload_n 0, 0, 0, 0), (.aload_n 0, 0, 0, 0), (.getfield 217, 8, 14, 5163), (.aload_n 0, 0, 0, 0), (.getfield 220, 8, 15, 5164), (.isub, 0, 0, 0), (.iconst 5, 0, 0, 0)] (pe := 217) (ls' := [some (.ref 0)]) (st' := [.int 5, .int (((w_X10_scan_138 M ty (zU (zU (w_X10_scan_0 M ty M) 0 15 ((w_X10_scan_0 M ty M) 0 14)) 0 17 0)) 0 14) - ((w_X10_scan_138 M ty (zU (zU (w_X10_scan_0 M ty M) 0 15 ((w_X10_scan_0 M ty M) 0 14)) 0 17 0)) 0 15)), .ref 0]) (M' := (w_X10_scan_138 M ty (zU (zU (w_X10_scan_0 M ty M) 0 15 ((w_X10_scan_0 M ty M) 0 14)) 0 17 0))) (by decide +kernel) rfl ?_
            refine zT.join (225, [some (.ref 0)], [.int (if (((w_X10_scan_138 M ty (zU (zU (w_X10_scan_0 M ty M) 0 15 ((w_X10_scan_0 M ty M) 0 14)) 0 17 0)) 0 14) - ((w_X10_scan_138 M ty (zU (zU (w_X10_scan_0 M ty M) 0 15 ((w_X10_scan_0 M ty M) 0 14)) 0 17 0)) 0 15)) ≤ 5 then (2 : Int32) else (4 : Int32)), .ref 0], (sh_Model gp), (w_X10_scan_138 M ty (zU (zU (w_X10_scan_0 M ty M) 0 15 ((w_X10_scan_0 M ty M) 0 14)) 0 17 0))) ?_ ?_
            · refine zT.cle (tgt := 224) (off := 7) (by decide +kernel) (by decide) (fun (c10 : (((w_X10_scan_138 M ty (zU (zU (w_X10_scan_0 M ty M) 0 15 ((w_X10_scan_0 M ty M) 0 14)) 0 17 0)) 0 14) - ((w_X10_scan_138 M ty (zU (zU (w_X10_scan_0 M ty M) 0 15 ((w_X10_scan_0 M ty M) 0 14)) 0 17 0)) 0 15)) ≤ 5) => ?_) (fun (c10 : ¬ (((w_X10_scan_138 M ty (zU (zU (w_X10_scan_0 M ty M) 0 15 ((w_X10_scan_0 M ty M) 0 14)) 0 17 0)) 0 14) - ((w_X10_scan_138 M ty (zU (zU (w_X10_scan_0 M ty M) 0 15 ((w_X10_scan_0 M ty M) 0 14)) 0 17 0)) 0 15)) ≤ 5) => ?_)
              · skip
                refine zT.run [(.iconst 2, 0, 0, 0)] (pe := 225) (ls' := [some (.ref 0)]) (st' := [.int 2, .ref 0]) (M' := (w_X10_scan_138 M ty (zU (zU (w_X10_scan_0 M ty M) 0 15 ((w_X10_scan_0 M ty M) 0 14)) 0 17 0))) (by decide +kernel) rfl ?_
                exact zT.here (by simp only [if_pos c10]; try rfl)
              · skip
                refine zT.run [(.iconst 4, 0, 0, 0), (.goto 4, 0, 0, 0)] (pe := 225) (ls' := [some (.ref 0)]) (st' := [.int 4, .ref 0]) (M' := (w_X10_scan_138 M ty (zU (zU (w_X10_scan_0 M ty M) 0 15 ((w_X10_scan_0 M ty M) 0 14)) 0 17 0))) (by decide +kernel) rfl ?_
                exact zT.here (by simp only [if_neg c10]; try rfl)
            · skip
              refine zT.run [(.putfield 223, 8, 16, 5165), (.goto 36, 0, 0, 0)] (pe := 264) (ls' := [some (.ref 0)]) (st' := []) (M' := (zU (w_X10_scan_138 M ty (zU (zU (w_X10_scan_0 M ty M) 0 15 ((w_X10_scan_0 M ty M) 0 14)) 0 17 0)) 0 16 (if (((w_X10_scan_138 M ty (zU (zU (w_X10_scan_0 M ty M) 0 15 ((w_X10_scan_0 M ty M) 0 14)) 0 17 0)) 0 14) - ((w_X10_scan_138 M ty (zU (zU (w_X10_scan_0 M ty M) 0 15 ((w_X10_scan_0 M ty M) 0 14)) 0 17 0)) 0 15)) ≤ 5 then (2 : Int32) else (4 : Int32)))) (by decide +kernel) rfl ?_
              exact zT.vret (by simp only [g_X10_scan, if_neg c4, if_pos c5, if_neg c6]; try rfl) rfl (by decide +kernel)
      · skip
        refine zT.wx (fun (m : zM) => m) (f_X10_scan_90 M ty) (zAtP ty) (fun (m : zM) => ty - (m 0 14).toNatClampNeg) (fun (m : zM) => (90, [some (.ref 0)], [], (sh_Model gp), m)) (fun (m : zM) => (114, [some (.ref 0)], [], (sh_Model gp), m)) (hf_scan_90 M ty h600) (fun m3 hp3 k3 kk3 => ?_) (ty + 1) (zU (w_X10_scan_0 M ty M) 0 15 ((w_X10_scan_0 M ty M) 0 14)) hw0 (by omega) ?_
        · skip
          show zT _ _ _ _ (90, [some (.ref 0)], [], (sh_Model gp), m3)
          refine zT.run [(.aload_n 0, 0, 0, 0), (.aload_n 0, 0, 0, 0), (.getfield 217, 8, 14, 5163)] (pe := 95) (ls' := [some (.ref 0)]) (st' := [.int (m3 0 14), .ref 0]) (M' := m3) (by decide +kernel) rfl ?_
          refine zT.eqS (congrArg (fun v : Int32 => ([.int v, .ref 0] : List Value)) (zAtL hp3 h600).1) ?_
          refine zT.cV_own (o := 0) (idx := 226) (av := [.int (nI (m3 0 14).toNatClampNeg)]) (rv := (some (.int (g_X10_letterAt m3 ty (m3 0 14).toNatClampNeg)))) (st := []) (S1 := [.int (g_X10_letterAt m3 ty (m3 0 14).toNatClampNeg)]) (c_X10_letterAt m3 gp ty (m3 0 14).toNatClampNeg (hp3).1 h600 (by have := (zAtL hp3 h600).2; omega)) k_X10_letterAt _ _ rfl rfl rfl (zIn (w := 6165) (by decide +kernel) rfl) (by decide +kernel) (by decide +kernel) rfl (Nat.le_of_ble_eq_true rfl) rfl ?_
          refine zT.zeq (tgt := 114) (off := 16) (by decide +kernel) (by decide) (fun (c11 : (g_X10_letterAt m3 ty (m3 0 14).toNatClampNeg) = 0) => ?_) (fun (c11 : ¬ (g_X10_letterAt m3 ty (m3 0 14).toNatClampNeg) = 0) => ?_)
          · skip
            exact kk3 _ (by simp only [f_X10_scan_90, if_pos c11])
          · skip
            refine zT.run [(.aload_n 0, 0, 0, 0), (.dup, 0, 0, 0), (.getfield 217, 8, 14, 5163), (.iconst 1, 0, 0, 0), (.iadd, 0, 0, 0), (.putfield 217, 8, 14, 5163), (.goto (-21), 0, 0, 0)] (pe := 90) (ls' := [some (.ref 0)]) (st' := []) (M' := (zU m3 0 14 ((m3 0 14) + 1))) (by decide +kernel) rfl ?_
            exact k3 _ (by simp only [f_X10_scan_90, if_neg c11])
        · skip
          show zT _ _ _ _ (114, [some (.ref 0)], [], (sh_Model gp), (w_X10_scan_90 M ty (zU (w_X10_scan_0 M ty M) 0 15 ((w_X10_scan_0 M ty M) 0 14))))
          have hw90 : zAtP ty (w_X10_scan_90 M ty (zU (w_X10_scan_0 M ty M) 0 15 ((w_X10_scan_0 M ty M) 0 14))) := wr_scan_90 M ty h600 (zU (w_X10_scan_0 M ty M) 0 15 ((w_X10_scan_0 M ty M) 0 14)) hw0
          refine zT.run [(.aload_n 0, 0, 0, 0), (.iconst 3, 0, 0, 0), (.putfield 223, 8, 16, 5165), (.goto 145, 0, 0, 0)] (pe := 264) (ls' := [some (.ref 0)]) (st' := []) (M' := (zU (w_X10_scan_90 M ty (zU (w_X10_scan_0 M ty M) 0 15 ((w_X10_scan_0 M ty M) 0 14))) 0 16 3)) (by decide +kernel) rfl ?_
          exact zT.vret (by simp only [g_X10_scan, if_neg c4, if_neg c5]; try rfl) rfl (by decide +kernel)
    · skip
      refine zT.run [(.aload_n 0, 0, 0, 0), (.iconst 0, 0, 0, 0), (.putfield 223, 8, 16, 5165), (.goto 188, 0, 0, 0)] (pe := 264) (ls' := [some (.ref 0)]) (st' := []) (M' := (zU (zU (w_X10_scan_0 M ty M) 0 15 ((w_X10_scan_0 M ty M) 0 14)) 0 16 0)) (by decide +kernel) rfl ?_
      exact zT.vret (by simp only [g_X10_scan, if_pos c4]; try rfl) rfl (by decide +kernel)
theorem fr_X10_scan (M : zM) (ty : Nat) (o : Nat) (ho : o ≠ 0) : (g_X10_scan M ty) o = M o := by
  simp only [g_X10_scan]
  (repeat' split) <;> simp only [zU_ne ho, zUa_ne ho, (fun MM ty mm => (kp_scan_0 MM ty mm).1 o (by omega)), (fun MM ty mm => (kp_scan_138 MM ty mm).1 o (by omega)), (fun MM ty mm => (kp_scan_90 MM ty mm).1 o (by omega))]
theorem k_X10_scan : zCal yy_X10_scan 0 := ⟨⟨⟨⟨zIn (w := 6164) (by decide +kernel) rfl, zIn (w := 1012) (by decide +kernel) rfl⟩, by decide +kernel⟩, by decide +kernel⟩, ⟨zIn (w := 6163) (by decide +kernel) rfl, zIn (w := 59) (by decide +kernel) rfl⟩⟩
