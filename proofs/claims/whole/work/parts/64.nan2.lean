/-! NO NUMBER: a mean of ages is one -/
theorem zNan64c : ∀ c : Nat, c < 90 → ∀ a : Nat, a < 10 → ∀ b : Nat, b < 10 → b ≠ 0 → vf_n64 (FP.ddiv (FP.i2d (nI (10 * c + a))) (FP.i2d (nI b))) := by
  unfold vf_n64
  decide +kernel
theorem zNan64w {a b : Nat} (ha : a ≤ 891) (hb : b < 10) (h0 : b ≠ 0) : vf_n64 (FP.ddiv (FP.i2d (nI a)) (FP.i2d (nI b))) := by
  have := zNan64c (a / 10) (by omega) (a % 10) (by omega) b hb h0
  rwa [show 10 * (a / 10) + a % 10 = a by omega] at this
theorem zNan64f : vf_n64 (FP.f2d FP.fconst0) := by
  unfold vf_n64
  decide +kernel
/-! STEPS of doubles -/
section ZDB
variable {Y : zY} {kc nc : Nat} {Z : zS → Prop} {pc : Nat} {ls : zL} {st : List Value} {sh : List va_E} {M M' : zM}
theorem zT.f2d {x : UInt32} (hd : decode Y.2.1 pc = .ok (.f2d, 1)) (hne : vf_n64 (FP.f2d x)) (k1 : zT Y kc nc Z (pc + 1, ls, .double (FP.f2d x) :: st, sh, M)) : zT Y kc nc Z (pc, ls, .float x :: st, sh, M) := by
  refine zT.step (S1 := (pc + 1, ls, .double (FP.f2d x) :: st, sh, M)) rfl ?_ k1
  intro p l e R s m args below meth c D cA ex A E Q cells slots as _ _ k9 H locs lsR hP hD hS hl
  exact lv_f2d E.1 E.2.1 hd hne (k9 H locs lsR hP hD hS hl)
theorem zT.dload {i : Nat} {x : UInt64} (hd : decode Y.2.1 pc = .ok (.dload i, 2)) (hg : zGl ls i = some (.double x)) (k1 : zT Y kc nc Z (pc + 2, ls, .double x :: st, sh, M)) : zT Y kc nc Z (pc, ls, st, sh, M) := by
  refine zT.step (S1 := (pc + 2, ls, .double x :: st, sh, M)) rfl ?_ k1
  intro p l e R s m args below meth c D cA ex A E Q cells slots as _ _ k9 H locs lsR hP hD hS hl
  exact lv_dload E.1 E.2.1 hd (zHas_at hl hg) (k9 H locs lsR hP hD hS hl)
theorem zT.dcmp {x y : UInt64} {op : CmpOp} (hd : decode Y.2.1 pc = .ok (.dcmp op, 1)) (k1 : zT Y kc nc Z (pc + 1, ls, .int (Op.cmpValue (FP.dcmp x y) op) :: st, sh, M)) : zT Y kc nc Z (pc, ls, .double y :: .double x :: st, sh, M) := by
  refine zT.step (S1 := (pc + 1, ls, .int (Op.cmpValue (FP.dcmp x y) op) :: st, sh, M)) rfl ?_ k1
  intro p l e R s m args below meth c D cA ex A E Q cells slots as _ _ k9 H locs lsR hP hD hS hl
  exact lv_dcmp E.1 E.2.1 hd (k9 H locs lsR hP hD hS hl)
theorem zHas_set2 {as ex : Nat → Nat} {lsR : Array Slot} {nL : Nat} {ls : zL} {i : Nat} {w : Value} (hb : zNb ls i = true) (hi1 : zGl ls (i + 1) = none) (h : lv_has lsR nL ((i, zTr as ex w) :: (zLv as ex 0 ls).filter (fun q => !(q.1 == i) && (!(q.1 == i + 1) && !(q.1 + 1 == i && q.2.category == 2))))) : lv_has lsR nL (zLv as ex 0 (zSl ls i w)) := by
  refine ⟨h.1, h.2.1, fun q hq => ?_⟩
  obtain ⟨j, v, h1, rfl⟩ := zLv_mem hq
  rw [Nat.zero_add]
  rcases zSl_get h1 with ⟨rfl, rfl⟩ | ⟨hj, h2⟩
  · exact h.2.2 (j, zTr as ex v) List.mem_cons_self
  · refine h.2.2 (j, zTr as ex v) (List.mem_cons_of_mem _ (List.mem_filter.mpr ⟨by have := zLv_in (as := as) (ex := ex) (b := 0) h2; rwa [Nat.zero_add] at this, ?_⟩))
    simp only [Bool.and_eq_true, Bool.not_eq_true', beq_eq_false_iff_ne, ne_eq, Bool.and_eq_false_iff]
    refine ⟨hj, fun q => ?_, ?_⟩
    · rw [q] at h2
      rw [h2] at hi1
      cases hi1
    by_cases h3 : j + 1 = i
    · right
      rw [zTr_cat]
      subst h3
      simp only [zNb, h2] at hb
      intro hc
      cases v <;> simp [Value.category] at hc hb
    · left
      exact h3
theorem zT.dstore {i : Nat} {x : UInt64} (hd : decode Y.2.1 pc = .ok (.dstore i, 2)) (hn : i + 1 < Y.2.2.1) (hb : zNb ls i = true) (hi1 : zGl ls (i + 1) = none) (k1 : zT Y kc nc Z (pc + 2, zSl ls i (.double x), st, sh, M)) : zT Y kc nc Z (pc, ls, .double x :: st, sh, M) := by
  refine zT.step (S1 := (pc + 2, zSl ls i (.double x), st, sh, M)) rfl ?_ k1
  intro p l e R s m args below meth c D cA ex A E Q cells slots as _ _ k9 H locs lsR hP hD hS hl
  exact lv_dstore E.1 E.2.1 hd hl hn rfl (fun ls' h => k9 H locs ls' hP hD hS (zHas_set2 (w := .double x) hb hi1 h))
end ZDB
