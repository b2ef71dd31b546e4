/-! AT THE ENTRY: the classes and the kinds of rows, as the tables have them -/
theorem zW_in {w : Cond} (h : w ∈ zW) : w ∈ lw_tbl := (List.mem_filter.mp h).1
theorem zCl_mk : ∀ q ∈ vwCl, Cond.instantiable q.1 q.2.2 ∈ lw_tbl := by
  intro q hq
  simp only [vwCl, List.mem_cons, List.not_mem_nil, or_false] at hq
  rcases hq with rfl | rfl | rfl | rfl | rfl | rfl | rfl | rfl | rfl
  · exact zAt_in (w := 1086) (by decide +kernel)
  · exact zAt_in (w := 1210) (by decide +kernel)
  · exact zAt_in (w := 1080) (by decide +kernel)
  · exact zAt_in (w := 1036) (by decide +kernel)
  · exact zAt_in (w := 1133) (by decide +kernel)
  · exact zAt_in (w := 1147) (by decide +kernel)
  · exact zAt_in (w := 1042) (by decide +kernel)
  · exact zAt_in (w := 1028) (by decide +kernel)
  · exact zAt_in (w := 2198) (by decide +kernel)
theorem k_cls {args : Array Value} {s : State} (hts : ∀ w ∈ lw_tbl, w.before args s = true) (k : Nat) : ∃ (c : ClassId) (i : Nat → Nat), ∀ q : vw_C, vwCl[k]? = some q → u_Kn s q.1 q.2.1 q.2.2 c i := by
  cases e : vwCl[k]? with
  | none => exact ⟨(0 : Nat), fun _ => 0, fun q h => by cases h⟩
  | some q =>
    have hm : q ∈ vwCl := List.mem_of_getElem? e
    obtain ⟨c, i, hk⟩ := u_known hts (fun w hw => zW_in (zCl_in q hm w hw)) (hts _ (zCl_mk q hm))
    exact ⟨c, i, fun q' h => by cases h; exact hk⟩
def zTy9 : List FieldType := [.int, .byte, .byte, .object "SealedBallots$Office", .int, .int]
theorem k_prim {args : Array Value} {s : State} {ty : FieldType} (h : (Cond.arrayClass ty).before args s = true) : ∃ c : ClassId, ArrOfT s c ty ∧ s.vm.findClass ("[" ++ ty.toString) = some c := by
  obtain ⟨c, k, comp, h1, h2, h3⟩ := Cond.arrayClass_spec h
  exact ⟨c, fun n z => ⟨fun j h => (by cases h), k, h2, comp, h3⟩, h1⟩
theorem k_tys {args : Array Value} {s : State} (hts : ∀ w ∈ lw_tbl, w.before args s = true) (k : Nat) : ∃ c : ClassId, ∀ ty : FieldType, zTy9[k]? = some ty → ArrOfT s c ty ∧ va_RA s c ty := by
  match k with
  | 0 =>
    obtain ⟨c, h1, h2⟩ := k_prim (ty := .int) (hts _ (zAt_in (w := 1078) (by decide +kernel)))
    exact ⟨c, fun ty h => by obtain rfl : (FieldType.int) = ty := Option.some.inj h; exact ⟨h1, h2⟩⟩
  | 1 =>
    obtain ⟨c, h1, h2⟩ := k_prim (ty := .byte) (hts _ (zAt_in (w := 1069) (by decide +kernel)))
    exact ⟨c, fun ty h => by obtain rfl : (FieldType.byte) = ty := Option.some.inj h; exact ⟨h1, h2⟩⟩
  | 2 =>
    obtain ⟨c, h1, h2⟩ := k_prim (ty := .byte) (hts _ (zAt_in (w := 1069) (by decide +kernel)))
    exact ⟨c, fun ty h => by obtain rfl : (FieldType.byte) = ty := Option.some.inj h; exact ⟨h1, h2⟩⟩
  | 3 =>
    have h0 : (Cond.arrayOver (.object "SealedBallots$Office")).before args s = true := hts _ (zAt_in (w := 1216) (by decide +kernel))
    obtain ⟨comp, c, k, h1, -, h2, h3, h4⟩ := Cond.arrayOver_spec h0
    exact ⟨c, fun ty h => by obtain rfl : (FieldType.object "SealedBallots$Office") = ty := Option.some.inj h; exact ⟨fun n z => ⟨fun j h => (by cases h), k, h2, comp, h3⟩, k, comp, h2, h3, h1, h4⟩⟩
  | 4 =>
    obtain ⟨c, h1, h2⟩ := k_prim (ty := .int) (hts _ (zAt_in (w := 1078) (by decide +kernel)))
    exact ⟨c, fun ty h => by obtain rfl : (FieldType.int) = ty := Option.some.inj h; exact ⟨h1, h2⟩⟩
  | 5 =>
    obtain ⟨c, h1, h2⟩ := k_prim (ty := .int) (hts _ (zAt_in (w := 1078) (by decide +kernel)))
    exact ⟨c, fun ty h => by obtain rfl : (FieldType.int) = ty := Option.some.inj h; exact ⟨h1, h2⟩⟩
  | k + 6 => exact ⟨(0 : Nat), fun ty h => by cases h⟩
theorem known_all {args : Array Value} {s : State} (hts : ∀ w ∈ lw_tbl, w.before args s = true) : ∃ (D : va_G) (cA : Nat → ClassId), va_K D vwCl (zTys cA) s := by
  refine ⟨(fun k => (k_cls hts k).choose, fun k => (k_cls hts k).choose_spec.choose), fun k => (k_tys hts k).choose, fun k q hq => (k_cls hts k).choose_spec.choose_spec q hq, fun k q hq => ?_⟩
  match k, hq with
  | 0, hq =>
    obtain rfl := Option.some.inj hq
    exact (k_tys hts 0).choose_spec (FieldType.int) rfl
  | 1, hq =>
    obtain rfl := Option.some.inj hq
    exact (k_tys hts 1).choose_spec (FieldType.byte) rfl
  | 2, hq =>
    obtain rfl := Option.some.inj hq
    exact (k_tys hts 2).choose_spec (FieldType.byte) rfl
  | 3, hq =>
    obtain rfl := Option.some.inj hq
    exact (k_tys hts 3).choose_spec (FieldType.object "SealedBallots$Office") rfl
  | 4, hq =>
    obtain rfl := Option.some.inj hq
    exact (k_tys hts 4).choose_spec (FieldType.int) rfl
  | 5, hq =>
    obtain rfl := Option.some.inj hq
    exact (k_tys hts 5).choose_spec (FieldType.int) rfl
  | k + 6, hq => cases hq
