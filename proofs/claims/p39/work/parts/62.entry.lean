/-! THE STATE OUTSIDE, at the law's entry -/
noncomputable def zEx (args : Array Value) (s : State) (i : Nat) : Nat := match (zTm i).eval args s none [] s with
  | some (.ref t) => t
  | _ => 0
theorem zEx_of {args : Array Value} {s : State} {i t : Nat} (h : (zTm i).eval args s none [] s = some (.ref t)) : (zTm i).eval args s none [] s = some (.ref (zEx args s i)) := by
  unfold zEx
  rw [h]
theorem zEx_eq {args : Array Value} {s : State} {i t : Nat} (h : (zTm i).eval args s none [] s = some (.ref t)) : zEx args s i = t := by
  unfold zEx
  rw [h]
def isV (v : Value) : Bool := match v with
  | .int _ => true
  | .retAddr i => decide (i < 15) || (decide (200 ≤ i) && decide (i < 221))
  | _ => false
theorem o_ix : zOs.length = 36 ∧ zFs.length = 117 ∧ zRs.length = 21 ∧ zTs.length = 28 ∧ (∀ k, k < 36 → (zOs.getD k ("", 0)).2 = if k < 15 then k else k + 185) ∧ (∀ k, k < 28 → (zTs.getD k dT9).2.1 = if k < 4 then 101 + k else if k = 4 then 100 else if k < 26 then 295 + k else 79 + k) := by decide +kernel
theorem t_v : ∀ k, k < 28 → ∀ j, j < (zTs.getD k dT9).2.2.length → isV ((zTs.getD k dT9).2.2.getD j .null) = true := by decide +kernel
theorem f_v : ∀ k, k < 117 → ((zFs.getD k dF9).2.2.2.2 < 15 ∨ 200 ≤ (zFs.getD k dF9).2.2.2.2 ∧ (zFs.getD k dF9).2.2.2.2 < 221) ∧ (zG9[iF9.getD k 0]? = some (Jvm.Cond.eq (.field (zTm (zFs.getD k dF9).2.2.2.2) (zFs.getD k dF9).1 (zFs.getD k dF9).2.1 (zFs.getD k dF9).2.2.1) (zVt (zFs.getD k dF9).2.2.2.1)) ∧ isV (zFs.getD k dF9).2.2.2.1 = true ∨ 200 ≤ (zFs.getD k dF9).2.2.2.2 ∧ (zFs.getD k dF9).2.2.2.1 = .retAddr ((zFs.getD k dF9).2.2.2.2 + 100) ∧ zTm ((zFs.getD k dF9).2.2.2.2 + 100) = .field (zTm (zFs.getD k dF9).2.2.2.2) (zFs.getD k dF9).1 (zFs.getD k dF9).2.1 (zFs.getD k dF9).2.2.1) := by decide +kernel
theorem r_v : ∀ k, k < 21 → 200 ≤ (zRs.getD k dR9).2.2.2 ∧ (zRs.getD k dR9).2.2.2 < 221 := by decide +kernel
theorem at_k {α : Type} {l : List α} {q d : α} (h : q ∈ l) : ∃ k, k < l.length ∧ l.getD k d = q := by
  obtain ⟨k, hk, e⟩ := List.getElem_of_mem h
  refine ⟨k, hk, ?_⟩
  rw [List.getD_eq_getElem?_getD, List.getElem?_eq_getElem hk]
  exact e
section OUT
variable {args : Array Value} {s : State} {A : Nat → Prop}
theorem ev_O (hG : ∀ w ∈ zG9, w.before args s = true) {i : Nat} (hi : i < 15 ∨ 200 ≤ i ∧ i < 221) : (zTm i).eval args s none [] s = some (.ref (zEx args s i)) ∧ (Jvm.Cond.exactly (zTm i) (zOs.getD (if i < 15 then i else i - 185) ("", 0)).1).before args s = true := by
  have hk : (if i < 15 then i else i - 185) < 36 := by split <;> omega
  have e := o_ix.2.2.2.2.1 _ hk
  have g := hG _ (List.mem_of_getElem? (g_O _ hk))
  have ei : (zOs.getD (if i < 15 then i else i - 185) ("", 0)).2 = i := by
    rw [e]
    by_cases c : i < 15
    · rw [if_pos c, if_pos c]
    · rw [if_neg c, if_neg (by omega)]
      omega
  rw [ei] at g
  obtain ⟨a, c, cA, kA, q1, -⟩ := Cond.exactly_spec (args := args) (first := s) (o := none) (s := s) (idx := []) g
  exact ⟨zEx_of q1, g⟩
theorem ev_v (hG : ∀ w ∈ zG9, w.before args s = true) {v : Value} (hv : isV v = true) : (zVt v).eval args s none [] s = some (zTr (zEx args s) (zEx args s) v) := by
  cases v with
  | int x => rfl
  | retAddr i =>
    have hi : i < 15 ∨ 200 ≤ i ∧ i < 221 := by
      simp only [isV, Bool.or_eq_true, Bool.and_eq_true, decide_eq_true_eq] at hv
      exact hv
    exact (ev_O hG hi).1
  | _ => exact absurd hv Bool.false_ne_true
theorem ev_T (hG : ∀ w ∈ zG9, w.before args s = true) (hA : ∀ a : Nat, a < s.heap.size → ¬ A a) {k : Nat} (hk : k < 28) : (zTm (zTs.getD k dT9).2.1).eval args s none [] s = some (.ref (zEx args s (zTs.getD k dT9).2.1)) ∧ va_T (zTs.getD k dT9).1 (zEx args s (zTs.getD k dT9).2.1) (zTs.getD k dT9).2.2.length (fun j => zTr (zEx args s) (zEx args s) ((zTs.getD k dT9).2.2.getD j .null)) A s s.heap := by
  obtain ⟨a1, a2, a3, a4⟩ := g_T k hk
  obtain ⟨t, e1, e2⟩ := va_Tof (A := A) (f := fun j => zTr (zEx args s) (zEx args s) ((zTs.getD k dT9).2.2.getD j .null)) (by omega) (hG _ (List.mem_of_getElem? a1)) (va_eqv (hG _ (List.mem_of_getElem? a2)) rfl) (fun j hj => va_eqv (hG _ (List.mem_of_getElem? (a4 j hj))) (ev_v hG (t_v k hk j hj))) hA
  rw [← zEx_eq e1] at e2
  exact ⟨zEx_of e1, e2⟩
theorem ev_b (hG : ∀ w ∈ zG9, w.before args s = true) (hA : ∀ a : Nat, a < s.heap.size → ¬ A a) {i : Nat} (hi : 100 ≤ i ∧ i < 107 ∨ 300 ≤ i ∧ i < 321) : (zTm i).eval args s none [] s = some (.ref (zEx args s i)) := by
  have hk : (if i < 105 then (if i = 100 then 4 else i - 101) else if i < 107 then i - 79 else i - 295) < 28 := by (repeat' split) <;> omega
  have e := o_ix.2.2.2.2.2 _ hk
  have ei : (zTs.getD (if i < 105 then (if i = 100 then 4 else i - 101) else if i < 107 then i - 79 else i - 295) dT9).2.1 = i := by
    rw [e]
    (repeat' split) <;> omega
  have := (ev_T hG hA hk).1
  rw [ei] at this
  exact this
theorem st_entry (hG : ∀ w ∈ zG9, w.before args s = true) (hts : ∀ w ∈ lw_tbl, w.before args s = true) (hA : ∀ a : Nat, a < s.heap.size → ¬ A a) (hscr : zScr (zEx args s) A s s.heap) : zSt (zEx args s) A s s.heap := by
  refine ⟨?_, fun q hq => ?_, fun q hq => ?_, fun q hq => ?_, fun q hq => ?_, ?_, ?_, fun w hw => ?_, ?_, ?_, ?_, ?_⟩
  · intro q hq
    simp only [zZs, List.mem_cons, List.not_mem_nil, or_false] at hq
    rcases hq with rfl | rfl | rfl | rfl | rfl | rfl | rfl | rfl
    · exact va_Zof (hts _ (zAt_in (w := 1234) (by decide +kernel))) (hts _ (zAt_in (w := 1001) (by decide +kernel))) (ev_b hG hA (i := 101) (by decide)) hA
    · exact va_Zof (hts _ (zAt_in (w := 4022) (by decide +kernel))) (hts _ (zAt_in (w := 1001) (by decide +kernel))) (ev_b hG hA (i := 102) (by decide)) hA
    · exact va_Zof (hts _ (zAt_in (w := 4024) (by decide +kernel))) (hts _ (zAt_in (w := 1001) (by decide +kernel))) (ev_b hG hA (i := 103) (by decide)) hA
    · exact va_Zof (hts _ (zAt_in (w := 4053) (by decide +kernel))) (hts _ (zAt_in (w := 1026) (by decide +kernel))) (ev_b hG hA (i := 104) (by decide)) hA
    · exact va_Zof (hts _ (zAt_in (w := 4039) (by decide +kernel))) (hts _ (zAt_in (w := 1001) (by decide +kernel))) (ev_b hG hA (i := 100) (by decide)) hA
    · exact va_Zof (hts _ (zAt_in (w := 2216) (by decide +kernel))) (hts _ (zAt_in (w := 1020) (by decide +kernel))) (va_eqv (u := .int 1) (v := .int 1) (hG _ (List.mem_of_getElem? (i := 12) (by decide +kernel))) rfl) hA
    · exact va_Zof (hts _ (zAt_in (w := 3133) (by decide +kernel))) (hts _ (zAt_in (w := 1011) (by decide +kernel))) (ev_b hG hA (i := 105) (by decide)) hA
    · exact va_Zof (hts _ (zAt_in (w := 3135) (by decide +kernel))) (hts _ (zAt_in (w := 1011) (by decide +kernel))) (ev_b hG hA (i := 106) (by decide)) hA
  · obtain ⟨k, hk, rfl⟩ := at_k (d := dT9) hq
    rw [o_ix.2.2.2.1] at hk
    exact (ev_T hG hA hk).2
  · obtain ⟨k, hk, rfl⟩ := at_k (d := ("", 0)) hq
    rw [o_ix.1] at hk
    have g := hG _ (List.mem_of_getElem? (g_O k hk))
    have e := o_ix.2.2.2.2.1 k hk
    refine va_Oof g ?_ hA
    rw [e]
    exact (ev_O hG (by split <;> omega)).1
  · obtain ⟨k, hk, rfl⟩ := at_k (d := dF9) hq
    rw [o_ix.2.1] at hk
    obtain ⟨f1, f2⟩ := f_v k hk
    refine vk_OFof (ev_O hG f1).1 ?_ hA
    rcases f2 with ⟨g1, g2⟩ | ⟨g1, g2, g3⟩
    · exact va_eqv (hG _ (List.mem_of_getElem? g1)) (ev_v hG g2)
    · rw [← g3, g2]
      exact ev_b hG hA (by omega)
  · obtain ⟨k, hk, rfl⟩ := at_k (d := dR9) hq
    rw [o_ix.2.2.1] at hk
    have hv := (ev_O hG (Or.inr (r_v k hk))).1
    refine vk_R.of (hts _ (zAt_in (g_S k hk))) ?_
    rcases g_R k hk with g | g | g
    · rw [← g]
      exact hv
    · exact va_eqR (hG _ (List.mem_of_getElem? g)) hv
    · exact va_eqv (hG _ (List.mem_of_getElem? g)) hv
  · exact vx_Zqof (hts _ (zAt_in (w := 2134) (by decide +kernel))) (hts _ (zAt_in (w := 1013) (by decide +kernel))) (hG _ (List.mem_of_getElem? (i := 10) (by decide +kernel))) hA
  · exact vx_Zqof (hts _ (zAt_in (w := 2136) (by decide +kernel))) (hts _ (zAt_in (w := 1013) (by decide +kernel))) (hG _ (List.mem_of_getElem? (i := 11) (by decide +kernel))) hA
  · have h1 := (List.mem_filter.mp hw)
    refine va_Nw.of ?_ (hts w h1.1)
    have h2 := h1.2
    cases w <;> first | rfl | exact absurd h2 Bool.false_ne_true
  · intro q hq
    cases hq
  · exact va_AO.of (hts _ (zAt_in (w := 1216) (by decide +kernel)))
  · exact hscr
  · have h : (Jvm.Cond.isRef (zTm 399)).before args s = true := hG _ (List.mem_of_getElem? (i := 13) (by decide +kernel))
    have hl : (Jvm.Cond.laysStatic "jdk/internal/util/Preconditions" "SIOOBE_FORMATTER" "Ljava/util/function/BiFunction;").before args s = true := hts _ (zAt_in (w := 3053) (by decide +kernel))
    have hi : (Jvm.Cond.initialized "jdk/internal/util/Preconditions").before args s = true := hts _ (zAt_in (w := 1024) (by decide +kernel))
    cases e : (zTm 399).eval args s none [] s with
    | none => simp [Cond.before, Cond.holds, Cond.value, e] at h
    | some v =>
      cases v with
      | null => exact Or.inl (va_Zof hl hi e hA)
      | ref t => exact Or.inr (va_Zof hl hi (zEx_of e) hA)
      | _ => simp [Cond.before, Cond.holds, Cond.value, e] at h
end OUT
