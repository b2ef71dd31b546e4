/-! CONTRACTS: what a method answers from a pure world, and the world behind it -/
/-- a method's start -/
def zPre (D : va_G) (cA : Nat → ClassId) (as ex : Nat → Nat) (av : List Value) (sh : List va_E) (M : zM) (sz : Nat) : Array Value → State → Prop :=
  va_Pc (av.map (zTr as ex)) (fun U => U.heap.size = sz ∧ va_P D vwCl (zWd cA as ex M 0 sh) U.heap ∧ va_K D vwCl (zTys cA) U ∧ va_D (fun _ => True) (zWd cA as ex M 0 sh) ∧ zSt ex (va_A (zWd cA as ex M 0 sh) sz) U U.heap)
/-- a method's end: the answer, the world, nothing else touched -/
def zPost (D : va_G) (cA : Nat → ClassId) (as ex : Nat → Nat) (sh : List va_E) (M : zM) (sz : Nat) (rv : Option Value) (sh' : List va_E) (M' : zM) : Array Value → State → Outcome → State → Prop := fun _ st oc t =>
  (∃ as' : Nat → Nat, zAg sh.length sh'.length as as' ∧ oc = .returned (rv.map (zTr as' ex)) ∧ va_P D vwCl (zWd cA as' ex M' 0 sh') t.heap ∧ va_D (va_A (zWd cA as ex M 0 sh) sz) (zWd cA as' ex M' 0 sh')) ∧ va_F (va_A (zWd cA as ex M 0 sh) sz) st t
def zC (Y : zY) (k n : Nat) (av : List Value) (sh : List va_E) (M : zM) (rv : Option Value) (sh' : List va_E) (M' : zM) : Prop :=
  ∀ (l : Launch), l.flags = flags0 → ∀ (D : va_G) (cA : Nat → ClassId) (as ex : Nat → Nat) (sz : Nat),
    Met l Y.1 (zWs Y) { frames := Y.2.2.2.2.1, cells := k, slots := n, locals := Y.2.2.2.2.2 } (zPre D cA as ex av sh M sz) (zPost D cA as ex sh M sz rv sh' M') k n (va_A (zWd cA as ex M 0 sh) sz)
/-- at a return instruction, with the answer -/
def zEnd (Y : zY) (rv : Option Value) (sh' : List va_E) (M' : zM) (S : zS) : Prop :=
  S.2.2.2.1 = sh' ∧ S.2.2.2.2 = M' ∧ S.2.2.1 = rv.toList ∧
  ((∃ v ty, rv = some (.int v) ∧ Y.2.2.2.1 = some ty ∧ narrow ty (.int v) = .int v ∧ decode Y.2.1 S.1 = .ok (.ireturn, 1)) ∨
   (rv = none ∧ Y.2.2.2.1 = none ∧ decode Y.2.1 S.1 = .ok (.return_, 1)) ∨
   (∃ v rt, rv = some v ∧ Y.2.2.2.1 = some rt ∧ ((∃ n, rt = .object n) ∨ ∃ t, rt = .array t) ∧ (v = .null ∨ (∃ a, v = .ref a) ∨ ∃ a, v = .retAddr a) ∧ decode Y.2.1 S.1 = .ok (.areturn, 1)) ∨
   (∃ v, rv = some (.float v) ∧ Y.2.2.2.1 = some .float ∧ decode Y.2.1 S.1 = .ok (.freturn, 1)) ∨
   (∃ v, rv = some (.double v) ∧ Y.2.2.2.1 = some .double ∧ decode Y.2.1 S.1 = .ok (.dreturn, 1)))
def zRep : Nat → zL
  | 0 => []
  | n + 1 => none :: zRep n
/-- the locals at the entry, of arguments of one word each -/
def zAl (av : List Value) (nL : Nat) : zL := av.map some ++ zRep (nL - av.length)
theorem zGl_rep : ∀ (n j : Nat), zGl (zRep n) j = none
  | 0, j => rfl
  | n + 1, 0 => rfl
  | n + 1, j + 1 => zGl_rep n j
theorem zAl_mem {as ex : Nat → Nat} : ∀ {av : List Value} {n b : Nat} {q : Nat × Value}, av.all zC1 = true → q ∈ zLv as ex b (av.map some ++ zRep n) → q ∈ lv_args b (av.map (zTr as ex))
  | [], n, b, q, _, h => by
    obtain ⟨j, v, h1, -⟩ := zLv_mem h
    have : zGl (zRep n) j = some v := h1
    rw [zGl_rep] at this
    cases this
  | v :: r, n, b, q, hc, h => by
    simp only [List.all_cons, Bool.and_eq_true] at hc
    rcases List.mem_cons.mp h with h | h
    · rw [h]
      exact List.mem_cons_self
    · have := zAl_mem (as := as) (ex := ex) hc.2 h
      refine List.mem_cons_of_mem _ ?_
      have hcat : (zTr as ex v).category ≠ 2 := by rw [zTr_cat, zC1_cat hc.1]; decide
      rw [if_neg hcat]
      exact this
theorem zLg_len {as ex : Nat → Nat} : ∀ {av : List Value}, av.all zC1 = true → (lg_sl (av.map (zTr as ex))).length = av.length
  | [], _ => rfl
  | v :: r, hc => by
    simp only [List.all_cons, Bool.and_eq_true] at hc
    have hcat : (zTr as ex v).category ≠ 2 := by rw [zTr_cat, zC1_cat hc.1]; decide
    have := zLg_len (as := as) (ex := ex) hc.2
    simp only [lg_sl] at this ⊢
    simp [if_neg hcat, this]
set_option maxHeartbeats 4000000 in
/-- a contract out of a walk -/
theorem zC.of {Y : zY} {k n : Nat} {av : List Value} {sh sh' : List va_E} {M M' : zM} {rv : Option Value} (hpl : plainName Y.1.cls = true) (hc1 : av.all zC1 = true) (hnl : av.length ≤ Y.2.2.1)
    (h : zT Y k n (zEnd Y rv sh' M') (0, zAl av Y.2.2.1, [], sh, M)) : zC Y k n av sh M rv sh' M' := by
  intro l hfl D cA as ex sz
  refine Met.ofW (cc := Y.2.1) (maxL := Y.2.2.1) (ret := Y.2.2.2.1) (ws' := zW) hpl rfl ?_
  intro p e s m args below meth c s₁ B hml hv
  obtain ⟨rfl, hsz, hP, hK, hD0, hSt⟩ := hv
  have hts := atoms_spec (ws := zWs Y) B.pre
  have hD := hD0.self (sz := sz)
  have E : zEv Y p l (headSpec (zWs Y) { frames := Y.2.2.2.2.1, cells := k, slots := n, locals := Y.2.2.2.2.2 }).room s m (av.map (zTr as ex)).toArray meth c D cA ex (va_A (zWd cA as ex M 0 sh) sz) :=
    ⟨B.exec, B.bytes, hml, findClass_of_methodNamed B.named, fun w hw => hts w (List.mem_cons_of_mem _ hw), hK, fun q hq => Or.inr (by rw [← hsz]; exact hq), hSt, hfl, B.notSynchronized, B.returns, fun h9 => (name_of_methodNamed B.named B.method).1.trans h9, Nat.le_refl _, Nat.le_refl _⟩
  have hl := lv_entry (av.map (zTr as ex)) (n := Y.2.2.1) (by rw [zLg_len hc1]; exact hnl)
  rw [lg_entry_eq]
  refine h p l e _ s m _ below meth c D cA ex _ E _ 0 0 as (by rw [Nat.zero_add]; exact Nat.le_refl _) (by rw [Nat.zero_add]; exact Nat.le_refl _) ?_ s.heap [] _ hP hD va_S.rf ⟨hl.1, hl.2.1, fun q hq => hl.2.2 q (zAl_mem hc1 hq)⟩
  rintro ⟨pc, ls, st, sh2, M2⟩ as' hag ⟨e1, e2, e3, he⟩
  cases e1
  cases e2
  cases e3
  intro H locs lsR hP2 hD2 hS2 hl2
  rw [Nat.zero_add, Nat.zero_add]
  have post : ∀ t : State, t.heap = H → s.WarmedH t.vm → zPost D cA as ex sh M sz rv sh2 M2 (av.map (zTr as ex)).toArray s (.returned (rv.map (zTr as' ex))) t := fun t ht hW => ⟨⟨as', hag, rfl, by rw [ht]; exact hP2, hD2⟩, hS2.F ht⟩
  rcases he with ⟨v, ty, rfl, e1, e2, e3⟩ | ⟨rfl, e1, e2⟩ | ⟨v, rt, rfl, e1, e2, e3, e4⟩ | ⟨v, rfl, e1, e2⟩ | ⟨v, rfl, e1, e2⟩
  · exact W.zret (v := v) E.1 E.2.1 (B.returns.trans e1) e2 post hS2.2.2 e3 B.notSynchronized
  · exact W.vret E.1 E.2.1 (B.returns.trans e1) post hS2.2.2 e2 B.notSynchronized
  · refine W.aret (v := zTr as' ex v) E.1 E.2.1 (B.returns.trans e1) e2 ?_ post hS2.2.2 e4 B.notSynchronized
    rcases e3 with rfl | ⟨a, rfl⟩ | ⟨a, rfl⟩
    · exact Or.inl rfl
    · exact Or.inr ⟨_, rfl⟩
    · exact Or.inr ⟨_, rfl⟩
  · exact W.fret (v := v) E.1 E.2.1 (B.returns.trans e1) post hS2.2.2 e2 B.notSynchronized
  · exact W.dret (v := v) E.1 E.2.1 (B.returns.trans e1) post hS2.2.2 e2 B.notSynchronized
