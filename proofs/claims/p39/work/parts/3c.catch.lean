/-! WRAPPERS: methods with a table of handlers -/
def zWsW (Y : zY) (hh : List (Nat × Nat × Nat × Nat)) : List Cond := .codeWith Y.1 Y.2.1 Y.2.2.1 Y.2.2.2.1 hh :: zW
def zCW (Y : zY) (hh : List (Nat × Nat × Nat × Nat)) (k n : Nat) (av : List Value) (sh : List va_E) (M : zM) (rv : Option Value) (sh' : List va_E) (M' : zM) : Prop :=
  ∀ (l : Launch), l.flags = flags0 → ∀ (D : va_G) (cA : Nat → ClassId) (as ex : Nat → Nat) (sz : Nat),
    vx_Met l Y.1 (zWsW Y hh) { frames := Y.2.2.2.2.1, cells := k, slots := n, locals := Y.2.2.2.2.2 } (zPre D cA as ex av sh M sz) (zPost D cA as ex sh M sz rv sh' M') (fun _ _ _ => False) k n (va_A (zWd cA as ex M 0 sh) sz)
set_option maxHeartbeats 4000000 in
theorem zCW.of {Y : zY} {hh : List (Nat × Nat × Nat × Nat)} {k n : Nat} {av : List Value} {sh sh' : List va_E} {M M' : zM} {rv : Option Value} (hpl : plainName Y.1.cls = true) (hc1 : av.all zC1 = true) (hnl : av.length ≤ Y.2.2.1)
    (h : zT Y k n (zEnd Y rv sh' M') (0, zAl av Y.2.2.1, [], sh, M)) : zCW Y hh k n av sh M rv sh' M' := by
  intro l hfl D cA as ex sz
  refine vx_ofWH (cc := Y.2.1) (maxL := Y.2.2.1) (ret := Y.2.2.2.1) (hh := hh) (ws' := zW) hpl rfl ?_
  intro p e s m args below meth c s₁ B hml hv
  obtain ⟨rfl, hsz, hP, hK, hD0, hSt⟩ := hv
  have hts := atoms_spec (ws := zWsW Y hh) B.pre
  have hD := hD0.self (sz := sz)
  have E : zEv Y p l (headSpec (zWsW Y hh) { frames := Y.2.2.2.2.1, cells := k, slots := n, locals := Y.2.2.2.2.2 }).room s m (av.map (zTr as ex)).toArray meth c D cA ex (va_A (zWd cA as ex M 0 sh) sz) :=
    ⟨B.exec, B.bytes, hml, findClass_of_methodNamed B.named, fun w hw => hts w (List.mem_cons_of_mem _ hw), hK, fun q hq => Or.inr (by rw [← hsz]; exact hq), hSt, hfl, B.notSynchronized, B.returns, fun h9 => (name_of_methodNamed B.named B.method).1.trans h9, Nat.le_refl _, Nat.le_refl _⟩
  have hl := lv_entry (av.map (zTr as ex)) (n := Y.2.2.1) (by rw [zLg_len hc1]; exact hnl)
  rw [lg_entry_eq]
  refine h p l e _ s m _ below meth c D cA ex _ E _ 0 0 as (by rw [Nat.zero_add]; exact Nat.le_refl _) (by rw [Nat.zero_add]; exact Nat.le_refl _) ?_ s.heap [] _ hP hD va_S.rf ⟨hl.1, hl.2.1, fun q hq => hl.2.2 q (zAl_mem hc1 hq)⟩
  rintro ⟨pc, ls, st, sh2, M2⟩ as' hag ⟨e1, e2, e3, he⟩
  cases e1
  cases e2
  cases e3
  intro H locs lsR hP2 hD2 hS2 hl2
  rw [Nat.zero_add, Nat.zero_add]
  have post : ∀ t : State, t.heap = H → s.WarmedH t.vm → zPost D cA as ex sh M sz rv sh2 M2 (av.map (zTr as ex)).toArray s (.returned (rv.map (zTr as' ex))) t := fun t ht hW => ⟨⟨as', hag, rfl, by rw [ht]; exact hP2, hD2⟩, hS2.F ht⟩
  refine vx_ret ?_
  rcases he with ⟨v, ty, rfl, e1, e2, e3⟩ | ⟨rfl, e1, e2⟩ | ⟨v, rt, rfl, e1, e2, e3, e4⟩ | ⟨v, rfl, e1, e2⟩ | ⟨v, rfl, e1, e2⟩
  · exact W.zret (v := v) E.1 E.2.1 (B.returns.trans e1) e2 post hS2.2.2 e3 B.notSynchronized
  · exact W.vret E.1 E.2.1 (B.returns.trans e1) post hS2.2.2 e2 B.notSynchronized
  · refine W.aret (v := zTr as' ex v) E.1 E.2.1 (B.returns.trans e1) e2 ?_ post hS2.2.2 e4 B.notSynchronized
    rcases e3 with rfl | ⟨a, rfl⟩ | ⟨a, rfl⟩
    · exact Or.inl rfl
    · exact Or.inr ⟨_, rfl⟩
    · exact Or.inr ⟨_, rfl⟩
  · exact W.fret (v := v) E.1 E.2.1 (B.returns.trans e1) post hS2.2.2 e2 B.notSynchronized
  · exact W.dret (v := v) E.1 E.2.1 (B.returns.trans e1) post hS2.2.2 e2 B.notSynchronized
