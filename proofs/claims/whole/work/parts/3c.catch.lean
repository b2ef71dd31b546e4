/-! WRAPPERS: methods with a table of handlers -/
def zWsW (Y : zY) (hh : List (Nat × Nat × Nat × Nat)) : List Cond := .codeWith Y.1 Y.2.1 Y.2.2.1 Y.2.2.2.1 hh :: zW
def zCW (Y : zY) (hh : List (Nat × Nat × Nat × Nat)) (k n : Nat) (av : List Value) (sh : List va_E) (M : zM) (rv : Option Value) (sh' : List va_E) (M' : zM) : Prop :=
  ∀ (l : Launch), l.flags = flags0 → ∀ (D : va_G) (cA : Nat → ClassId) (as ex : Nat → Nat) (sz : Nat),
    vx_Met l Y.1 (zWsW Y hh) { frames := Y.2.2.2.2.1, cells := k, slots := n, locals := Y.2.2.2.2.2 } (zPre D cA as ex av sh M sz) (zPost D cA as ex sh M sz rv sh' M') (fun _ _ _ => False) k n (va_A (zWd cA as ex M 0 sh) sz)
set_option maxHeartbeats 4000000 in
theorem zCW.of {Y : zY} {hh : List (Nat × Nat × Nat × Nat)} {k n : Nat} {av : List Value} {sh sh' : List va_E} {M M' : zM} {rv : Option Value} (hpl : plainName Y.1.cls = true) (hc1 : av.all zC1 = true) (hnl : av.length ≤ Y.2.2.1)
    (h : zT Y k n (zEnd Y rv sh' M') (0, zAl av Y.2.2.1, [], sh, M)) : zCW Y hh k n av sh M rv sh' M' := by
  intro l hfl D cA as ex sz
  refine vx_ofWH (cc := Y.2.1) (maxL := Y.2.2.1) (ret := Y.2.2.2.1) (hh := hh) (ws' := zW) hpl rfl ?_
  intro p e s m args below meth c s₁ B hml hv
  obtain ⟨rfl, hsz, hP, hK, hD0, hSt⟩ := hv
  have hts := atoms_spec (ws := zWsW Y hh) B.pre
  have hD := hD0.self (sz := sz)
  have E : zEv Y p l (headSpec (zWsW Y hh) { frames := Y.2.2.2.2.1, cells := k, slots := n, locals := Y.2.2.2.2.2 }).room s m (av.map (zTr as ex)).toArray meth c D cA ex (va_A (zWd cA as ex M 0 sh) sz) :=
    ⟨B.exec, B.bytes, hml, findClass_of_methodNamed B.named, fun w hw => hts w (List.mem_cons_of_mem _ hw), hK, fun q hq => Or.inr (by rw [← hsz]; exact hq), hSt, hfl, B.notSynchronized, B.returns, fun h9 => (name_of_methodNamed B.named B.method).1.trans h9, Nat.le_refl _, Nat.le_refl _⟩
  have hl := lv_entry (av.map (zTr as ex)) (n := Y.2.2.1) (by rw [zLg_len hc1]; exact hnl)
  rw [lg_entry_eq]
  refine h p l e _ s m _ below meth c D cA ex _ E _ 0 0 as (by rw [Nat.zero_add]; exact Nat.le_refl _) (by rw [Nat.zero_add]; exact Nat.le_refl _) ?_ s.heap [] _ hP hD va_S.rf ⟨hl.1, hl.2.1, fun q hq => hl.2.2 q (zAl_mem hc1 hq)⟩
  rintro ⟨pc, ls, st, sh2, M2⟩ as' hag ⟨e1, e2, e3, he⟩
  cases e1
  cases e2
  cases e3
  intro H locs lsR hP2 hD2 hS2 hl2
  rw [Nat.zero_add, Nat.zero_add]
  have post : ∀ t : State, t.heap = H → s.WarmedH t.vm → zPost D cA as ex sh M sz rv sh2 M2 (av.map (zTr as ex)).toArray s (.returned (rv.map (zTr as' ex))) t := fun t ht hW => ⟨⟨as', hag, rfl, by rw [ht]; exact hP2, hD2⟩, hS2.F ht⟩
  refine vx_ret ?_
  rcases he with ⟨v, ty, rfl, e1, e2, e3⟩ | ⟨rfl, e1, e2⟩ | ⟨v, rt, rfl, e1, e2, e3, e4⟩ | ⟨v, rfl, e1, e2⟩ | ⟨v, rfl, e1, e2⟩
  · exact W.zret (v := v) E.1 E.2.1 (B.returns.trans e1) e2 post hS2.2.2 e3 B.notSynchronized
  · exact W.vret E.1 E.2.1 (B.returns.trans e1) post hS2.2.2 e2 B.notSynchronized
  · refine W.aret (v := zTr as' ex v) E.1 E.2.1 (B.returns.trans e1) e2 ?_ post hS2.2.2 e4 B.notSynchronized
    rcases e3 with rfl | ⟨a, rfl⟩ | ⟨a, rfl⟩
    · exact Or.inl rfl
    · exact Or.inr ⟨_, rfl⟩
    · exact Or.inr ⟨_, rfl⟩
  · exact W.fret (v := v) E.1 E.2.1 (B.returns.trans e1) post hS2.2.2 e2 B.notSynchronized
  · exact W.dret (v := v) E.1 E.2.1 (B.returns.trans e1) post hS2.2.2 e2 B.notSynchronized
/-- the handler: the exception laid by, a number answered -/
def zHan (Y : zY) (pc : Nat) (r : Int32) : Prop := ∃ n : Int, Int32.ofInt n = r ∧
  ((∃ k : Fin 4, (k : Nat) < Y.2.2.1 ∧ decode Y.2.1 pc = .ok (.astore_n k, 1) ∧ decode Y.2.1 (pc + 1) = .ok (.iconst n, 1) ∧ decode Y.2.1 (pc + 2) = .ok (.ireturn, 1)) ∨
   (∃ k : Nat, k < Y.2.2.1 ∧ decode Y.2.1 pc = .ok (.astore k, 2) ∧ decode Y.2.1 (pc + 2) = .ok (.iconst n, 1) ∧ decode Y.2.1 (pc + 3) = .ok (.ireturn, 1)))
set_option maxHeartbeats 4000000 in
/-- caught by the row x of the table; the rows ahead don't take it -/
theorem zCW.catch {Y : zY} {hh : List (Nat × Nat × Nat × Nat)} {k n k0 n0 : Nat} {av : List Value} {sh : List va_E} {M M' : zM} {E : String} {r : Int32} (pc : Nat) (ls : zL) (st : List Value) (hpl : plainName Y.1.cls = true) (hc1 : av.all zC1 = true) (hnl : av.length ≤ Y.2.2.1) (hret : Y.2.2.2.1 = some .int)
    (pre : List ExceptionTableEntry) (x : ExceptionTableEntry) (suf : List ExceptionTableEntry) (hsplit : tableOf hh = pre ++ x :: suf)
    (hpass : ∀ z ∈ pre, covers z pc = false ∨ (z.catchType ≠ 0 ∧ ∃ nm : String, Cond.classLink Y.1.cls z.catchType nm ∈ zW ∧ (E, nm) ∈ zNc)) (hx : covers x pc = true) (h0 : x.catchType ≠ 0)
    (hlink : Cond.classLink Y.1.cls x.catchType E ∈ zW) (hcast : Cond.castable E E ∈ zNw) (hhan : zHan Y x.handlerPc r)
    (h : zT Y k0 n0 (fun S => S = (pc, ls, st, sh, M') ∧ zTX Y k n E M' S) (0, zAl av Y.2.2.1, [], sh, M)) : zCW Y hh (k0 + k) (n0 + n) av sh M (some (.int r)) sh M' := by
  intro l hfl D cA as ex sz
  refine vx_ofWH (cc := Y.2.1) (maxL := Y.2.2.1) (ret := Y.2.2.2.1) (hh := hh) (ws' := zW) hpl rfl ?_
  intro p e s m args below meth c s₁ B hml hv
  obtain ⟨rfl, hsz, hP, hK, hD0, hSt⟩ := hv
  have hts := atoms_spec (ws := zWsW Y hh) B.pre
  have hD := hD0.self (sz := sz)
  have htab : c.exceptionTable.toList = tableOf hh := vx_table (x := Y.1) B (hts _ List.mem_cons_self)
  have E9 : zEv Y p l (headSpec (zWsW Y hh) { frames := Y.2.2.2.2.1, cells := k0 + k, slots := n0 + n, locals := Y.2.2.2.2.2 }).room s m (av.map (zTr as ex)).toArray meth c D cA ex (va_A (zWd cA as ex M 0 sh) sz) :=
    ⟨B.exec, B.bytes, hml, findClass_of_methodNamed B.named, fun w hw => hts w (List.mem_cons_of_mem _ hw), hK, fun q hq => Or.inr (by rw [← hsz]; exact hq), hSt, hfl, B.notSynchronized, B.returns, fun h9 => (name_of_methodNamed B.named B.method).1.trans h9, Nat.le_refl _, Nat.le_refl _⟩
  have hl := lv_entry (av.map (zTr as ex)) (n := Y.2.2.1) (by rw [zLg_len hc1]; exact hnl)
  rw [lg_entry_eq]
  refine h p l e _ s m _ below meth c D cA ex _ E9 _ 0 0 as (by show 0 + k0 ≤ k0 + k; omega) (by show 0 + n0 ≤ n0 + n; omega) ?_ s.heap [] _ hP hD va_S.rf ⟨hl.1, hl.2.1, fun q hq => hl.2.2 q (zAl_mem hc1 hq)⟩
  rintro S' as' hag ⟨rfl, hx9⟩
  cases zAs_same hag
  refine hx9 p l e _ s m _ below meth c D cA ex _ E9 _ (0 + k0) (0 + n0) as (by show 0 + k0 + k ≤ k0 + k; omega) (by show 0 + n0 + n ≤ n0 + n; omega) ?_
  intro H locs lsR rest q ce hP2 hD2 hS2 hl2 h1 h2 h3
  have post : ∀ t : State, t.heap = H → s.WarmedH t.vm → zPost D cA as ex sh M sz (some (.int r)) sh M' (av.map (zTr as ex)).toArray s (.returned (some (.int r))) t := fun t ht hW => ⟨⟨as, ⟨Nat.le_refl _, fun _ _ => rfl⟩, rfl, by rw [ht]; exact hP2, hD2⟩, hS2.F ht⟩
  have hts9 := E9.2.2.2.2.1
  rw [Nat.zero_add, Nat.zero_add]
  refine vx_catch (own := Y.1.cls) (name := E) E9.2.2.2.1 pre x suf (htab.trans hsplit) ?_ hx h0 (hts9 _ hlink) (va_Nw.use rfl (hSt.2.2.2.2.2.2.2.1 _ hcast)) h1 h2 h3 ?_
  · intro z hz
    rcases hpass z hz with a | ⟨a, nm, b1, b2⟩
    · exact Or.inl a
    · exact Or.inr ⟨a, nm, hts9 _ b1, hSt.2.2.2.2.2.2.2.2.1 _ b2⟩
  · obtain ⟨n9, rfl, ⟨k9, g1, d0, d1, d2⟩ | ⟨k9, g1, d0, d1, d2⟩⟩ := hhan
    · refine lv_astore_n E9.1 E9.2.1 d0 rfl hl2 g1 rfl (fun ls' _ => ?_)
      refine lv_iconst E9.1 E9.2.1 d1 rfl ?_
      exact vx_ret (W.zret (v := Int32.ofInt n9) E9.1 E9.2.1 (B.returns.trans hret) rfl post hS2.2.2 d2 B.notSynchronized)
    · refine lv_astore E9.1 E9.2.1 d0 hl2 g1 rfl (fun ls' _ => ?_)
      refine lv_iconst E9.1 E9.2.1 d1 rfl ?_
      exact vx_ret (W.zret (v := Int32.ofInt n9) E9.1 E9.2.1 (B.returns.trans hret) rfl post hS2.2.2 d2 B.notSynchronized)
