/-- .. of a class whose constructor lies otherwise -/
def zLeafX (Y : zY) (E : String) (pc : Nat) : Prop :=
  ∃ (text : String) (sa ik is ic ix : Nat) (rx : ByteArray), decode rx 0 = .ok (.aload_n 0, 1) ∧ decode rx 1 = .ok (.aload_n 1, 1) ∧ decode rx 2 = .ok (.invokespecial ix, 3) ∧ decode rx 5 = .ok (.return_, 1) ∧ Bundle.fit E = true ∧ Cond.classLink Y.1.cls ik E ∈ zW ∧ Cond.initialized E ∈ zW ∧ (Y.1.cls, is, text, sa) ∈ zRs ∧
    (∀ w ∈ zAtX Y.1.cls ic E ix rx zNames, w ∈ zW ∨ (w ∈ zNw ∧ w.onTables = true)) ∧ (∀ w ∈ Cond.classLink Y.1.cls ik E :: Cond.initialized E :: zAtX Y.1.cls ic E ix rx zNames, vx_ot w = true) ∧
    decode Y.2.1 pc = .ok (.new ik, 3) ∧ decode Y.2.1 (pc + 3) = .ok (.dup, 1) ∧ decode Y.2.1 (pc + 4) = .ok (.ldc is, 2) ∧ decode Y.2.1 (pc + 6) = .ok (.invokespecial ic, 3) ∧ decode Y.2.1 (pc + 9) = .ok (.athrow, 1)
set_option maxHeartbeats 4000000 in
theorem zXr.leafX {Y : zY} {av : List Value} {sh : List va_E} {M M' : zM} {E : String} (pc : Nat) (ls : zL) (hpl : plainName Y.1.cls = true) (hc1 : av.all zC1 = true) (hnl : av.length ≤ Y.2.2.1) (hlf : zLeafX Y E pc) (hfr : 6 ≤ Y.2.2.2.2.1) (hlo : 82 ≤ Y.2.2.2.2.2)
    (h : zT Y 0 0 (fun S => S = (pc, ls, [], sh, M')) (0, zAl av Y.2.2.1, [], sh, M)) : zXr Y 1 6 av sh M E M' := by
  intro l hfl D cA as ex sz
  refine vx_ofW (cc := Y.2.1) (maxL := Y.2.2.1) (ret := Y.2.2.2.1) (ws' := zW) hpl rfl ?_
  intro p e s m args below meth c s₁ B hml htab hv
  obtain ⟨rfl, hsz, hP, hK, hD0, hSt⟩ := hv
  have hts := atoms_spec (ws := zWs Y) B.pre
  have hD := hD0.self (sz := sz)
  have E9 : zEv Y p l (headSpec (zWs Y) { frames := Y.2.2.2.2.1, cells := 1, slots := 6, locals := Y.2.2.2.2.2 }).room s m (av.map (zTr as ex)).toArray meth c D cA ex (va_A (zWd cA as ex M 0 sh) sz) :=
    ⟨B.exec, B.bytes, hml, findClass_of_methodNamed B.named, fun w hw => hts w (List.mem_cons_of_mem _ hw), hK, fun q hq => Or.inr (by rw [← hsz]; exact hq), hSt, hfl, B.notSynchronized, B.returns, fun h9 => (name_of_methodNamed B.named B.method).1.trans h9, Nat.le_refl _, Nat.le_refl _⟩
  have hl := lv_entry (av.map (zTr as ex)) (n := Y.2.2.1) (by rw [zLg_len hc1]; exact hnl)
  rw [lg_entry_eq]
  refine h p l e _ s m _ below meth c D cA ex _ E9 _ 0 0 as (by show 0 + 0 ≤ 1; omega) (by show 0 + 0 ≤ 6; omega) ?_ s.heap [] _ hP hD va_S.rf ⟨hl.1, hl.2.1, fun q hq => hl.2.2 q (zAl_mem hc1 hq)⟩
  intro S' as' hag hz
  subst hz
  cases zAs_same hag
  intro H locs lsR hP2 hD2 hS2 hl2
  obtain ⟨text, sa, ik, is, ic, ix, rx, x0, x1, x2, x5, g1, g2, g3, g4, g5, g6, d0, d3, d4, d6, d9⟩ := hlf
  have hx : ∀ t : State, s.vm.Alike t.vm → H.size ≤ t.heap.size → (∀ q : Nat, q < H.size → t.heap[q]? = H[q]?) → zXC D cA as ex sh M sz E M' E s t := fun t _ h1 h2 =>
    ⟨rfl, hP2.kept (fun k q hq => h2 q.1 (vx_lt hP2 hq)), hD2, Nat.le_trans hS2.1 h1, fun q q1 q2 => (h2 q (Nat.lt_of_lt_of_le q1 hS2.1)).trans (hS2.2.1 q q1 q2)⟩
  exact zThrowX x0 x1 x2 x5 (own := Y.1.cls) (names := zNames) (text := text) (sa := ex sa) (A := va_A (zWd cA as ex M 0 sh) sz) E9.1 E9.2.1 (zTraces hfl) E9.2.2.2.1 g1 zFit (E9.2.2.2.2.1 _ g2) (E9.2.2.2.2.1 _ g3) (hSt.2.2.2.2.1 _ g4) (zAtW g5 E9.2.2.2.2.1 hSt.2.2.2.2.2.2.2.1) g6 hSt.2.2.2.2.2.1 hSt.2.2.2.2.2.2.1 hS2 (hl2.1.trans hml.symm) d0 d3 d4 d6 d9 (fun x hx => absurd hx (fun h => htab x h)) hfr (by show _ ≤ Y.2.2.2.2.2; simp [zNames]; omega) (Nat.le_refl _) (Nat.le_refl _) B.notSynchronized hx hS2.2.2 (Nat.le_refl _) (Nat.le_refl _)

theorem lf_X9_restore : zLeafX yy_X9_restore "java/util/NoSuchElementException" 17 := ⟨"nothing was kept there", 215, 136, 138, 140, 13, prog_30_method_4_code, by decide +kernel, by decide +kernel, by decide +kernel, by decide +kernel, by decide +kernel, zIn (w := 4182) (by decide +kernel) rfl, zIn (w := 1023) (by decide +kernel) rfl, by decide +kernel, by decide +kernel, by decide +kernel, by decide +kernel, by decide +kernel, by decide +kernel, by decide +kernel, by decide +kernel⟩
set_option maxRecDepth 100000 in
theorem x_X9_restore_n (M : zM) (sl : Nat → Option Nat) (ext : List va_E) (k : Nat) (hk : k < 2) (hs : sl k = none) : zXr yy_X9_restore 1 6 [.ref 0, .int (nI k)] (sh_X sl ext) M "java/util/NoSuchElementException" M := by
  refine zXr.leafX 17 [some (.ref 0), some (.int (nI k)), some .null] (by decide +kernel) rfl (Nat.le_of_ble_eq_true rfl) lf_X9_restore (Nat.le_of_ble_eq_true rfl) (Nat.le_of_ble_eq_true rfl) ?_
  refine zT.run [(.iload_n 1, 0, 0, 0), (.iconst 0, 0, 0, 0), (.iconst 1, 0, 0, 0)] (pe := 3) (ls' := [some (.ref 0), some (.int (nI k)), none]) (st' := [.int 1, .int 0, .int (nI k)]) (M' := M) (by decide +kernel) rfl ?_
  refine zT.cS_nil (idx := 119) (av := [.int (nI k), .int 0, .int 1]) (rv := none) (st := []) (S1 := []) (c_X9_needBetween_ok (nI k) 0 1 (nI_pos (by omega)) (by show ¬ nI 1 < nI k; exact nI_nlt (by omega) (by decide))) k_X9_needBetween rfl (zIn (w := 4163) (by decide +kernel) rfl) (by decide +kernel) (by decide +kernel) rfl (Nat.le_of_ble_eq_true rfl) rfl ?_
  refine zT.run [(.aload_n 0, 0, 0, 0), (.getfield 38, 7, 5, 2077), (.iload_n 1, 0, 0, 0)] (pe := 11) (ls' := [some (.ref 0), some (.int (nI k)), none]) (st' := [.int (nI k), .ref 189]) (M' := M) (by decide +kernel) rfl ?_
  refine zT.aaldN (n := 2) (k := k) (g := sl) (zX_sl sl ext) rfl hk (by decide) hs (by decide +kernel) ?_
  refine zT.run [(.astore_n 2, 0, 0, 0), (.aload_n 2, 0, 0, 0)] (pe := 14) (ls' := [some (.ref 0), some (.int (nI k)), some .null]) (st' := [.null]) (M' := M) (by decide +kernel) rfl ?_
  exact zT.nnulN (off := 13) (by decide +kernel) (zT.here rfl)
