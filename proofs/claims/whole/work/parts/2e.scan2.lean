theorem zT.ldcSW {Y : zY} {kc nc : Nat} {Z : zS → Prop} {pc : Nat} {ls : zL} {st : List Value} {sh : List va_E} {M : zM} (k : Nat) {q : String × Nat × String × Nat} (hq : zRs[k]? = some q) (hown : q.1 = Y.1.cls) (hd : decode Y.2.1 pc = .ok (.ldc_w q.2.1, 3)) (k1 : zT Y kc nc Z (pc + 3, ls, .retAddr q.2.2.2 :: st, sh, M)) : zT Y kc nc Z (pc, ls, st, sh, M) := by
  refine zT.step (S1 := (pc + 3, ls, .retAddr q.2.2.2 :: st, sh, M)) rfl ?_ k1
  intro p l e R s m args below meth c D cA ex A E Q cells slots as hcl hsl k9 H locs lsR hP hD hS hl
  intro T hT X
  obtain ⟨t, a1, b1⟩ := k9 H locs lsR hP hD hS hl T hT X
  have hZ := E.2.2.2.2.2.2.2.1.2.2.2.2.1 q (List.mem_of_getElem? hq)
  rw [hown] at hZ
  exact ⟨t, X.ldcStringW E.1 E.2.2.2.1 (text := q.2.2.1) (a := ex q.2.2.2) hZ.1 hZ.2 (g := F0 m pc lsR (st.map (zTr as ex))) rfl (by rw [E.2.1]; exact hd) t a1, b1⟩
/-- a token in the text -/
def zTkP (ty : Nat) (m : zM) : Prop := m 0 8 = nI ty ∧ ∃ f a, f ≤ a ∧ a ≤ ty ∧ m 0 15 = nI f ∧ m 0 14 = nI a
theorem zTkP.at {ty : Nat} {m : zM} (h : zTkP ty m) : zAtP ty m := by
  obtain ⟨h1, f, a, h2, h3, h4, h5⟩ := h
  exact ⟨h1, a, h3, h5⟩
theorem zTkI {ty i len : Nat} {m : zM} (h : zTkP ty m) (h6 : ty ≤ 600) (hl : len < 40) (c : m 0 14 - m 0 15 = nI len) (hi : i < len) : m 0 15 + nI i = nI ((m 0 15).toNatClampNeg + i) ∧ (m 0 15).toNatClampNeg + i < 600 := by
  obtain ⟨h1, f, a, h2, h3, h4, h5⟩ := h
  rw [h4, h5, pk_sub h2] at c
  have := (nI_eq (by omega) (by omega)).mp c
  rw [h4, nI_clamp (by omega), nI_add]
  exact ⟨rfl, by omega⟩
/-- the place never goes back -/
def zAtG (ty a0 : Nat) (m : zM) : Prop := zAtP ty m ∧ a0 ≤ (m 0 14).toNatClampNeg
theorem mo_scan_0 (M : zM) (ty a0 : Nat) (h600 : ty ≤ 600) (m : zM) (hm : zAtG ty a0 m) : zAtG ty a0 (w_X10_scan_0 M ty m) := by
  refine zWr_P (P := zAtG ty a0) (μ := fun m => ty - (m 0 14).toNatClampNeg) (fun x y hx e => ?_) (fun x b hx e => ?_) _ m hm (by omega)
  · have h := hf_scan_0 M ty h600 x y hx.1 e
    have h1 := (zAtL hx.1 h600).2
    have h2 := (zAtL h.1 h600).2
    exact ⟨⟨h.1, by have := h.2; have := hx.2; omega⟩, h.2⟩
  · simp only [f_X10_scan_0] at e
    (repeat' split at e) <;> first
      | (cases e; done)
      | (have e := Sum.inr.inj e
         subst e
         exact hx)
theorem mo_scan_138 (M : zM) (ty a0 : Nat) (h600 : ty ≤ 600) (m : zM) (hm : zAtG ty a0 m) : zAtG ty a0 (w_X10_scan_138 M ty m) := by
  refine zWr_P (P := zAtG ty a0) (μ := fun m => ty - (m 0 14).toNatClampNeg) (fun x y hx e => ?_) (fun x b hx e => ?_) _ m hm (by omega)
  · have h := hf_scan_138 M ty h600 x y hx.1 e
    have h1 := (zAtL hx.1 h600).2
    have h2 := (zAtL h.1 h600).2
    exact ⟨⟨h.1, by have := h.2; have := hx.2; omega⟩, h.2⟩
  · simp only [f_X10_scan_138] at e
    (repeat' split at e) <;> first
      | (cases e; done)
      | (have e := Sum.inr.inj e
         subst e
         exact hx)
theorem mo_scan_90 (M : zM) (ty a0 : Nat) (h600 : ty ≤ 600) (m : zM) (hm : zAtG ty a0 m) : zAtG ty a0 (w_X10_scan_90 M ty m) := by
  refine zWr_P (P := zAtG ty a0) (μ := fun m => ty - (m 0 14).toNatClampNeg) (fun x y hx e => ?_) (fun x b hx e => ?_) _ m hm (by omega)
  · have h := hf_scan_90 M ty h600 x y hx.1 e
    have h1 := (zAtL hx.1 h600).2
    have h2 := (zAtL h.1 h600).2
    exact ⟨⟨h.1, by have := h.2; have := hx.2; omega⟩, h.2⟩
  · simp only [f_X10_scan_90] at e
    (repeat' split at e) <;> first
      | (cases e; done)
      | (have e := Sum.inr.inj e
         subst e
         exact hx)
theorem e_X10_scan (M : zM) (ty : Nat) (h600 : ty ≤ 600) (hat : zAtP ty M) : zTkP ty (g_X10_scan M ty) := by
  have h0 := wr_scan_0 M ty h600 M hat
  have hL := zAtL h0 h600
  have key : ∀ m : zM, zAtG ty ((w_X10_scan_0 M ty M) 0 14).toNatClampNeg m → m 0 15 = (w_X10_scan_0 M ty M) 0 14 → ∀ x : Int32, zTkP ty (zU m 0 16 x) := by
    intro m hm e x
    have hm1 := zAtL hm.1 h600
    exact ⟨hm.1.1, _, _, hm.2, hm1.2, e.trans hL.1, hm1.1⟩
  have hN : ∀ x : Int32, ¬ (w_X10_scan_0 M ty M) 0 14 = (w_X10_scan_0 M ty M) 0 8 → zTkP ty (zU (zU (zU (w_X10_scan_0 M ty M) 0 15 ((w_X10_scan_0 M ty M) 0 14)) 0 16 x) 0 14 ((w_X10_scan_0 M ty M) 0 14 + 1)) := by
    intro x c
    have h1 := zAtN h0 h600 c
    refine ⟨h0.1, _, _, Nat.le_succ _, h1.2, h1.1, ?_⟩
    show (w_X10_scan_0 M ty M) 0 14 + 1 = _
    rw [nI_succ, ← h1.1]
  have hs : zAtG ty ((w_X10_scan_0 M ty M) 0 14).toNatClampNeg (zU (w_X10_scan_0 M ty M) 0 15 ((w_X10_scan_0 M ty M) 0 14)) := ⟨h0, Nat.le_refl _⟩
  unfold g_X10_scan
  by_cases c1 : (w_X10_scan_0 M ty M) 0 14 = (w_X10_scan_0 M ty M) 0 8
  · rw [if_pos c1]
    exact key _ hs rfl _
  rw [if_neg c1]
  by_cases c2 : (g_X10_letterAt (zU (w_X10_scan_0 M ty M) 0 15 ((w_X10_scan_0 M ty M) 0 14)) ty ((w_X10_scan_0 M ty M) 0 14).toNatClampNeg) = 0
  · rw [if_pos c2]
    by_cases c3 : (g_X10_digitAt (zU (w_X10_scan_0 M ty M) 0 15 ((w_X10_scan_0 M ty M) 0 14)) ty ((w_X10_scan_0 M ty M) 0 14).toNatClampNeg) = 0
    · rw [if_pos c3]
      exact hN _ c1
    · rw [if_neg c3]
      refine key _ ?_ ?_ _
      · exact mo_scan_138 M ty _ h600 _ hs
      · rw [(kp_scan_138 M ty _).2 15 (by decide) (by decide)]
        rfl
  · rw [if_neg c2]
    refine key _ ?_ ?_ _
    · exact mo_scan_90 M ty _ h600 _ hs
    · rw [(kp_scan_90 M ty _).2 15 (by decide) (by decide)]
      rfl
theorem e2_X10_scan (M : zM) (ty k : Nat) (h1 : k ≠ 14) (h2 : k ≠ 15) (h3 : k ≠ 16) (h4 : k ≠ 17) : g_X10_scan M ty 0 k = M 0 k := by
  have h0 := (kp_scan_0 M ty M).2 k h1 h4
  have h5 := fun m => (kp_scan_138 M ty m).2 k h1 h4
  have h6 := fun m => (kp_scan_90 M ty m).2 k h1 h4
  simp only [g_X10_scan]
  (repeat' split) <;> simp only [zU_k h1, zU_k h2, zU_k h3, zU_k h4, h5, h6, h0]
noncomputable abbrev yy_X10_isWord : zY := (yX10_isWord, cX10_isWord, 4, (some Jvm.ClassFile.FieldType.boolean), 4, 85)
noncomputable def f_X10_isWord_39 (M : zM) (ty : Nat) (tx : Nat) (i1 : Nat) : Option Int32 := (if (M 18 ((M 0 15).toNatClampNeg + i1)) = (nI ((zTxt tx).getD i1 0)) then none else (some (0 : Int32)))
noncomputable def g_X10_isWord (M : zM) (ty : Nat) (tx : Nat) : Int32 := (if (M 0 18) = 0 then (if (M 0 16) = 3 then (if ((M 0 14) - (M 0 15)) = (nI (zTxt tx).length) then (zFst (f_X10_isWord_39 M ty tx) (1 : Int32) (zTxt tx).length 0) else 0) else 0) else 0)
set_option maxRecDepth 100000 in
theorem c_X10_isWord (M : zM) (gp : Nat → Option Nat) (ty : Nat) (tx : Nat) (h600 : ty ≤ 600) (htk : zTkP ty M) (htx : tx < 20) : zC yy_X10_isWord 0 0 [.ref 0, .retAddr (200 + tx)] (sh_Model gp) M (some (.int (g_X10_isWord M ty tx))) (sh_Model gp) M := by
  refine zC.of (by decide +kernel) rfl (Nat.le_of_ble_eq_true rfl) ?_
  have hlen := zTx_len tx htx
  refine zT.run [(.aload_n 0, 0, 0, 0), (.getfield 235, 8, 18, 5167)] (pe := 4) (ls' := [some (.ref 0), some (.retAddr (200 + tx)), none, none]) (st' := [.int (M 0 18)]) (M' := M) (by decide +kernel) rfl ?_
  refine zT.zne (tgt := 35) (off := 31) (by decide +kernel) (by decide) (fun (c1 : ¬ (M 0 18) = 0) => ?_) (fun (c1 : (M 0 18) = 0) => ?_)
  · skip
    refine zT.run [(.iconst 0, 0, 0, 0), (.istore_n 2, 0, 0, 0), (.iconst 0, 0, 0, 0), (.istore_n 3, 0, 0, 0)] (pe := 39) (ls' := [some (.ref 0), some (.retAddr (200 + tx)), some (.int 0), some (.int 0)]) (st' := []) (M' := M) (by decide +kernel) rfl ?_
    refine zT.run [(.iload_n 2, 0, 0, 0)] (pe := 40) (ls' := [some (.ref 0), some (.retAddr (200 + tx)), some (.int 0), some (.int 0)]) (st' := [.int 0]) (M' := M) (by decide +kernel) rfl ?_
    refine zT.zeq (tgt := 82) (off := 42) (by decide +kernel) (by decide) (fun _ => ?_) (fun c => absurd (by decide) c)
    refine zT.run [(.iload_n 2, 0, 0, 0)] (pe := 83) (ls' := [some (.ref 0), some (.retAddr (200 + tx)), some (.int 0), some (.int 0)]) (st' := [.int 0]) (M' := M) (by decide +kernel) rfl ?_
    exact zT.iret (ty := Jvm.ClassFile.FieldType.boolean) (by simp only [g_X10_isWord, if_neg c1]; try rfl) rfl rfl rfl (by decide +kernel)
  · skip
    refine zT.run [(.aload_n 0, 0, 0, 0), (.getfield 223, 8, 16, 5165), (.iconst 3, 0, 0, 0)] (pe := 12) (ls' := [some (.ref 0), some (.retAddr (200 + tx)), none, none]) (st' := [.int 3, .int (M 0 16)]) (M' := M) (by decide +kernel) rfl ?_
    refine zT.cne (tgt := 35) (off := 23) (by decide +kernel) (by decide) (fun (c2 : ¬ (M 0 16) = 3) => ?_) (fun (c2 : (M 0 16) = 3) => ?_)
    · skip
      refine zT.run [(.iconst 0, 0, 0, 0), (.istore_n 2, 0, 0, 0), (.iconst 0, 0, 0, 0), (.istore_n 3, 0, 0, 0)] (pe := 39) (ls' := [some (.ref 0), some (.retAddr (200 + tx)), some (.int 0), some (.int 0)]) (st' := []) (M' := M) (by decide +kernel) rfl ?_
      refine zT.run [(.iload_n 2, 0, 0, 0)] (pe := 40) (ls' := [some (.ref 0), some (.retAddr (200 + tx)), some (.int 0), some (.int 0)]) (st' := [.int 0]) (M' := M) (by decide +kernel) rfl ?_
      refine zT.zeq (tgt := 82) (off := 42) (by decide +kernel) (by decide) (fun _ => ?_) (fun c => absurd (by decide) c)
      refine zT.run [(.iload_n 2, 0, 0, 0)] (pe := 83) (ls' := [some (.ref 0), some (.retAddr (200 + tx)), some (.int 0), some (.int 0)]) (st' := [.int 0]) (M' := M) (by decide +kernel) rfl ?_
      exact zT.iret (ty := Jvm.ClassFile.FieldType.boolean) (by simp only [g_X10_isWord, if_pos c1, if_neg c2]; try rfl) rfl rfl rfl (by decide +kernel)
    · skip
      refine zT.run [(.aload_n 0, 0, 0, 0), (.getfield 217, 8, 14, 5163), (.aload_n 0, 0, 0, 0), (.getfield 220, 8, 15, 5164), (.isub, 0, 0, 0), (.aload_n 1, 0, 0, 0)] (pe := 25) (ls' := [some (.ref 0), some (.retAddr (200 + tx)), none, none]) (st' := [.retAddr (200 + tx), .int ((M 0 14) - (M 0 15))]) (M' := M) (by decide +kernel) rfl ?_
      refine zT.cX (idx := 238) (av := []) (rv := some (.int (nI (zTxt tx).length))) (st := [.int ((M 0 14) - (M 0 15))]) (S1 := [.int (nI (zTxt tx).length), .int ((M 0 14) - (M 0 15))]) (c_J0_length tx htx) k_J0_length_8abf5 (zTx_obj tx htx) rfl (zIn (w := 6178) (by decide +kernel) rfl) (by decide +kernel) (by decide +kernel) rfl (Nat.le_of_ble_eq_true rfl) rfl ?_
      refine zT.cne (tgt := 35) (off := 7) (by decide +kernel) (by decide) (fun (c3 : ¬ ((M 0 14) - (M 0 15)) = (nI (zTxt tx).length)) => ?_) (fun (c3 : ((M 0 14) - (M 0 15)) = (nI (zTxt tx).length)) => ?_)
      · skip
        refine zT.run [(.iconst 0, 0, 0, 0), (.istore_n 2, 0, 0, 0), (.iconst 0, 0, 0, 0), (.istore_n 3, 0, 0, 0)] (pe := 39) (ls' := [some (.ref 0), some (.retAddr (200 + tx)), some (.int 0), some (.int 0)]) (st' := []) (M' := M) (by decide +kernel) rfl ?_
        refine zT.run [(.iload_n 2, 0, 0, 0)] (pe := 40) (ls' := [some (.ref 0), some (.retAddr (200 + tx)), some (.int 0), some (.int 0)]) (st' := [.int 0]) (M' := M) (by decide +kernel) rfl ?_
        refine zT.zeq (tgt := 82) (off := 42) (by decide +kernel) (by decide) (fun _ => ?_) (fun c => absurd (by decide) c)
        refine zT.run [(.iload_n 2, 0, 0, 0)] (pe := 83) (ls' := [some (.ref 0), some (.retAddr (200 + tx)), some (.int 0), some (.int 0)]) (st' := [.int 0]) (M' := M) (by decide +kernel) rfl ?_
        exact zT.iret (ty := Jvm.ClassFile.FieldType.boolean) (by simp only [g_X10_isWord, if_pos c1, if_pos c2, if_neg c3]; try rfl) rfl rfl rfl (by decide +kernel)
      · skip
        refine zT.run [(.iconst 1, 0, 0, 0), (.goto 4, 0, 0, 0), (.istore_n 2, 0, 0, 0), (.iconst 0, 0, 0, 0), (.istore_n 3, 0, 0, 0)] (pe := 39) (ls' := [some (.ref 0), some (.retAddr (200 + tx)), some (.int 1), some (.int 0)]) (st' := []) (M' := M) (by decide +kernel) rfl ?_
        refine zT.fst (f_X10_isWord_39 M ty tx) (1 : Int32) (zTxt tx).length (fun (i : Nat) => (39, [some (.ref 0), some (.retAddr (200 + tx)), some (.int 1), some (.int (nI i))], [], (sh_Model gp), M)) (R := (zFst (f_X10_isWord_39 M ty tx) (1 : Int32) (zTxt tx).length 0)) rfl (fun i1 hi1 k1 kk1 => ?_) (fun k1 => ?_)
        · skip
          show zT _ _ _ _ (39, [some (.ref 0), some (.retAddr (200 + tx)), some (.int 1), some (.int (nI i1))], [], (sh_Model gp), M)
          refine zT.run [(.iload_n 2, 0, 0, 0)] (pe := 40) (ls' := [some (.ref 0), some (.retAddr (200 + tx)), some (.int 1), some (.int (nI i1))]) (st' := [.int 1]) (M' := M) (by decide +kernel) rfl ?_
          refine zT.zeq (tgt := 82) (off := 42) (by decide +kernel) (by decide) (fun c => absurd c (by decide)) (fun _ => ?_)
          refine zT.run [(.iload_n 3, 0, 0, 0), (.aload_n 1, 0, 0, 0)] (pe := 45) (ls' := [some (.ref 0), some (.retAddr (200 + tx)), some (.int 1), some (.int (nI i1))]) (st' := [.retAddr (200 + tx), .int (nI i1)]) (M' := M) (by decide +kernel) rfl ?_
          refine zT.cX (idx := 238) (av := []) (rv := some (.int (nI (zTxt tx).length))) (st := [.int (nI i1)]) (S1 := [.int (nI (zTxt tx).length), .int (nI i1)]) (c_J0_length tx htx) k_J0_length_8abf5 (zTx_obj tx htx) rfl (zIn (w := 6178) (by decide +kernel) rfl) (by decide +kernel) (by decide +kernel) rfl (Nat.le_of_ble_eq_true rfl) rfl ?_
          refine zT.cge (tgt := 82) (off := 34) (by decide +kernel) (by decide) (fun c => absurd c (zGeN (n := (zTxt tx).length) rfl (by omega) (by omega))) (fun _ => ?_)
          refine zT.run [(.aload_n 0, 0, 0, 0), (.getfield 28, 8, 7, 5156), (.aload_n 0, 0, 0, 0), (.getfield 220, 8, 15, 5164), (.iload_n 3, 0, 0, 0), (.iadd, 0, 0, 0)] (pe := 61) (ls' := [some (.ref 0), some (.retAddr (200 + tx)), some (.int 1), some (.int (nI i1))]) (st' := [.int ((M 0 15) + (nI i1)), .ref 18]) (M' := M) (by decide +kernel) rfl ?_
          refine zT.iald (n := 600) (k := ((M 0 15).toNatClampNeg + i1)) rfl (zTkI htk h600 hlen (by assumption) (by omega)).1 (zTkI htk h600 hlen (by assumption) (by omega)).2 (by decide) (by decide +kernel) ?_
          refine zT.run [(.aload_n 1, 0, 0, 0), (.iload_n 3, 0, 0, 0)] (pe := 64) (ls' := [some (.ref 0), some (.retAddr (200 + tx)), some (.int 1), some (.int (nI i1))]) (st' := [.int (nI i1), .retAddr (200 + tx), .int (M 18 ((M 0 15).toNatClampNeg + i1))]) (M' := M) (by decide +kernel) rfl ?_
          refine zT.cX (idx := 243) (av := [.int (nI i1)]) (rv := some (.int (nI ((zTxt tx).getD i1 0)))) (st := [.int (M 18 ((M 0 15).toNatClampNeg + i1))]) (S1 := [.int (nI ((zTxt tx).getD i1 0)), .int (M 18 ((M 0 15).toNatClampNeg + i1))]) (c_J0_charAt tx htx i1 (by omega)) k_J0_charAt_5068e (zTx_obj tx htx) rfl (zIn (w := 6179) (by decide +kernel) rfl) (by decide +kernel) (by decide +kernel) rfl (Nat.le_of_ble_eq_true rfl) rfl ?_
          refine zT.cne (tgt := 74) (off := 7) (by decide +kernel) (by decide) (fun (c4 : ¬ (M 18 ((M 0 15).toNatClampNeg + i1)) = (nI ((zTxt tx).getD i1 0))) => ?_) (fun (c4 : (M 18 ((M 0 15).toNatClampNeg + i1)) = (nI ((zTxt tx).getD i1 0))) => ?_)
          · skip
            refine zT.run [(.iconst 0, 0, 0, 0), (.istore_n 2, 0, 0, 0), (.iinc 3 1, 0, 0, 0), (.goto (-40), 0, 0, 0)] (pe := 39) (ls' := [some (.ref 0), some (.retAddr (200 + tx)), some (.int 0), some (.int ((nI i1) + 1))]) (st' := []) (M' := M) (by decide +kernel) rfl ?_
            refine zT.run [(.iload_n 2, 0, 0, 0)] (pe := 40) (ls' := [some (.ref 0), some (.retAddr (200 + tx)), some (.int 0), some (.int ((nI i1) + 1))]) (st' := [.int 0]) (M' := M) (by decide +kernel) rfl ?_
            refine zT.zeq (tgt := 82) (off := 42) (by decide +kernel) (by decide) (fun _ => ?_) (fun c => absurd (by decide) c)
            refine zT.run [(.iload_n 2, 0, 0, 0)] (pe := 83) (ls' := [some (.ref 0), some (.retAddr (200 + tx)), some (.int 0), some (.int ((nI i1) + 1))]) (st' := [.int 0]) (M' := M) (by decide +kernel) rfl ?_
            exact zT.iret (ty := Jvm.ClassFile.FieldType.boolean) ((show _ = (zFst (f_X10_isWord_39 M ty tx) (1 : Int32) (zTxt tx).length 0) from (by simp only [g_X10_isWord, if_pos c1, if_pos c2, if_pos c3]; try rfl)).trans (kk1 _ (by simp only [f_X10_isWord_39, if_neg c4]))) rfl rfl rfl (by decide +kernel)
          · skip
            refine zT.run [(.iconst 1, 0, 0, 0), (.goto 4, 0, 0, 0), (.istore_n 2, 0, 0, 0), (.iinc 3 1, 0, 0, 0), (.goto (-40), 0, 0, 0)] (pe := 39) (ls' := [some (.ref 0), some (.retAddr (200 + tx)), some (.int 1), some (.int ((nI i1) + 1))]) (st' := []) (M' := M) (by decide +kernel) rfl ?_
            exact zT.eq (by simp only [nI_succ, zDl]; try rfl) (k1 (by simp only [f_X10_isWord_39, if_pos c4]))
        · skip
          show zT _ _ _ _ (39, [some (.ref 0), some (.retAddr (200 + tx)), some (.int 1), some (.int (nI (zTxt tx).length))], [], (sh_Model gp), M)
          refine zT.run [(.iload_n 2, 0, 0, 0)] (pe := 40) (ls' := [some (.ref 0), some (.retAddr (200 + tx)), some (.int 1), some (.int (nI (zTxt tx).length))]) (st' := [.int 1]) (M' := M) (by decide +kernel) rfl ?_
          refine zT.zeq (tgt := 82) (off := 42) (by decide +kernel) (by decide) (fun c => absurd c (by decide)) (fun _ => ?_)
          refine zT.run [(.iload_n 3, 0, 0, 0), (.aload_n 1, 0, 0, 0)] (pe := 45) (ls' := [some (.ref 0), some (.retAddr (200 + tx)), some (.int 1), some (.int (nI (zTxt tx).length))]) (st' := [.retAddr (200 + tx), .int (nI (zTxt tx).length)]) (M' := M) (by decide +kernel) rfl ?_
          refine zT.cX (idx := 238) (av := []) (rv := some (.int (nI (zTxt tx).length))) (st := [.int (nI (zTxt tx).length)]) (S1 := [.int (nI (zTxt tx).length), .int (nI (zTxt tx).length)]) (c_J0_length tx htx) k_J0_length_8abf5 (zTx_obj tx htx) rfl (zIn (w := 6178) (by decide +kernel) rfl) (by decide +kernel) (by decide +kernel) rfl (Nat.le_of_ble_eq_true rfl) rfl ?_
          refine zT.cge (tgt := 82) (off := 34) (by decide +kernel) (by decide) (fun _ => ?_) (fun c => absurd (zGeY (n := (zTxt tx).length) rfl) c)
          refine zT.run [(.iload_n 2, 0, 0, 0)] (pe := 83) (ls' := [some (.ref 0), some (.retAddr (200 + tx)), some (.int 1), some (.int (nI (zTxt tx).length))]) (st' := [.int 1]) (M' := M) (by decide +kernel) rfl ?_
          exact zT.iret (ty := Jvm.ClassFile.FieldType.boolean) ((show _ = (zFst (f_X10_isWord_39 M ty tx) (1 : Int32) (zTxt tx).length 0) from (by simp only [g_X10_isWord, if_pos c1, if_pos c2, if_pos c3]; try rfl)).trans k1) rfl rfl rfl (by decide +kernel)
theorem k_X10_isWord : zCal yy_X10_isWord 1 := ⟨⟨⟨⟨zIn (w := 6177) (by decide +kernel) rfl, zIn (w := 1012) (by decide +kernel) rfl⟩, by decide +kernel⟩, by decide +kernel⟩, ⟨zIn (w := 6176) (by decide +kernel) rfl, zIn (w := 62) (by decide +kernel) rfl⟩⟩
