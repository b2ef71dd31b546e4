/-! CONTRACTS THAT SAY SOMETHING of the answer and of the world behind it (the law's own methods) -/
def zPostR (D : va_G) (cA : Nat → ClassId) (as ex : Nat → Nat) (sh : List va_E) (M : zM) (sz : Nat) (R : Option Value → List va_E → zM → Prop) : Array Value → State → Outcome → State → Prop := fun _ st oc t =>
  (∃ (rv : Option Value) (sh' : List va_E) (M' : zM) (as' : Nat → Nat), R rv sh' M' ∧ zAg sh.length sh'.length as as' ∧ oc = .returned (rv.map (zTr as' ex)) ∧ va_P D vwCl (zWd cA as' ex M' 0 sh') t.heap ∧ va_D (va_A (zWd cA as ex M 0 sh) sz) (zWd cA as' ex M' 0 sh')) ∧ va_F (va_A (zWd cA as ex M 0 sh) sz) st t
def zCr (Y : zY) (k n : Nat) (av : List Value) (sh : List va_E) (M : zM) (R : Option Value → List va_E → zM → Prop) : Prop :=
  ∀ (l : Launch), l.flags = flags0 → ∀ (D : va_G) (cA : Nat → ClassId) (as ex : Nat → Nat) (sz : Nat),
    Met l Y.1 (zWs Y) { frames := Y.2.2.2.2.1, cells := k, slots := n, locals := Y.2.2.2.2.2 } (zPre D cA as ex av sh M sz) (zPostR D cA as ex sh M sz R) k n (va_A (zWd cA as ex M 0 sh) sz)
/-- at a return instruction, with an answer as it should be -/
def zEndR (Y : zY) (R : Option Value → List va_E → zM → Prop) (S : zS) : Prop := ∃ rv sh' M', R rv sh' M' ∧ zEnd Y rv sh' M' S
set_option maxHeartbeats 4000000 in
theorem zCr.of {Y : zY} {k n : Nat} {av : List Value} {sh : List va_E} {M : zM} {R : Option Value → List va_E → zM → Prop} (hpl : plainName Y.1.cls = true) (hc1 : av.all zC1 = true) (hnl : av.length ≤ Y.2.2.1)
    (h : zT Y k n (zEndR Y R) (0, zAl av Y.2.2.1, [], sh, M)) : zCr Y k n av sh M R := by
  intro l hfl D cA as ex sz
  refine Met.ofW (cc := Y.2.1) (maxL := Y.2.2.1) (ret := Y.2.2.2.1) (ws' := zW) hpl rfl ?_
  intro p e s m args below meth c s₁ B hml hv
  obtain ⟨rfl, hsz, hP, hK, hD0, hSt⟩ := hv
  have hts := atoms_spec (ws := zWs Y) B.pre
  have hD := hD0.self (sz := sz)
  have E : zEv Y p l (headSpec (zWs Y) { frames := Y.2.2.2.2.1, cells := k, slots := n, locals := Y.2.2.2.2.2 }).room s m (av.map (zTr as ex)).toArray meth c D cA ex (va_A (zWd cA as ex M 0 sh) sz) :=
    ⟨B.exec, B.bytes, hml, findClass_of_methodNamed B.named, fun w hw => hts w (List.mem_cons_of_mem _ hw), hK, fun q hq => Or.inr (by rw [← hsz]; exact hq), hSt, hfl, B.notSynchronized, B.returns, fun h9 => (name_of_methodNamed B.named B.method).1.trans h9, Nat.le_refl _, Nat.le_refl _⟩
  have hl := lv_entry (av.map (zTr as ex)) (n := Y.2.2.1) (by rw [zLg_len hc1]; exact hnl)
  rw [lg_entry_eq]
  refine h p l e _ s m _ below meth c D cA ex _ E _ 0 0 as (by rw [Nat.zero_add]; exact Nat.le_refl _) (by rw [Nat.zero_add]; exact Nat.le_refl _) ?_ s.heap [] _ hP hD va_S.rf ⟨hl.1, hl.2.1, fun q hq => hl.2.2 q (zAl_mem hc1 hq)⟩
  rintro ⟨pc, ls, st, sh2, M2⟩ as' hag ⟨rv, sh', M', hR, e1, e2, e3, he⟩
  cases e1
  cases e2
  cases e3
  intro H locs lsR hP2 hD2 hS2 hl2
  rw [Nat.zero_add, Nat.zero_add]
  have post : ∀ t : State, t.heap = H → s.WarmedH t.vm → zPostR D cA as ex sh M sz R (av.map (zTr as ex)).toArray s (.returned (rv.map (zTr as' ex))) t := fun t ht hW => ⟨⟨rv, sh2, M2, as', hR, hag, rfl, by rw [ht]; exact hP2, hD2⟩, hS2.F ht⟩
  rcases he with ⟨v, ty, rfl, e1, e2, e3⟩ | ⟨rfl, e1, e2⟩ | ⟨v, rt, rfl, e1, e2, e3, e4⟩ | ⟨v, rfl, e1, e2⟩ | ⟨v, rfl, e1, e2⟩
  · exact W.zret (v := v) E.1 E.2.1 (B.returns.trans e1) e2 post hS2.2.2 e3 B.notSynchronized
  · exact W.vret E.1 E.2.1 (B.returns.trans e1) post hS2.2.2 e2 B.notSynchronized
  · refine W.aret (v := zTr as' ex v) E.1 E.2.1 (B.returns.trans e1) e2 ?_ post hS2.2.2 e4 B.notSynchronized
    rcases e3 with rfl | ⟨a, rfl⟩ | ⟨a, rfl⟩
    · exact Or.inl rfl
    · exact Or.inr ⟨_, rfl⟩
    · exact Or.inr ⟨_, rfl⟩
  · exact W.fret (v := v) E.1 E.2.1 (B.returns.trans e1) post hS2.2.2 e2 B.notSynchronized
  · exact W.dret (v := v) E.1 E.2.1 (B.returns.trans e1) post hS2.2.2 e2 B.notSynchronized
set_option maxHeartbeats 4000000 in
theorem zCr.ofF {Y : zY} {k n : Nat} {av : List Value} {sh : List va_E} {M : zM} {R : Option Value → List va_E → zM → Prop} (hpl : plainFor Y.1 = true) (hc1 : av.all zC1 = true) (hnl : av.length ≤ Y.2.2.1)
    (h : zT Y k n (zEndR Y R) (0, zAl av Y.2.2.1, [], sh, M)) : zCr Y k n av sh M R := by
  intro l hfl D cA as ex sz
  refine MetFree.of_bodySF (code := Y.2.1) (maxLocals := Y.2.2.1) (ret := Y.2.2.2.1) hpl ?_ ?_
  · intro args s m h hn
    obtain ⟨meth, c, h1, h2, h3, h4, h5, h6, -, -⟩ := Cond.code_spec hn (atoms_spec (ws := zWs Y) h _ List.mem_cons_self)
    exact ⟨meth, c, h1, h2, h3, h4, h5, h6⟩
  intro p e s m args below meth c s₁ B hml hv _
  suffices hW : W p l e (headSpec (zWs Y) { frames := Y.2.2.2.2.1, cells := k, slots := n, locals := Y.2.2.2.2.2 }).room s m args below meth c s.heap [] 0 0 (MQ below (zPostR D cA as ex sh M sz R) args s k n (va_A (zWd cA as ex M 0 sh) sz)) (entryFrame m args Y.2.2.1) by
    have hh0 : s₁.heap = s.heap := by rw [B.state]; rfl
    obtain ⟨t, a1, o, b1, b2, b3⟩ := hW s₁ hh0 (Stand.of_body B)
    exact ⟨t, o, a1, b1, b2, b3⟩
  obtain ⟨rfl, hsz, hP, hK, hD0, hSt⟩ := hv
  have hts := atoms_spec (ws := zWs Y) B.pre
  have hD := hD0.self (sz := sz)
  have E : zEv Y p l (headSpec (zWs Y) { frames := Y.2.2.2.2.1, cells := k, slots := n, locals := Y.2.2.2.2.2 }).room s m (av.map (zTr as ex)).toArray meth c D cA ex (va_A (zWd cA as ex M 0 sh) sz) :=
    ⟨B.exec, B.bytes, hml, findClass_of_methodNamed B.named, fun w hw => hts w (List.mem_cons_of_mem _ hw), hK, fun q hq => Or.inr (by rw [← hsz]; exact hq), hSt, hfl, B.notSynchronized, B.returns, fun h9 => (name_of_methodNamed B.named B.method).1.trans h9, Nat.le_refl _, Nat.le_refl _⟩
  have hl := lv_entry (av.map (zTr as ex)) (n := Y.2.2.1) (by rw [zLg_len hc1]; exact hnl)
  rw [lg_entry_eq]
  refine h p l e _ s m _ below meth c D cA ex _ E _ 0 0 as (by rw [Nat.zero_add]; exact Nat.le_refl _) (by rw [Nat.zero_add]; exact Nat.le_refl _) ?_ s.heap [] _ hP hD va_S.rf ⟨hl.1, hl.2.1, fun q hq => hl.2.2 q (zAl_mem hc1 hq)⟩
  rintro ⟨pc, ls, st, sh2, M2⟩ as' hag ⟨rv, sh', M', hR, e1, e2, e3, he⟩
  cases e1
  cases e2
  cases e3
  intro H locs lsR hP2 hD2 hS2 hl2
  rw [Nat.zero_add, Nat.zero_add]
  have post : ∀ t : State, t.heap = H → s.WarmedH t.vm → zPostR D cA as ex sh M sz R (av.map (zTr as ex)).toArray s (.returned (rv.map (zTr as' ex))) t := fun t ht hW => ⟨⟨rv, sh2, M2, as', hR, hag, rfl, by rw [ht]; exact hP2, hD2⟩, hS2.F ht⟩
  rcases he with ⟨v, ty, rfl, e1, e2, e3⟩ | ⟨rfl, e1, e2⟩ | ⟨v, rt, rfl, e1, e2, e3, e4⟩ | ⟨v, rfl, e1, e2⟩ | ⟨v, rfl, e1, e2⟩
  · exact W.zret (v := v) E.1 E.2.1 (B.returns.trans e1) e2 post hS2.2.2 e3 B.notSynchronized
  · exact W.vret E.1 E.2.1 (B.returns.trans e1) post hS2.2.2 e2 B.notSynchronized
  · refine W.aret (v := zTr as' ex v) E.1 E.2.1 (B.returns.trans e1) e2 ?_ post hS2.2.2 e4 B.notSynchronized
    rcases e3 with rfl | ⟨a, rfl⟩ | ⟨a, rfl⟩
    · exact Or.inl rfl
    · exact Or.inr ⟨_, rfl⟩
    · exact Or.inr ⟨_, rfl⟩
  · exact W.fret (v := v) E.1 E.2.1 (B.returns.trans e1) post hS2.2.2 e2 B.notSynchronized
  · exact W.dret (v := v) E.1 E.2.1 (B.returns.trans e1) post hS2.2.2 e2 B.notSynchronized
section ZRC
variable {Y Yc : zY} {kc nc k1 n1 : Nat} {Z : zS → Prop} {pc idx n : Nat} {ls : zL} {st S0 : List Value} {sh : List va_E} {M : zM} {av : List Value} {R : Option Value → List va_E → zM → Prop}
theorem zT.retI {v : Int32} {ty : FieldType} (hR : R (some (.int v)) sh M) (hr : Y.2.2.2.1 = some ty) (hn : narrow ty (.int v) = .int v) (hd : decode Y.2.1 pc = .ok (.ireturn, 1)) : zT Y 0 0 (zEndR Y R) (pc, ls, [.int v], sh, M) :=
  zT.here ⟨_, _, _, hR, rfl, rfl, rfl, Or.inl ⟨v, ty, rfl, hr, hn, hd⟩⟩
theorem zT.retV (hR : R none sh M) (hr : Y.2.2.2.1 = none) (hd : decode Y.2.1 pc = .ok (.return_, 1)) : zT Y 0 0 (zEndR Y R) (pc, ls, [], sh, M) :=
  zT.here ⟨_, _, _, hR, rfl, rfl, rfl, Or.inr (Or.inl ⟨rfl, hr, hd⟩)⟩
theorem zT.retA {o : Nat} {nm : String} (hR : R (some (.ref o)) sh M) (hr : Y.2.2.2.1 = some (.object nm)) (hd : decode Y.2.1 pc = .ok (.areturn, 1)) : zT Y 0 0 (zEndR Y R) (pc, ls, [.ref o], sh, M) :=
  zT.here ⟨_, _, _, hR, rfl, rfl, rfl, Or.inr (Or.inr (Or.inl ⟨_, _, rfl, hr, Or.inl ⟨nm, rfl⟩, Or.inr (Or.inl ⟨o, rfl⟩), hd⟩))⟩
theorem zT.retQ {o : Nat} {ty : FieldType} (hR : R (some (.ref o)) sh M) (hr : Y.2.2.2.1 = some (.array ty)) (hd : decode Y.2.1 pc = .ok (.areturn, 1)) : zT Y 0 0 (zEndR Y R) (pc, ls, [.ref o], sh, M) :=
  zT.here ⟨_, _, _, hR, rfl, rfl, rfl, Or.inr (Or.inr (Or.inl ⟨_, _, rfl, hr, Or.inr ⟨ty, rfl⟩, Or.inr (Or.inl ⟨o, rfl⟩), hd⟩))⟩
end ZRC
section ZRG
variable {Y Yc : zY} {kc nc k1 n1 : Nat} {Z : zS → Prop} {pc idx : Nat} {ls : zL} {st : List Value} {pre sc : List va_E} {M N : zM} {b o : Nat} {av : List Value} {R : Option Value → List va_E → zM → Prop}
set_option maxHeartbeats 2000000 in
theorem zGcallR {p : Program} {l : Launch} {e : Jvm.Env} {RR : Room} {s : State} {m : MethodId} {args : Array Value} {below : List Frame} {meth : Method} {c : Code} {D : va_G} {cA : Nat → ClassId} {ex : Nat → Nat} {A : Nat → Prop} {Q : State → Prop} {cells slots : Nat} {as : Nat → Nat} {S0 : List Value}
    (E : zEv Y p l RR s m args meth c D cA ex A) (hb : pre.length = b) (hcs : zCs (b + sc.length) pre) (hls : zLb (b + sc.length) ls = true) (hst : st.all (zVb (b + sc.length)) = true) (hN : ∀ j, j < sc.length → N j = M (b + j))
    (hrun : ∀ (H : Heap) (locs : List Loc) (lsR : Array Slot), va_P D vwCl (zWd cA as ex M 0 (pre ++ sc.map (zRe b))) H → va_D A (zWd cA as ex M 0 (pre ++ sc.map (zRe b))) → va_S A s.heap H locs → lv_has lsR Y.2.2.1 (zLv as ex 0 ls) →
      ∃ a, va_Run p l e RR s m args below meth c H locs cells slots k1 n1 (F0 m pc lsR (S0.map (zTr as ex))) (st.map (zTr as ex)) (zPostR D cA (fun k => as (b + k)) ex sc N H.size R a) (va_A (zWd cA (fun k => as (b + k)) ex N 0 sc) H.size))
    (k9 : ∀ rv sc' N', R rv sc' N' → ∀ as' : Nat → Nat, zAg (b + sc.length) (b + sc'.length) as as' → zG Y p l e RR s m args below meth c D cA ex A Q (cells + k1) (slots + n1) as' (pc + 3, ls, (rv.map (zRv b)).toList ++ st, pre ++ sc'.map (zRe b), zPs M b sc'.length N')) : zG Y p l e RR s m args below meth c D cA ex A Q cells slots as (pc, ls, S0, pre ++ sc.map (zRe b), M) := by
  intro H locs lsR hP hD hS hl
  obtain ⟨a, hr⟩ := hrun H locs lsR hP hD hS hl
  have hs : zSub (pre ++ sc.map (zRe b)) b sc := zSub.end hb
  have hF := hs.free (cA := cA) (ex := ex) hN hD hS E.2.2.2.2.2.2.1
  refine zAfter (B := fun v t => ∃ (rv : Option Value) (sc' : List va_E) (N' : zM) (as' : Nat → Nat), R rv sc' N' ∧ zAg sc.length sc'.length (fun k => as (b + k)) as' ∧ v = rv.map (zTr as' ex) ∧ va_P D vwCl (zWd cA as' ex N' 0 sc') t.heap ∧ va_D (va_A (zWd cA (fun k => as (b + k)) ex N 0 sc) H.size) (zWd cA as' ex N' 0 sc')) (A1 := va_A (zWd cA (fun k => as (b + k)) ex N 0 sc) H.size) (A0 := A) hr ?_ hS (fun q _ h => hF q h) hF ?_
  · rintro st9 v t ⟨⟨rv, sc', N', as', h0, h1, h2, h3, h4⟩, h5⟩
    exact ⟨⟨rv, sc', N', as', h0, h1, Outcome.returned.inj h2, h3, h4⟩, h5⟩
  · rintro v t H1 locs1 ht ⟨rv, sc', N', as2, hR, hag, rfl, hP1, hD1⟩ hz hk hS1
    rw [ht] at hP1
    have hlt : ∀ k, k < b + sc.length → zAsG as as2 b k = as k := fun k hk9 => by
      unfold zAsG
      split
      · rfl
      · have := hag.2 (k - b) (Or.inl (by omega))
        rw [this]
        show as (b + (k - b)) = as k
        congr 1
        omega
    have hgt : ∀ k, b + sc'.length ≤ k → zAsG as as2 b k = as k := fun k hk9 => by
      unfold zAsG
      rw [if_neg (by omega)]
      have := hag.2 (k - b) (Or.inr (by omega))
      rw [this]
      show as (b + (k - b)) = as k
      congr 1
      omega
    have hin : (fun k => zAsG as as2 b (b + k)) = as2 := by
      funext k
      unfold zAsG
      rw [if_neg (by omega)]
      congr 1
      omega
    have hw : zWd cA (zAsG as as2 b) ex (zPs M b sc'.length N') 0 (pre ++ sc'.map (zRe b)) = zWd cA as ex M 0 pre ++ zWd cA as2 ex N' 0 sc' := by
      rw [zWd_app, zWd_as (n := b + sc.length) (as := as) hcs (by omega) hlt, zWd_M (M := M) (fun k _ hk => zPs_out (Or.inl (by omega)))]
      congr 1
      rw [show 0 + pre.length = b + 0 by omega, zWd_re (N := N') (j := 0) (fun k _ h2 => by rw [zPs_in (by omega) (by omega)]; congr 1; omega), hin]
    have hpre : ∀ (k : Nat) (q : Nat × va_E), (zWd cA as ex M 0 pre)[k]? = some q → k < b ∧ (zWd cA as ex M 0 (pre ++ sc.map (zRe b)))[k]? = some q := fun k q h => by
      have hkl : k < b := by
        have := (List.getElem?_eq_some_iff.mp h).1
        rw [zWd_len] at this
        omega
      refine ⟨hkl, ?_⟩
      rw [zWd_app, List.getElem?_append_left (by rw [zWd_len]; omega)]
      exact h
    have apart : ∀ (k : Nat) (q : Nat × va_E), (zWd cA as ex M 0 pre)[k]? = some q → q.1 < H.size ∧ ¬ va_A (zWd cA (fun k => as (b + k)) ex N 0 sc) H.size q.1 := by
      intro k q h
      obtain ⟨hkl, h⟩ := hpre k q h
      have hlt9 := (hP k q h).lt
      refine ⟨hlt9, fun h9 => ?_⟩
      rcases h9 with ⟨j, x, h9⟩ | h9
      · have h8 := hs.wd hN h9
        have := hD.1 k (b + j) q (q.1, x) h h8.2 rfl
        omega
      · omega
    have hP2 : va_P D vwCl (zWd cA (zAsG as as2 b) ex (zPs M b sc'.length N') 0 (pre ++ sc'.map (zRe b))) H1 := by
      rw [hw]
      refine va_P.app (va_P.kept (H := H) (fun k q h => hP k q (hpre k q h).2) (fun k q h => hk q.1 (apart k q h).1 (apart k q h).2)) (fun k x hx => hP1 k x hx)
    have hD2 : va_D A (zWd cA (zAsG as as2 b) ex (zPs M b sc'.length N') 0 (pre ++ sc'.map (zRe b))) := by
      rw [hw]
      refine va_D.app ⟨fun i j x y hi hj hxy => hD.1 i j x y (hpre i x hi).2 (hpre j y hj).2 hxy, fun k q h => hD.2 k q (hpre k q h).2⟩ (hD1.weaken (fun k q _ h => hF _ h)) (fun i j x y hi hj hxy => (apart i x hi).2 (by rw [hxy]; exact hD1.2 j y hj))
    have hag2 : zAg (b + sc.length) (b + sc'.length) as (zAsG as as2 b) := ⟨by have := hag.1; omega, fun k hk9 => hk9.elim (hlt k) (hgt k)⟩
    have := k9 rv sc' N' hR (zAsG as as2 b) hag2 H1 locs1 lsR hP2 hD2 hS1 (by show lv_has lsR Y.2.2.1 (zLv _ ex 0 ls); rw [zLv_as hlt hls]; exact hl)
    have e9 : (((rv.map (zRv b)).toList ++ st).map (zTr (zAsG as as2 b) ex)) = (rv.map (zTr as2 ex)).toList ++ st.map (zTr as ex) := by
      rw [List.map_append, zVb_trs hlt hst]
      congr 1
      cases rv with
      | none => rfl
      | some v =>
        show [zTr (zAsG as as2 b) ex (zRv b v)] = [zTr as2 ex v]
        rw [← zTr_rv, hin]
    rw [e9] at this
    exact this
theorem zT.callVr {n ci : Nat} {fs : List Value} (hC : zCr Yc k1 n1 (.ref o :: av) sc N R) (hb : pre.length = b) (hcs : zCs (b + sc.length) pre) (hls : zLb (b + sc.length) ls = true) (hst : st.all (zVb (b + sc.length)) = true) (hN : ∀ j, j < sc.length → N j = M (b + j))
    (ho : zSg sc o = some (.inr (ci, fs))) (hol : o < sc.length) (hcl : (vwCl[ci]?).map (fun q => q.1) = some Yc.1.cls) (hn : av.length = n) (hok : zCal Yc n) (hlk : Cond.methodLink Y.1.cls idx Yc.1 ∈ zW) (hroom : zRoom Y Yc = true) (hw : (st.map fun v => v.category).sum ≤ 8)
    (hd : decode Y.2.1 pc = .ok (.invokevirtual idx, 3)) {S0 : List Value} (h0 : S0 = (av.map (zRv b)).reverse ++ .ref (b + o) :: st)
    (k9 : ∀ rv sc' N', R rv sc' N' → zT Y kc nc Z (pc + 3, ls, (rv.map (zRv b)).toList ++ st, pre ++ sc'.map (zRe b), zPs M b sc'.length N')) : zT Y (k1 + kc) (n1 + nc) Z (pc, ls, S0, pre ++ sc.map (zRe b), M) := by
  subst h0
  obtain ⟨hok, hv⟩ := hok
  intro p l e RR s m args below meth c D cA ex A E Q cells slots as g1 g2 kk
  refine zGcallR (R := R) (sc := sc) (N := N) (k1 := k1) (n1 := n1) (S0 := (av.map (zRv b)).reverse ++ .ref (b + o) :: st) E hb hcs hls hst hN ?_ (fun rv sc' N' hR as' hag => k9 rv sc' N' hR p l e RR s m args below meth c D cA ex A E Q (cells + k1) (slots + n1) as' (by omega) (by omega) fun S' as2 ha hz => ?_)
  · intro H locs lsR hP hD hS hl
    simp only [zRoom, Bool.and_eq_true, decide_eq_true_eq] at hroom
    have hts := E.2.2.2.2.1
    have cw : CallW RR s args Y.1.cls Yc.1.cls idx Yc.1 Yc.2.1 Yc.2.2.1 Yc.2.2.2.1 (zWs Yc) { frames := Yc.2.2.2.2.1, cells := k1, slots := n1, locals := Yc.2.2.2.2.2 } k1 n1 n :=
      ⟨callB_of n hts (zGoodIn hok.1.1.1) rfl rfl rfl (hts _ hok.1.1.2) (hts _ hlk) hok.1.2 ⟨Nat.le_trans hroom.1 E.2.2.2.2.2.2.2.2.2.2.2.2.1, Nat.le_trans hroom.2 E.2.2.2.2.2.2.2.2.2.2.2.2.2⟩, hts _ hv.1, hts _ hv.2⟩
    cases hq : vwCl[ci]? with
    | none => rw [hq] at hcl; cases hcl
    | some q =>
      rw [hq] at hcl
      have hcl : q.1 = Yc.1.cls := Option.some.inj hcl
      refine ⟨_, va_runV (cc := Y.2.1) (nL := Y.2.2.1) (b := as (b + o)) (As := av.map (zTr (fun k => as (b + k)) ex)) (rest := st.map (zTr as ex)) ⟨E.1, E.2.1, E.2.2.1, E.2.2.2.1, hts⟩ (hC l E.2.2.2.2.2.2.2.2.1 D cA (fun k => as (b + k)) ex H.size) cw ⟨zPre_blind, ?_, ?_⟩ rfl (by rw [List.length_map]; exact hn) hl.1 ?_ (lv_room (by rw [zTr_sum]; exact hw)) hd ⟨by omega, by omega⟩⟩
      · rw [← hcl]
        have ho2 : zSg (pre ++ sc.map (zRe b)) (b + o) = some (.inr (ci, fs.map (zRv b))) := by rw [zSub.end hb o hol, ho]; rfl
        exact va_recv E.2.2.2.2.2.1 hP hq (zWd_at ho2)
      · exact zPre_of (av := .ref o :: av) (zSub.end hb) hN E.2.2.2.2.2.1 E.2.2.2.2.2.2.2.1 E.2.2.2.2.2.2.1 hP hD hS rfl
      · rw [zMapRv]
        simp [List.map_reverse]
        rfl
  · rw [← Nat.add_assoc, ← Nat.add_assoc] at kk
    refine kk S' as2 ?_ hz
    have hl1 : (pre ++ sc.map (zRe b)).length = b + sc.length := by simp [hb]
    have hl2 : (pre ++ sc'.map (zRe b)).length = b + sc'.length := by simp [hb]
    have ha : zAg (pre ++ sc'.map (zRe b)).length S'.2.2.2.1.length as' as2 := ha
    show zAg (pre ++ sc.map (zRe b)).length _ as as2
    rw [hl1]
    rw [hl2] at ha
    exact ⟨Nat.le_trans hag.1 ha.1, fun q hq => by
      rcases hq with hq | hq
      · rw [ha.2 q (Or.inl (Nat.lt_of_lt_of_le hq hag.1)), hag.2 q (Or.inl hq)]
      · rw [ha.2 q (Or.inr hq), hag.2 q (Or.inr (Nat.le_trans ha.1 hq))]⟩
/-- what the tables say of a static method, of any class -/
def zCad (Y : zY) (n : Nat) : Prop := ((Cond.code Y.1 Y.2.1 Y.2.2.1 Y.2.2.2.1 ∈ zW ∧ Cond.initialized Y.1.cls ∈ zW) ∧ (Y.1.cls ≠ "java/lang/invoke/MethodHandle" ∧ Y.1.cls ≠ "java/lang/invoke/VarHandle" ∧ (parseMethodDescriptor Y.1.desc).map (fun d => d.parameters.length) = some n)) ∧ zOkS Y
theorem zT.callSr {n : Nat} (hC : zCr Yc k1 n1 av sc N R) (hb : pre.length = b) (hcs : zCs (b + sc.length) pre) (hls : zLb (b + sc.length) ls = true) (hst : st.all (zVb (b + sc.length)) = true) (hN : ∀ j, j < sc.length → N j = M (b + j))
    (hn : av.length = n) (hok : zCad Yc n) (hlk : Cond.methodLink Y.1.cls idx Yc.1 ∈ zW) (hroom : zRoom Y Yc = true) (hw : (st.map fun v => v.category).sum ≤ 8)
    (hd : decode Y.2.1 pc = .ok (.invokestatic idx, 3)) {S0 : List Value} (h0 : S0 = (av.map (zRv b)).reverse ++ st)
    (k9 : ∀ rv sc' N', R rv sc' N' → zT Y kc nc Z (pc + 3, ls, (rv.map (zRv b)).toList ++ st, pre ++ sc'.map (zRe b), zPs M b sc'.length N')) : zT Y (k1 + kc) (n1 + nc) Z (pc, ls, S0, pre ++ sc.map (zRe b), M) := by
  subst h0
  obtain ⟨hok, hv⟩ := hok
  intro p l e RR s m args below meth c D cA ex A E Q cells slots as g1 g2 kk
  refine zGcallR (R := R) (sc := sc) (N := N) (k1 := k1) (n1 := n1) (S0 := (av.map (zRv b)).reverse ++ st) E hb hcs hls hst hN ?_ (fun rv sc' N' hR as' hag => k9 rv sc' N' hR p l e RR s m args below meth c D cA ex A E Q (cells + k1) (slots + n1) as' (by omega) (by omega) fun S' as2 ha hz => ?_)
  · intro H locs lsR hP hD hS hl
    simp only [zRoom, Bool.and_eq_true, decide_eq_true_eq] at hroom
    have hts := E.2.2.2.2.1
    refine ⟨_, va_runS (cc := Y.2.1) (nL := Y.2.2.1) (As := av.map (zTr (fun k => as (b + k)) ex)) (rest := st.map (zTr as ex)) ⟨E.1, E.2.1, E.2.2.1, E.2.2.2.1, hts⟩ (hC l E.2.2.2.2.2.2.2.2.1 D cA (fun k => as (b + k)) ex H.size)
      ⟨callB_of n hts (zGoodIn hok.1.1) rfl rfl rfl (hts _ hok.1.2) (hts _ hlk) hok.2 ⟨Nat.le_trans hroom.1 E.2.2.2.2.2.2.2.2.2.2.2.2.1, Nat.le_trans hroom.2 E.2.2.2.2.2.2.2.2.2.2.2.2.2⟩, hts _ hv⟩ ⟨zPre_blind, ?_⟩ rfl (by rw [List.length_map]; exact hn) hl.1 ?_ (lv_room (by rw [zTr_sum]; exact hw)) hd ⟨by omega, by omega⟩⟩
    · exact zPre_of (av := av) (zSub.end hb) hN E.2.2.2.2.2.1 E.2.2.2.2.2.2.2.1 E.2.2.2.2.2.2.1 hP hD hS rfl
    · rw [zMapRv]
      simp [List.map_reverse]
  · rw [← Nat.add_assoc, ← Nat.add_assoc] at kk
    refine kk S' as2 ?_ hz
    have hl1 : (pre ++ sc.map (zRe b)).length = b + sc.length := by simp [hb]
    have hl2 : (pre ++ sc'.map (zRe b)).length = b + sc'.length := by simp [hb]
    have ha : zAg (pre ++ sc'.map (zRe b)).length S'.2.2.2.1.length as' as2 := ha
    show zAg (pre ++ sc.map (zRe b)).length _ as as2
    rw [hl1]
    rw [hl2] at ha
    exact ⟨Nat.le_trans hag.1 ha.1, fun q hq => by
      rcases hq with hq | hq
      · rw [ha.2 q (Or.inl (Nat.lt_of_lt_of_le hq hag.1)), hag.2 q (Or.inl hq)]
      · rw [ha.2 q (Or.inr hq), hag.2 q (Or.inr (Nat.le_trans ha.1 hq))]⟩
end ZRG
theorem zMapRe0 : ∀ (sh : List va_E), sh.map (zRe 0) = sh
  | [] => rfl
  | q :: r => by rw [List.map_cons, zRe_0, zMapRe0 r]
theorem zRv0 (v : Value) : zRv 0 v = v := by cases v <;> first | rfl | (show Value.ref (0 + _) = _; rw [Nat.zero_add])
theorem zMapRv0 : ∀ (l : List Value), l.map (zRv 0) = l
  | [] => rfl
  | q :: r => by rw [List.map_cons, zRv0, zMapRv0 r]
section ZRW
variable {Y Yc : zY} {kc nc k1 n1 : Nat} {Z : zS → Prop} {pc idx n : Nat} {ls : zL} {st S0 : List Value} {sh : List va_E} {M : zM} {av : List Value} {R : Option Value → List va_E → zM → Prop}
/-- a static method over the whole world, which may grow -/
theorem zT.cSr (hC : zCr Yc k1 n1 av sh M R) (hls : zLb sh.length ls = true) (hst : st.all (zVb sh.length) = true) (hn : av.length = n) (hok : zCad Yc n) (hlk : Cond.methodLink Y.1.cls idx Yc.1 ∈ zW) (hroom : zRoom Y Yc = true) (hw : (st.map fun v => v.category).sum ≤ 8)
    (hd : decode Y.2.1 pc = .ok (.invokestatic idx, 3)) (h0 : S0 = av.reverse ++ st) (k9 : ∀ rv sh' M', R rv sh' M' → zT Y kc nc Z (pc + 3, ls, rv.toList ++ st, sh', M')) : zT Y (k1 + kc) (n1 + nc) Z (pc, ls, S0, sh, M) := by
  have h := zT.callSr (Y := Y) (kc := kc) (nc := nc) (Z := Z) (pc := pc) (idx := idx) (ls := ls) (st := st) (pre := []) (b := 0) (S0 := S0) hC rfl (fun q hq => (by cases hq)) (by rw [Nat.zero_add]; exact hls) (by rw [Nat.zero_add]; exact hst) (M := M) (fun j _ => by rw [Nat.zero_add]) hn hok hlk hroom hw hd (by rw [zMapRv0]; exact h0) (fun rv sc' N' hR => ?_)
  · rw [List.nil_append, zMapRe0] at h
    exact h
  · rw [List.nil_append, zMapRe0, show rv.map (zRv 0) = rv by cases rv <;> simp [zRv0]]
    exact zT.congM (M2 := N') (fun k hk => zPs_all hk) (k9 rv sc' N' hR)
/-- a static method that touches nothing of the world, and answers an int -/
theorem zT.cSi {P : Int32 → Prop} (hC : zCr Yc 0 0 av [] zM0 (fun rv sh' _ => sh' = [] ∧ ∃ v, P v ∧ rv = some (.int v))) (hn : av.length = n) (hok : zCad Yc n) (hlk : Cond.methodLink Y.1.cls idx Yc.1 ∈ zW) (hroom : zRoom Y Yc = true) (hw : (st.map fun v => v.category).sum ≤ 8)
    (hls : zLb sh.length ls = true) (hst : st.all (zVb sh.length) = true) (hcs : zCs sh.length sh) (hd : decode Y.2.1 pc = .ok (.invokestatic idx, 3)) (h0 : S0 = av.reverse ++ st) (hr : av.map (zRv sh.length) = av) (k9 : ∀ v, P v → zT Y kc nc Z (pc + 3, ls, .int v :: st, sh, M)) : zT Y kc nc Z (pc, ls, S0, sh, M) := by
  have h := zT.callSr (Y := Y) (kc := kc) (nc := nc) (Z := Z) (pc := pc) (idx := idx) (ls := ls) (st := st) (pre := sh) (b := sh.length) (S0 := S0) (M := M) hC rfl (by rw [List.length_nil, Nat.add_zero]; exact hcs) (by rw [List.length_nil, Nat.add_zero]; exact hls) (by rw [List.length_nil, Nat.add_zero]; exact hst) (fun j hj => absurd hj (Nat.not_lt_zero j)) hn hok hlk hroom hw hd (by rw [hr]; exact h0) (fun rv sc' N' hR => ?_)
  · rw [Nat.zero_add, Nat.zero_add, List.map_nil, List.append_nil] at h
    exact h
  · obtain ⟨rfl, v, hv, rfl⟩ := hR
    rw [List.map_nil, List.append_nil]
    exact zT.congM (M2 := M) (fun k _ => zPs_nil) (k9 v hv)
/-- a wrapper over the whole world -/
theorem zT.cSw {hh : List (Nat × Nat × Nat × Nat)} {rv : Option Value} {N' : zM} (hC : zCW Yc hh 0 0 av sh M rv sh N') (hn : av.length = n) (hok : zOkW Yc hh n) (hlk : Cond.methodLink Y.1.cls idx Yc.1 ∈ zW) (hroom : zRoom Y Yc = true) (hw : (st.map fun v => v.category).sum ≤ 8)
    (hd : decode Y.2.1 pc = .ok (.invokestatic idx, 3)) (h0 : S0 = av.reverse ++ st) {S1 : List Value} (h1 : S1 = rv.toList ++ st) (k9 : zT Y kc nc Z (pc + 3, ls, S1, sh, N')) : zT Y kc nc Z (pc, ls, S0, sh, M) := by
  subst h1
  have h := zT.callSW (Y := Y) (kc := kc) (nc := nc) (Z := Z) (pc := pc) (idx := idx) (ls := ls) (st := st) (b := 0) (S0 := S0) (M := M) hC (zSub.all sh) (fun j _ => by rw [Nat.zero_add]) (zBack.same (zSub.all sh) rfl) rfl hn hok hlk hroom hw hd (by rw [zMapRv0]; exact h0) ?_
  · rw [Nat.zero_add, Nat.zero_add] at h
    exact h
  · rw [show rv.map (zRv 0) = rv by cases rv <;> simp [zRv0]]
    exact zT.congM (M2 := N') (fun k hk => zPs_all hk) k9
/-- an instance method over the whole world, by its exact contract -/
theorem zT.cVx {o : Nat} {rv : Option Value} {N' : zM} (hC : zC Yc 0 0 (.ref o :: av) sh M rv sh N') (hok : zCal Yc n) (ci : Nat) (fs : List Value) (ho : zSg sh (0 + o) = some (.inr (ci, fs))) (hcl : (vwCl[ci]?).map (fun q => q.1) = some Yc.1.cls) (hn : av.length = n) (hlk : Cond.methodLink Y.1.cls idx Yc.1 ∈ zW) (hroom : zRoom Y Yc = true)
    (hw : (st.map fun v => v.category).sum ≤ 8) (hd : decode Y.2.1 pc = .ok (.invokevirtual idx, 3)) (h0 : S0 = av.reverse ++ .ref o :: st) {S1 : List Value} (h1 : S1 = rv.toList ++ st) (k9 : zT Y kc nc Z (pc + 3, ls, S1, sh, N')) : zT Y kc nc Z (pc, ls, S0, sh, M) :=
  zT.cV_all hC hok ci fs ho hcl hn hlk hroom hd (by rw [zMapRv0, Nat.zero_add]; exact h0) hw (by rw [show rv.map (zRv 0) = rv by cases rv <;> simp [zRv0]]; exact h1) k9
end ZRW
