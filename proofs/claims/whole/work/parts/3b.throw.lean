/-! THROWING: a method that throws E, and leaves the world sh, M' -/
def zNames : List String := ["java/lang/RuntimeException", "java/lang/Exception"]
theorem zTraces {l : Launch} (h : l.flags = flags0) : l.stackTraces = false := by
  unfold Launch.stackTraces
  rw [h]
  decide +kernel
def zXC (D : va_G) (cA : Nat → ClassId) (as ex : Nat → Nat) (sh : List va_E) (M : zM) (sz : Nat) (E : String) (M' : zM) : String → State → State → Prop := fun E' st t =>
  E' = E ∧ va_P D vwCl (zWd cA as ex M' 0 sh) t.heap ∧ va_D (va_A (zWd cA as ex M 0 sh) sz) (zWd cA as ex M' 0 sh) ∧ va_F (va_A (zWd cA as ex M 0 sh) sz) st t
def zXr (Y : zY) (k n : Nat) (av : List Value) (sh : List va_E) (M : zM) (E : String) (M' : zM) : Prop :=
  ∀ (l : Launch), l.flags = flags0 → ∀ (D : va_G) (cA : Nat → ClassId) (as ex : Nat → Nat) (sz : Nat),
    vx_Met l Y.1 (zWs Y) { frames := Y.2.2.2.2.1, cells := k, slots := n, locals := Y.2.2.2.2.2 } (zPre D cA as ex av sh M sz) (fun _ _ _ _ => False) (zXC D cA as ex sh M sz E M') k n (va_A (zWd cA as ex M 0 sh) sz)
/-- what a throw's text needs of the tables -/
def zTW (own : String) (ic : Nat) (E : String) (w : Cond) : Prop := w ∈ vx_atS own ic E zNames
theorem zAtW {args : Array Value} {s : State} {L : List Cond} (h : ∀ w ∈ L, w ∈ zW ∨ (w ∈ zNw ∧ w.onTables = true)) (h1 : ∀ w ∈ zW, w.before args s = true) (h2 : ∀ w ∈ zNw, va_Nw w s) : ∀ w ∈ L, w.before args s = true := fun w hw => by
  rcases h w hw with a | ⟨a, b⟩
  · exact h1 w a
  · exact va_Nw.use b (h2 w a)
/-- a throw of a new exception with a text, right there -/
def zLeaf (Y : zY) (E : String) (pc : Nat) : Prop :=
  ∃ (text : String) (sa ik is ic : Nat), Bundle.fit E = true ∧ Cond.classLink Y.1.cls ik E ∈ zW ∧ Cond.initialized E ∈ zW ∧ (Y.1.cls, is, text, sa) ∈ zRs ∧
    (∀ w ∈ vx_atS Y.1.cls ic E zNames, w ∈ zW ∨ (w ∈ zNw ∧ w.onTables = true)) ∧ (∀ w ∈ Cond.classLink Y.1.cls ik E :: Cond.initialized E :: vx_atS Y.1.cls ic E zNames, vx_ot w = true) ∧
    decode Y.2.1 pc = .ok (.new ik, 3) ∧ decode Y.2.1 (pc + 3) = .ok (.dup, 1) ∧
    ((decode Y.2.1 (pc + 4) = .ok (.ldc is, 2) ∧ decode Y.2.1 (pc + 6) = .ok (.invokespecial ic, 3) ∧ decode Y.2.1 (pc + 9) = .ok (.athrow, 1)) ∨
     (decode Y.2.1 (pc + 4) = .ok (.ldc_w is, 3) ∧ decode Y.2.1 (pc + 7) = .ok (.invokespecial ic, 3) ∧ decode Y.2.1 (pc + 10) = .ok (.athrow, 1)))
theorem zFit : ∀ n ∈ zNames, Bundle.fit n = true := by decide +kernel
theorem zAs_same {n : Nat} {as as' : Nat → Nat} (h : zAg n n as as') : as' = as := by
  funext k
  exact h.2 k (by omega)
set_option maxHeartbeats 4000000 in
theorem zXr.leaf {Y : zY} {av : List Value} {sh : List va_E} {M M' : zM} {E : String} (pc : Nat) (ls : zL) (hpl : plainName Y.1.cls = true) (hc1 : av.all zC1 = true) (hnl : av.length ≤ Y.2.2.1) (hlf : zLeaf Y E pc) (hfr : 6 ≤ Y.2.2.2.2.1) (hlo : 82 ≤ Y.2.2.2.2.2)
    (h : zT Y 0 0 (fun S => S = (pc, ls, [], sh, M')) (0, zAl av Y.2.2.1, [], sh, M)) : zXr Y 1 6 av sh M E M' := by
  intro l hfl D cA as ex sz
  refine vx_ofW (cc := Y.2.1) (maxL := Y.2.2.1) (ret := Y.2.2.2.1) (ws' := zW) hpl rfl ?_
  intro p e s m args below meth c s₁ B hml htab hv
  obtain ⟨rfl, hsz, hP, hK, hD0, hSt⟩ := hv
  have hts := atoms_spec (ws := zWs Y) B.pre
  have hD := hD0.self (sz := sz)
  have E9 : zEv Y p l (headSpec (zWs Y) { frames := Y.2.2.2.2.1, cells := 1, slots := 6, locals := Y.2.2.2.2.2 }).room s m (av.map (zTr as ex)).toArray meth c D cA ex (va_A (zWd cA as ex M 0 sh) sz) :=
    ⟨B.exec, B.bytes, hml, findClass_of_methodNamed B.named, fun w hw => hts w (List.mem_cons_of_mem _ hw), hK, fun q hq => Or.inr (by rw [← hsz]; exact hq), hSt, hfl, B.notSynchronized, B.returns, fun h9 => (name_of_methodNamed B.named B.method).1.trans h9, Nat.le_refl _, Nat.le_refl _⟩
  have hl := lv_entry (av.map (zTr as ex)) (n := Y.2.2.1) (by rw [zLg_len hc1]; exact hnl)
  rw [lg_entry_eq]
  refine h p l e _ s m _ below meth c D cA ex _ E9 _ 0 0 as (by show 0 + 0 ≤ 1; omega) (by show 0 + 0 ≤ 6; omega) ?_ s.heap [] _ hP hD va_S.rf ⟨hl.1, hl.2.1, fun q hq => hl.2.2 q (zAl_mem hc1 hq)⟩
  intro S' as' hag hz
  subst hz
  cases zAs_same hag
  intro H locs lsR hP2 hD2 hS2 hl2
  obtain ⟨text, sa, ik, is, ic, g1, g2, g3, g4, g5, g6, d0, d3, d9⟩ := hlf
  have hx : ∀ t : State, s.vm.Alike t.vm → H.size ≤ t.heap.size → (∀ q : Nat, q < H.size → t.heap[q]? = H[q]?) → zXC D cA as ex sh M sz E M' E s t := fun t _ h1 h2 =>
    ⟨rfl, hP2.kept (fun k q hq => h2 q.1 (vx_lt hP2 hq)), hD2, Nat.le_trans hS2.1 h1, fun q q1 q2 => (h2 q (Nat.lt_of_lt_of_le q1 hS2.1)).trans (hS2.2.1 q q1 q2)⟩
  rcases d9 with ⟨d4, d6, d9⟩ | ⟨d4, d6, d9⟩
  · exact vx_throwS (own := Y.1.cls) (names := zNames) (text := text) (sa := ex sa) (A := va_A (zWd cA as ex M 0 sh) sz) E9.1 E9.2.1 (zTraces hfl) E9.2.2.2.1 g1 zFit (E9.2.2.2.2.1 _ g2) (E9.2.2.2.2.1 _ g3) (hSt.2.2.2.2.1 _ g4) (zAtW g5 E9.2.2.2.2.1 hSt.2.2.2.2.2.2.2.1) g6 hSt.2.2.2.2.2.1 hSt.2.2.2.2.2.2.1 hS2 (hl2.1.trans hml.symm) d0 d3 d4 d6 d9 (fun x hx => absurd hx (fun h => htab x h)) hfr (by show _ ≤ Y.2.2.2.2.2; simp [zNames]; omega) (Nat.le_refl _) (Nat.le_refl _) B.notSynchronized hx hS2.2.2 (Nat.le_refl _) (Nat.le_refl _)
  · exact vx_throwSW (own := Y.1.cls) (names := zNames) (text := text) (sa := ex sa) (A := va_A (zWd cA as ex M 0 sh) sz) E9.1 E9.2.1 (zTraces hfl) E9.2.2.2.1 g1 zFit (E9.2.2.2.2.1 _ g2) (E9.2.2.2.2.1 _ g3) (hSt.2.2.2.2.1 _ g4) (zAtW g5 E9.2.2.2.2.1 hSt.2.2.2.2.2.2.2.1) g6 hSt.2.2.2.2.2.1 hSt.2.2.2.2.2.2.1 hS2 (hl2.1.trans hml.symm) d0 d3 d4 d6 d9 (fun x hx => absurd hx (fun h => htab x h)) hfr (by show _ ≤ Y.2.2.2.2.2; simp [zNames]; omega) (Nat.le_refl _) (Nat.le_refl _) B.notSynchronized hx hS2.2.2 (Nat.le_refl _) (Nat.le_refl _)
/-- at S a call is made that throws E; where it isn't caught there's k cells more, of n places -/
def zTX (Y : zY) (k n : Nat) (E : String) (M' : zM) (S : zS) : Prop :=
  ∀ (p : Program) (l : Launch) (e : Jvm.Env) (R : Room) (s : State) (m : MethodId) (args : Array Value) (below : List Frame) (meth : Method) (c : Code) (D : va_G) (cA : Nat → ClassId) (ex : Nat → Nat) (A : Nat → Prop), zEv Y p l R s m args meth c D cA ex A →
    ∀ (Q : State → Prop) (cells slots : Nat) (as : Nat → Nat), cells + k ≤ R.cells → slots + n ≤ R.slots →
      (∀ (H : Heap) (locs : List Loc) (lsR : Array Slot) (rest : List Value) (q : Addr) (ce : Cell), va_P D vwCl (zWd cA as ex M' 0 S.2.2.2.1) H → va_D A (zWd cA as ex M' 0 S.2.2.2.1) → va_S A s.heap H locs → lv_has lsR Y.2.2.1 (zLv as ex 0 S.2.1) →
        H[q]? = some ce → ce.vm = .none → s.vm.findClass E = some ce.cls → vx_W p l e R s m args below meth c H locs (cells + k) (slots + n) Q (F0 m S.1 lsR rest) q) →
      zG Y p l e R s m args below meth c D cA ex A Q cells slots as S
set_option maxHeartbeats 4000000 in
/-- not caught here -/
theorem zXr.via {Y : zY} {k n k0 n0 : Nat} {av : List Value} {sh : List va_E} {M M' : zM} {E : String} (hpl : plainName Y.1.cls = true) (hc1 : av.all zC1 = true) (hnl : av.length ≤ Y.2.2.1)
    (h : zT Y k0 n0 (fun S => S.2.2.2.1 = sh ∧ zTX Y k n E M' S) (0, zAl av Y.2.2.1, [], sh, M)) : zXr Y (k0 + k) (n0 + n) av sh M E M' := by
  intro l hfl D cA as ex sz
  refine vx_ofW (cc := Y.2.1) (maxL := Y.2.2.1) (ret := Y.2.2.2.1) (ws' := zW) hpl rfl ?_
  intro p e s m args below meth c s₁ B hml htab hv
  obtain ⟨rfl, hsz, hP, hK, hD0, hSt⟩ := hv
  have hts := atoms_spec (ws := zWs Y) B.pre
  have hD := hD0.self (sz := sz)
  have E9 : zEv Y p l (headSpec (zWs Y) { frames := Y.2.2.2.2.1, cells := k0 + k, slots := n0 + n, locals := Y.2.2.2.2.2 }).room s m (av.map (zTr as ex)).toArray meth c D cA ex (va_A (zWd cA as ex M 0 sh) sz) :=
    ⟨B.exec, B.bytes, hml, findClass_of_methodNamed B.named, fun w hw => hts w (List.mem_cons_of_mem _ hw), hK, fun q hq => Or.inr (by rw [← hsz]; exact hq), hSt, hfl, B.notSynchronized, B.returns, fun h9 => (name_of_methodNamed B.named B.method).1.trans h9, Nat.le_refl _, Nat.le_refl _⟩
  have hl := lv_entry (av.map (zTr as ex)) (n := Y.2.2.1) (by rw [zLg_len hc1]; exact hnl)
  rw [lg_entry_eq]
  refine h p l e _ s m _ below meth c D cA ex _ E9 _ 0 0 as (by show 0 + k0 ≤ k0 + k; omega) (by show 0 + n0 ≤ n0 + n; omega) ?_ s.heap [] _ hP hD va_S.rf ⟨hl.1, hl.2.1, fun q hq => hl.2.2 q (zAl_mem hc1 hq)⟩
  rintro ⟨pc, ls, st, sh2, M2⟩ as' hag ⟨rfl, hx⟩
  cases zAs_same hag
  refine hx p l e _ s m _ below meth c D cA ex _ E9 _ (0 + k0) (0 + n0) as (by show 0 + k0 + k ≤ k0 + k; omega) (by show 0 + n0 + n ≤ n0 + n; omega) ?_
  intro H locs lsR rest q ce hP2 hD2 hS2 hl2 h1 h2 h3
  exact vx_out (E := E) (ce := ce) (fun x hx => absurd hx (fun h => htab x h)) B.notSynchronized h1 h2 h3 (fun t ht _ => ⟨rfl, by rw [ht]; exact hP2, hD2, hS2.F ht⟩) hS2.2.2 (by omega) (by omega)
section ZXC
variable {Y Yc : zY} {k1 n1 : Nat} {pc idx : Nat} {ls : zL} {st : List Value} {sh sc : List va_E} {M N N' : zM} {b o : Nat} {av : List Value} {E : String}
theorem zXcall {p : Program} {l : Launch} {e : Jvm.Env} {R : Room} {s : State} {m : MethodId} {args : Array Value} {below : List Frame} {meth : Method} {c : Code} {D : va_G} {cA : Nat → ClassId} {ex : Nat → Nat} {A : Nat → Prop} {Q : State → Prop} {cells slots : Nat} {as : Nat → Nat} {S0 : List Value}
    (E9 : zEv Y p l R s m args meth c D cA ex A) (hs : zSub sh b sc) (hN : ∀ j, j < sc.length → N j = M (b + j))
    (hrun : ∀ (H : Heap) (locs : List Loc) (lsR : Array Slot), va_P D vwCl (zWd cA as ex M 0 sh) H → va_D A (zWd cA as ex M 0 sh) → va_S A s.heap H locs → lv_has lsR Y.2.2.1 (zLv as ex 0 ls) →
      vx_Run p l e R s m args below meth c H locs cells slots k1 n1 (F0 m pc lsR (S0.map (zTr as ex))) (st.map (zTr as ex)) (fun (_ : State) (_ : Outcome) (_ : State) => False) (zXC D cA (fun k => as (b + k)) ex sc N H.size E N') (va_A (zWd cA (fun k => as (b + k)) ex N 0 sc) H.size))
    (k9 : ∀ (H : Heap) (locs : List Loc) (lsR : Array Slot) (rest : List Value) (q : Addr) (ce : Cell), va_P D vwCl (zWd cA as ex (zPs M b sc.length N') 0 sh) H → va_D A (zWd cA as ex (zPs M b sc.length N') 0 sh) → va_S A s.heap H locs → lv_has lsR Y.2.2.1 (zLv as ex 0 ls) →
        H[q]? = some ce → ce.vm = .none → s.vm.findClass E = some ce.cls → vx_W p l e R s m args below meth c H locs (cells + k1) (slots + n1) Q (F0 m pc lsR rest) q) : zG Y p l e R s m args below meth c D cA ex A Q cells slots as (pc, ls, S0, sh, M) := by
  intro H locs lsR hP hD hS hl
  have hr := hrun H locs lsR hP hD hS hl
  have hF := hs.free (cA := cA) (ex := ex) hN hD hS E9.2.2.2.2.2.2.1
  intro T hT X
  rcases hr T hT X with ⟨v, st₀, t, T', L, -, -, -, -, -, hf, -⟩ | ⟨q, st₀, t, T', L, E', ce, h0, X', hL, e1, e2, ⟨rfl, hP1, hD1, hF1⟩, hce, hcv, hcl, st9⟩
  · exact hf.elim
  · obtain ⟨g1, g2, g3⟩ := vx_keep h0 e1 hS (fun q _ h => hF q h) hF hL hF1
    rw [← e1] at hP1 hce
    obtain ⟨hP2, hD2⟩ := zJoin hs hN (zBack.same hs rfl) rfl hP hD g2 hF hP1 hD1
    obtain ⟨t2, a1, b1⟩ := k9 T'.heap (locs ++ L) lsR (st.map (zTr as ex)) q ce hP2 hD2 g3 hl hce hcv hcl T' rfl X'
    exact ⟨t2, st9.trans a1, b1⟩
theorem zTX.callV {n ci : Nat} {fs : List Value} (b : Nat) (hX : zXr Yc k1 n1 (.ref o :: av) sc (zPl M b) E (zPl M b)) (hs : zSub sh b sc) (hok : zCal Yc n)
    (ho : zSg sh (b + o) = some (.inr (ci, fs))) (hcl : (vwCl[ci]?).map (fun q => q.1) = some Yc.1.cls) (hn : av.length = n) (hlk : Cond.methodLink Y.1.cls idx Yc.1 ∈ zW) (hroom : zRoom Y Yc = true) (hd : decode Y.2.1 pc = .ok (.invokevirtual idx, 3)) {S0 : List Value} (h0 : S0 = (av.map (zRv b)).reverse ++ .ref (b + o) :: st) (hw : (st.map fun v => v.category).sum ≤ 8) :
    zTX Y k1 n1 E M (pc, ls, S0, sh, M) := by
  subst h0
  obtain ⟨hok, hv⟩ := hok
  intro p l e R s m args below meth c D cA ex A E9 Q cells slots as g1 g2 kk
  refine zXcall (E := E) (k1 := k1) (n1 := n1) (st := st) (N := zPl M b) (N' := zPl M b) (S0 := (av.map (zRv b)).reverse ++ .ref (b + o) :: st) E9 hs (fun _ _ => rfl) ?_ ?_
  · intro H locs lsR hP hD hS hl
    simp only [zRoom, Bool.and_eq_true, decide_eq_true_eq] at hroom
    have hts := E9.2.2.2.2.1
    have cw : CallW R s args Y.1.cls Yc.1.cls idx Yc.1 Yc.2.1 Yc.2.2.1 Yc.2.2.2.1 (zWs Yc) { frames := Yc.2.2.2.2.1, cells := k1, slots := n1, locals := Yc.2.2.2.2.2 } k1 n1 n :=
      ⟨callB_of n hts (zGoodIn hok.1.1.1) rfl rfl rfl (hts _ hok.1.1.2) (hts _ hlk) hok.1.2 ⟨Nat.le_trans hroom.1 E9.2.2.2.2.2.2.2.2.2.2.2.2.1, Nat.le_trans hroom.2 E9.2.2.2.2.2.2.2.2.2.2.2.2.2⟩, hts _ hv.1, hts _ hv.2⟩
    cases hq : vwCl[ci]? with
    | none => rw [hq] at hcl; cases hcl
    | some q =>
      rw [hq] at hcl
      have hcl : q.1 = Yc.1.cls := Option.some.inj hcl
      refine vx_runV (cc := Y.2.1) (nL := Y.2.2.1) (b := as (b + o)) (As := av.map (zTr (fun k => as (b + k)) ex)) (rest := st.map (zTr as ex)) ⟨E9.1, E9.2.1, E9.2.2.1, E9.2.2.2.1, hts⟩ (hX l E9.2.2.2.2.2.2.2.2.1 D cA (fun k => as (b + k)) ex H.size) cw ⟨zPre_blind, ?_, ?_⟩ rfl (by rw [List.length_map]; exact hn) hl.1 ?_ (lv_room (by rw [zTr_sum]; exact hw)) hd ⟨by omega, by omega⟩
      · rw [← hcl]
        exact va_recv E9.2.2.2.2.2.1 hP hq (zWd_at ho)
      · exact zPre_of (av := .ref o :: av) hs (fun _ _ => rfl) E9.2.2.2.2.2.1 E9.2.2.2.2.2.2.2.1 E9.2.2.2.2.2.2.1 hP hD hS rfl
      · rw [zMapRv]
        simp [List.map_reverse]
        rfl
  · rw [show zPs M b sc.length (zPl M b) = M from by funext x; exact congrFun (by funext y; exact zPs_pure) x]
    exact kk
theorem zTX.callS {n : Nat} (b : Nat) (hX : zXr Yc k1 n1 av sc (zPl M b) E (zPl M b)) (hs : zSub sh b sc) (hok : zCas Yc n) (hn : av.length = n) (hlk : Cond.methodLink Y.1.cls idx Yc.1 ∈ zW) (hroom : zRoom Y Yc = true) (hd : decode Y.2.1 pc = .ok (.invokestatic idx, 3)) {S0 : List Value} (h0 : S0 = (av.map (zRv b)).reverse ++ st) (hw : (st.map fun v => v.category).sum ≤ 8) :
    zTX Y k1 n1 E M (pc, ls, S0, sh, M) := by
  subst h0
  obtain ⟨hok, hv⟩ := hok
  intro p l e R s m args below meth c D cA ex A E9 Q cells slots as g1 g2 kk
  refine zXcall (E := E) (k1 := k1) (n1 := n1) (st := st) (N := zPl M b) (N' := zPl M b) (S0 := (av.map (zRv b)).reverse ++ st) E9 hs (fun _ _ => rfl) ?_ ?_
  · intro H locs lsR hP hD hS hl
    simp only [zRoom, Bool.and_eq_true, decide_eq_true_eq] at hroom
    have hts := E9.2.2.2.2.1
    refine vx_runS (cc := Y.2.1) (nL := Y.2.2.1) (As := av.map (zTr (fun k => as (b + k)) ex)) (rest := st.map (zTr as ex)) ⟨E9.1, E9.2.1, E9.2.2.1, E9.2.2.2.1, hts⟩ (hX l E9.2.2.2.2.2.2.2.2.1 D cA (fun k => as (b + k)) ex H.size)
      ⟨callB_of n hts (zGoodIn hok.1.1.1) rfl rfl rfl (hts _ hok.1.1.2) (hts _ hlk) hok.1.2 ⟨Nat.le_trans hroom.1 E9.2.2.2.2.2.2.2.2.2.2.2.2.1, Nat.le_trans hroom.2 E9.2.2.2.2.2.2.2.2.2.2.2.2.2⟩, hts _ hv⟩ ⟨zPre_blind, ?_⟩ rfl (by rw [List.length_map]; exact hn) hl.1 ?_ (lv_room (by rw [zTr_sum]; exact hw)) hd ⟨by omega, by omega⟩
    · exact zPre_of (av := av) hs (fun _ _ => rfl) E9.2.2.2.2.2.1 E9.2.2.2.2.2.2.2.1 E9.2.2.2.2.2.2.1 hP hD hS rfl
    · rw [zMapRv]
      simp [List.map_reverse]
  · rw [show zPs M b sc.length (zPl M b) = M from by funext x; exact congrFun (by funext y; exact zPs_pure) x]
    exact kk
end ZXC
