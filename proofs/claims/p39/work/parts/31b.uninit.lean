/-! METHODS OF A CLASS of which the tables don't say that it is initialised: an instance method's call doesn't ask it -/
def zMN (l : Launch) (y : MethodName) (ws : List Cond) (rm : Room) (Pc : Array Value → State → Prop) (Qc : Array Value → State → Outcome → State → Prop) (mc ms : Nat) (free : Addr → Prop) : Prop :=
  ∀ (p : Program) (e : Jvm.Env), l.admits e → FairCas e.choices → FairClock e.choices → ∀ (s : State) (m : MethodId) (args : Array Value) (below : List Frame), s.frames = .invoking m args :: below → s.status = .running → s.curStatus? = some .runnable → s.alone = true → s.methodNamed? y = some m → s.hears m below = true → s.hasRoom e.platform rm = true →
    (∀ w ∈ ws, w.before args s = true) → Pc args s → ∃ n o, (∀ k, k < n → Within (stepsAlone p.tables e k s) below) ∧ (stepsAlone p.tables e n s).status = .running ∧ Ended (stepsAlone p.tables e n s) below o ∧ Qc args s o (stepsAlone p.tables e n s) ∧ ∃ L, FrameEnd s o (stepsAlone p.tables e n s) L mc ms ∧ ∀ q ∈ L, free q.base
theorem zMN.of {l : Launch} {y : MethodName} {ws : List Cond} {rm : Room} {Pc : Array Value → State → Prop} {Qc : Array Value → State → Outcome → State → Prop} {mc ms : Nat} {free : Addr → Prop} {cc : ByteArray} {maxL : Nat} {ret : Option FieldType} (hy : plainName y.cls = true) (hw : Cond.code y cc maxL ret ∈ ws)
    (body : ∀ (p : Program) (e : Jvm.Env) (s : State) (m : MethodId) (args : Array Value) (below : List Frame) (meth : Method) (c : Code), p.tables.exec = Jvm.exec → s.methodNamed? y = some m → s.vm.method? m = some meth → meth.sig.returnType = ret → meth.locks = false → c.code = cc → c.maxLocals = maxL → (∀ w ∈ ws, w.before args s = true) → Pc args s →
      W p l e rm s m args below meth c s.heap [] 0 0 (MQ below Qc args s mc ms free) (entryFrame m args maxL)) : zMN l y ws rm Pc Qc mc ms free := by
  intro p e ha hc hk s m args below hf hrun hable halone hname hhears hroom hws hP
  obtain ⟨meth, c, hmeth, hcode, hbytes, hlocals, hret, hlocks, -, -⟩ := Cond.code_spec hname (hws _ hw)
  have hcur := State.cur_lt_of_frames hf
  have hf1 : (s.setFrames (.java (entryFrame m args maxL) :: below)).frames = .java (entryFrame m args maxL) :: below := State.frames_setFrames _ hcur
  have ht1 := State.topJava?_of_frames hf1
  have hplain : (s.setFrames (.java (entryFrame m args maxL) :: below)).plainMethod m := State.plainMethod.of_named (s := s) (plainFor_of_name hy) hname hmeth
  have hAt : At (s.setFrames (.java (entryFrame m args maxL) :: below)) m c below :=
    ⟨by rw [ht1]; rfl, ⟨[], by rw [hf1]; rfl⟩, hrun, by simpa using hable, by simpa using halone, by rw [State.code?_eq]; simp [State.setFrames, hmeth, hcode], hplain⟩
  have hstep : (stepThread p.tables e s).1 = (s.setFrames (.java (entryFrame m args maxL) :: below)).setTop (entryFrame m args maxL) := by
    have hfull : e.platform.stackFull (s.setFrames below).me (s.setFrames below).frames c.maxLocals = false := by
      obtain ⟨-, h1, -, h2⟩ := State.hasRoom_stack hroom
      rw [hf, List.length_cons] at h1
      rw [State.localsInUse_invoking hf hmeth hcode] at h2
      have hw9 := stackUse_le_stackWeight below
      rw [State.frames_setFrames _ hcur]
      exact Platform.stackFull_eq_false (by rw [State.stackLimits_setFrames]; omega) (by rw [State.stackLimits_setFrames]; omega)
    rw [stepThread_invoking hf, (doInvoke_java (s := s.setFrames below) (e := e) (meth := meth) (code := c) hmeth hcode hlocks hfull).1, State.setTop_self ht1]
    simp only [State.pushFrame, State.frames_setFrames _ hcur, State.setFrames_setFrames, hlocals, entryFrame]
  obtain ⟨t0, ht0, -⟩ := State.frames_cons hf
  have X : Stand p l e rm s m args below meth c (s.setFrames (.java (entryFrame m args maxL) :: below)) [] 0 0 :=
    ⟨ha, hc, hk, hf, hroom, hhears, hmeth, hcode, hAt, by rw [hf1]; rfl, State.WarmedH.refl s, by rw [State.stackLimits_setFrames], by rw [State.stackBytes_setFrames], (State.sameButNew.refl s ht0).setFrames (.java (entryFrame m args maxL) :: below) hcur⟩
  obtain ⟨s₂, hs, o, hr, he, hp, L, hL⟩ := body p e s m args below meth c (by cases p <;> rfl) hname hmeth hret hlocks hbytes hlocals hws hP (s.setFrames (.java (entryFrame m args maxL) :: below)) rfl X
  obtain ⟨n, hn, hw9⟩ := Steps.head (tb := p.tables) (e := e) ⟨hrun, hable, halone⟩ ⟨[.invoking m args], hf, by simp, by simp⟩ (hstep ▸ hs)
  exact ⟨n, o, hw9, hn ▸ hr, hn ▸ he, hn ▸ hp, L, hn ▸ hL⟩
set_option maxHeartbeats 2000000 in
theorem zBackN {l : Launch} {p : Program} {e : Jvm.Env} {R : Room} {below : List Frame} {s : State} {sargs : Array Value} {y : MethodName} {len W9 : Nat} {ws : List Cond} {rm : Room} {Pc : Array Value → State → Prop} {Qc : Array Value → State → Outcome → State → Prop} {mc ms : Nat} {free : Addr → Prop} {bytes : ByteArray} {maxL : Nat} {ret : Option FieldType}
    (hM : zMN l y ws rm Pc Qc mc ms free) (hblind : FrameBlind Pc) (hrc : rm.cells = mc) (hrs : rm.slots = ms) (hframes : rm.frames + 1 ≤ R.frames) (hlocals : W9 + (maxL + 11) + rm.locals ≤ R.locals)
    (hws : ∀ w ∈ ws, ∀ a' U, s.WarmedH U.vm → w.before a' U = true) (hcode : Cond.code y bytes maxL ret ∈ ws) : Back l R p e below s sargs y len W9 (PreOf R mc ms Pc) (PostOf Qc mc ms free) := by
  intro m meth c A g ig mk a X hg hsize hdg hW hn hp
  obtain ⟨U, Ls, c0, s0⟩ := A
  dsimp only [Pt.U, Pt.locs, Pt.cells, Pt.slots] at X hn ⊢
  obtain ⟨hp1, hp2, hp3⟩ := hp
  dsimp only [Pt.U, Pt.locs, Pt.cells, Pt.slots] at hp1 hp2 hp3
  obtain ⟨methY, cY, hmY, hcY, -, hlY, -, -, -, -⟩ := Cond.code_spec hn (hws _ hcode a U X.warmed)
  have h : At U g.method c below := by rw [hg]; exact X.here
  have hroom := X.room_calling (g := g) (R' := rm) (args' := a) hsize hmY hcY hframes (by rw [hlY]; omega) (by rw [hrc]; exact hp1) (by rw [hrs]; exact hp2)
  have hcodeg : (U.calling g mk a).code? g.method = some c := by
    have := h.code
    rw [State.code?_eq] at this ⊢
    simpa [State.calling, State.pushFrame, State.setFrames] using this
  obtain ⟨mid, hmid⟩ := h.above
  have hfr : (U.setTop g).frames = (.java g :: mid) ++ below := by rw [State.frames_setTop' g h.top, hmid]; rfl
  have hfc : (U.calling g mk a).frames = .invoking mk a :: (U.setTop g).frames := (State.frames_calling h.top g mk a).trans (by rw [State.frames_setTop' g h.top])
  have q1 : (U.calling g mk a).status = .running := h.running
  have q2 : (U.calling g mk a).curStatus? = some .runnable := by simpa [State.calling] using h.runnable
  have q3 : (U.calling g mk a).alone = true := by simpa [State.calling] using h.alone
  have q5 : (U.calling g mk a).hears mk (U.setTop g).frames = true := by
    rw [State.frames_setTop' g h.top]
    simp [State.hears, hcodeg, hdg, Except.toOption]
  have q6 : ∀ w ∈ ws, w.before a (U.calling g mk a) = true := fun w hw => by
    rw [State.calling_eq h.top, Cond.before_setFrames]
    exact hws w hw a U X.warmed
  obtain ⟨n, o, hw, hr, he, hq, L, hfe, hL⟩ := hM p e X.admits X.cas X.clock (U.calling g mk a) mk a (U.setTop g).frames hfc q1 q2 q3 hn q5 hroom q6 (hblind _ _ _ _ hp3)
  have hgo : (U.calling g mk a).goesOn := ⟨q1, q2, q3⟩
  obtain ⟨t9, ht9⟩ : ∃ t, (U.setTop g).threads[(U.setTop g).cur]? = some t := by
    obtain ⟨t, ht, -⟩ := State.frames_cons (s := U.setTop g) (hfr.trans rfl)
    exact ⟨t, ht⟩
  have hstep : (stepThread p.tables e (U.calling g mk a)).1 = (doInvoke e (U.setTop g) [] mk a).1 := by
    rw [stepThread_invoking hfc, doInvoke_state e (U.setTop g) []]
    show (doInvoke e (((U.setTop g).pushFrame (.invoking mk a)).setFrames (U.setTop g).frames) [] mk a).1 = _
    rw [State.pushFrame, State.setFrames_setFrames, State.setFrames_self ht9]
  obtain ⟨s₂, hsteps, hend, hq9, hfe⟩ : ∃ s₂, Steps p.tables e below (doInvoke e (U.setTop g) [] mk a).1 s₂ ∧ Ended s₂ (U.setTop g).frames o ∧ Qc a (U.calling g mk a) o s₂ ∧ FrameEnd (U.calling g mk a) o s₂ L mc ms := by
    cases n with
    | zero => exact absurd ⟨[.invoking mk a], hfc, by simp, by simp⟩ he.not_within
    | succ k =>
      rw [stepsAlone_succ _ hgo, hstep] at hr he hq hfe
      refine ⟨_, ⟨k, rfl, fun j hj => ?_⟩, he, hq, hfe⟩
      have := hw (j + 1) (by omega)
      rw [stepsAlone_succ _ hgo, hstep, hfr] at this
      exact this.weaken
  rw [State.frames_setTop' g h.top] at hend
  obtain ⟨⟨v, rfl⟩, hW₂, e2, r2, r3, r4, r5, r6⟩ := id hfe
  have e3 : s₂ = ({ (U.calling g mk a).setFrames s₂.frames with heap := s₂.heap, slotsUsed := s₂.slotsUsed } : State).setVm s₂.vm := by
    have : s₂ = ({ s₂ with vm := (U.calling g mk a).vm } : State).setVm s₂.vm := rfl
    rw [e2] at this
    exact this
  obtain ⟨c₂, i₂, len₂, hc₂, hd₂, hf₂⟩ := hend
  have hW' : U.WarmedH s₂.vm := hW₂
  have hcc : c₂ = c := by
    have h1 : s₂.code? g.method = U.code? g.method := by
      rw [State.code?_eq, State.code?_eq, hW'.alike.method?]
    exact Option.some.inj (hc₂.symm.trans (h1.trans h.code))
  subst hcc
  have hlen : len₂ = len := by rw [hdg] at hd₂; cases hd₂; rfl
  subst hlen
  obtain ⟨g₀, hg0⟩ := Option.isSome_iff_exists.mp h.top
  obtain ⟨r, hr0⟩ := State.topJava?_eq_some.mp hg0
  have hs₂ : s₂ = (({ U with heap := s₂.heap, slotsUsed := s₂.slotsUsed } : State).setVm s₂.vm).setTop { g with pc := g.pc + len₂, stack := v.toList ++ g.stack } := by
    have hr' : (({ U with heap := s₂.heap, slotsUsed := s₂.slotsUsed } : State).setVm s₂.vm).frames = .java g₀ :: r := hr0
    refine e3.trans ?_
    rw [hf₂, State.calling_eq h.top, State.setFrames_setFrames, State.setTop_of_frames _ hr', hr0]
    rfl
  have hsame : U.sameButNew ({ U with heap := s₂.heap, slotsUsed := s₂.slotsUsed } : State) L mc ms := by
    refine ⟨?_, r2, r3, r4, r5, r6⟩
    obtain ⟨t, ht, -⟩ := State.frames_cons hr0
    show ({ U with heap := s₂.heap, slotsUsed := s₂.slotsUsed } : State) = { U.setFrames U.frames with heap := s₂.heap, slotsUsed := s₂.slotsUsed }
    rw [State.setFrames_self ht]
  subst hg
  refine ⟨v, ⟨(({ U with heap := s₂.heap, slotsUsed := s₂.slotsUsed } : State).setVm s₂.vm), Ls ++ L, c0 + mc, s0 + ms⟩,
    ⟨X.admits, X.cas, X.clock, X.frames, X.room, X.hears, X.method, X.code, (X.here.setHeapUsed s₂.heap s₂.slotsUsed).setVm hW'.alike, X.tail, State.WarmedH.trans X.warmed hW', X.limits, X.bytes, X.same.trans (hsame.setVm s.vm)⟩,
    ⟨g, mk, s₂, L, rfl, rfl, hq9, rfl, hL, rfl, rfl⟩, ?_⟩
  show Steps p.tables e below _ ((({ U with heap := s₂.heap, slotsUsed := s₂.slotsUsed } : State).setVm s₂.vm).setTop { g with pc := g.pc + len₂, stack := v.toList ++ g.stack })
  rw [← hs₂]
  exact hsteps
/-- a contract of such a method, over no world -/
def zC0 (Y : zY) (av : List Value) (rv : Option Value) : Prop :=
  ∀ (l : Launch), l.flags = flags0 → ∀ (D : va_G) (cA : Nat → ClassId) (as ex : Nat → Nat) (sz : Nat),
    zMN l Y.1 (zWs Y) { frames := Y.2.2.2.2.1, cells := 0, slots := 0, locals := Y.2.2.2.2.2 } (zPre D cA as ex av [] zM0 sz) (zPost D cA as ex [] zM0 sz rv [] zM0) 0 0 (va_A (zWd cA as ex zM0 0 []) sz)
set_option maxHeartbeats 4000000 in
theorem zC0.of {Y : zY} {av : List Value} {rv : Option Value} (hpl : plainName Y.1.cls = true) (hc1 : av.all zC1 = true) (hnl : av.length ≤ Y.2.2.1)
    (h : zT Y 0 0 (zEnd Y rv [] zM0) (0, zAl av Y.2.2.1, [], [], zM0)) : zC0 Y av rv := by
  intro l hfl D cA as ex sz
  refine zMN.of (cc := Y.2.1) (maxL := Y.2.2.1) (ret := Y.2.2.2.1) hpl List.mem_cons_self ?_
  intro p e s m args below meth c hexec hnamed hmeth hret hlocks hbytes hml hts hv
  obtain ⟨rfl, hsz, hP, hK, hD0, hSt⟩ := hv
  have hD := hD0.self (sz := sz)
  have E : zEv Y p l { frames := Y.2.2.2.2.1, cells := 0, slots := 0, locals := Y.2.2.2.2.2 } s m (av.map (zTr as ex)).toArray meth c D cA ex (va_A (zWd cA as ex zM0 0 []) sz) :=
    ⟨hexec, hbytes, hml, findClass_of_methodNamed hnamed, fun w hw => hts w (List.mem_cons_of_mem _ hw), hK, fun q hq => Or.inr (by rw [← hsz]; exact hq), hSt, hfl, hlocks, hret, fun h9 => (name_of_methodNamed hnamed hmeth).1.trans h9, Nat.le_refl _, Nat.le_refl _⟩
  have hl := lv_entry (av.map (zTr as ex)) (n := Y.2.2.1) (by rw [zLg_len hc1]; exact hnl)
  rw [lg_entry_eq]
  refine h p l e _ s m _ below meth c D cA ex _ E _ 0 0 as (Nat.le_refl _) (Nat.le_refl _) ?_ s.heap [] _ hP hD va_S.rf ⟨hl.1, hl.2.1, fun q hq => hl.2.2 q (zAl_mem hc1 hq)⟩
  rintro ⟨pc, ls, st, sh2, M2⟩ as' hag ⟨e1, e2, e3, he⟩
  cases e1
  cases e2
  cases e3
  intro H locs lsR hP2 hD2 hS2 hl2
  have post : ∀ t : State, t.heap = H → s.WarmedH t.vm → zPost D cA as ex [] zM0 sz rv [] zM0 (av.map (zTr as ex)).toArray s (.returned (rv.map (zTr as' ex))) t := fun t ht hW => ⟨⟨as', hag, rfl, by rw [ht]; exact hP2, hD2⟩, hS2.F ht⟩
  rcases he with ⟨v, ty, rfl, e1, e2, e3⟩ | ⟨rfl, e1, e2⟩ | ⟨v, rt, rfl, e1, e2, e3, e4⟩ | ⟨v, rfl, e1, e2⟩ | ⟨v, rfl, e1, e2⟩
  · exact W.zret (v := v) E.1 E.2.1 (hret.trans e1) e2 post hS2.2.2 e3 hlocks
  · exact W.vret E.1 E.2.1 (hret.trans e1) post hS2.2.2 e2 hlocks
  · refine W.aret (v := zTr as' ex v) E.1 E.2.1 (hret.trans e1) e2 ?_ post hS2.2.2 e4 hlocks
    rcases e3 with rfl | ⟨a, rfl⟩ | ⟨a, rfl⟩
    · exact Or.inl rfl
    · exact Or.inr ⟨_, rfl⟩
    · exact Or.inr ⟨_, rfl⟩
  · exact W.fret (v := v) E.1 E.2.1 (hret.trans e1) post hS2.2.2 e2 hlocks
  · exact W.dret (v := v) E.1 E.2.1 (hret.trans e1) post hS2.2.2 e2 hlocks
/-- what the tables say of such a callee -/
def zOk0 (Y : zY) (n : Nat) : Prop :=
  Cond.code Y.1 Y.2.1 Y.2.2.1 Y.2.2.2.1 ∈ zW ∧ Cond.instanceMethod Y.1 ∈ zW ∧ (Y.1.cls ≠ "java/lang/invoke/MethodHandle" ∧ Y.1.cls ≠ "java/lang/invoke/VarHandle") ∧ (parseMethodDescriptor Y.1.desc).map (fun d => d.parameters.length) = some n
section ZC0
variable {Y Yc : zY} {kc nc : Nat} {Z : zS → Prop} {pc idx t n : Nat} {ls : zL} {st S0 S1 av : List Value} {sh : List va_E} {M : zM} {rv : Option Value} {C : String}
/-- the core: a way to call whatever is set back -/
theorem zT.cX0g (hC : zC0 Yc (.retAddr t :: av) rv) (hok : zOk0 Yc n) (hx : (C, t) ∈ zOs) (hn : av.length = n) (hroom : zRoom Y Yc = true)
    (hcall : ∀ (p : Program) (l : Launch) (e : Jvm.Env) (R : Room) (s : State) (m : MethodId) (args : Array Value) (below : List Frame) (meth : Method) (c : Code) (T : State) (locs : List Loc) (cells slots : Nat) (Pre : Pt → Array Value → Prop) (Post : Pt → Array Value → Option Value → Pt → Prop) (b : Addr) (cellB : Cell) (g : JFrame) (argsL rest : List Value),
      (∀ w ∈ zW, w.before args s = true) → p.tables.exec = Jvm.exec → c.code = Y.2.1 → s.vm.findClass Y.1.cls = some m.cls → Stand p l e R s m args below meth c T locs cells slots → Back l R p e below s args Yc.1 3 8 Pre Post → T.heap[b]? = some cellB → cellB.vm.isStatics = false → s.vm.findClass C = some cellB.cls → g.method = m → g.locals.size = c.maxLocals → argsL.length = n →
      g.stack = argsL.reverse ++ .ref b :: rest → 2 * g.monitorRoom + (rest.map fun v => v.category).sum ≤ 8 → g.pc = pc → (∀ vm₁, s.WarmedH vm₁ → Pre ⟨T.setVm vm₁, locs, cells, slots⟩ (Value.ref b :: argsL).toArray) →
      ∃ (v : Option Value) (vm₁ : Vm) (B : Pt), s.WarmedH vm₁ ∧ Stand p l e R s m args below meth c B.U B.locs B.cells B.slots ∧ Post ⟨T.setVm vm₁, locs, cells, slots⟩ (Value.ref b :: argsL).toArray v B ∧
        ∀ target, Steps p.tables e below (B.U.setTop { g with pc := g.pc + 3, stack := v.toList ++ rest }) target → Steps p.tables e below (T.setTop g) target)
    (h0 : S0 = (av.map (zRv 0)).reverse ++ .retAddr t :: st) (hw : (st.map fun v => v.category).sum ≤ 8) (h1 : S1 = (rv.map (zRv 0)).toList ++ st)
    (k9 : zT Y kc nc Z (pc + 3, ls, S1, sh, M)) : zT Y kc nc Z (pc, ls, S0, sh, M) := by
  subst h0 h1
  intro p l e R s m args below meth c D cA ex A E Q cells slots as g1 g2 kk
  have k8 := zT.congM (M := zPs M 0 ([] : List va_E).length zM0) (M2 := M) (fun _ _ => zPs_nil) k9
  refine zGcall (b := 0) (sc := []) (sc' := []) (N := zM0) (N' := zM0) (k1 := 0) (n1 := 0) (rv := rv) (st := st) (S0 := (av.map (zRv 0)).reverse ++ .retAddr t :: st) E (zSub.nil sh 0) (fun j h => absurd h (Nat.not_lt_zero j)) (zBack.same (zSub.nil sh 0) rfl) rfl ?_ (k8 p l e R s m args below meth c D cA ex A E Q (cells + 0) (slots + 0) as (by omega) (by omega) fun S' as' ha hz => kk S' as' ha hz)
  intro H locs lsR hP hD hS hl
  simp only [zRoom, Bool.and_eq_true, decide_eq_true_eq] at hroom
  have hts := E.2.2.2.2.1
  obtain ⟨cell, x1, x2, x3, -⟩ := (E.2.2.2.2.2.2.2.1.2.2.1 _ hx : va_O C (ex t) A s s.heap).kept hS.2.1
  have hK : Back l R p e below s args Yc.1 3 8 (PreOf R 0 0 (zPre D cA (fun k => as (0 + k)) ex (.retAddr t :: av) [] zM0 H.size)) (PostOf (zPost D cA (fun k => as (0 + k)) ex [] zM0 H.size rv [] zM0) 0 0 (va_A (zWd cA (fun k => as (0 + k)) ex zM0 0 []) H.size)) :=
    zBackN (bytes := Yc.2.1) (maxL := Yc.2.2.1) (ret := Yc.2.2.2.1) (hC l E.2.2.2.2.2.2.2.2.1 D cA (fun k => as (0 + k)) ex H.size) zPre_blind rfl rfl (Nat.le_trans hroom.1 E.2.2.2.2.2.2.2.2.2.2.2.2.1) (Nat.le_trans hroom.2 E.2.2.2.2.2.2.2.2.2.2.2.2.2) (pay_in hts (zGoodIn hok.1)) List.mem_cons_self
  have hPc := zPre_of (cA := cA) (as := as) (ex := ex) (D := D) (b := 0) (sc := []) (sh := sh) (M := M) (N := zM0) (av := .retAddr t :: av) (zSub.nil sh 0) (fun j h => absurd h (Nat.not_lt_zero j)) E.2.2.2.2.2.1 E.2.2.2.2.2.2.2.1 E.2.2.2.2.2.2.1 hP hD hS (vs := .ref (ex t) :: av.map (zTr (fun k => as (0 + k)) ex)) rfl
  refine ⟨(Value.ref (ex t) :: av.map (zTr (fun k => as (0 + k)) ex)).toArray, fun T hT X => ?_⟩
  obtain ⟨v, vm₁, ⟨U', l2, c2, s2⟩, hW₁, X', ⟨g', mk, t', L, e1, e2, hq, h1, hL, h2, h3⟩, stp⟩ := hcall p l e R s m args below meth c T locs cells slots _ _ (ex t) cell (F0 m pc lsR (((av.map (zRv 0)).reverse ++ .retAddr t :: st).map (zTr as ex))) (av.map (zTr (fun k => as (0 + k)) ex)) (st.map (zTr as ex)) hts E.1 E.2.1 E.2.2.2.1 X hK (by rw [hT]; exact x1) x2 x3 rfl (by rw [E.2.2.1]; exact hl.1) (by rw [List.length_map]; exact hn)
    (by rw [zMapRv]; simp [List.map_reverse]; rfl) (lv_room (by rw [zTr_sum]; exact hw)) rfl (fun vm₁ hW₁ => ⟨by show cells + 0 ≤ _; omega, by show slots + 0 ≤ _; omega, hPc (T.setVm vm₁) hT hW₁⟩)
  dsimp only [Pt.U, Pt.locs, Pt.cells, Pt.slots] at X' e1 e2 h1 h2 h3 stp
  subst h1; subst h2; subst h3
  exact ⟨v, (T.setVm vm₁).calling g' mk (Value.ref (ex t) :: av.map (zTr (fun k => as (0 + k)) ex)).toArray, t', U', L, hT, X', hL, e1, e2, hq, stp⟩
/-- a method of the receiver's own class -/
theorem zTcX0 (hC : zC0 Yc (.retAddr t :: av) rv) (hok : zOk0 Yc n) (hx : (Yc.1.cls, t) ∈ zOs) (hn : av.length = n) (hsel : Cond.selects Yc.1.cls Yc.1 Yc.1 ∈ zW) (hlk : Cond.methodLink Y.1.cls idx Yc.1 ∈ zW) (hroom : zRoom Y Yc = true) (hd : decode Y.2.1 pc = .ok (.invokevirtual idx, 3))
    (h0 : S0 = (av.map (zRv 0)).reverse ++ .retAddr t :: st) (hw : (st.map fun v => v.category).sum ≤ 8) (h1 : S1 = (rv.map (zRv 0)).toList ++ st)
    (k9 : zT Y kc nc Z (pc + 3, ls, S1, sh, M)) : zT Y kc nc Z (pc, ls, S0, sh, M) := by
  refine zT.cX0g (C := Yc.1.cls) hC hok hx hn hroom ?_ h0 hw h1 k9
  intro p l e R s m args below meth c T locs cells slots Pre Post b cellB g argsL rest hts hexec hcc hown X hK hc1 hc2 hc3 hg hsz hlen hst hW hpc hpre
  have hd2 := hok.2.2.2
  exact callV X hexec (bytes := Yc.2.1) (maxL := Yc.2.2.1) (ret := Yc.2.2.2.1) hown (hts _ hlk) (hts _ hok.2.1) (hts _ hsel) (hts _ hok.1) hok.2.2.1 hK hc1 hc2 hc3 hg hsz (fun sig h => by rw [h] at hd2; rw [hlen]; exact (Option.some.inj hd2).symm) hst hW (by rw [hcc, hpc]; exact hd) hpre
/-- a method that the receiver's class inherits -/
theorem zTcXU0 {x : MethodName} (hC : zC0 Yc (.retAddr t :: av) rv) (hok : zOk0 Yc n) (hx : (C, t) ∈ zOs) (hn : av.length = n) (hy : Yc.1 = ⟨Yc.1.cls, x.name, x.desc⟩) (hsel : Cond.selects C x Yc.1 ∈ zW) (hlk : Cond.methodLink Y.1.cls idx x ∈ zW) (hsm : Cond.sameMethod x.cls Yc.1.cls x.name x.desc ∈ zW) (hxl : (parseMethodDescriptor x.desc).map (fun d => d.parameters.length) = some n) (hroom : zRoom Y Yc = true) (hd : decode Y.2.1 pc = .ok (.invokevirtual idx, 3))
    (h0 : S0 = (av.map (zRv 0)).reverse ++ .retAddr t :: st) (hw : (st.map fun v => v.category).sum ≤ 8) (h1 : S1 = (rv.map (zRv 0)).toList ++ st)
    (k9 : zT Y kc nc Z (pc + 3, ls, S1, sh, M)) : zT Y kc nc Z (pc, ls, S0, sh, M) := by
  refine zT.cX0g (C := C) hC hok hx hn hroom ?_ h0 hw h1 k9
  intro p l e R s m args below meth c T locs cells slots Pre Post b cellB g argsL rest hts hexec hcc hown X hK hc1 hc2 hc3 hg hsz hlen hst hW hpc hpre
  exact va_callVU X hexec (owner := Yc.1.cls) (bytes := Yc.2.1) (maxL := Yc.2.2.1) (ret := Yc.2.2.2.1) hown (hts _ hlk) (hts _ hsm) (by rw [← hy]; exact va_Decl.of (hts _ hok.2.1) (hts _ hok.1)) hok.2.2.1 (hts _ hsel) (hts _ hok.2.1) (hts _ hok.1) hK hc1 hc2 hc3 hg hsz (fun sig h => by rw [h] at hxl; rw [hlen]; exact (Option.some.inj hxl).symm) hst hW (by rw [hcc, hpc]; exact hd) hpre
end ZC0
