/-! CALLS of a method with a contract: the callee's world is the stretch of the caller's from b on -/
section ZCW
variable {p : Program} {l : Launch} {e : Jvm.Env} {R : Room} {s : State} {m : MethodId} {args : Array Value} {below : List Frame} {meth : Method} {c : Code} {H : Heap} {locs : List Loc} {cells slots : Nat} {Q : State → Prop}
variable {pc : Nat} {ls : Array Slot} {rest st0 : List Value} {a : Array Value} {A0 A1 : Nat → Prop} {H0 : Heap} {mc ms : Nat} {free : Addr → Prop}
/-- behind any call that returns -/
theorem zAfter {B : Option Value → State → Prop} {Qa : State → Outcome → State → Prop} (hr : va_Run p l e R s m args below meth c H locs cells slots mc ms (F0 m pc ls st0) rest Qa free) (hQ : ∀ (st : State) (v : Option Value) (t : State), Qa st (.returned v) t → B v t ∧ va_F A1 st t) (hS : va_S A0 H0 H locs) (hA : ∀ q, q < H.size → A1 q → A0 q) (hf : ∀ q, free q → A0 q)
    (kk : ∀ (v : Option Value) (t : State) (H1 : Heap) (locs1 : List Loc), t.heap = H1 → B v t → H.size ≤ H1.size → (∀ q : Nat, q < H.size → ¬ A1 q → H1[q]? = H[q]?) → va_S A0 H0 H1 locs1 → W p l e R s m args below meth c H1 locs1 (cells + mc) (slots + ms) Q (F0 m (pc + 3) ls (v.toList ++ rest))) : W p l e R s m args below meth c H locs cells slots Q (F0 m pc ls st0) := by
  intro T hT X
  obtain ⟨v, st₀, t, T', L, h0, X', hL, e1, e2, hqa, st⟩ := hr T hT X
  obtain ⟨hb, hz, hk⟩ := hQ _ _ _ hqa
  rw [h0] at hz hk
  obtain ⟨t2, a1, b1⟩ := kk v t T'.heap (locs ++ L) e1.symm hb (by rw [e1]; exact hz) (fun q h1 h2 => by rw [e1]; exact hk q h1 h2)
    ⟨Nat.le_trans hS.1 (by rw [e1]; exact hz), fun q h1 h2 => by rw [e1, hk q (Nat.lt_of_lt_of_le h1 hS.1) (fun z => h2 (hA q (Nat.lt_of_lt_of_le h1 hS.1) z))]; exact hS.2.1 q h1 h2, fun q hq => by
      rcases List.mem_append.mp hq with h | h
      · exact hS.2.2 q h
      · exact hf _ (hL q h)⟩ T' rfl X'
  exact ⟨t2, st t2 a1, b1⟩
end ZCW
/-- what the tables say of a callee -/
def zOkC (Y : zY) (n : Nat) : Prop :=
  ((Cond.code Y.1 Y.2.1 Y.2.2.1 Y.2.2.2.1 ∈ zW ∧ Cond.initialized Y.1.cls ∈ zW) ∧ (Y.1.cls ≠ "java/lang/invoke/MethodHandle" ∧ Y.1.cls ≠ "java/lang/invoke/VarHandle" ∧ (parseMethodDescriptor Y.1.desc).map (fun d => d.parameters.length) = some n)) ∧ plainName Y.1.cls = true
/-- .. of an instance method, of a static one -/
def zOkV (Y : zY) : Prop := Cond.instanceMethod Y.1 ∈ zW ∧ Cond.selects Y.1.cls Y.1 Y.1 ∈ zW
def zOkS (Y : zY) : Prop := Cond.static Y.1 ∈ zW
def zRoom (Y Yc : zY) : Bool := decide (Yc.2.2.2.2.1 + 1 ≤ Y.2.2.2.2.1) && decide (8 + (Yc.2.2.1 + 11) + Yc.2.2.2.2.2 ≤ Y.2.2.2.2.2)
theorem zGoodIn {Yc : zY} (h : Cond.code Yc.1 Yc.2.1 Yc.2.2.1 Yc.2.2.2.1 ∈ zW) : GoodIn zW (zWs Yc) := fun w hw => by
  rcases List.mem_cons.mp hw with rfl | hw
  · exact ⟨h, zW_good h⟩
  · exact ⟨hw, zW_good hw⟩
section ZCALL
variable {Y Yc : zY} {kc nc k1 n1 : Nat} {Z : zS → Prop} {pc idx : Nat} {ls : zL} {st : List Value} {sh sh' sc sc' : List va_E} {M N N' : zM} {b o : Nat} {av : List Value} {rv : Option Value}
theorem zPre_blind {D : va_G} {cA : Nat → ClassId} {as ex : Nat → Nat} {av : List Value} {sh : List va_E} {M : zM} {sz : Nat} : FrameBlind (zPre D cA as ex av sh M sz) := fun a U g mk q => by
  obtain ⟨q0, q1, qP, qK, qD, qS⟩ := q
  exact ⟨q0, q1, qP, va_K.moved (u := U) (U := U.calling g mk a) (Vm.Alike.refl U.vm) qK, qD, zSt.same (u := U) (U := U.calling g mk a) rfl qS⟩
/-- the core of all calls: from the run of the callee to the walk behind it -/
theorem zGcall {p : Program} {l : Launch} {e : Jvm.Env} {R : Room} {s : State} {m : MethodId} {args : Array Value} {below : List Frame} {meth : Method} {c : Code} {D : va_G} {cA : Nat → ClassId} {ex : Nat → Nat} {A : Nat → Prop} {Q : State → Prop} {cells slots : Nat} {as : Nat → Nat} {S0 : List Value}
    (E : zEv Y p l R s m args meth c D cA ex A) (hs : zSub sh b sc) (hN : ∀ j, j < sc.length → N j = M (b + j)) (hb : zBack sh b sc.length sc' sh') (hl9 : sc'.length = sc.length)
    (hrun : ∀ (H : Heap) (locs : List Loc) (lsR : Array Slot), va_P D vwCl (zWd cA as ex M 0 sh) H → va_D A (zWd cA as ex M 0 sh) → va_S A s.heap H locs → lv_has lsR Y.2.2.1 (zLv as ex 0 ls) →
      ∃ a, va_Run p l e R s m args below meth c H locs cells slots k1 n1 (F0 m pc lsR (S0.map (zTr as ex))) (st.map (zTr as ex)) (zPost D cA (fun k => as (b + k)) ex sc N H.size rv sc' N' a) (va_A (zWd cA (fun k => as (b + k)) ex N 0 sc) H.size))
    (k9 : zG Y p l e R s m args below meth c D cA ex A Q (cells + k1) (slots + n1) as (pc + 3, ls, (rv.map (zRv b)).toList ++ st, sh', zPs M b sc.length N')) : zG Y p l e R s m args below meth c D cA ex A Q cells slots as (pc, ls, S0, sh, M) := by
  intro H locs lsR hP hD hS hl
  obtain ⟨a, hr⟩ := hrun H locs lsR hP hD hS hl
  have hF := hs.free (cA := cA) (ex := ex) hN hD hS E.2.2.2.2.2.2.1
  refine zAfter (B := fun v t => ∃ as' : Nat → Nat, zAg sc.length sc'.length (fun k => as (b + k)) as' ∧ v = rv.map (zTr as' ex) ∧ va_P D vwCl (zWd cA as' ex N' 0 sc') t.heap ∧ va_D (va_A (zWd cA (fun k => as (b + k)) ex N 0 sc) H.size) (zWd cA as' ex N' 0 sc')) (A1 := va_A (zWd cA (fun k => as (b + k)) ex N 0 sc) H.size) (A0 := A) hr ?_ hS (fun q _ h => hF q h) hF ?_
  · rintro st9 v t ⟨⟨as', h1, h2, h3, h4⟩, h5⟩
    exact ⟨⟨as', h1, Outcome.returned.inj h2, h3, h4⟩, h5⟩
  · rintro v t H1 locs1 ht ⟨as', hag, rfl, hP1, hD1⟩ hz hk hS1
    have has : as' = fun k => as (b + k) := by
      funext k
      exact hag.2 k (by rw [hl9]; omega)
    subst has
    rw [ht] at hP1
    obtain ⟨hP2, hD2⟩ := zJoin hs hN hb hl9 hP hD hk hF hP1 hD1
    have := k9 H1 locs1 lsR hP2 hD2 hS1 hl
    have e9 : (((rv.map (zRv b)).toList ++ st).map (zTr as ex)) = (rv.map (zTr (fun k => as (b + k)) ex)).toList ++ st.map (zTr as ex) := by
      cases rv with
      | none => rfl
      | some v =>
        show zTr as ex (zRv b v) :: _ = zTr (fun k => as (b + k)) ex v :: _
        rw [zTr_rv]
        rfl
    rw [e9] at this
    exact this
theorem zPre_of {D : va_G} {cA : Nat → ClassId} {as ex : Nat → Nat} {s : State} {A : Nat → Prop} {H : Heap} {locs : List Loc} (hs : zSub sh b sc) (hN : ∀ j, j < sc.length → N j = M (b + j)) (hK : va_K D vwCl (zTys cA) s) (hSt : zSt ex A s s.heap) (hA : ∀ q, s.heap.size ≤ q → A q)
    (hP : va_P D vwCl (zWd cA as ex M 0 sh) H) (hD : va_D A (zWd cA as ex M 0 sh)) (hS : va_S A s.heap H locs) {vs : List Value} (hv : vs = av.map (zTr (fun k => as (b + k)) ex)) :
    ∀ U : State, U.heap = H → s.WarmedH U.vm → zPre D cA (fun k => as (b + k)) ex av sc N H.size vs.toArray U := fun U hU hW => by
  refine ⟨by rw [hv], by rw [hU], by rw [hU]; exact hs.Pp hN hP, va_K.moved hW.alike hK, (hs.Dd hN hD).weaken (fun _ _ _ _ => trivial), ?_⟩
  rw [hU]
  exact ((hSt.kept hS.2.1).warm hW).narrow (hs.free (cA := cA) (ex := ex) hN hD hS hA)
theorem zMapRv (as ex : Nat → Nat) (b : Nat) (l : List Value) : l.map (zTr (fun k => as (b + k)) ex) = (l.map (zRv b)).map (zTr as ex) := by
  rw [List.map_map]
  apply List.map_congr_left
  intro v _
  exact zTr_rv as ex b v
/-- an instance method (invokevirtual, of the class itself or a nest mate's that isn't private) -/
theorem zT.callV {n ci : Nat} {fs : List Value} (hC : zC Yc k1 n1 (.ref o :: av) sc N rv sc' N') (hs : zSub sh b sc) (hN : ∀ j, j < sc.length → N j = M (b + j)) (hb : zBack sh b sc.length sc' sh') (hl9 : sc'.length = sc.length)
    (ho : zSg sh (b + o) = some (.inr (ci, fs))) (hcl : (vwCl[ci]?).map (fun q => q.1) = some Yc.1.cls) (hn : av.length = n) (hok : zOkC Yc n) (hv : zOkV Yc) (hlk : Cond.methodLink Y.1.cls idx Yc.1 ∈ zW) (hroom : zRoom Y Yc = true) (hw : (st.map fun v => v.category).sum ≤ 8)
    (hd : decode Y.2.1 pc = .ok (.invokevirtual idx, 3))
    (k9 : zT Y kc nc Z (pc + 3, ls, (rv.map (zRv b)).toList ++ st, sh', zPs M b sc.length N')) : zT Y (k1 + kc) (n1 + nc) Z (pc, ls, (av.map (zRv b)).reverse ++ .ref (b + o) :: st, sh, M) := by
  intro p l e R s m args below meth c D cA ex A E Q cells slots as g1 g2 kk
  have hlen : sh'.length = sh.length := hb.1
  refine zGcall (k1 := k1) (n1 := n1) (S0 := (av.map (zRv b)).reverse ++ .ref (b + o) :: st) E hs hN hb hl9 ?_ (k9 p l e R s m args below meth c D cA ex A E Q (cells + k1) (slots + n1) as (by omega) (by omega) fun S' as' ha hz => ?_)
  · intro H locs lsR hP hD hS hl
    simp only [zRoom, Bool.and_eq_true, decide_eq_true_eq] at hroom
    have hts := E.2.2.2.2.1
    have cw : CallW R s args Y.1.cls Yc.1.cls idx Yc.1 Yc.2.1 Yc.2.2.1 Yc.2.2.2.1 (zWs Yc) { frames := Yc.2.2.2.2.1, cells := k1, slots := n1, locals := Yc.2.2.2.2.2 } k1 n1 n :=
      ⟨callB_of n hts (zGoodIn hok.1.1.1) rfl rfl rfl (hts _ hok.1.1.2) (hts _ hlk) hok.1.2 ⟨Nat.le_trans hroom.1 E.2.2.2.2.2.2.2.2.2.2.2.2.1, Nat.le_trans hroom.2 E.2.2.2.2.2.2.2.2.2.2.2.2.2⟩, hts _ hv.1, hts _ hv.2⟩
    cases hq : vwCl[ci]? with
    | none => rw [hq] at hcl; cases hcl
    | some q =>
      rw [hq] at hcl
      have hcl : q.1 = Yc.1.cls := Option.some.inj hcl
      refine ⟨_, va_runV (cc := Y.2.1) (nL := Y.2.2.1) (b := as (b + o)) (As := av.map (zTr (fun k => as (b + k)) ex)) (rest := st.map (zTr as ex)) ⟨E.1, E.2.1, E.2.2.1, E.2.2.2.1, hts⟩ (hC l E.2.2.2.2.2.2.2.2.1 D cA (fun k => as (b + k)) ex H.size) cw ⟨zPre_blind, ?_, ?_⟩ rfl (by rw [List.length_map]; exact hn) hl.1 ?_ (lv_room (by rw [zTr_sum]; exact hw)) hd ⟨by omega, by omega⟩⟩
      · rw [← hcl]
        exact va_recv E.2.2.2.2.2.1 hP hq (zWd_at ho)
      · exact zPre_of (av := .ref o :: av) hs hN E.2.2.2.2.2.1 E.2.2.2.2.2.2.2.1 E.2.2.2.2.2.2.1 hP hD hS rfl
      · rw [zMapRv]
        simp [List.map_reverse]
        rfl
  · rw [← Nat.add_assoc, ← Nat.add_assoc] at kk
    refine kk S' as' ?_ hz
    show zAg sh.length _ as as'
    rw [← hlen]
    exact ha
/-- a static method; a nest mate's private one by a nest link -/
theorem zT.callS {n : Nat} (hC : zC Yc k1 n1 av sc N rv sc' N') (hs : zSub sh b sc) (hN : ∀ j, j < sc.length → N j = M (b + j)) (hb : zBack sh b sc.length sc' sh') (hl9 : sc'.length = sc.length)
    (hn : av.length = n) (hok : zOkC Yc n) (hv : zOkS Yc) (hlk : Cond.methodLink Y.1.cls idx Yc.1 ∈ zW) (hroom : zRoom Y Yc = true) (hw : (st.map fun v => v.category).sum ≤ 8)
    (hd : decode Y.2.1 pc = .ok (.invokestatic idx, 3))
    (k9 : zT Y kc nc Z (pc + 3, ls, (rv.map (zRv b)).toList ++ st, sh', zPs M b sc.length N')) : zT Y (k1 + kc) (n1 + nc) Z (pc, ls, (av.map (zRv b)).reverse ++ st, sh, M) := by
  intro p l e R s m args below meth c D cA ex A E Q cells slots as g1 g2 kk
  have hlen : sh'.length = sh.length := hb.1
  refine zGcall (k1 := k1) (n1 := n1) (S0 := (av.map (zRv b)).reverse ++ st) E hs hN hb hl9 ?_ (k9 p l e R s m args below meth c D cA ex A E Q (cells + k1) (slots + n1) as (by omega) (by omega) fun S' as' ha hz => ?_)
  · intro H locs lsR hP hD hS hl
    simp only [zRoom, Bool.and_eq_true, decide_eq_true_eq] at hroom
    have hts := E.2.2.2.2.1
    refine ⟨_, va_runS (cc := Y.2.1) (nL := Y.2.2.1) (As := av.map (zTr (fun k => as (b + k)) ex)) (rest := st.map (zTr as ex)) ⟨E.1, E.2.1, E.2.2.1, E.2.2.2.1, hts⟩ (hC l E.2.2.2.2.2.2.2.2.1 D cA (fun k => as (b + k)) ex H.size)
      ⟨callB_of n hts (zGoodIn hok.1.1.1) rfl rfl rfl (hts _ hok.1.1.2) (hts _ hlk) hok.1.2 ⟨Nat.le_trans hroom.1 E.2.2.2.2.2.2.2.2.2.2.2.2.1, Nat.le_trans hroom.2 E.2.2.2.2.2.2.2.2.2.2.2.2.2⟩, hts _ hv⟩ ⟨zPre_blind, ?_⟩ rfl (by rw [List.length_map]; exact hn) hl.1 ?_ (lv_room (by rw [zTr_sum]; exact hw)) hd ⟨by omega, by omega⟩⟩
    · exact zPre_of (av := av) hs hN E.2.2.2.2.2.1 E.2.2.2.2.2.2.2.1 E.2.2.2.2.2.2.1 hP hD hS rfl
    · rw [zMapRv]
      simp [List.map_reverse]
  · rw [← Nat.add_assoc, ← Nat.add_assoc] at kk
    refine kk S' as' ?_ hz
    show zAg sh.length _ as as'
    rw [← hlen]
    exact ha
theorem zT.callSN {n : Nat} {host : String} (hC : zC Yc k1 n1 av sc N rv sc' N') (hs : zSub sh b sc) (hN : ∀ j, j < sc.length → N j = M (b + j)) (hb : zBack sh b sc.length sc' sh') (hl9 : sc'.length = sc.length)
    (hn : av.length = n) (hok : zOkC Yc n) (hv : zOkS Yc) (hlk : Cond.methodLinkNest Y.1.cls idx Yc.1 host ∈ zNw) (hroom : zRoom Y Yc = true) (hw : (st.map fun v => v.category).sum ≤ 8)
    (hd : decode Y.2.1 pc = .ok (.invokestatic idx, 3))
    (k9 : zT Y kc nc Z (pc + 3, ls, (rv.map (zRv b)).toList ++ st, sh', zPs M b sc.length N')) : zT Y (k1 + kc) (n1 + nc) Z (pc, ls, (av.map (zRv b)).reverse ++ st, sh, M) := by
  intro p l e R s m args below meth c D cA ex A E Q cells slots as g1 g2 kk
  have hlen : sh'.length = sh.length := hb.1
  refine zGcall (k1 := k1) (n1 := n1) (S0 := (av.map (zRv b)).reverse ++ st) E hs hN hb hl9 ?_ (k9 p l e R s m args below meth c D cA ex A E Q (cells + k1) (slots + n1) as (by omega) (by omega) fun S' as' ha hz => ?_)
  · intro H locs lsR hP hD hS hl
    simp only [zRoom, Bool.and_eq_true, decide_eq_true_eq] at hroom
    have hts := E.2.2.2.2.1
    refine ⟨_, va_runSN (cc := Y.2.1) (nL := Y.2.2.1) (As := av.map (zTr (fun k => as (b + k)) ex)) (rest := st.map (zTr as ex)) ⟨E.1, E.2.1, E.2.2.1, E.2.2.2.1, hts⟩ (hC l E.2.2.2.2.2.2.2.2.1 D cA (fun k => as (b + k)) ex H.size)
      ⟨va_cnB (host := host) n hts (zGoodIn hok.1.1.1) rfl rfl rfl (E.2.2.2.2.2.2.2.1.2.2.2.2.2.2.2.1 _ hlk) (hts _ hok.1.1.2) hok.1.2 ⟨Nat.le_trans hroom.1 E.2.2.2.2.2.2.2.2.2.2.2.2.1, Nat.le_trans hroom.2 E.2.2.2.2.2.2.2.2.2.2.2.2.2⟩, hts _ hv, trivial⟩ ⟨zPre_blind, ?_⟩ rfl (by rw [List.length_map]; exact hn) hl.1 ?_ (lv_room (by rw [zTr_sum]; exact hw)) hd ⟨by omega, by omega⟩⟩
    · exact zPre_of (av := av) hs hN E.2.2.2.2.2.1 E.2.2.2.2.2.2.2.1 E.2.2.2.2.2.2.1 hP hD hS rfl
    · rw [zMapRv]
      simp [List.map_reverse]
  · rw [← Nat.add_assoc, ← Nat.add_assoc] at kk
    refine kk S' as' ?_ hz
    show zAg sh.length _ as as'
    rw [← hlen]
    exact ha
end ZCALL
