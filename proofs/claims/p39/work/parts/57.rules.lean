/-! CALLS of the library's own classes: a private method, a superclass's, an inherited one; over a world that grows -/
theorem zT.widen {Y : zY} {k n k' n' : Nat} {Z : zS → Prop} {S : zS} (h1 : k ≤ k') (h2 : n ≤ n') (h : zT Y k n Z S) : zT Y k' n' Z S := by
  intro p l e R s m args below meth c D cA ex A E Q cells slots as g1 g2 kk
  refine h p l e R s m args below meth c D cA ex A E Q cells slots as (by omega) (by omega) fun S' as' ha hz => ?_
  intro H locs lsR hP hD hS hl
  exact W.widen (k := cells + k') (n := slots + n') (by omega) (by omega) (kk S' as' ha hz H locs lsR hP hD hS hl)
theorem zT.weak {Y : zY} {k n : Nat} {Z Z' : zS → Prop} {S : zS} (h : zT Y k n Z S) (hz : ∀ S', Z S' → Z' S') : zT Y k n Z' S := by
  intro p l e R s m args below meth c D cA ex A E Q cells slots as g1 g2 kk
  exact h p l e R s m args below meth c D cA ex A E Q cells slots as g1 g2 fun S' as' ha h9 => kk S' as' ha (hz S' h9)
/-- a private method is the one that is run, whatever the receiver's class -/
theorem sel_priv {args : Array Value} {s : State} {C : String} {y : MethodName} {cC : ClassId} (hC : s.vm.findClass C = some cC) (hp : (Cond.privateMethod y).before args s = true) (hi : (Cond.instanceMethod y).before args s = true) (hs : (Cond.sameMethod y.cls y.cls y.name y.desc).before args s = true) : (Cond.selects C y y).before args s = true := by
  obtain ⟨mk, me, hn, hm, -, -⟩ := Cond.instanceMethod_spec hi
  obtain ⟨c1, k1, r1, g1, g2, g3, g4, g5⟩ := Cond.sameMethod_found hs
  have e1 : r1 = mk := Option.some.inj (g5.symm.trans hn)
  subst e1
  have e2 : c1 = r1.cls := Option.some.inj (g1.symm.trans (findClass_of_methodNamed hn))
  subst e2
  have e3 : selectMethod {} s.vm cC r1 = .method r1 := selectMethod_private hm (Cond.privateMethod_at hp r1 me hn hm)
  simp only [Cond.before, Cond.holds, Cond.value, hC, g4, hn, e3, g2]
  simp [g3]

section ZCLL
variable {Y Yc : zY} {kc nc k1 n1 : Nat} {Z : zS → Prop} {pc idx : Nat} {ls : zL} {st : List Value} {pre sc : List va_E} {M N : zM} {b o : Nat} {av : List Value} {R : Option Value → List va_E → zM → Prop}
theorem zT.callGr {S0 : List Value} (hC : zCr Yc k1 n1 (.ref o :: av) sc N R) (hb : pre.length = b) (hcs : zCs (b + sc.length) pre) (hls : zLb (b + sc.length) ls = true) (hst : st.all (zVb (b + sc.length)) = true) (hN : ∀ j, j < sc.length → N j = M (b + j))
    (hrun : ∀ (p : Program) (l : Launch) (e : Jvm.Env) (RR : Room) (s : State) (m : MethodId) (args : Array Value) (below : List Frame) (meth : Method) (c : Code) (D : va_G) (cA : Nat → ClassId) (ex : Nat → Nat) (A : Nat → Prop), zEv Y p l RR s m args meth c D cA ex A → ∀ (cells slots : Nat) (as : Nat → Nat), cells + k1 ≤ RR.cells ∧ slots + n1 ≤ RR.slots → ∀ (H : Heap) (locs : List Loc) (lsR : Array Slot),
      va_P D vwCl (zWd cA as ex M 0 (pre ++ sc.map (zRe b))) H → va_D A (zWd cA as ex M 0 (pre ++ sc.map (zRe b))) → va_S A s.heap H locs → lv_has lsR Y.2.2.1 (zLv as ex 0 ls) →
      ∃ a, va_Run p l e RR s m args below meth c H locs cells slots k1 n1 (F0 m pc lsR (S0.map (zTr as ex))) (st.map (zTr as ex)) (zPostR D cA (fun k => as (b + k)) ex sc N H.size R a) (va_A (zWd cA (fun k => as (b + k)) ex N 0 sc) H.size))
    (k9 : ∀ rv sc' N', R rv sc' N' → zT Y kc nc Z (pc + 3, ls, (rv.map (zRv b)).toList ++ st, pre ++ sc'.map (zRe b), zPs M b sc'.length N')) : zT Y (k1 + kc) (n1 + nc) Z (pc, ls, S0, pre ++ sc.map (zRe b), M) := by
  intro p l e RR s m args below meth c D cA ex A E Q cells slots as g1 g2 kk
  refine zGcallR (R := R) (sc := sc) (N := N) (k1 := k1) (n1 := n1) (S0 := S0) E hb hcs hls hst hN ?_ (fun rv sc' N' hR as' hag => k9 rv sc' N' hR p l e RR s m args below meth c D cA ex A E Q (cells + k1) (slots + n1) as' (by omega) (by omega) fun S' as2 ha hz => ?_)
  · intro H locs lsR hP hD hS hl
    exact hrun p l e RR s m args below meth c D cA ex A E cells slots as ⟨by omega, by omega⟩ H locs lsR hP hD hS hl
  · rw [← Nat.add_assoc, ← Nat.add_assoc] at kk
    refine kk S' as2 ?_ hz
    have hl1 : (pre ++ sc.map (zRe b)).length = b + sc.length := by simp [hb]
    have hl2 : (pre ++ sc'.map (zRe b)).length = b + sc'.length := by simp [hb]
    have ha : zAg (pre ++ sc'.map (zRe b)).length S'.2.2.2.1.length as' as2 := ha
    show zAg (pre ++ sc.map (zRe b)).length _ as as2
    rw [hl1]
    rw [hl2] at ha
    exact ⟨Nat.le_trans hag.1 ha.1, fun q hq => by
      rcases hq with hq | hq
      · rw [ha.2 q (Or.inl (Nat.lt_of_lt_of_le hq hag.1)), hag.2 q (Or.inl hq)]
      · rw [ha.2 q (Or.inr hq), hag.2 q (Or.inr (Nat.le_trans ha.1 hq))]⟩
/-- words of an instance method, of any class -/
def zOkI (Y : zY) (n : Nat) : Prop := ((Cond.code Y.1 Y.2.1 Y.2.2.1 Y.2.2.2.1 ∈ zW ∧ Cond.initialized Y.1.cls ∈ zW) ∧ (Y.1.cls ≠ "java/lang/invoke/MethodHandle" ∧ Y.1.cls ≠ "java/lang/invoke/VarHandle" ∧ (parseMethodDescriptor Y.1.desc).map (fun d => d.parameters.length) = some n)) ∧ Cond.instanceMethod Y.1 ∈ zW ∧ Cond.sameMethod Y.1.cls Y.1.cls Y.1.name Y.1.desc ∈ zW
theorem zT.callPr {n ci : Nat} {fs : List Value} {q : vw_C} (hC : zCr Yc k1 n1 (.ref o :: av) sc N R) (hb : pre.length = b) (hcs : zCs (b + sc.length) pre) (hls : zLb (b + sc.length) ls = true) (hst : st.all (zVb (b + sc.length)) = true) (hN : ∀ j, j < sc.length → N j = M (b + j))
    (ho : zSg sc o = some (.inr (ci, fs))) (hol : o < sc.length) (hq : vwCl[ci]? = some q) (hn : av.length = n) (hok : zOkI Yc n ∧ Cond.privateMethod Yc.1 ∈ zNw) (hlk : Cond.methodLink Y.1.cls idx Yc.1 ∈ zW) (hroom : zRoom Y Yc = true) (hw : (st.map fun v => v.category).sum ≤ 8)
    (hd : decode Y.2.1 pc = .ok (.invokevirtual idx, 3)) {S0 : List Value} (h0 : S0 = (av.map (zRv b)).reverse ++ .ref (b + o) :: st)
    (k9 : ∀ rv sc' N', R rv sc' N' → zT Y kc nc Z (pc + 3, ls, (rv.map (zRv b)).toList ++ st, pre ++ sc'.map (zRe b), zPs M b sc'.length N')) : zT Y (k1 + kc) (n1 + nc) Z (pc, ls, S0, pre ++ sc.map (zRe b), M) := by
  subst h0
  refine zT.callGr hC hb hcs hls hst hN ?_ k9
  intro p l e RR s m args below meth c D cA ex A E cells slots as hf H locs lsR hP hD hS hl
  simp only [zRoom, Bool.and_eq_true, decide_eq_true_eq] at hroom
  have hts := E.2.2.2.2.1
  have ho2 : zSg (pre ++ sc.map (zRe b)) (b + o) = some (.inr (ci, fs.map (zRv b))) := by rw [zSub.end hb o hol, ho]; rfl
  have hrv := va_recv E.2.2.2.2.2.1 hP hq (zWd_at ho2)
  have hpre := zPre_of (av := .ref o :: av) (as := as) (zSub.end hb) hN E.2.2.2.2.2.1 E.2.2.2.2.2.2.2.1 E.2.2.2.2.2.2.1 hP hD hS rfl
  have hrm := And.intro (Nat.le_trans hroom.1 E.2.2.2.2.2.2.2.2.2.2.2.2.1) (Nat.le_trans hroom.2 E.2.2.2.2.2.2.2.2.2.2.2.2.2)
  obtain ⟨hok, hpv⟩ := hok
  have hsl := sel_priv (E.2.2.2.2.2.1.1 ci q hq).2.1 ((E.2.2.2.2.2.2.2.1.2.2.2.2.2.2.2.1 _ hpv).use rfl) (hts _ hok.2.1) (hts _ hok.2.2)
  refine ⟨_, va_runV (C := q.1) (cc := Y.2.1) (nL := Y.2.2.1) (b := as (b + o)) (As := av.map (zTr (fun k => as (b + k)) ex)) (rest := st.map (zTr as ex)) ⟨E.1, E.2.1, E.2.2.1, E.2.2.2.1, hts⟩ (hC l E.2.2.2.2.2.2.2.2.1 D cA (fun k => as (b + k)) ex H.size) ⟨callB_of n hts (zGoodIn hok.1.1.1) rfl rfl rfl (hts _ hok.1.1.2) (hts _ hlk) hok.1.2 hrm, hts _ hok.2.1, hsl⟩ ⟨zPre_blind, hrv, hpre⟩ rfl (by rw [List.length_map]; exact hn) hl.1 ?_ (lv_room (by rw [zTr_sum]; exact hw)) hd hf⟩
  rw [zMapRv]
  simp [List.map_reverse]
  rfl

theorem zT.callSup {n ci : Nat} {fs : List Value} {q : vw_C} (hC : zCr Yc k1 n1 (.ref o :: av) sc N R) (hb : pre.length = b) (hcs : zCs (b + sc.length) pre) (hls : zLb (b + sc.length) ls = true) (hst : st.all (zVb (b + sc.length)) = true) (hN : ∀ j, j < sc.length → N j = M (b + j))
    (ho : zSg sc o = some (.inr (ci, fs))) (hol : o < sc.length) (hq : vwCl[ci]? = some q) (hn : av.length = n) (hok : (zOkI Yc n ∧ Yc.1.name ≠ "<init>") ∧ Cond.superclass Y.1.cls Yc.1.cls ∈ zW) (hlk : Cond.methodLink Y.1.cls idx Yc.1 ∈ zW) (hroom : zRoom Y Yc = true) (hw : (st.map fun v => v.category).sum ≤ 8)
    (hd : decode Y.2.1 pc = .ok (.invokespecial idx, 3)) {S0 : List Value} (h0 : S0 = (av.map (zRv b)).reverse ++ .ref (b + o) :: st)
    (k9 : ∀ rv sc' N', R rv sc' N' → zT Y kc nc Z (pc + 3, ls, (rv.map (zRv b)).toList ++ st, pre ++ sc'.map (zRe b), zPs M b sc'.length N')) : zT Y (k1 + kc) (n1 + nc) Z (pc, ls, S0, pre ++ sc.map (zRe b), M) := by
  subst h0
  refine zT.callGr hC hb hcs hls hst hN ?_ k9
  intro p l e RR s m args below meth c D cA ex A E cells slots as hf H locs lsR hP hD hS hl
  simp only [zRoom, Bool.and_eq_true, decide_eq_true_eq] at hroom
  have hts := E.2.2.2.2.1
  have ho2 : zSg (pre ++ sc.map (zRe b)) (b + o) = some (.inr (ci, fs.map (zRv b))) := by rw [zSub.end hb o hol, ho]; rfl
  have hrv := va_recv E.2.2.2.2.2.1 hP hq (zWd_at ho2)
  have hpre := zPre_of (av := .ref o :: av) (as := as) (zSub.end hb) hN E.2.2.2.2.2.1 E.2.2.2.2.2.2.2.1 E.2.2.2.2.2.2.1 hP hD hS rfl
  have hrm := And.intro (Nat.le_trans hroom.1 E.2.2.2.2.2.2.2.2.2.2.2.2.1) (Nat.le_trans hroom.2 E.2.2.2.2.2.2.2.2.2.2.2.2.2)
  obtain ⟨⟨hok, hni⟩, hsu⟩ := hok
  have hG : GoodIn zW (va_wsSU Y.1.cls idx Yc.1 (zWs Yc)) := fun w hw => by
    unfold va_wsSU at hw
    rcases List.mem_append.mp hw with h | h
    · simp only [List.mem_cons, List.not_mem_nil, or_false] at h
      rcases h with rfl | rfl | rfl | rfl | rfl
      · exact ⟨hlk, zW_good hlk⟩
      · exact ⟨hok.2.2, zW_good hok.2.2⟩
      · exact ⟨hsu, zW_good hsu⟩
      · exact ⟨hok.2.1, zW_good hok.2.1⟩
      · exact ⟨hok.1.1.2, zW_good hok.1.1.2⟩
    · exact zGoodIn hok.1.1.1 w h
  refine ⟨_, va_runSU (C := q.1) (cC := D.1 ci) (cc := Y.2.1) (nL := Y.2.2.1) (b := as (b + o)) (As := av.map (zTr (fun k => as (b + k)) ex)) (rest := st.map (zTr as ex)) (E.2.2.2.2.2.1.1 ci q hq).2 ⟨E.1, E.2.1, E.2.2.1, E.2.2.2.1, hts⟩ (hC l E.2.2.2.2.2.2.2.2.1 D cA (fun k => as (b + k)) ex H.size) (va_cwSU n hts hG rfl rfl rfl ⟨hni, hok.1.2.2.2⟩ hrm) ⟨zPre_blind, hrv, hpre⟩ rfl (by rw [List.length_map]; exact hn) hl.1 ?_ (lv_room (by rw [zTr_sum]; exact hw)) hd hf⟩
  rw [zMapRv]
  simp [List.map_reverse]
  rfl

theorem zT.callUp {n ci : Nat} {fs : List Value} {q : vw_C} {x : MethodName} {b0 : ByteArray} {m0 : Nat} {r0 : Option FieldType} (h00 : Cond.code x b0 m0 r0 ∈ zW) (hx1 : Cond.instanceMethod x ∈ zW) (hx2 : Cond.sameMethod x.cls x.cls x.name x.desc ∈ zW) (hsl : Cond.selects q.1 x Yc.1 ∈ zW) (hdx : x.cls ≠ "java/lang/invoke/MethodHandle" ∧ x.cls ≠ "java/lang/invoke/VarHandle" ∧ (parseMethodDescriptor x.desc).map (fun d => d.parameters.length) = some n) (hC : zCr Yc k1 n1 (.ref o :: av) sc N R) (hb : pre.length = b) (hcs : zCs (b + sc.length) pre) (hls : zLb (b + sc.length) ls = true) (hst : st.all (zVb (b + sc.length)) = true) (hN : ∀ j, j < sc.length → N j = M (b + j))
    (ho : zSg sc o = some (.inr (ci, fs))) (hol : o < sc.length) (hq : vwCl[ci]? = some q) (hn : av.length = n) (hok : (Cond.code Yc.1 Yc.2.1 Yc.2.2.1 Yc.2.2.2.1 ∈ zW ∧ Cond.initialized Yc.1.cls ∈ zW) ∧ Cond.instanceMethod Yc.1 ∈ zW) (hlk : Cond.methodLink Y.1.cls idx x ∈ zW) (hroom : zRoom Y Yc = true) (hw : (st.map fun v => v.category).sum ≤ 8)
    (hd : decode Y.2.1 pc = .ok (.invokevirtual idx, 3)) {S0 : List Value} (h0 : S0 = (av.map (zRv b)).reverse ++ .ref (b + o) :: st)
    (k9 : ∀ rv sc' N', R rv sc' N' → zT Y kc nc Z (pc + 3, ls, (rv.map (zRv b)).toList ++ st, pre ++ sc'.map (zRe b), zPs M b sc'.length N')) : zT Y (k1 + kc) (n1 + nc) Z (pc, ls, S0, pre ++ sc.map (zRe b), M) := by
  subst h0
  refine zT.callGr hC hb hcs hls hst hN ?_ k9
  intro p l e RR s m args below meth c D cA ex A E cells slots as hf H locs lsR hP hD hS hl
  simp only [zRoom, Bool.and_eq_true, decide_eq_true_eq] at hroom
  have hts := E.2.2.2.2.1
  have ho2 : zSg (pre ++ sc.map (zRe b)) (b + o) = some (.inr (ci, fs.map (zRv b))) := by rw [zSub.end hb o hol, ho]; rfl
  have hrv := va_recv E.2.2.2.2.2.1 hP hq (zWd_at ho2)
  have hpre := zPre_of (av := .ref o :: av) (as := as) (zSub.end hb) hN E.2.2.2.2.2.1 E.2.2.2.2.2.2.2.1 E.2.2.2.2.2.2.1 hP hD hS rfl
  have hrm := And.intro (Nat.le_trans hroom.1 E.2.2.2.2.2.2.2.2.2.2.2.2.1) (Nat.le_trans hroom.2 E.2.2.2.2.2.2.2.2.2.2.2.2.2)
  have hG : GoodIn zW (va_wsO Y.1.cls idx q.1 x.cls x Yc.1 (zWs Yc)) := fun w hw => by
    unfold va_wsO at hw
    rcases List.mem_append.mp hw with h | h
    · simp only [List.mem_cons, List.not_mem_nil, or_false] at h
      rcases h with rfl | rfl | rfl | rfl | rfl | rfl
      · exact ⟨hlk, zW_good hlk⟩
      · exact ⟨hx2, zW_good hx2⟩
      · exact ⟨hx1, zW_good hx1⟩
      · exact ⟨hsl, zW_good hsl⟩
      · exact ⟨hok.2, zW_good hok.2⟩
      · exact ⟨hok.1.2, zW_good hok.1.2⟩
    · exact zGoodIn hok.1.1 w h
  refine ⟨_, va_runU (x := x) (owner := x.cls) (C := q.1) (cc := Y.2.1) (nL := Y.2.2.1) (b := as (b + o)) (As := av.map (zTr (fun k => as (b + k)) ex)) (rest := st.map (zTr as ex)) ⟨E.1, E.2.1, E.2.2.1, E.2.2.2.1, hts⟩ (hC l E.2.2.2.2.2.2.2.2.1 D cA (fun k => as (b + k)) ex H.size) (va_cwO n hts hG rfl rfl rfl h00 hdx hrm) ⟨zPre_blind, hrv, hpre⟩ rfl (by rw [List.length_map]; exact hn) hl.1 ?_ (lv_room (by rw [zTr_sum]; exact hw)) hd hf⟩
  rw [zMapRv]
  simp [List.map_reverse]
  rfl

end ZCLL
