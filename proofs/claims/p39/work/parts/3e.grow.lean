/-! CALLS of a method that makes cells of the world: its stretch is the world's end -/
theorem zWd_re {cA : Nat → ClassId} {as ex : Nat → Nat} {M N : zM} {b : Nat} : ∀ {sc : List va_E} {j : Nat}, (∀ k, j ≤ k → k < j + sc.length → M (b + k) = N k) → zWd cA as ex M (b + j) (sc.map (zRe b)) = zWd cA (fun k => as (b + k)) ex N j sc
  | [], _, _ => rfl
  | q :: r, j, h => by
    simp only [List.length_cons] at h
    simp only [List.map_cons, zWd]
    rw [h j (by omega) (by omega), ← zTrE_re, Nat.add_assoc, zWd_re (j := j + 1) (fun k h1 h2 => h k (by omega) (by omega))]
theorem zSub.end {pre sc : List va_E} {b : Nat} (hb : pre.length = b) : zSub (pre ++ sc.map (zRe b)) b sc := fun j hj => by
  rw [zSg_eq, zSg_eq, List.getElem?_append_right (by omega), ← hb, Nat.add_sub_cancel_left, List.getElem?_map]
def zAsG (as as2 : Nat → Nat) (b : Nat) : Nat → Nat := fun k => if k < b then as k else as2 (k - b)
section ZGR
variable {Y Yc : zY} {kc nc k1 n1 : Nat} {Z : zS → Prop} {pc idx : Nat} {ls : zL} {st : List Value} {pre sc sc' : List va_E} {M N N' : zM} {b o : Nat} {av : List Value} {rv : Option Value}
set_option maxHeartbeats 2000000 in
theorem zGcallG {p : Program} {l : Launch} {e : Jvm.Env} {R : Room} {s : State} {m : MethodId} {args : Array Value} {below : List Frame} {meth : Method} {c : Code} {D : va_G} {cA : Nat → ClassId} {ex : Nat → Nat} {A : Nat → Prop} {Q : State → Prop} {cells slots : Nat} {as : Nat → Nat} {S0 : List Value}
    (E : zEv Y p l R s m args meth c D cA ex A) (hb : pre.length = b) (hcs : zCs (b + sc.length) pre) (hls : zLb (b + sc.length) ls = true) (hst : st.all (zVb (b + sc.length)) = true) (hN : ∀ j, j < sc.length → N j = M (b + j))
    (hrun : ∀ (H : Heap) (locs : List Loc) (lsR : Array Slot), va_P D vwCl (zWd cA as ex M 0 (pre ++ sc.map (zRe b))) H → va_D A (zWd cA as ex M 0 (pre ++ sc.map (zRe b))) → va_S A s.heap H locs → lv_has lsR Y.2.2.1 (zLv as ex 0 ls) →
      ∃ a, va_Run p l e R s m args below meth c H locs cells slots k1 n1 (F0 m pc lsR (S0.map (zTr as ex))) (st.map (zTr as ex)) (zPost D cA (fun k => as (b + k)) ex sc N H.size rv sc' N' a) (va_A (zWd cA (fun k => as (b + k)) ex N 0 sc) H.size))
    (k9 : ∀ as' : Nat → Nat, zAg (b + sc.length) (b + sc'.length) as as' → zG Y p l e R s m args below meth c D cA ex A Q (cells + k1) (slots + n1) as' (pc + 3, ls, (rv.map (zRv b)).toList ++ st, pre ++ sc'.map (zRe b), zPs M b sc'.length N')) : zG Y p l e R s m args below meth c D cA ex A Q cells slots as (pc, ls, S0, pre ++ sc.map (zRe b), M) := by
  intro H locs lsR hP hD hS hl
  obtain ⟨a, hr⟩ := hrun H locs lsR hP hD hS hl
  have hs : zSub (pre ++ sc.map (zRe b)) b sc := zSub.end hb
  have hF := hs.free (cA := cA) (ex := ex) hN hD hS E.2.2.2.2.2.2.1
  refine zAfter (B := fun v t => ∃ as' : Nat → Nat, zAg sc.length sc'.length (fun k => as (b + k)) as' ∧ v = rv.map (zTr as' ex) ∧ va_P D vwCl (zWd cA as' ex N' 0 sc') t.heap ∧ va_D (va_A (zWd cA (fun k => as (b + k)) ex N 0 sc) H.size) (zWd cA as' ex N' 0 sc')) (A1 := va_A (zWd cA (fun k => as (b + k)) ex N 0 sc) H.size) (A0 := A) hr ?_ hS (fun q _ h => hF q h) hF ?_
  · rintro st9 v t ⟨⟨as', h1, h2, h3, h4⟩, h5⟩
    exact ⟨⟨as', h1, Outcome.returned.inj h2, h3, h4⟩, h5⟩
  · rintro v t H1 locs1 ht ⟨as2, hag, rfl, hP1, hD1⟩ hz hk hS1
    rw [ht] at hP1
    have hlt : ∀ k, k < b + sc.length → zAsG as as2 b k = as k := fun k hk9 => by
      unfold zAsG
      split
      · rfl
      · have := hag.2 (k - b) (Or.inl (by omega))
        rw [this]
        show as (b + (k - b)) = as k
        congr 1
        omega
    have hgt : ∀ k, b + sc'.length ≤ k → zAsG as as2 b k = as k := fun k hk9 => by
      unfold zAsG
      rw [if_neg (by omega)]
      have := hag.2 (k - b) (Or.inr (by omega))
      rw [this]
      show as (b + (k - b)) = as k
      congr 1
      omega
    have hin : (fun k => zAsG as as2 b (b + k)) = as2 := by
      funext k
      unfold zAsG
      rw [if_neg (by omega)]
      congr 1
      omega
    have hw : zWd cA (zAsG as as2 b) ex (zPs M b sc'.length N') 0 (pre ++ sc'.map (zRe b)) = zWd cA as ex M 0 pre ++ zWd cA as2 ex N' 0 sc' := by
      rw [zWd_app, zWd_as (n := b + sc.length) (as := as) hcs (by omega) hlt, zWd_M (M := M) (fun k _ hk => zPs_out (Or.inl (by omega)))]
      congr 1
      rw [show 0 + pre.length = b + 0 by omega, zWd_re (N := N') (j := 0) (fun k _ h2 => by rw [zPs_in (by omega) (by omega)]; congr 1; omega), hin]
    have hpre : ∀ (k : Nat) (q : Nat × va_E), (zWd cA as ex M 0 pre)[k]? = some q → k < b ∧ (zWd cA as ex M 0 (pre ++ sc.map (zRe b)))[k]? = some q := fun k q h => by
      have hkl : k < b := by
        have := (List.getElem?_eq_some_iff.mp h).1
        rw [zWd_len] at this
        omega
      refine ⟨hkl, ?_⟩
      rw [zWd_app, List.getElem?_append_left (by rw [zWd_len]; omega)]
      exact h
    have apart : ∀ (k : Nat) (q : Nat × va_E), (zWd cA as ex M 0 pre)[k]? = some q → q.1 < H.size ∧ ¬ va_A (zWd cA (fun k => as (b + k)) ex N 0 sc) H.size q.1 := by
      intro k q h
      obtain ⟨hkl, h⟩ := hpre k q h
      have hlt9 := (hP k q h).lt
      refine ⟨hlt9, fun h9 => ?_⟩
      rcases h9 with ⟨j, x, h9⟩ | h9
      · have h8 := hs.wd hN h9
        have := hD.1 k (b + j) q (q.1, x) h h8.2 rfl
        omega
      · omega
    have hP2 : va_P D vwCl (zWd cA (zAsG as as2 b) ex (zPs M b sc'.length N') 0 (pre ++ sc'.map (zRe b))) H1 := by
      rw [hw]
      refine va_P.app (va_P.kept (H := H) (fun k q h => hP k q (hpre k q h).2) (fun k q h => hk q.1 (apart k q h).1 (apart k q h).2)) (fun k x hx => hP1 k x hx)
    have hD2 : va_D A (zWd cA (zAsG as as2 b) ex (zPs M b sc'.length N') 0 (pre ++ sc'.map (zRe b))) := by
      rw [hw]
      refine va_D.app ⟨fun i j x y hi hj hxy => hD.1 i j x y (hpre i x hi).2 (hpre j y hj).2 hxy, fun k q h => hD.2 k q (hpre k q h).2⟩ (hD1.weaken (fun k q _ h => hF _ h)) (fun i j x y hi hj hxy => (apart i x hi).2 (by rw [hxy]; exact hD1.2 j y hj))
    have hag2 : zAg (b + sc.length) (b + sc'.length) as (zAsG as as2 b) := ⟨by have := hag.1; omega, fun k hk9 => hk9.elim (hlt k) (hgt k)⟩
    have := k9 (zAsG as as2 b) hag2 H1 locs1 lsR hP2 hD2 hS1 (by show lv_has lsR Y.2.2.1 (zLv _ ex 0 ls); rw [zLv_as hlt hls]; exact hl)
    have e9 : (((rv.map (zRv b)).toList ++ st).map (zTr (zAsG as as2 b) ex)) = (rv.map (zTr as2 ex)).toList ++ st.map (zTr as ex) := by
      rw [List.map_append, zVb_trs hlt hst]
      congr 1
      cases rv with
      | none => rfl
      | some v =>
        show [zTr (zAsG as as2 b) ex (zRv b v)] = [zTr as2 ex v]
        rw [← zTr_rv, hin]
    rw [e9] at this
    exact this
/-- the constructor of a new object, at the world's end -/
theorem zT.callI {n : Nat} (hC : zC Yc k1 n1 (.ref o :: av) sc N rv sc' N') (hrv : rv = none) (hret : Yc.2.2.2.1 = none) (hb : pre.length = b) (hcs : zCs (b + sc.length) pre) (hls : zLb (b + sc.length) ls = true) (hst : st.all (zVb (b + sc.length)) = true) (hN : ∀ j, j < sc.length → N j = M (b + j))
    (hn : av.length = n) (hok : zOkC Yc n) (hnm : Yc.1.name = "<init>") (hv : Cond.instanceMethod Yc.1 ∈ zW) (hlk : Cond.methodLink Y.1.cls idx Yc.1 ∈ zW) (hroom : zRoom Y Yc = true) (hw : (st.map fun v => v.category).sum ≤ 8)
    (hd : decode Y.2.1 pc = .ok (.invokespecial idx, 3)) {S0 : List Value} (h0 : S0 = (av.map (zRv b)).reverse ++ .ref (b + o) :: st)
    (k9 : zT Y kc nc Z (pc + 3, ls, st, pre ++ sc'.map (zRe b), zPs M b sc'.length N')) : zT Y (k1 + kc) (n1 + nc) Z (pc, ls, S0, pre ++ sc.map (zRe b), M) := by
  subst h0 hrv
  intro p l e R s m args below meth c D cA ex A E Q cells slots as g1 g2 kk
  refine zGcallG (rv := none) (sc := sc) (N := N) (sc' := sc') (N' := N') (k1 := k1) (n1 := n1) (S0 := (av.map (zRv b)).reverse ++ .ref (b + o) :: st) E hb hcs hls hst hN ?_ (fun as' hag => k9 p l e R s m args below meth c D cA ex A E Q (cells + k1) (slots + n1) as' (by omega) (by omega) fun S' as2 ha hz => ?_)
  · intro H locs lsR hP hD hS hl
    simp only [zRoom, Bool.and_eq_true, decide_eq_true_eq] at hroom
    have hts := E.2.2.2.2.1
    have cw : CallB R s args Y.1.cls idx Yc.1 Yc.2.1 Yc.2.2.1 none (zWs Yc) { frames := Yc.2.2.2.2.1, cells := k1, slots := n1, locals := Yc.2.2.2.2.2 } k1 n1 n := by
      have := callB_of (R := R) (s := s) (args := args) (own := Y.1.cls) (index := idx) n hts (zGoodIn hok.1.1.1) (ret := Yc.2.2.2.1) (maxL := Yc.2.2.1) (rm := { frames := Yc.2.2.2.2.1, cells := k1, slots := n1, locals := Yc.2.2.2.2.2 }) (mc := k1) (ms := n1) rfl rfl rfl (hts _ hok.1.1.2) (hts _ hlk) hok.1.2 ⟨Nat.le_trans hroom.1 E.2.2.2.2.2.2.2.2.2.2.2.2.1, Nat.le_trans hroom.2 E.2.2.2.2.2.2.2.2.2.2.2.2.2⟩
      rw [hret] at this
      exact this
    refine ⟨_, va_runI (cc := Y.2.1) (nL := Y.2.2.1) (b := as (b + o)) (As := av.map (zTr (fun k => as (b + k)) ex)) (rest := st.map (zTr as ex)) ⟨E.1, E.2.1, E.2.2.1, E.2.2.2.1, hts⟩ (hC l E.2.2.2.2.2.2.2.2.1 D cA (fun k => as (b + k)) ex H.size) ⟨cw, hnm, hts _ hv⟩ ⟨zPre_blind, ?_⟩ rfl (by rw [List.length_map]; exact hn) hl.1 ?_ (lv_room (by rw [zTr_sum]; exact hw)) hd ⟨by omega, by omega⟩⟩
    · exact zPre_of (av := .ref o :: av) (zSub.end hb) hN E.2.2.2.2.2.1 E.2.2.2.2.2.2.2.1 E.2.2.2.2.2.2.1 hP hD hS rfl
    · rw [zMapRv]
      simp [List.map_reverse]
      rfl
  · rw [← Nat.add_assoc, ← Nat.add_assoc] at kk
    refine kk S' as2 ?_ hz
    have hl1 : (pre ++ sc.map (zRe b)).length = b + sc.length := by simp [hb]
    have hl2 : (pre ++ sc'.map (zRe b)).length = b + sc'.length := by simp [hb]
    have ha : zAg (pre ++ sc'.map (zRe b)).length S'.2.2.2.1.length as' as2 := ha
    show zAg (pre ++ sc.map (zRe b)).length _ as as2
    rw [hl1]
    rw [hl2] at ha
    exact ⟨Nat.le_trans hag.1 ha.1, fun q hq => by
      rcases hq with hq | hq
      · rw [ha.2 q (Or.inl (Nat.lt_of_lt_of_le hq hag.1)), hag.2 q (Or.inl hq)]
      · rw [ha.2 q (Or.inr hq), hag.2 q (Or.inr (Nat.le_trans ha.1 hq))]⟩
/-- .. a nest mate's private one -/
theorem zT.callIN {n : Nat} {host : String} (hC : zC Yc k1 n1 (.ref o :: av) sc N rv sc' N') (hrv : rv = none) (hret : Yc.2.2.2.1 = none) (hb : pre.length = b) (hcs : zCs (b + sc.length) pre) (hls : zLb (b + sc.length) ls = true) (hst : st.all (zVb (b + sc.length)) = true) (hN : ∀ j, j < sc.length → N j = M (b + j))
    (hn : av.length = n) (hok : zOkC Yc n) (hnm : Yc.1.name = "<init>") (hv : Cond.instanceMethod Yc.1 ∈ zW) (hlk : Cond.methodLinkNest Y.1.cls idx Yc.1 host ∈ zNw) (hroom : zRoom Y Yc = true) (hw : (st.map fun v => v.category).sum ≤ 8)
    (hd : decode Y.2.1 pc = .ok (.invokespecial idx, 3)) {S0 : List Value} (h0 : S0 = (av.map (zRv b)).reverse ++ .ref (b + o) :: st)
    (k9 : zT Y kc nc Z (pc + 3, ls, st, pre ++ sc'.map (zRe b), zPs M b sc'.length N')) : zT Y (k1 + kc) (n1 + nc) Z (pc, ls, S0, pre ++ sc.map (zRe b), M) := by
  subst h0 hrv
  intro p l e R s m args below meth c D cA ex A E Q cells slots as g1 g2 kk
  refine zGcallG (rv := none) (sc := sc) (N := N) (sc' := sc') (N' := N') (k1 := k1) (n1 := n1) (S0 := (av.map (zRv b)).reverse ++ .ref (b + o) :: st) E hb hcs hls hst hN ?_ (fun as' hag => k9 p l e R s m args below meth c D cA ex A E Q (cells + k1) (slots + n1) as' (by omega) (by omega) fun S' as2 ha hz => ?_)
  · intro H locs lsR hP hD hS hl
    simp only [zRoom, Bool.and_eq_true, decide_eq_true_eq] at hroom
    have hts := E.2.2.2.2.1
    have cw : va_CN R s args Y.1.cls idx Yc.1 host Yc.2.1 Yc.2.2.1 none (zWs Yc) { frames := Yc.2.2.2.2.1, cells := k1, slots := n1, locals := Yc.2.2.2.2.2 } k1 n1 n := by
      have := va_cnB (R := R) (s := s) (args := args) (own := Y.1.cls) (index := idx) (host := host) n hts (zGoodIn hok.1.1.1) (ret := Yc.2.2.2.1) (maxL := Yc.2.2.1) (rm := { frames := Yc.2.2.2.2.1, cells := k1, slots := n1, locals := Yc.2.2.2.2.2 }) (mc := k1) (ms := n1) rfl rfl rfl (E.2.2.2.2.2.2.2.1.2.2.2.2.2.2.2.1 _ hlk) (hts _ hok.1.1.2) hok.1.2 ⟨Nat.le_trans hroom.1 E.2.2.2.2.2.2.2.2.2.2.2.2.1, Nat.le_trans hroom.2 E.2.2.2.2.2.2.2.2.2.2.2.2.2⟩
      rw [hret] at this
      exact this
    refine ⟨_, va_runIN (cc := Y.2.1) (nL := Y.2.2.1) (b := as (b + o)) (As := av.map (zTr (fun k => as (b + k)) ex)) (rest := st.map (zTr as ex)) ⟨E.1, E.2.1, E.2.2.1, E.2.2.2.1, hts⟩ (hC l E.2.2.2.2.2.2.2.2.1 D cA (fun k => as (b + k)) ex H.size) ⟨cw, hnm, hts _ hv⟩ ⟨zPre_blind, ?_⟩ rfl (by rw [List.length_map]; exact hn) hl.1 ?_ (lv_room (by rw [zTr_sum]; exact hw)) hd ⟨by omega, by omega⟩⟩
    · exact zPre_of (av := .ref o :: av) (zSub.end hb) hN E.2.2.2.2.2.1 E.2.2.2.2.2.2.2.1 E.2.2.2.2.2.2.1 hP hD hS rfl
    · rw [zMapRv]
      simp [List.map_reverse]
      rfl
  · rw [← Nat.add_assoc, ← Nat.add_assoc] at kk
    refine kk S' as2 ?_ hz
    have hl1 : (pre ++ sc.map (zRe b)).length = b + sc.length := by simp [hb]
    have hl2 : (pre ++ sc'.map (zRe b)).length = b + sc'.length := by simp [hb]
    have ha : zAg (pre ++ sc'.map (zRe b)).length S'.2.2.2.1.length as' as2 := ha
    show zAg (pre ++ sc.map (zRe b)).length _ as as2
    rw [hl1]
    rw [hl2] at ha
    exact ⟨Nat.le_trans hag.1 ha.1, fun q hq => by
      rcases hq with hq | hq
      · rw [ha.2 q (Or.inl (Nat.lt_of_lt_of_le hq hag.1)), hag.2 q (Or.inl hq)]
      · rw [ha.2 q (Or.inr hq), hag.2 q (Or.inr (Nat.le_trans ha.1 hq))]⟩
/-- an instance method, at the world's end -/
theorem zT.callVG {n ci : Nat} {fs : List Value} (hC : zC Yc k1 n1 (.ref o :: av) sc N rv sc' N') (hb : pre.length = b) (hcs : zCs (b + sc.length) pre) (hls : zLb (b + sc.length) ls = true) (hst : st.all (zVb (b + sc.length)) = true) (hN : ∀ j, j < sc.length → N j = M (b + j))
    (ho : zSg sc o = some (.inr (ci, fs))) (hol : o < sc.length) (hcl : (vwCl[ci]?).map (fun q => q.1) = some Yc.1.cls) (hn : av.length = n) (hok : zCal Yc n) (hlk : Cond.methodLink Y.1.cls idx Yc.1 ∈ zW) (hroom : zRoom Y Yc = true) (hw : (st.map fun v => v.category).sum ≤ 8)
    (hd : decode Y.2.1 pc = .ok (.invokevirtual idx, 3)) {S0 : List Value} (h0 : S0 = (av.map (zRv b)).reverse ++ .ref (b + o) :: st)
    (k9 : zT Y kc nc Z (pc + 3, ls, (rv.map (zRv b)).toList ++ st, pre ++ sc'.map (zRe b), zPs M b sc'.length N')) : zT Y (k1 + kc) (n1 + nc) Z (pc, ls, S0, pre ++ sc.map (zRe b), M) := by
  subst h0
  obtain ⟨hok, hv⟩ := hok
  intro p l e R s m args below meth c D cA ex A E Q cells slots as g1 g2 kk
  refine zGcallG (rv := rv) (sc := sc) (N := N) (sc' := sc') (N' := N') (k1 := k1) (n1 := n1) (S0 := (av.map (zRv b)).reverse ++ .ref (b + o) :: st) E hb hcs hls hst hN ?_ (fun as' hag => k9 p l e R s m args below meth c D cA ex A E Q (cells + k1) (slots + n1) as' (by omega) (by omega) fun S' as2 ha hz => ?_)
  · intro H locs lsR hP hD hS hl
    simp only [zRoom, Bool.and_eq_true, decide_eq_true_eq] at hroom
    have hts := E.2.2.2.2.1
    have cw : CallW R s args Y.1.cls Yc.1.cls idx Yc.1 Yc.2.1 Yc.2.2.1 Yc.2.2.2.1 (zWs Yc) { frames := Yc.2.2.2.2.1, cells := k1, slots := n1, locals := Yc.2.2.2.2.2 } k1 n1 n :=
      ⟨callB_of n hts (zGoodIn hok.1.1.1) rfl rfl rfl (hts _ hok.1.1.2) (hts _ hlk) hok.1.2 ⟨Nat.le_trans hroom.1 E.2.2.2.2.2.2.2.2.2.2.2.2.1, Nat.le_trans hroom.2 E.2.2.2.2.2.2.2.2.2.2.2.2.2⟩, hts _ hv.1, hts _ hv.2⟩
    cases hq : vwCl[ci]? with
    | none => rw [hq] at hcl; cases hcl
    | some q =>
      rw [hq] at hcl
      have hcl : q.1 = Yc.1.cls := Option.some.inj hcl
      refine ⟨_, va_runV (cc := Y.2.1) (nL := Y.2.2.1) (b := as (b + o)) (As := av.map (zTr (fun k => as (b + k)) ex)) (rest := st.map (zTr as ex)) ⟨E.1, E.2.1, E.2.2.1, E.2.2.2.1, hts⟩ (hC l E.2.2.2.2.2.2.2.2.1 D cA (fun k => as (b + k)) ex H.size) cw ⟨zPre_blind, ?_, ?_⟩ rfl (by rw [List.length_map]; exact hn) hl.1 ?_ (lv_room (by rw [zTr_sum]; exact hw)) hd ⟨by omega, by omega⟩⟩
      · rw [← hcl]
        have ho2 : zSg (pre ++ sc.map (zRe b)) (b + o) = some (.inr (ci, fs.map (zRv b))) := by rw [zSub.end hb o hol, ho]; rfl
        exact va_recv E.2.2.2.2.2.1 hP hq (zWd_at ho2)
      · exact zPre_of (av := .ref o :: av) (zSub.end hb) hN E.2.2.2.2.2.1 E.2.2.2.2.2.2.2.1 E.2.2.2.2.2.2.1 hP hD hS rfl
      · rw [zMapRv]
        simp [List.map_reverse]
        rfl
  · rw [← Nat.add_assoc, ← Nat.add_assoc] at kk
    refine kk S' as2 ?_ hz
    have hl1 : (pre ++ sc.map (zRe b)).length = b + sc.length := by simp [hb]
    have hl2 : (pre ++ sc'.map (zRe b)).length = b + sc'.length := by simp [hb]
    have ha : zAg (pre ++ sc'.map (zRe b)).length S'.2.2.2.1.length as' as2 := ha
    show zAg (pre ++ sc.map (zRe b)).length _ as as2
    rw [hl1]
    rw [hl2] at ha
    exact ⟨Nat.le_trans hag.1 ha.1, fun q hq => by
      rcases hq with hq | hq
      · rw [ha.2 q (Or.inl (Nat.lt_of_lt_of_le hq hag.1)), hag.2 q (Or.inl hq)]
      · rw [ha.2 q (Or.inr hq), hag.2 q (Or.inr (Nat.le_trans ha.1 hq))]⟩
/-- a static method with a table of handlers -/
def zOkW (Y : zY) (hh : List (Nat × Nat × Nat × Nat)) (n : Nat) : Prop :=
  (Cond.codeWith Y.1 Y.2.1 Y.2.2.1 Y.2.2.2.1 hh ∈ zW ∧ Cond.initialized Y.1.cls ∈ zW) ∧ (Y.1.cls ≠ "java/lang/invoke/MethodHandle" ∧ Y.1.cls ≠ "java/lang/invoke/VarHandle" ∧ (parseMethodDescriptor Y.1.desc).map (fun d => d.parameters.length) = some n) ∧ Cond.static Y.1 ∈ zW
theorem zGoodInW {Yc : zY} {hh : List (Nat × Nat × Nat × Nat)} (h : Cond.codeWith Yc.1 Yc.2.1 Yc.2.2.1 Yc.2.2.2.1 hh ∈ zW) : GoodIn zW (zWsW Yc hh) := fun w hw => by
  rcases List.mem_cons.mp hw with rfl | hw
  · exact ⟨h, zW_good h⟩
  · exact ⟨hw, zW_good hw⟩
theorem zRunW {p : Program} {l : Launch} {e : Jvm.Env} {R : Room} {s : State} {m : MethodId} {args : Array Value} {below : List Frame} {meth : Method} {c : Code} {H : Heap} {locs : List Loc} {cells slots mc ms : Nat} {g : JFrame} {rest : List Value} {Qa : State → Outcome → State → Prop} {free : Addr → Prop}
    (h : vx_Run p l e R s m args below meth c H locs cells slots mc ms g rest Qa (fun _ _ _ => False) free) : va_Run p l e R s m args below meth c H locs cells slots mc ms g rest Qa free := by
  intro T hT X
  rcases h T hT X with ⟨v, st₀, t, T', L, h0, X', hL, e1, e2, hq, st⟩ | ⟨q, st₀, t, T', L, E, ce, -, -, -, -, -, hf, -⟩
  · exact ⟨v, st₀, t, T', L, h0, X', hL, e1, e2, hq, st⟩
  · exact hf.elim
theorem zRunSW {p : Program} {l : Launch} {e : Jvm.Env} {R : Room} {s : State} {m : MethodId} {args : Array Value} {below : List Frame} {meth : Method} {c : Code} {D : va_G} {cA : Nat → ClassId} {ex : Nat → Nat} {A : Nat → Prop} {cells slots : Nat} {as : Nat → Nat} {hh : List (Nat × Nat × Nat × Nat)} {n : Nat} {sh : List va_E} {H : Heap} {locs : List Loc} {lsR : Array Slot}
    (E : zEv Y p l R s m args meth c D cA ex A) (hC : zCW Yc hh k1 n1 av sc N rv sc' N') (hs : zSub sh b sc) (hN : ∀ j, j < sc.length → N j = M (b + j)) (hn : av.length = n) (hok : zOkW Yc hh n) (hlk : Cond.methodLink Y.1.cls idx Yc.1 ∈ zW) (hroom : zRoom Y Yc = true) (hw : (st.map fun v => v.category).sum ≤ 8) (hd : decode Y.2.1 pc = .ok (.invokestatic idx, 3)) (g1 : cells + k1 ≤ R.cells) (g2 : slots + n1 ≤ R.slots)
    (hP : va_P D vwCl (zWd cA as ex M 0 sh) H) (hD : va_D A (zWd cA as ex M 0 sh)) (hS : va_S A s.heap H locs) (hl : lv_has lsR Y.2.2.1 (zLv as ex 0 ls)) :
    va_Run p l e R s m args below meth c H locs cells slots k1 n1 (F0 m pc lsR (((av.map (zRv b)).reverse ++ st).map (zTr as ex))) (st.map (zTr as ex)) (zPost D cA (fun k => as (b + k)) ex sc N H.size rv sc' N' (av.map (zTr (fun k => as (b + k)) ex)).toArray) (va_A (zWd cA (fun k => as (b + k)) ex N 0 sc) H.size) := by
  simp only [zRoom, Bool.and_eq_true, decide_eq_true_eq] at hroom
  have hts := E.2.2.2.2.1
  have cw : vx_CSW R s args Y.1.cls idx Yc.1 Yc.2.1 Yc.2.2.1 Yc.2.2.2.1 hh (zWsW Yc hh) { frames := Yc.2.2.2.2.1, cells := k1, slots := n1, locals := Yc.2.2.2.2.2 } k1 n1 n :=
    ⟨⟨rfl, rfl, Nat.le_trans hroom.1 E.2.2.2.2.2.2.2.2.2.2.2.2.1, Nat.le_trans hroom.2 E.2.2.2.2.2.2.2.2.2.2.2.2.2, pay_in hts (zGoodInW hok.1.1), List.mem_cons_self⟩, hts _ hok.1.1, hts _ hok.1.2, ⟨hok.2.1.1, hok.2.1.2.1⟩, fun sig h => by
      have h2 := hok.2.1.2.2
      rw [h] at h2
      exact (Option.some.inj h2).symm, hts _ hlk, hts _ hok.2.2⟩
  refine zRunW (vx_runSX (cc := Y.2.1) (nL := Y.2.2.1) (As := av.map (zTr (fun k => as (b + k)) ex)) (rest := st.map (zTr as ex)) ⟨E.1, E.2.1, E.2.2.1, E.2.2.2.1, hts⟩ (hC l E.2.2.2.2.2.2.2.2.1 D cA (fun k => as (b + k)) ex H.size) cw ⟨zPre_blind, ?_⟩ rfl (by rw [List.length_map]; exact hn) hl.1 ?_ (lv_room (by rw [zTr_sum]; exact hw)) hd ⟨g1, g2⟩)
  · exact zPre_of (av := av) hs hN E.2.2.2.2.2.1 E.2.2.2.2.2.2.2.1 E.2.2.2.2.2.2.1 hP hD hS rfl
  · rw [zMapRv]
    simp [List.map_reverse]
theorem zT.callSW {hh : List (Nat × Nat × Nat × Nat)} {n : Nat} {sh sh' : List va_E} (hC : zCW Yc hh k1 n1 av sc N rv sc' N') (hs : zSub sh b sc) (hN : ∀ j, j < sc.length → N j = M (b + j)) (hb : zBack sh b sc.length sc' sh') (hl9 : sc'.length = sc.length)
    (hn : av.length = n) (hok : zOkW Yc hh n) (hlk : Cond.methodLink Y.1.cls idx Yc.1 ∈ zW) (hroom : zRoom Y Yc = true) (hw : (st.map fun v => v.category).sum ≤ 8) (hd : decode Y.2.1 pc = .ok (.invokestatic idx, 3)) {S0 : List Value} (h0 : S0 = (av.map (zRv b)).reverse ++ st)
    (k9 : zT Y kc nc Z (pc + 3, ls, (rv.map (zRv b)).toList ++ st, sh', zPs M b sc.length N')) : zT Y (k1 + kc) (n1 + nc) Z (pc, ls, S0, sh, M) := by
  subst h0
  intro p l e R s m args below meth c D cA ex A E Q cells slots as g1 g2 kk
  have hlen : sh'.length = sh.length := hb.1
  refine zGcall (k1 := k1) (n1 := n1) (S0 := (av.map (zRv b)).reverse ++ st) E hs hN hb hl9 (fun H locs lsR hP hD hS hl => ⟨_, zRunSW E hC hs hN hn hok hlk hroom hw hd (by omega) (by omega) hP hD hS hl⟩) (k9 p l e R s m args below meth c D cA ex A E Q (cells + k1) (slots + n1) as (by omega) (by omega) fun S' as' ha hz => ?_)
  rw [← Nat.add_assoc, ← Nat.add_assoc] at kk
  refine kk S' as' ?_ hz
  show zAg sh.length _ as as'
  rw [← hlen]
  exact ha
theorem zT.callSWG {hh : List (Nat × Nat × Nat × Nat)} {n : Nat} (hC : zCW Yc hh k1 n1 av sc N rv sc' N') (hb : pre.length = b) (hcs : zCs (b + sc.length) pre) (hls : zLb (b + sc.length) ls = true) (hst : st.all (zVb (b + sc.length)) = true) (hN : ∀ j, j < sc.length → N j = M (b + j))
    (hn : av.length = n) (hok : zOkW Yc hh n) (hlk : Cond.methodLink Y.1.cls idx Yc.1 ∈ zW) (hroom : zRoom Y Yc = true) (hw : (st.map fun v => v.category).sum ≤ 8) (hd : decode Y.2.1 pc = .ok (.invokestatic idx, 3)) {S0 : List Value} (h0 : S0 = (av.map (zRv b)).reverse ++ st)
    (k9 : zT Y kc nc Z (pc + 3, ls, (rv.map (zRv b)).toList ++ st, pre ++ sc'.map (zRe b), zPs M b sc'.length N')) : zT Y (k1 + kc) (n1 + nc) Z (pc, ls, S0, pre ++ sc.map (zRe b), M) := by
  subst h0
  intro p l e R s m args below meth c D cA ex A E Q cells slots as g1 g2 kk
  refine zGcallG (rv := rv) (sc := sc) (N := N) (sc' := sc') (N' := N') (k1 := k1) (n1 := n1) (S0 := (av.map (zRv b)).reverse ++ st) E hb hcs hls hst hN (fun H locs lsR hP hD hS hl => ⟨_, zRunSW E hC (zSub.end hb) hN hn hok hlk hroom hw hd (by omega) (by omega) hP hD hS hl⟩) (fun as' hag => k9 p l e R s m args below meth c D cA ex A E Q (cells + k1) (slots + n1) as' (by omega) (by omega) fun S' as2 ha hz => ?_)
  rw [← Nat.add_assoc, ← Nat.add_assoc] at kk
  refine kk S' as2 ?_ hz
  have hl1 : (pre ++ sc.map (zRe b)).length = b + sc.length := by simp [hb]
  have hl2 : (pre ++ sc'.map (zRe b)).length = b + sc'.length := by simp [hb]
  have ha : zAg (pre ++ sc'.map (zRe b)).length S'.2.2.2.1.length as' as2 := ha
  show zAg (pre ++ sc.map (zRe b)).length _ as as2
  rw [hl1]
  rw [hl2] at ha
  exact ⟨Nat.le_trans hag.1 ha.1, fun q hq => by
    rcases hq with hq | hq
    · rw [ha.2 q (Or.inl (Nat.lt_of_lt_of_le hq hag.1)), hag.2 q (Or.inl hq)]
    · rw [ha.2 q (Or.inr hq), hag.2 q (Or.inr (Nat.le_trans ha.1 hq))]⟩
end ZGR
