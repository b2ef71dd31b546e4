def zHd (M : zM) : Prop := M 1 4 ≤ 0 ∨ ∃ c, c < 9 ∧ M 1 6 = nI c
theorem zHd.of {M M' : zM} (e : M' 1 = M 1) (h : zHd M) : zHd M' := by
  unfold zHd at h ⊢
  rw [e]
  exact h
def zHv (M : zM) : Prop := ∀ r, r < 9 → M 1 (10 + r * 9 + 6) = 2 → ∃ v, v < 9 ∧ M 1 (10 + r * 9 + 7) = nI v
theorem zHv.of {M M' : zM} (e : M' 1 = M 1) (h : zHv M) : zHv M' := by
  unfold zHv at h ⊢
  rw [e]
  exact h
theorem zU_k {M : zM} {c i o : Nat} {x : Int32} (h : o ≠ i) : zU M c i x c o = M c o := by
  rw [zU_eq]
  exact if_neg h
def zBs (n : Nat) (x : Int32) : Prop := x = -1 ∨ ∃ e, e < n ∧ x = nI e
def zHk (M : zM) : Prop := ∃ c, c < 9 ∧ M 1 6 = nI c
theorem zHk.of {M M' : zM} (e : M' 1 6 = M 1 6) (h : zHk M) : zHk M' := by
  unfold zHk at h ⊢
  rw [e]
  exact h
/-- the votes that were found are small numbers -/
def zVo (n : Nat) (M : zM) : Prop := ∀ r, r < n → ∃ v, v ≤ 99 ∧ M 20 r = nI v
theorem zVo.of {n : Nat} {M M' : zM} (e : M' 20 = M 20) (h : zVo n M) : zVo n M' := by
  unfold zVo at h ⊢
  rw [e]
  exact h
theorem zVo.ne {n r : Nat} {M : zM} (h : zVo n M) (hr : r < n) : ¬ M 20 r = -1 := by
  obtain ⟨v, h1, h2⟩ := h r hr
  rw [h2]
  exact fun e => nI_pos (n := v) (by omega) (by rw [e]; decide)
theorem zBs.le {n k : Nat} {x : Int32} (h : zBs n x) (hk : n ≤ k) : zBs k x := by
  rcases h with h | ⟨e, h1, h2⟩
  · exact Or.inl h
  · exact Or.inr ⟨e, by omega, h2⟩
theorem zT.eqSh {Y : zY} {kc nc : Nat} {Z : zS → Prop} {pc : Nat} {ls : zL} {st : List Value} {sh sh2 : List va_E} {M : zM} (h : sh = sh2) (k1 : zT Y kc nc Z (pc, ls, st, sh2, M)) : zT Y kc nc Z (pc, ls, st, sh, M) := h ▸ k1
theorem zBack.all {sh sh' : List va_E} (h : sh'.length = sh.length) : zBack sh 0 sh.length sh' sh' := by
  refine ⟨h, fun k => ?_⟩
  by_cases hk : k < sh.length
  · rw [if_pos ⟨Nat.zero_le _, by omega⟩, Nat.sub_zero]
    cases zSg sh' k <;> simp [zRe_0]
  · rw [if_neg (by omega), zSg_eq, zSg_eq, List.getElem?_eq_none (by omega), List.getElem?_eq_none (by omega)]
section ZWO
variable {Y Yc : zY} {kc nc : Nat} {Z : zS → Prop} {pc idx n : Nat} {ls : zL} {st S0 S1 av : List Value} {sh sh' : List va_E} {M N' : zM} {o : Nat} {rv : Option Value}
end ZWO
/-! COPY: a row's numbers into another's -/
/-! KEEPPAST: the rows of the past, in the order that the outer row gives; the eldest is used again -/
theorem zP1 {a : Nat} : nI a + 1 = nI (a + 1) := nI_1 a
theorem zP2 {a : Nat} : nI a + 1 + 1 = nI (a + 2) := by rw [nI_1, nI_1]
theorem zP3 {a : Nat} : nI a + 1 + 1 + 1 = nI (a + 3) := by rw [nI_1, nI_1, nI_1]
theorem zP4 {a : Nat} : nI a + 1 + 1 + 1 + 1 = nI (a + 4) := by rw [nI_1, nI_1, nI_1, nI_1]
theorem zTyI {x : Int32} {ty : Nat} (hty : x = nI ty) (h : ty ≤ 600) (c : x + 20 ≤ 600) : ty + 20 ≤ 600 := by
  rw [hty, show (20 : Int32) = nI 20 from rfl, nI_add, show (600 : Int32) = nI 600 from rfl] at c
  exact (nI_leI (by omega) (by decide)).mp c
section ZFL
variable {Y : zY} {kc nc : Nat} {Z : zS → Prop} {pc : Nat} {ls : zL} {st : List Value} {sh : List va_E} {M M' : zM}
theorem zT.fret {v v' : UInt32} (hv : v' = v) (hm : M' = M) (hr : Y.2.2.2.1 = some .float) (hd : decode Y.2.1 pc = .ok (.freturn, 1)) : zT Y 0 0 (zEnd Y (some (.float v')) sh M') (pc, ls, [.float v], sh, M) := by
  subst hv hm
  exact zT.here ⟨rfl, rfl, rfl, Or.inr (Or.inr (Or.inr (Or.inl ⟨_, rfl, hr, hd⟩)))⟩
theorem zT.dret {v v' : UInt64} (hv : v' = v) (hm : M' = M) (hr : Y.2.2.2.1 = some .double) (hd : decode Y.2.1 pc = .ok (.dreturn, 1)) : zT Y 0 0 (zEnd Y (some (.double v')) sh M') (pc, ls, [.double v], sh, M) := by
  subst hv hm
  exact zT.here ⟨rfl, rfl, rfl, Or.inr (Or.inr (Or.inr (Or.inr ⟨_, rfl, hr, hd⟩)))⟩
end ZFL
theorem zT.wx {Y : zY} {kc nc : Nat} {Z : zS → Prop} {α β : Type} (d : α → β) (f : α → α ⊕ β) (P : α → Prop) (μ : α → Nat) (S : α → zS) (Es : β → zS)
    (hf : ∀ x y, P x → f x = .inl y → P y ∧ μ y < μ x)
    (hb : ∀ x, P x → (∀ y, f x = .inl y → zT Y kc nc Z (S y)) → (∀ b, f x = .inr b → zT Y kc nc Z (Es b)) → zT Y kc nc Z (S x)) (k : Nat) (x : α) (hx : P x) (hk : μ x < k) (he : zT Y kc nc Z (Es (zWr d f k x))) : zT Y kc nc Z (S x) :=
  zT.wr d f P μ S (fun b => zT Y kc nc Z (Es b)) hf hb k x hx hk he
theorem zWr_P {α β : Type} {d : α → β} {f : α → α ⊕ β} {P : α → Prop} {μ : α → Nat} {R : β → Prop} (hf : ∀ x y, P x → f x = .inl y → P y ∧ μ y < μ x) (hr : ∀ x b, P x → f x = .inr b → R b) :
    ∀ (k : Nat) (x : α), P x → μ x < k → R (zWr d f k x)
  | 0, x, _, h => absurd h (Nat.not_lt_zero _)
  | k + 1, x, hx, hk => by
    cases e : f x with
    | inl y =>
      obtain ⟨h1, h2⟩ := hf x y hx e
      rw [zWr, e]
      exact zWr_P hf hr k y h1 (by omega)
    | inr b =>
      rw [zWr, e]
      exact hr x b hx e
/-- what a step keeps, the loop keeps -/
theorem zWr_keep {γ : Type} {f : zM → zM ⊕ zM} (q : zM → γ) (hi : ∀ x y, f x = .inl y → q y = q x) (hr : ∀ x y, f x = .inr y → q y = q x) : ∀ (k : Nat) (x : zM), q (zWr (fun m => m) f k x) = q x
  | 0, x => rfl
  | k + 1, x => by
    cases e : f x with
    | inl y => rw [zWr, e]; exact (zWr_keep q hi hr k y).trans (hi x y e)
    | inr b => rw [zWr, e]; exact hr x b e
/-- a token in the text -/
def zTkP (ty : Nat) (m : zM) : Prop := m 0 8 = nI ty ∧ ∃ f a, f ≤ a ∧ a ≤ ty ∧ m 0 15 = nI f ∧ m 0 14 = nI a
theorem zTkP.of {ty : Nat} {m m' : zM} (e : m' 0 = m 0) (h : zTkP ty m) : zTkP ty m' := by
  unfold zTkP at h ⊢
  rw [e]
  exact h
/-! WHAT AN OFFICE KEEPS, whatever a deed does to it -/
def zWi (n oz : Nat) (M : zM) : Prop := (M 1 0 = nI n ∧ n ≤ 9) ∧ (M 1 9 = nI oz ∧ oz ≤ 12) ∧ zHd M ∧ zHv M ∧ (M 1 4 = 3 → 0 < oz)
def zWn (n : Nat) (M : zM) : Prop := ∃ oz, zWi n oz M
theorem zWn.of {n : Nat} {M M' : zM} (e : M' 1 = M 1) (h : zWn n M) : zWn n M' := by
  obtain ⟨oz, h1, h2, h3, h4, h5⟩ := h
  exact ⟨oz, by rw [e]; exact h1, by rw [e]; exact h2, h3.of e, h4.of e, by rw [e]; exact h5⟩
/-! THE PLACE IN THE TEXT goes on -/
def zTkQ (ty a0 : Nat) (m : zM) : Prop := zTkP ty m ∧ a0 ≤ (m 0 14).toNatClampNeg
theorem zTkQ.of {ty a0 : Nat} {m m' : zM} (e : m' 0 = m 0) (h : zTkQ ty a0 m) : zTkQ ty a0 m' := ⟨h.1.of e, by rw [e]; exact h.2⟩
/-! READING AN OFFICE: the replicas come first -/
def zNv (m : zM) : Prop := ∀ r, r < 9 → m 1 (10 + r * 9 + 6) = 0
theorem zNv.of {m m' : zM} (e : m' 1 = m 1) (h : zNv m) : zNv m' := by
  unfold zNv at h ⊢
  rw [e]
  exact h
/-- while the replicas are read: so many, no ballot, no outcome -/
def zRpW (m : zM) : Prop := (m 1 0 = nI (m 1 0).toNatClampNeg ∧ (m 1 0).toNatClampNeg ≤ 9) ∧ m 1 9 = 0 ∧ m 1 4 = 0 ∧ zNv m
theorem zRpW.of {m m' : zM} (e : m' 1 = m 1) (h : zRpW m) : zRpW m' := by
  obtain ⟨h1, h2, h3, h4⟩ := h
  exact ⟨by rw [e]; exact h1, by rw [e]; exact h2, by rw [e]; exact h3, h4.of e⟩
/-! WHAT A TEXT'S READING leaves: all but the office's row, the votes that were found, the reader's own numbers -/
def zKe (A m : zM) : Prop := (∀ o, o ≠ 0 → o ≠ 1 → o ≠ 20 → m o = A o) ∧ ∀ k, k < 12 → m 0 k = A 0 k
theorem zKe.of {A m m' : zM} (e : ∀ o, o ≠ 1 → o ≠ 20 → m' o = m o) (h : zKe A m) : zKe A m' := ⟨fun o h0 h1 h2 => (e o h1 h2).trans (h.1 o h0 h1 h2), fun k hk => (congrFun (e 0 (by decide) (by decide)) k).trans (h.2 k hk)⟩
theorem zKe.rf {A : zM} : zKe A A := ⟨fun _ _ _ _ => rfl, fun _ _ => rfl⟩
/-! LOAD: the office as it was is kept; the text is read; where there was a fault, it comes back -/
/-! THROWING: a method that throws E, and leaves the world sh, M' -/
def zXC (D : va_G) (cA : Nat → ClassId) (as ex : Nat → Nat) (sh : List va_E) (M : zM) (sz : Nat) (E : String) (M' : zM) : String → State → State → Prop := fun E' st t =>
  E' = E ∧ va_P D vwCl (zWd cA as ex M' 0 sh) t.heap ∧ va_D (va_A (zWd cA as ex M 0 sh) sz) (zWd cA as ex M' 0 sh) ∧ va_F (va_A (zWd cA as ex M 0 sh) sz) st t
def zXr (Y : zY) (k n : Nat) (av : List Value) (sh : List va_E) (M : zM) (E : String) (M' : zM) : Prop :=
  ∀ (l : Launch), l.flags = flags0 → ∀ (D : va_G) (cA : Nat → ClassId) (as ex : Nat → Nat) (sz : Nat),
    vx_Met l Y.1 (zWs Y) { frames := Y.2.2.2.2.1, cells := k, slots := n, locals := Y.2.2.2.2.2 } (zPre D cA as ex av sh M sz) (fun _ _ _ _ => False) (zXC D cA as ex sh M sz E M') k n (va_A (zWd cA as ex M 0 sh) sz)
/-- at S a call is made that throws E; where it isn't caught there's k cells more, of n places -/
def zTX (Y : zY) (k n : Nat) (E : String) (M' : zM) (S : zS) : Prop :=
  ∀ (p : Program) (l : Launch) (e : Jvm.Env) (R : Room) (s : State) (m : MethodId) (args : Array Value) (below : List Frame) (meth : Method) (c : Code) (D : va_G) (cA : Nat → ClassId) (ex : Nat → Nat) (A : Nat → Prop), zEv Y p l R s m args meth c D cA ex A →
    ∀ (Q : State → Prop) (cells slots : Nat) (as : Nat → Nat), cells + k ≤ R.cells → slots + n ≤ R.slots →
      (∀ (H : Heap) (locs : List Loc) (lsR : Array Slot) (rest : List Value) (q : Addr) (ce : Cell), va_P D vwCl (zWd cA as ex M' 0 S.2.2.2.1) H → va_D A (zWd cA as ex M' 0 S.2.2.2.1) → va_S A s.heap H locs → lv_has lsR Y.2.2.1 (zLv as ex 0 S.2.1) →
        H[q]? = some ce → ce.vm = .none → s.vm.findClass E = some ce.cls → vx_W p l e R s m args below meth c H locs (cells + k) (slots + n) Q (F0 m S.1 lsR rest) q) →
      zG Y p l e R s m args below meth c D cA ex A Q cells slots as S
section ZXC
variable {Y Yc : zY} {k1 n1 : Nat} {pc idx : Nat} {ls : zL} {st : List Value} {sh sc : List va_E} {M N N' : zM} {b o : Nat} {av : List Value} {E : String}
theorem zXcall {p : Program} {l : Launch} {e : Jvm.Env} {R : Room} {s : State} {m : MethodId} {args : Array Value} {below : List Frame} {meth : Method} {c : Code} {D : va_G} {cA : Nat → ClassId} {ex : Nat → Nat} {A : Nat → Prop} {Q : State → Prop} {cells slots : Nat} {as : Nat → Nat} {S0 : List Value}
    (E9 : zEv Y p l R s m args meth c D cA ex A) (hs : zSub sh b sc) (hN : ∀ j, j < sc.length → N j = M (b + j))
    (hrun : ∀ (H : Heap) (locs : List Loc) (lsR : Array Slot), va_P D vwCl (zWd cA as ex M 0 sh) H → va_D A (zWd cA as ex M 0 sh) → va_S A s.heap H locs → lv_has lsR Y.2.2.1 (zLv as ex 0 ls) →
      vx_Run p l e R s m args below meth c H locs cells slots k1 n1 (F0 m pc lsR (S0.map (zTr as ex))) (st.map (zTr as ex)) (fun (_ : State) (_ : Outcome) (_ : State) => False) (zXC D cA (fun k => as (b + k)) ex sc N H.size E N') (va_A (zWd cA (fun k => as (b + k)) ex N 0 sc) H.size))
    (k9 : ∀ (H : Heap) (locs : List Loc) (lsR : Array Slot) (rest : List Value) (q : Addr) (ce : Cell), va_P D vwCl (zWd cA as ex (zPs M b sc.length N') 0 sh) H → va_D A (zWd cA as ex (zPs M b sc.length N') 0 sh) → va_S A s.heap H locs → lv_has lsR Y.2.2.1 (zLv as ex 0 ls) →
        H[q]? = some ce → ce.vm = .none → s.vm.findClass E = some ce.cls → vx_W p l e R s m args below meth c H locs (cells + k1) (slots + n1) Q (F0 m pc lsR rest) q) : zG Y p l e R s m args below meth c D cA ex A Q cells slots as (pc, ls, S0, sh, M) := by
  intro H locs lsR hP hD hS hl
  have hr := hrun H locs lsR hP hD hS hl
  have hF := hs.free (cA := cA) (ex := ex) hN hD hS E9.2.2.2.2.2.2.1
  intro T hT X
  rcases hr T hT X with ⟨v, st₀, t, T', L, -, -, -, -, -, hf, -⟩ | ⟨q, st₀, t, T', L, E', ce, h0, X', hL, e1, e2, ⟨rfl, hP1, hD1, hF1⟩, hce, hcv, hcl, st9⟩
  · exact hf.elim
  · obtain ⟨g1, g2, g3⟩ := vx_keep h0 e1 hS (fun q _ h => hF q h) hF hL hF1
    rw [← e1] at hP1 hce
    obtain ⟨hP2, hD2⟩ := zJoin hs hN (zBack.same hs rfl) rfl hP hD g2 hF hP1 hD1
    obtain ⟨t2, a1, b1⟩ := k9 T'.heap (locs ++ L) lsR (st.map (zTr as ex)) q ce hP2 hD2 g3 hl hce hcv hcl T' rfl X'
    exact ⟨t2, st9.trans a1, b1⟩
theorem zTX.callV {n ci : Nat} {fs : List Value} (b : Nat) (hX : zXr Yc k1 n1 (.ref o :: av) sc (zPl M b) E (zPl M b)) (hs : zSub sh b sc) (hok : zCal Yc n)
    (ho : zSg sh (b + o) = some (.inr (ci, fs))) (hcl : (vwCl[ci]?).map (fun q => q.1) = some Yc.1.cls) (hn : av.length = n) (hlk : Cond.methodLink Y.1.cls idx Yc.1 ∈ zW) (hroom : zRoom Y Yc = true) (hd : decode Y.2.1 pc = .ok (.invokevirtual idx, 3)) {S0 : List Value} (h0 : S0 = (av.map (zRv b)).reverse ++ .ref (b + o) :: st) (hw : (st.map fun v => v.category).sum ≤ 8) :
    zTX Y k1 n1 E M (pc, ls, S0, sh, M) := by
  subst h0
  obtain ⟨hok, hv⟩ := hok
  intro p l e R s m args below meth c D cA ex A E9 Q cells slots as g1 g2 kk
  refine zXcall (E := E) (k1 := k1) (n1 := n1) (st := st) (N := zPl M b) (N' := zPl M b) (S0 := (av.map (zRv b)).reverse ++ .ref (b + o) :: st) E9 hs (fun _ _ => rfl) ?_ ?_
  · intro H locs lsR hP hD hS hl
    simp only [zRoom, Bool.and_eq_true, decide_eq_true_eq] at hroom
    have hts := E9.2.2.2.2.1
    have cw : CallW R s args Y.1.cls Yc.1.cls idx Yc.1 Yc.2.1 Yc.2.2.1 Yc.2.2.2.1 (zWs Yc) { frames := Yc.2.2.2.2.1, cells := k1, slots := n1, locals := Yc.2.2.2.2.2 } k1 n1 n :=
      ⟨callB_of n hts (zGoodIn hok.1.1.1) rfl rfl rfl (hts _ hok.1.1.2) (hts _ hlk) hok.1.2 ⟨Nat.le_trans hroom.1 E9.2.2.2.2.2.2.2.2.2.2.2.2.1, Nat.le_trans hroom.2 E9.2.2.2.2.2.2.2.2.2.2.2.2.2⟩, hts _ hv.1, hts _ hv.2⟩
    cases hq : vwCl[ci]? with
    | none => rw [hq] at hcl; cases hcl
    | some q =>
      rw [hq] at hcl
      have hcl : q.1 = Yc.1.cls := Option.some.inj hcl
      refine vx_runV (cc := Y.2.1) (nL := Y.2.2.1) (b := as (b + o)) (As := av.map (zTr (fun k => as (b + k)) ex)) (rest := st.map (zTr as ex)) ⟨E9.1, E9.2.1, E9.2.2.1, E9.2.2.2.1, hts⟩ (hX l E9.2.2.2.2.2.2.2.2.1 D cA (fun k => as (b + k)) ex H.size) cw ⟨zPre_blind, ?_, ?_⟩ rfl (by rw [List.length_map]; exact hn) hl.1 ?_ (lv_room (by rw [zTr_sum]; exact hw)) hd ⟨by omega, by omega⟩
      · rw [← hcl]
        exact va_recv E9.2.2.2.2.2.1 hP hq (zWd_at ho)
      · exact zPre_of (av := .ref o :: av) hs (fun _ _ => rfl) E9.2.2.2.2.2.1 E9.2.2.2.2.2.2.2.1 E9.2.2.2.2.2.2.1 hP hD hS rfl
      · rw [zMapRv]
        simp [List.map_reverse]
        rfl
  · rw [show zPs M b sc.length (zPl M b) = M from by funext x; exact congrFun (by funext y; exact zPs_pure) x]
    exact kk
theorem zTX.callS {n : Nat} (b : Nat) (hX : zXr Yc k1 n1 av sc (zPl M b) E (zPl M b)) (hs : zSub sh b sc) (hok : zCas Yc n) (hn : av.length = n) (hlk : Cond.methodLink Y.1.cls idx Yc.1 ∈ zW) (hroom : zRoom Y Yc = true) (hd : decode Y.2.1 pc = .ok (.invokestatic idx, 3)) {S0 : List Value} (h0 : S0 = (av.map (zRv b)).reverse ++ st) (hw : (st.map fun v => v.category).sum ≤ 8) :
    zTX Y k1 n1 E M (pc, ls, S0, sh, M) := by
  subst h0
  obtain ⟨hok, hv⟩ := hok
  intro p l e R s m args below meth c D cA ex A E9 Q cells slots as g1 g2 kk
  refine zXcall (E := E) (k1 := k1) (n1 := n1) (st := st) (N := zPl M b) (N' := zPl M b) (S0 := (av.map (zRv b)).reverse ++ st) E9 hs (fun _ _ => rfl) ?_ ?_
  · intro H locs lsR hP hD hS hl
    simp only [zRoom, Bool.and_eq_true, decide_eq_true_eq] at hroom
    have hts := E9.2.2.2.2.1
    refine vx_runS (cc := Y.2.1) (nL := Y.2.2.1) (As := av.map (zTr (fun k => as (b + k)) ex)) (rest := st.map (zTr as ex)) ⟨E9.1, E9.2.1, E9.2.2.1, E9.2.2.2.1, hts⟩ (hX l E9.2.2.2.2.2.2.2.2.1 D cA (fun k => as (b + k)) ex H.size)
      ⟨callB_of n hts (zGoodIn hok.1.1.1) rfl rfl rfl (hts _ hok.1.1.2) (hts _ hlk) hok.1.2 ⟨Nat.le_trans hroom.1 E9.2.2.2.2.2.2.2.2.2.2.2.2.1, Nat.le_trans hroom.2 E9.2.2.2.2.2.2.2.2.2.2.2.2.2⟩, hts _ hv⟩ ⟨zPre_blind, ?_⟩ rfl (by rw [List.length_map]; exact hn) hl.1 ?_ (lv_room (by rw [zTr_sum]; exact hw)) hd ⟨by omega, by omega⟩
    · exact zPre_of (av := av) hs (fun _ _ => rfl) E9.2.2.2.2.2.1 E9.2.2.2.2.2.2.2.1 E9.2.2.2.2.2.2.1 hP hD hS rfl
    · rw [zMapRv]
      simp [List.map_reverse]
  · rw [show zPs M b sc.length (zPl M b) = M from by funext x; exact congrFun (by funext y; exact zPs_pure) x]
    exact kk
end ZXC
