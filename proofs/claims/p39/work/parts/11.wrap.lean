/-! CALLS as a walk needs them: the world of the callee is a stretch (sub), the same stretch left as it was (pure), all of the world (all), nothing (nil) -/
theorem zRe_0 (q : va_E) : zRe 0 q = q := by
  rcases q with ⟨t, n, y | y | y | y | g⟩ | ⟨ci, fs⟩
  · rfl
  · rfl
  · rfl
  · rfl
  · have : (fun j => (g j).map fun k => 0 + k) = g := by
      funext j
      cases g j with
      | none => rfl
      | some k => simp
    show (Sum.inl (t, n, Sum.inr (Sum.inr (Sum.inr (Sum.inr (fun j => (g j).map fun k => 0 + k))))) : va_E) = _
    rw [this]
  · show (Sum.inr (ci, fs.map (zRv 0)) : va_E) = Sum.inr (ci, fs)
    congr 2
    have : ∀ l : List Value, l.map (zRv 0) = l := fun l => by
      induction l with
      | nil => rfl
      | cons v r ih =>
        rw [List.map_cons, ih]
        congr 1
        cases v <;> simp [zRv]
    exact this fs
theorem zSub.all (sh : List va_E) : zSub sh 0 sh := fun j _ => by
  rw [Nat.zero_add]
  cases zSg sh j with
  | none => rfl
  | some q => simp [zRe_0]
theorem zSub.nil (sh : List va_E) (b : Nat) : zSub sh b [] := fun j h => absurd h (Nat.not_lt_zero j)
theorem zSub.of {sh sc : List va_E} {b : Nat} (h : (sh.drop b).take sc.length = sc.map (zRe b)) : zSub sh b sc := fun j hj => by
  have e : ((sh.drop b).take sc.length)[j]? = (sc.map (zRe b))[j]? := by rw [h]
  rw [List.getElem?_take, if_pos hj, List.getElem?_drop, List.getElem?_map] at e
  rw [zSg_eq, zSg_eq]
  exact e
/-- a callee, and what the tables say of it -/
def zCal (Y : zY) (n : Nat) : Prop := zOkC Y n ∧ zOkV Y
def zCas (Y : zY) (n : Nat) : Prop := zOkC Y n ∧ zOkS Y
section ZW
variable {Y Yc : zY} {kc nc : Nat} {Z : zS → Prop} {pc idx n : Nat} {ls : zL} {st S0 S1 av : List Value} {sh sc : List va_E} {M N' : zM} {o : Nat} {rv : Option Value}
theorem zT.cV_sub (b : Nat) (hC : zC Yc 0 0 (.ref o :: av) sc (zPl M b) rv sc N') (hs : zSub sh b sc) (hok : zCal Yc n) (ci : Nat) (fs : List Value) (ho : zSg sh (b + o) = some (.inr (ci, fs))) (hcl : (vwCl[ci]?).map (fun q => q.1) = some Yc.1.cls) (hn : av.length = n) (hlk : Cond.methodLink Y.1.cls idx Yc.1 ∈ zW) (hroom : zRoom Y Yc = true) (hd : decode Y.2.1 pc = .ok (.invokevirtual idx, 3)) (h0 : S0 = (av.map (zRv b)).reverse ++ .ref (b + o) :: st) (hw : (st.map fun v => v.category).sum ≤ 8) (h1 : S1 = (rv.map (zRv b)).toList ++ st)
    (k9 : zT Y kc nc Z (pc + 3, ls, S1, sh, (zPs M b sc.length N'))) : zT Y kc nc Z (pc, ls, S0, sh, M) := by
  subst h0 h1
  have k8 := zT.callV (kc := kc) (nc := nc) (Z := Z) (st := st) (ls := ls) (pc := pc) (idx := idx) hC (b := b) (M := M) hs (fun _ _ => rfl) (zBack.same hs rfl) rfl ho hcl hn hok.1 hok.2 hlk hroom hw hd (zT.congM (M2 := (zPs M b sc.length N')) (fun _ _ => rfl) k9)
  rw [Nat.zero_add, Nat.zero_add] at k8
  exact k8
theorem zT.cV_pure (b : Nat) (hC : zC Yc 0 0 (.ref o :: av) sc (zPl M b) rv sc (zPl M b)) (hs : zSub sh b sc) (hok : zCal Yc n) (ci : Nat) (fs : List Value) (ho : zSg sh (b + o) = some (.inr (ci, fs))) (hcl : (vwCl[ci]?).map (fun q => q.1) = some Yc.1.cls) (hn : av.length = n) (hlk : Cond.methodLink Y.1.cls idx Yc.1 ∈ zW) (hroom : zRoom Y Yc = true) (hd : decode Y.2.1 pc = .ok (.invokevirtual idx, 3)) (h0 : S0 = (av.map (zRv b)).reverse ++ .ref (b + o) :: st) (hw : (st.map fun v => v.category).sum ≤ 8) (h1 : S1 = (rv.map (zRv b)).toList ++ st)
    (k9 : zT Y kc nc Z (pc + 3, ls, S1, sh, M)) : zT Y kc nc Z (pc, ls, S0, sh, M) := by
  subst h0 h1
  have k8 := zT.callV (kc := kc) (nc := nc) (Z := Z) (st := st) (ls := ls) (pc := pc) (idx := idx) hC (b := b) (M := M) hs (fun _ _ => rfl) (zBack.same hs rfl) rfl ho hcl hn hok.1 hok.2 hlk hroom hw hd (zT.congM (M2 := M) (fun _ _ => zPs_pure) k9)
  rw [Nat.zero_add, Nat.zero_add] at k8
  exact k8
theorem zT.cV_all (hC : zC Yc 0 0 (.ref o :: av) sh M rv sh N')  (hok : zCal Yc n) (ci : Nat) (fs : List Value) (ho : zSg sh (0 + o) = some (.inr (ci, fs))) (hcl : (vwCl[ci]?).map (fun q => q.1) = some Yc.1.cls) (hn : av.length = n) (hlk : Cond.methodLink Y.1.cls idx Yc.1 ∈ zW) (hroom : zRoom Y Yc = true) (hd : decode Y.2.1 pc = .ok (.invokevirtual idx, 3)) (h0 : S0 = (av.map (zRv 0)).reverse ++ .ref (0 + o) :: st) (hw : (st.map fun v => v.category).sum ≤ 8) (h1 : S1 = (rv.map (zRv 0)).toList ++ st)
    (k9 : zT Y kc nc Z (pc + 3, ls, S1, sh, N')) : zT Y kc nc Z (pc, ls, S0, sh, M) := by
  subst h0 h1
  have k8 := zT.callV (kc := kc) (nc := nc) (Z := Z) (st := st) (ls := ls) (pc := pc) (idx := idx) hC (b := 0) (M := M) (zSub.all sh) (fun j _ => by rw [Nat.zero_add]) (zBack.same (zSub.all sh) rfl) rfl ho hcl hn hok.1 hok.2 hlk hroom hw hd (zT.congM (M2 := N') (fun _ h => zPs_all h) k9)
  rw [Nat.zero_add, Nat.zero_add] at k8
  exact k8
theorem zT.cV_own (hC : zC Yc 0 0 (.ref o :: av) sh M rv sh M)  (hok : zCal Yc n) (ci : Nat) (fs : List Value) (ho : zSg sh (0 + o) = some (.inr (ci, fs))) (hcl : (vwCl[ci]?).map (fun q => q.1) = some Yc.1.cls) (hn : av.length = n) (hlk : Cond.methodLink Y.1.cls idx Yc.1 ∈ zW) (hroom : zRoom Y Yc = true) (hd : decode Y.2.1 pc = .ok (.invokevirtual idx, 3)) (h0 : S0 = (av.map (zRv 0)).reverse ++ .ref (0 + o) :: st) (hw : (st.map fun v => v.category).sum ≤ 8) (h1 : S1 = (rv.map (zRv 0)).toList ++ st)
    (k9 : zT Y kc nc Z (pc + 3, ls, S1, sh, M)) : zT Y kc nc Z (pc, ls, S0, sh, M) := by
  subst h0 h1
  have k8 := zT.callV (kc := kc) (nc := nc) (Z := Z) (st := st) (ls := ls) (pc := pc) (idx := idx) hC (b := 0) (M := M) (zSub.all sh) (fun j _ => by rw [Nat.zero_add]) (zBack.same (zSub.all sh) rfl) rfl ho hcl hn hok.1 hok.2 hlk hroom hw hd (zT.congM (M2 := M) (fun _ h => zPs_all h) k9)
  rw [Nat.zero_add, Nat.zero_add] at k8
  exact k8
theorem zT.cS_pure (b : Nat) (hC : zC Yc 0 0 av sc (zPl M b) rv sc (zPl M b)) (hs : zSub sh b sc) (hok : zCas Yc n) (hn : av.length = n) (hlk : Cond.methodLink Y.1.cls idx Yc.1 ∈ zW) (hroom : zRoom Y Yc = true) (hd : decode Y.2.1 pc = .ok (.invokestatic idx, 3)) (h0 : S0 = (av.map (zRv b)).reverse ++ st) (hw : (st.map fun v => v.category).sum ≤ 8) (h1 : S1 = (rv.map (zRv b)).toList ++ st)
    (k9 : zT Y kc nc Z (pc + 3, ls, S1, sh, M)) : zT Y kc nc Z (pc, ls, S0, sh, M) := by
  subst h0 h1
  have k8 := zT.callS (kc := kc) (nc := nc) (Z := Z) (st := st) (ls := ls) (pc := pc) (idx := idx) hC (b := b) (M := M) hs (fun _ _ => rfl) (zBack.same hs rfl) rfl hn hok.1 hok.2 hlk hroom hw hd (zT.congM (M2 := M) (fun _ _ => zPs_pure) k9)
  rw [Nat.zero_add, Nat.zero_add] at k8
  exact k8
theorem zT.cS_own (hC : zC Yc 0 0 av sh M rv sh M)  (hok : zCas Yc n) (hn : av.length = n) (hlk : Cond.methodLink Y.1.cls idx Yc.1 ∈ zW) (hroom : zRoom Y Yc = true) (hd : decode Y.2.1 pc = .ok (.invokestatic idx, 3)) (h0 : S0 = (av.map (zRv 0)).reverse ++ st) (hw : (st.map fun v => v.category).sum ≤ 8) (h1 : S1 = (rv.map (zRv 0)).toList ++ st)
    (k9 : zT Y kc nc Z (pc + 3, ls, S1, sh, M)) : zT Y kc nc Z (pc, ls, S0, sh, M) := by
  subst h0 h1
  have k8 := zT.callS (kc := kc) (nc := nc) (Z := Z) (st := st) (ls := ls) (pc := pc) (idx := idx) hC (b := 0) (M := M) (zSub.all sh) (fun j _ => by rw [Nat.zero_add]) (zBack.same (zSub.all sh) rfl) rfl hn hok.1 hok.2 hlk hroom hw hd (zT.congM (M2 := M) (fun _ h => zPs_all h) k9)
  rw [Nat.zero_add, Nat.zero_add] at k8
  exact k8
theorem zT.cS_nil (hC : zC Yc 0 0 av [] M rv [] M)  (hok : zCas Yc n) (hn : av.length = n) (hlk : Cond.methodLink Y.1.cls idx Yc.1 ∈ zW) (hroom : zRoom Y Yc = true) (hd : decode Y.2.1 pc = .ok (.invokestatic idx, 3)) (h0 : S0 = (av.map (zRv 0)).reverse ++ st) (hw : (st.map fun v => v.category).sum ≤ 8) (h1 : S1 = (rv.map (zRv 0)).toList ++ st)
    (k9 : zT Y kc nc Z (pc + 3, ls, S1, sh, M)) : zT Y kc nc Z (pc, ls, S0, sh, M) := by
  subst h0 h1
  have k8 := zT.callS (kc := kc) (nc := nc) (Z := Z) (st := st) (ls := ls) (pc := pc) (idx := idx) hC (b := 0) (M := M) (zSub.nil sh 0) (fun j h => absurd h (Nat.not_lt_zero j)) (zBack.same (zSub.nil sh 0) rfl) rfl hn hok.1 hok.2 hlk hroom hw hd (zT.congM (M2 := M) (fun _ _ => zPs_nil) k9)
  rw [Nat.zero_add, Nat.zero_add] at k8
  exact k8
theorem zT.cN_pure (b : Nat) (host : String) (hC : zC Yc 0 0 av sc (zPl M b) rv sc (zPl M b)) (hs : zSub sh b sc) (hok : zCas Yc n) (hn : av.length = n) (hlk : Cond.methodLinkNest Y.1.cls idx Yc.1 host ∈ zNw) (hroom : zRoom Y Yc = true) (hd : decode Y.2.1 pc = .ok (.invokestatic idx, 3)) (h0 : S0 = (av.map (zRv b)).reverse ++ st) (hw : (st.map fun v => v.category).sum ≤ 8) (h1 : S1 = (rv.map (zRv b)).toList ++ st)
    (k9 : zT Y kc nc Z (pc + 3, ls, S1, sh, M)) : zT Y kc nc Z (pc, ls, S0, sh, M) := by
  subst h0 h1
  have k8 := zT.callSN (kc := kc) (nc := nc) (Z := Z) (st := st) (ls := ls) (pc := pc) (idx := idx) hC (b := b) (M := M) hs (fun _ _ => rfl) (zBack.same hs rfl) rfl hn hok.1 hok.2 hlk hroom hw hd (zT.congM (M2 := M) (fun _ _ => zPs_pure) k9)
  rw [Nat.zero_add, Nat.zero_add] at k8
  exact k8
theorem zT.cN_own (host : String) (hC : zC Yc 0 0 av sh M rv sh M)  (hok : zCas Yc n) (hn : av.length = n) (hlk : Cond.methodLinkNest Y.1.cls idx Yc.1 host ∈ zNw) (hroom : zRoom Y Yc = true) (hd : decode Y.2.1 pc = .ok (.invokestatic idx, 3)) (h0 : S0 = (av.map (zRv 0)).reverse ++ st) (hw : (st.map fun v => v.category).sum ≤ 8) (h1 : S1 = (rv.map (zRv 0)).toList ++ st)
    (k9 : zT Y kc nc Z (pc + 3, ls, S1, sh, M)) : zT Y kc nc Z (pc, ls, S0, sh, M) := by
  subst h0 h1
  have k8 := zT.callSN (kc := kc) (nc := nc) (Z := Z) (st := st) (ls := ls) (pc := pc) (idx := idx) hC (b := 0) (M := M) (zSub.all sh) (fun j _ => by rw [Nat.zero_add]) (zBack.same (zSub.all sh) rfl) rfl hn hok.1 hok.2 hlk hroom hw hd (zT.congM (M2 := M) (fun _ h => zPs_all h) k9)
  rw [Nat.zero_add, Nat.zero_add] at k8
  exact k8
theorem zT.cN_nil (host : String) (hC : zC Yc 0 0 av [] M rv [] M)  (hok : zCas Yc n) (hn : av.length = n) (hlk : Cond.methodLinkNest Y.1.cls idx Yc.1 host ∈ zNw) (hroom : zRoom Y Yc = true) (hd : decode Y.2.1 pc = .ok (.invokestatic idx, 3)) (h0 : S0 = (av.map (zRv 0)).reverse ++ st) (hw : (st.map fun v => v.category).sum ≤ 8) (h1 : S1 = (rv.map (zRv 0)).toList ++ st)
    (k9 : zT Y kc nc Z (pc + 3, ls, S1, sh, M)) : zT Y kc nc Z (pc, ls, S0, sh, M) := by
  subst h0 h1
  have k8 := zT.callSN (kc := kc) (nc := nc) (Z := Z) (st := st) (ls := ls) (pc := pc) (idx := idx) hC (b := 0) (M := M) (zSub.nil sh 0) (fun j h => absurd h (Nat.not_lt_zero j)) (zBack.same (zSub.nil sh 0) rfl) rfl hn hok.1 hok.2 hlk hroom hw hd (zT.congM (M2 := M) (fun _ _ => zPs_nil) k9)
  rw [Nat.zero_add, Nat.zero_add] at k8
  exact k8
end ZW
/-! ENDS -/
section ZE
variable {Y : zY} {pc : Nat} {ls : zL} {sh : List va_E} {M M' : zM} {v v' : Int32} {ty : FieldType}
theorem zT.iret (hv : v' = v) (hm : M' = M) (hr : Y.2.2.2.1 = some ty) (hn : narrow ty (.int v) = .int v) (hd : decode Y.2.1 pc = .ok (.ireturn, 1)) : zT Y 0 0 (zEnd Y (some (.int v')) sh M') (pc, ls, [.int v], sh, M) := by
  subst hv hm
  exact zT.here ⟨rfl, rfl, rfl, Or.inl ⟨_, _, rfl, hr, hn, hd⟩⟩
theorem zT.vret (hm : M' = M) (hr : Y.2.2.2.1 = none) (hd : decode Y.2.1 pc = .ok (.return_, 1)) : zT Y 0 0 (zEnd Y none sh M') (pc, ls, [], sh, M) := by
  subst hm
  exact zT.here ⟨rfl, rfl, rfl, Or.inr (Or.inl ⟨rfl, hr, hd⟩)⟩
end ZE
/-! LOOPS: n rounds of a body over a state -/
def zIt {α : Type} (f : Nat → α → α) : Nat → α → α
  | 0, s => s
  | n + 1, s => f n (zIt f n s)
theorem zIt_inv {α : Type} {f : Nat → α → α} {P : Nat → α → Prop} : ∀ (n : Nat) (s : α), P 0 s → (∀ i, i < n → ∀ s, P i s → P (i + 1) (f i s)) → P n (zIt f n s)
  | 0, s, h, _ => h
  | n + 1, s, h, hs => hs n (Nat.lt_succ_self n) _ (zIt_inv n s h fun i hi s h => hs i (Nat.lt_succ_of_lt hi) s h)
/-- a loop of n rounds: each round takes the state S i (.. i rounds done ..) on -/
theorem zT.loop {Y : zY} {kc nc : Nat} {Z : zS → Prop} {α : Type} (f : Nat → α → α) (S : Nat → α → zS) (n : Nat) (s : α) (hstep : ∀ i, i < n → zT Y kc nc Z (S (i + 1) (f i (zIt f i s))) → zT Y kc nc Z (S i (zIt f i s))) (hend : zT Y kc nc Z (S n (zIt f n s))) : zT Y kc nc Z (S 0 s) := by
  have : ∀ k, k ≤ n → zT Y kc nc Z (S (n - k) (zIt f (n - k) s)) := by
    intro k
    induction k with
    | zero => intro _; exact hend
    | succ k ih =>
      intro hk
      have h1 := ih (by omega)
      have e : n - k = n - (k + 1) + 1 := by omega
      rw [e] at h1
      exact hstep (n - (k + 1)) (by omega) h1
  have h2 := this n (Nat.le_refl n)
  rw [Nat.sub_self] at h2
  exact h2
/-- a join: both ways come to one state -/
theorem zT.join {Y : zY} {kc nc : Nat} {Z : zS → Prop} {S : zS} (S1 : zS) (h : zT Y 0 0 (fun S' => S' = S1) S) (k : zT Y kc nc Z S1) : zT Y kc nc Z S := by
  have := zT.seq h (fun S' e => by rw [e]; exact k)
  rw [Nat.zero_add, Nat.zero_add] at this
  exact this
