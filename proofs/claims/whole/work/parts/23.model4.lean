theorem zT.eqSh {Y : zY} {kc nc : Nat} {Z : zS → Prop} {pc : Nat} {ls : zL} {st : List Value} {sh sh2 : List va_E} {M : zM} (h : sh = sh2) (k1 : zT Y kc nc Z (pc, ls, st, sh2, M)) : zT Y kc nc Z (pc, ls, st, sh, M) := h ▸ k1
theorem zBack.all {sh sh' : List va_E} (h : sh'.length = sh.length) : zBack sh 0 sh.length sh' sh' := by
  refine ⟨h, fun k => ?_⟩
  by_cases hk : k < sh.length
  · rw [if_pos ⟨Nat.zero_le _, by omega⟩, Nat.sub_zero]
    cases zSg sh' k <;> simp [zRe_0]
  · rw [if_neg (by omega), zSg_eq, zSg_eq, List.getElem?_eq_none (by omega), List.getElem?_eq_none (by omega)]
section ZWO
variable {Y Yc : zY} {kc nc : Nat} {Z : zS → Prop} {pc idx n : Nat} {ls : zL} {st S0 S1 av : List Value} {sh sh' : List va_E} {M N' : zM} {o : Nat} {rv : Option Value}
/-- a call behind which the world has another shape -/
theorem zT.cV_out (hC : zC Yc 0 0 (.ref o :: av) sh M rv sh' N') (hl : sh'.length = sh.length) (hok : zCal Yc n) (ci : Nat) (fs : List Value) (ho : zSg sh (0 + o) = some (.inr (ci, fs))) (hcl : (vwCl[ci]?).map (fun q => q.1) = some Yc.1.cls) (hn : av.length = n) (hlk : Cond.methodLink Y.1.cls idx Yc.1 ∈ zW) (hroom : zRoom Y Yc = true) (hd : decode Y.2.1 pc = .ok (.invokevirtual idx, 3)) (h0 : S0 = (av.map (zRv 0)).reverse ++ .ref (0 + o) :: st) (hw : (st.map fun v => v.category).sum ≤ 8) (h1 : S1 = (rv.map (zRv 0)).toList ++ st)
    (k9 : zT Y kc nc Z (pc + 3, ls, S1, sh', N')) : zT Y kc nc Z (pc, ls, S0, sh, M) := by
  subst h0 h1
  have k8 := zT.callV (kc := kc) (nc := nc) (Z := Z) (st := st) (ls := ls) (pc := pc) (idx := idx) hC (b := 0) (M := M) (zSub.all sh) (fun j _ => by rw [Nat.zero_add]) (zBack.all hl) hl ho hcl hn hok.1 hok.2 hlk hroom hw hd (zT.congM (M2 := N') (fun _ h => zPs_all (by rw [← hl]; exact h)) k9)
  rw [Nat.zero_add, Nat.zero_add] at k8
  exact k8
end ZWO
/-! COPY: a row's numbers into another's -/
noncomputable abbrev yy_X10_copy : zY := (yX10_copy, cX10_copy, 3, none, 0, 0)
def zCp (M : zM) (a b : Nat) : zM := zUa M b (fun k => if k < 187 then M a k else M b k)
def zCpI (M : zM) (a b i : Nat) : zM := zUa M b (fun k => if k < i then M a k else M b k)
theorem zCpI_0 (M : zM) (a b : Nat) : M = zCpI M a b 0 := by
  funext o
  by_cases h : o = b
  · subst h
    unfold zCpI
    rw [zUa_eq]
    funext k
    rw [if_neg (by omega)]
  · exact (zUa_ne h).symm
theorem zCpI_rd (M : zM) (a b i : Nat) : zCpI M a b i a i = M a i := by
  unfold zCpI
  by_cases h : a = b
  · subst h
    rw [zUa_eq]
    split <;> rfl
  · rw [zUa_ne h]
theorem zCpI_st (M : zM) (a b i : Nat) : zU (zCpI M a b i) b i (M a i) = zCpI M a b (i + 1) := by
  funext o
  by_cases h : o = b
  · subst h
    unfold zCpI
    rw [zU_eq, zUa_eq, zUa_eq]
    funext k
    by_cases hk : k = i
    · subst hk
      rw [if_pos rfl, if_pos (by omega)]
    · rw [if_neg hk]
      by_cases hk2 : k < i
      · rw [if_pos hk2, if_pos (by omega)]
      · rw [if_neg hk2, if_neg (by omega)]
  · unfold zCpI
    rw [zU_ne h, zUa_ne h, zUa_ne h]
set_option maxRecDepth 100000 in
theorem c_X10_copy (sh : List va_E) (M : zM) (a b : Nat) {za zb : Nat → Int32} (ha : zSg sh a = some (.inl (0, 187, .inl za))) (hb : zSg sh b = some (.inl (0, 187, .inl zb))) : zC yy_X10_copy 0 0 [.ref a, .ref b] sh M none sh (zCp M a b) := by
  refine zC.of (by decide +kernel) rfl (Nat.le_of_ble_eq_true rfl) ?_
  refine zT.run [(.iconst 0, 0, 0, 0), (.istore_n 2, 0, 0, 0)] (pe := 2) (ls' := [some (.ref a), some (.ref b), some (.int 0)]) (st' := []) (M' := M) (by decide +kernel) rfl ?_
  refine zT.eqM (M2 := zCpI M a b 0) (zCpI_0 M a b) ?_
  refine zT.loop (fun _ (s : Unit) => s) (fun (i : Nat) (_ : Unit) => (2, [some (.ref a), some (.ref b), some (.int (nI i))], [], sh, zCpI M a b i)) 187 () (fun i hi k1 => ?_) ?_
  · show zT _ _ _ _ (2, [some (.ref a), some (.ref b), some (.int (nI i))], [], sh, zCpI M a b i)
    refine zT.run [(.iload_n 2, 0, 0, 0), (.sipush 187, 0, 0, 0)] (pe := 6) (ls' := [some (.ref a), some (.ref b), some (.int (nI i))]) (st' := [.int 187, .int (nI i)]) (M' := zCpI M a b i) (by decide +kernel) rfl ?_
    refine zT.cge (tgt := 21) (off := 15) (by decide +kernel) (by decide) (fun c => absurd c (zGeN (n := 187) rfl hi (by decide))) (fun _ => ?_)
    refine zT.run [(.aload_n 1, 0, 0, 0), (.iload_n 2, 0, 0, 0), (.aload_n 0, 0, 0, 0), (.iload_n 2, 0, 0, 0)] (pe := 13) (ls' := [some (.ref a), some (.ref b), some (.int (nI i))]) (st' := [.int (nI i), .ref a, .int (nI i), .ref b]) (M' := zCpI M a b i) (by decide +kernel) rfl ?_
    refine zT.iald (n := 187) (k := i) ha rfl hi (by decide) (by decide +kernel) ?_
    rw [zCpI_rd]
    refine zT.iast (n := 187) (k := i) hb rfl hi (by decide) (by decide +kernel) ?_
    rw [zCpI_st]
    refine zT.run [(.iinc 2 1, 0, 0, 0), (.goto (-16), 0, 0, 0)] (pe := 2) (ls' := [some (.ref a), some (.ref b), some (.int (nI i + 1))]) (st' := []) (M' := zCpI M a b (i + 1)) (by decide +kernel) rfl ?_
    exact zT.eq (by simp only [nI_succ]) k1
  · show zT _ _ _ _ (2, [some (.ref a), some (.ref b), some (.int (nI 187))], [], sh, zCpI M a b 187)
    refine zT.run [(.iload_n 2, 0, 0, 0), (.sipush 187, 0, 0, 0)] (pe := 6) (ls' := [some (.ref a), some (.ref b), some (.int (nI 187))]) (st' := [.int 187, .int (nI 187)]) (M' := zCpI M a b 187) (by decide +kernel) rfl ?_
    refine zT.cge (tgt := 21) (off := 15) (by decide +kernel) (by decide) (fun _ => ?_) (fun c => absurd (zGeY (n := 187) rfl) c)
    exact zT.vret rfl rfl (by decide +kernel)
theorem k_X10_copy : zCas yy_X10_copy 2 := ⟨⟨⟨⟨zIn (w := 6005) (by decide +kernel) rfl, zIn (w := 1012) (by decide +kernel) rfl⟩, by decide +kernel⟩, by decide +kernel⟩, zIn (w := 6004) (by decide +kernel) rfl⟩
/-! KEEPPAST: the rows of the past, in the order that the outer row gives; the eldest is used again -/
noncomputable abbrev yy_X10_keepPast : zY := (yX10_keepPast, cX10_keepPast, 4, none, 1, 22)
def zGp (gq : Nat → Nat) : Nat → Option Nat := fun j => if j < 10 then some (gq j) else none
def zRoI (gq : Nat → Nat) (i : Nat) : Nat → Nat := fun j => if j < i then gq (j + 1) else gq j
def zRot (gq : Nat → Nat) : Nat → Nat := fun j => if j < 9 then gq (j + 1) else if j = 9 then gq 0 else gq j
/-- the rows behind a keeping: turned round, if all ten are full -/
def zKq (gq : Nat → Nat) (pc : Nat) : Nat → Nat := if pc = 10 then zRot gq else gq
def zKc (pc : Nat) : Nat := if pc = 10 then 9 else pc
def zPm (gq : Nat → Nat) : Prop := (∀ i, i < 10 → 3 ≤ gq i ∧ gq i ≤ 12) ∧ ∀ i j, i < 10 → j < 10 → gq i = gq j → i = j
theorem zPm.rot {gq : Nat → Nat} (h : zPm gq) : zPm (zRot gq) := by
  refine ⟨fun i hi => ?_, fun i j hi hj e => ?_⟩
  · unfold zRot
    split
    · exact h.1 _ (by omega)
    · split
      · exact h.1 _ (by omega)
      · exact h.1 _ hi
  · unfold zRot at e
    by_cases a : i < 9 <;> by_cases b : j < 9
    · rw [if_pos a, if_pos b] at e
      have := h.2 _ _ (by omega) (by omega) e
      omega
    · rw [if_pos a, if_neg b, if_pos (by omega)] at e
      have := h.2 _ _ (by omega) (by omega) e
      omega
    · rw [if_neg a, if_pos (by omega), if_pos b] at e
      have := h.2 _ _ (by omega) (by omega) e
      omega
    · omega
theorem zPm.kq {gq : Nat → Nat} {pc : Nat} (h : zPm gq) : zPm (zKq gq pc) := by
  unfold zKq
  split
  · exact h.rot
  · exact h
theorem zRowQ {gp : Nat → Option Nat} {q : Nat} (h1 : 3 ≤ q) (h2 : q ≤ 12) : zSg (sh_Model gp) q = some (.inl (0, 187, .inl (fun _ => 0))) := by
  have : q = 3 ∨ q = 4 ∨ q = 5 ∨ q = 6 ∨ q = 7 ∨ q = 8 ∨ q = 9 ∨ q = 10 ∨ q = 11 ∨ q = 12 := by omega
  rcases this with rfl | rfl | rfl | rfl | rfl | rfl | rfl | rfl | rfl | rfl <;> rfl
theorem zShU (gq gq' : Nat → Nat) (k q : Nat) (hk : k < 10) (h : ∀ j, j < 10 → gq' j = if j = k then q else gq j) : (sh_Model (zGp gq)).set 2 (.inl (4, 10, .inr (.inr (.inr (.inr (fun j => if j = k then some q else zGp gq j)))))) = sh_Model (zGp gq') := by
  have e : (fun j => if j = k then some q else zGp gq j) = zGp gq' := by
    funext j
    unfold zGp
    by_cases a : j < 10
    · rw [if_pos a, if_pos a, h j a]
      split <;> rfl
    · rw [if_neg a, if_neg a, if_neg (by omega)]
  rw [e]
  rfl
/-- the memory behind a keeping of the row at f -/
def zKp (M : zM) (gq : Nat → Nat) (pc f : Nat) : zM := zU (zCp (if pc = 10 then zU M 0 3 (nI 9) else M) f (zKq gq pc (zKc pc))) 0 3 (nI (zKc pc + 1))
theorem t_keepPast (M : zM) (gq : Nat → Nat) (pc f : Nat) (l2 l3 : Option Value) (hM : M 0 3 = nI pc) (hpc : pc < 10) (hq : zPm gq) (hf : ∀ gp, zSg (sh_Model gp) f = some (.inl (0, 187, .inl (fun _ => 0)))) :
    zT yy_X10_keepPast 0 0 (zEnd yy_X10_keepPast none (sh_Model (zGp gq)) (zU (zCp M f (gq pc)) 0 3 (nI (pc + 1)))) (62, [some (.ref 0), some (.ref f), l2, l3], [], sh_Model (zGp gq), M) := by
  have h0 : zCp M f (gq pc) 0 3 = nI pc := by
    unfold zCp
    rw [zUa_ne (by have := (hq.1 pc hpc).1; omega)]
    exact hM
  refine zT.run [(.aload_n 1, 0, 0, 0), (.aload_n 0, 0, 0, 0), (.getfield 15, 8, 2, 5151), (.aload_n 0, 0, 0, 0), (.getfield 65, 8, 3, 5152)] (pe := 71) (ls' := [some (.ref 0), some (.ref f), l2, l3]) (st' := [.int (M 0 3), .ref 2, .ref f]) (M' := M) (by decide +kernel) rfl ?_
  rw [hM]
  refine zT.rald (n := 10) (k := pc) (q := gq pc) rfl rfl hpc (by decide) (if_pos hpc) (by decide +kernel) ?_
  have hS : ([.ref (gq pc), .ref f] : List Value) = (([.ref f, .ref (gq pc)] : List Value).map (zRv 0)).reverse ++ [] := by simp [zRv]
  refine zT.cS_all (idx := 68) (av := [.ref f, .ref (gq pc)]) (rv := none) (st := []) (S1 := []) (c_X10_copy _ M f (gq pc) (hf _) (zRowQ (hq.1 pc hpc).1 (hq.1 pc hpc).2)) k_X10_copy rfl (zIn (w := 6003) (by decide +kernel) rfl) (by decide +kernel) (by decide +kernel) hS (Nat.le_of_ble_eq_true rfl) rfl ?_
  refine zT.run [(.aload_n 0, 0, 0, 0), (.dup, 0, 0, 0), (.getfield 65, 8, 3, 5152), (.iconst 1, 0, 0, 0)] (pe := 81) (ls' := [some (.ref 0), some (.ref f), l2, l3]) (st' := [.int 1, .int (zCp M f (gq pc) 0 3), .ref 0]) (M' := (zCp M f (gq pc))) (by decide +kernel) rfl ?_
  rw [h0]
  refine zT.run [(.iadd, 0, 0, 0), (.putfield 65, 8, 3, 5152)] (pe := 85) (ls' := [some (.ref 0), some (.ref f), l2, l3]) (st' := []) (M' := (zU (zCp M f (gq pc)) 0 3 (nI pc + 1))) (by decide +kernel) rfl ?_
  exact zT.vret (by rw [nI_succ]) rfl (by decide +kernel)
set_option maxRecDepth 100000 in
theorem c_X10_keepPast (M : zM) (gq : Nat → Nat) (pc f : Nat) (hM : M 0 3 = nI pc) (hpc : pc ≤ 10) (hq : zPm gq) (hf : ∀ gp, zSg (sh_Model gp) f = some (.inl (0, 187, .inl (fun _ => 0)))) :
    zC yy_X10_keepPast 0 0 [.ref 0, .ref f] (sh_Model (zGp gq)) M none (sh_Model (zGp (zKq gq pc))) (zKp M gq pc f) := by
  refine zC.of (by decide +kernel) rfl (Nat.le_of_ble_eq_true rfl) ?_
  refine zT.run [(.aload_n 0, 0, 0, 0), (.getfield 65, 8, 3, 5152), (.bipush 10, 0, 0, 0)] (pe := 6) (ls' := [some (.ref 0), some (.ref f), none, none]) (st' := [.int 10, .int (M 0 3)]) (M' := M) (by decide +kernel) rfl ?_
  rw [hM]
  refine zT.cne (tgt := 62) (off := 56) (by decide +kernel) (by decide) (fun c => ?_) (fun c => ?_)
  · have c2 : ¬ pc = 10 := fun e => c (by rw [e]; rfl)
    unfold zKp zKq zKc
    rw [if_neg c2, if_neg c2, if_neg c2]
    exact t_keepPast M gq pc f none none hM (by omega) hq hf
  · have c2 : pc = 10 := (nI_eq (by omega) (by decide)).mp (c.trans (rfl : (10 : Int32) = nI 10))
    subst c2
    unfold zKp zKq zKc
    rw [if_pos rfl, if_pos rfl, if_pos rfl]
    refine zT.run [(.aload_n 0, 0, 0, 0), (.getfield 15, 8, 2, 5151), (.iconst 0, 0, 0, 0)] (pe := 14) (ls' := [some (.ref 0), some (.ref f), none, none]) (st' := [.int 0, .ref 2]) (M' := M) (by decide +kernel) rfl ?_
    refine zT.rald (n := 10) (k := 0) (q := gq 0) rfl rfl (by decide) (by decide) rfl (by decide +kernel) ?_
    refine zT.run [(.astore_n 2, 0, 0, 0), (.iconst 1, 0, 0, 0), (.istore_n 3, 0, 0, 0)] (pe := 18) (ls' := [some (.ref 0), some (.ref f), some (.ref (gq 0)), some (.int 1)]) (st' := []) (M' := M) (by decide +kernel) rfl ?_
    refine zT.eqSh (sh2 := sh_Model (zGp (zRoI gq 0))) rfl ?_
    refine zT.loop (fun _ (s : Unit) => s) (fun (i : Nat) (_ : Unit) => (18, [some (.ref 0), some (.ref f), some (.ref (gq 0)), some (.int (nI (i + 1)))], [], sh_Model (zGp (zRoI gq i)), M)) 9 () (fun i hi k1 => ?_) ?_
    · show zT _ _ _ _ (18, [some (.ref 0), some (.ref f), some (.ref (gq 0)), some (.int (nI (i + 1)))], [], sh_Model (zGp (zRoI gq i)), M)
      refine zT.run [(.iload_n 3, 0, 0, 0), (.bipush 10, 0, 0, 0)] (pe := 21) (ls' := [some (.ref 0), some (.ref f), some (.ref (gq 0)), some (.int (nI (i + 1)))]) (st' := [.int 10, .int (nI (i + 1))]) (M' := M) (by decide +kernel) rfl ?_
      refine zT.cge (tgt := 44) (off := 23) (by decide +kernel) (by decide) (fun c => absurd c (zGeN (n := 10) rfl (by omega) (by decide))) (fun _ => ?_)
      refine zT.run [(.aload_n 0, 0, 0, 0), (.getfield 15, 8, 2, 5151), (.iload_n 3, 0, 0, 0), (.iconst 1, 0, 0, 0), (.isub, 0, 0, 0), (.aload_n 0, 0, 0, 0), (.getfield 15, 8, 2, 5151), (.iload_n 3, 0, 0, 0)] (pe := 36) (ls' := [some (.ref 0), some (.ref f), some (.ref (gq 0)), some (.int (nI (i + 1)))]) (st' := [.int (nI (i + 1)), .ref 2, .int (nI (i + 1) - 1), .ref 2]) (M' := M) (by decide +kernel) rfl ?_
      rw [nI_pred]
      refine zT.rald (n := 10) (k := i + 1) (q := zRoI gq i (i + 1)) rfl rfl (by omega) (by decide) (if_pos (by omega)) (by decide +kernel) ?_
      refine zT.rast (n := 10) (k := i) rfl (zRowQ (by unfold zRoI; rw [if_neg (by omega)]; exact (hq.1 (i + 1) (by omega)).1) (by unfold zRoI; rw [if_neg (by omega)]; exact (hq.1 (i + 1) (by omega)).2)) rfl (by omega) (by decide) (by decide +kernel) ?_
      refine zT.eqSh (sh2 := sh_Model (zGp (zRoI gq (i + 1)))) (zShU _ _ i _ (by omega) (fun j hj => by
        unfold zRoI
        by_cases a : j = i
        · subst a
          rw [if_pos rfl, if_pos (by omega), if_neg (by omega)]
        · rw [if_neg a]
          by_cases b : j < i
          · rw [if_pos (by omega), if_pos b]
          · rw [if_neg (by omega), if_neg b])) ?_
      refine zT.run [(.iinc 3 1, 0, 0, 0), (.goto (-23), 0, 0, 0)] (pe := 18) (ls' := [some (.ref 0), some (.ref f), some (.ref (gq 0)), some (.int (nI (i + 1) + 1))]) (st' := []) (M' := M) (by decide +kernel) rfl ?_
      exact zT.eq (by simp only [nI_succ]) k1
    · show zT _ _ _ _ (18, [some (.ref 0), some (.ref f), some (.ref (gq 0)), some (.int (nI (9 + 1)))], [], sh_Model (zGp (zRoI gq 9)), M)
      refine zT.run [(.iload_n 3, 0, 0, 0), (.bipush 10, 0, 0, 0)] (pe := 21) (ls' := [some (.ref 0), some (.ref f), some (.ref (gq 0)), some (.int (nI (9 + 1)))]) (st' := [.int 10, .int (nI (9 + 1))]) (M' := M) (by decide +kernel) rfl ?_
      refine zT.cge (tgt := 44) (off := 23) (by decide +kernel) (by decide) (fun _ => ?_) (fun c => absurd (zGeY (n := 10) rfl) c)
      refine zT.run [(.aload_n 0, 0, 0, 0), (.getfield 15, 8, 2, 5151), (.bipush 9, 0, 0, 0), (.aload_n 2, 0, 0, 0)] (pe := 51) (ls' := [some (.ref 0), some (.ref f), some (.ref (gq 0)), some (.int (nI (9 + 1)))]) (st' := [.ref (gq 0), .int 9, .ref 2]) (M' := M) (by decide +kernel) rfl ?_
      refine zT.rast (n := 10) (k := 9) rfl (zRowQ (hq.1 0 (by decide)).1 (hq.1 0 (by decide)).2) rfl (by decide) (by decide) (by decide +kernel) ?_
      refine zT.eqSh (sh2 := sh_Model (zGp (zRot gq))) (zShU _ _ 9 _ (by decide) (fun j hj => by
        unfold zRot zRoI
        by_cases a : j = 9
        · subst a
          rw [if_neg (by omega), if_pos rfl, if_pos rfl]
        · rw [if_pos (by omega), if_neg a, if_pos (by omega)])) ?_
      refine zT.run [(.aload_n 0, 0, 0, 0), (.dup, 0, 0, 0), (.getfield 65, 8, 3, 5152), (.iconst 1, 0, 0, 0), (.isub, 0, 0, 0), (.putfield 65, 8, 3, 5152)] (pe := 62) (ls' := [some (.ref 0), some (.ref f), some (.ref (gq 0)), some (.int (nI (9 + 1)))]) (st' := []) (M' := (zU M 0 3 (M 0 3 - 1))) (by decide +kernel) rfl ?_
      rw [hM]
      exact t_keepPast (zU M 0 3 (nI 9)) (zRot gq) 9 f _ _ rfl (by decide) hq.rot hf
theorem k_X10_keepPast : zCal yy_X10_keepPast 1 := ⟨⟨⟨⟨zIn (w := 6002) (by decide +kernel) rfl, zIn (w := 1012) (by decide +kernel) rfl⟩, by decide +kernel⟩, by decide +kernel⟩, ⟨zIn (w := 6001) (by decide +kernel) rfl, zIn (w := 36) (by decide +kernel) rfl⟩⟩


