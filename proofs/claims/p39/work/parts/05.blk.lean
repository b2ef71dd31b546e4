/-! STRAIGHT STRETCHES: a run over plain data, by computing -/
abbrev zQ : Type := Option (zL × List Value × zM)
def z1 (f : Int32 → Int32) (ls : zL) (st : List Value) (M : zM) : zQ := match st with
  | .int x :: r => some (ls, .int (f x) :: r, M)
  | _ => none
def z2 (f : Int32 → Int32 → Int32) (ls : zL) (st : List Value) (M : zM) : zQ := match st with
  | .int y :: .int x :: r => some (ls, .int (f x y) :: r, M)
  | _ => none
def zL2 (f : Int64 → Int64 → Int64) (ls : zL) (st : List Value) (M : zM) : zQ := match st with
  | .long y :: .long x :: r => some (ls, .long (f x y) :: r, M)
  | _ => none
def zC1 (v : Value) : Bool := match v with
  | .long _ => false
  | .double _ => false
  | _ => true
def zIld (i : Nat) (ls : zL) (st : List Value) (M : zM) : zQ := match zGl ls i with
  | some (.int x) => some (ls, .int x :: st, M)
  | _ => none
def zAld (i : Nat) (ls : zL) (st : List Value) (M : zM) : zQ := match zGl ls i with
  | some (.ref x) => some (ls, .ref x :: st, M)
  | some (.retAddr x) => some (ls, .retAddr x :: st, M)
  | some .null => some (ls, .null :: st, M)
  | _ => none
def zIst (i : Nat) (ls : zL) (st : List Value) (M : zM) : zQ := match st with
  | .int x :: r => bif zNb ls i then some (zSl ls i (.int x), r, M) else none
  | _ => none
def zAst (i : Nat) (ls : zL) (st : List Value) (M : zM) : zQ := match st with
  | .ref x :: r => bif zNb ls i then some (zSl ls i (.ref x), r, M) else none
  | .retAddr x :: r => bif zNb ls i then some (zSl ls i (.retAddr x), r, M) else none
  | .null :: r => bif zNb ls i then some (zSl ls i .null, r, M) else none
  | _ => none
def zInc (i : Nat) (n : Int32) (ls : zL) (st : List Value) (M : zM) : zQ := match zGl ls i with
  | some (.int x) => bif zNb ls i then some (zSl ls i (.int (x + n)), st, M) else none
  | _ => none
def zDup (ls : zL) (st : List Value) (M : zM) : zQ := match st with
  | v :: r => bif zC1 v then some (ls, v :: v :: r, M) else none
  | _ => none
def zDup2 (ls : zL) (st : List Value) (M : zM) : zQ := match st with
  | v :: w :: r => bif zC1 v && zC1 w then some (ls, v :: w :: v :: w :: r, M) else none
  | _ => none
def zPop (ls : zL) (st : List Value) (M : zM) : zQ := match st with
  | v :: r => bif zC1 v then some (ls, r, M) else none
  | _ => none
def zGetf (sh : List va_E) (a b : Nat) (ls : zL) (st : List Value) (M : zM) : zQ := match st with
  | .ref o :: r => match zSg sh o with
    | some (.inr (ci, fs)) => match Nat.beq ci a, zSg fs b with
      | true, some v => some (ls, zI v (M o b) :: r, M)
      | _, _ => none
    | _ => none
  | _ => none
def zPutf (sh : List va_E) (a b : Nat) (ls : zL) (st : List Value) (M : zM) : zQ := match st with
  | .int x :: .ref o :: r => match zSg sh o with
    | some (.inr (ci, fs)) => match Nat.beq ci a, zSg fs b with
      | true, some (.int _) => some (ls, r, zU M o b x)
      | _, _ => none
    | _ => none
  | _ => none
def zLen9 (sh : List va_E) (ls : zL) (st : List Value) (M : zM) : zQ := match st with
  | .ref o :: r => match zSg sh o with
    | some (.inl (t, n, _)) => bif Nat.blt t 6 then some (ls, .int (Int32.ofNat n) :: r, M) else none
    | _ => none
  | _ => none
def zI2l (ls : zL) (st : List Value) (M : zM) : zQ := match st with
  | .int x :: r => some (ls, .long x.toInt64 :: r, M)
  | _ => none
def zL2i (ls : zL) (st : List Value) (M : zM) : zQ := match st with
  | .long x :: r => some (ls, .int x.toInt32 :: r, M)
  | _ => none
def zLcmp (ls : zL) (st : List Value) (M : zM) : zQ := match st with
  | .long y :: .long x :: r => some (ls, .int (lg_cmp x y) :: r, M)
  | _ => none
def zDiv (f : Int32 → Int32 → Int32) (ls : zL) (st : List Value) (M : zM) : zQ := match st with
  | .int y :: .int x :: r => if y = 0 then none else some (ls, .int (f x y) :: r, M)
  | _ => none
def zLrem (ls : zL) (st : List Value) (M : zM) : zQ := match st with
  | .long y :: .long x :: r => if y = 0 then none else some (ls, .long (x - x / y * y) :: r, M)
  | _ => none
/-- one instruction; a, b: what its entry of the tables says (class and place of a field, a number) -/
def zPx (sh : List va_E) (a b : Nat) (i : Instr) : zL → List Value → zM → zQ := match i with
  | .iconst n => fun ls st M => some (ls, .int (Int32.ofInt n) :: st, M)
  | .bipush n => fun ls st M => some (ls, .int (Int8.ofInt n).toInt32 :: st, M)
  | .sipush n => fun ls st M => some (ls, .int (Int16.ofInt n).toInt32 :: st, M)
  | .ldc _ => fun ls st M => some (ls, .int (Int32.ofNat a) :: st, M)
  | .ldc_w _ => fun ls st M => some (ls, .int (Int32.ofNat a) :: st, M)
  | .ldc2_w _ => fun ls st M => some (ls, .long (Int64.ofNat a) :: st, M)
  | .lconst n => fun ls st M => some (ls, .long (Int64.ofNat (n : Nat)) :: st, M)
  | .aconst_null => fun ls st M => some (ls, .null :: st, M)
  | .iload i => zIld i
  | .iload_n i => zIld i
  | .aload i => zAld i
  | .aload_n i => zAld i
  | .istore i => zIst i
  | .istore_n i => zIst i
  | .astore i => zAst i
  | .astore_n i => zAst i
  | .iinc i n => zInc i (Int32.ofInt n)
  | .iadd => z2 (fun x y => x + y)
  | .isub => z2 (fun x y => x - y)
  | .imul => z2 (fun x y => x * y)
  | .iand => z2 (fun x y => x &&& y)
  | .ior => z2 (fun x y => x ||| y)
  | .ixor => z2 (fun x y => x ^^^ y)
  | .ishl => z2 (fun x y => x <<< (y &&& 31))
  | .ishr => z2 (fun x y => x >>> (y &&& 31))
  | .iushr => z2 (fun x y => (x.toUInt32 >>> (y.toUInt32 &&& Int32.toUInt32 31)).toInt32)
  | .idiv => zDiv (fun x y => x / y)
  | .irem => zDiv (fun x y => x - x / y * y)
  | .ineg => z1 (fun x => -x)
  | .i2b => z1 (fun x => x.toInt8.toInt32)
  | .i2c => z1 (fun x => (x.toUInt32 % 65536).toInt32)
  | .i2l => zI2l
  | .l2i => zL2i
  | .ladd => zL2 (fun x y => x + y)
  | .lmul => zL2 (fun x y => x * y)
  | .lrem => zLrem
  | .lcmp => zLcmp
  | .dup => zDup
  | .dup2 => zDup2
  | .pop => zPop
  | .getfield _ => zGetf sh a b
  | .putfield _ => zPutf sh a b
  | .arraylength => zLen9 sh
  | .goto _ => fun ls st M => some (ls, st, M)
  | _ => fun _ _ _ => none
def zLn (i : Instr) : Nat := match i with
  | .bipush _ => 2
  | .sipush _ => 3
  | .ldc _ => 2
  | .ldc_w _ => 3
  | .ldc2_w _ => 3
  | .iload _ => 2
  | .aload _ => 2
  | .istore _ => 2
  | .astore _ => 2
  | .iinc _ _ => 3
  | .getfield _ => 3
  | .putfield _ => 3
  | .goto _ => 3
  | _ => 1
def zNx (i : Instr) (pc : Nat) : Nat := match i with
  | .goto off => ((pc : Int) + off).toNat
  | _ => pc + zLn i
/-- what the tables must say of an instruction -/
def zOk (own : String) (nL : Nat) (i : Instr) (a b w pc : Nat) : Bool := match i with
  | .istore k => decide (k < nL)
  | .istore_n k => decide ((k : Nat) < nL)
  | .astore k => decide (k < nL)
  | .astore_n k => decide ((k : Nat) < nL)
  | .iinc k _ => decide (k < nL)
  | .goto off => decide (0 ≤ (pc : Int) + off)
  | .ldc k => decide (zAt w = some (Cond.constant own k (Int32.ofNat a)))
  | .ldc_w k => decide (zAt w = some (Cond.constant own k (Int32.ofNat a)))
  | .ldc2_w k => decide (zAt w = some (Cond.constantLong own k (Int64.ofNat a)))
  | .getfield k => match vwCl[a]? with
    | some q => decide (b < q.2.2) && decide (zAt w = some (Cond.fieldLink own k (q.2.1 b).1 (q.2.1 b).2.1 (q.2.1 b).2.2.1))
    | none => false
  | .putfield k => match vwCl[a]? with
    | some q => decide (b < q.2.2) && decide (zAt w = some (Cond.fieldLink own k (q.2.1 b).1 (q.2.1 b).2.1 (q.2.1 b).2.2.1)) && decide ((q.2.1 b).2.2.2 = false) && decide (zFt a b = .int)
    | none => false
  | _ => true
theorem zC1_cat {v : Value} (h : zC1 v = true) : v.category = 1 := by cases v <;> first | rfl | cases h
theorem zTys_at (cA : Nat → ClassId) {t : Nat} (h : t < 6) : ∃ ty, (zTys cA)[t]? = some (cA t, ty) := by
  match t, h with
  | 0, _ => exact ⟨_, rfl⟩
  | 1, _ => exact ⟨_, rfl⟩
  | 2, _ => exact ⟨_, rfl⟩
  | 3, _ => exact ⟨_, rfl⟩
  | 4, _ => exact ⟨_, rfl⟩
  | 5, _ => exact ⟨_, rfl⟩
  | t + 6, h => omega
theorem zE_arr (cA : Nat → ClassId) (as ex : Nat → Nat) (f : Nat → Int32) (t n : Nat) (y : (Nat → Int32) ⊕ (Nat → Int64) ⊕ (Nat → UInt32) ⊕ (Nat → UInt64) ⊕ (Nat → Option Nat)) : ∃ z, zTrE cA as ex (zMkE f (.inl (t, n, y))) = .inl (cA t, n, z) := by
  rcases y with y | y | y | y | y <;> exact ⟨_, rfl⟩
theorem zPut_eq {M : zM} {as ex : Nat → Nat} {cA : Nat → ClassId} {o b ci : Nat} {fs : List Value} {x x9 : Int32} (hv : zSg fs b = some (.int x9)) : zTrE cA as ex (zMkE (zU M o b x o) (.inr (ci, fs))) = .inr (ci, ((zMkF (M o) 0 fs).map (zTr as ex)).set b (.int x)) := by
  show (Sum.inr (ci, _) : va_E) = _
  congr 2
  apply List.ext_getElem?
  intro j
  rw [List.getElem?_map, zMkF_get, List.getElem?_set]
  rw [zSg_eq] at hv
  have hb := (List.getElem?_eq_some_iff.mp hv).1
  rw [List.length_map, zMkF_len]
  by_cases hj : b = j
  · subst hj
    rw [if_pos rfl, if_pos hb, hv, zU_eq, Nat.zero_add]
    simp [zI, zTr]
  · rw [if_neg hj, List.getElem?_map, zMkF_get, zU_eq, Nat.zero_add]
    simp only [show ¬ j = b from fun h => hj h.symm, if_false]
section ZPX
variable {Y : zY} {p : Program} {l : Launch} {e : Jvm.Env} {R : Room} {s : State} {m : MethodId} {args : Array Value} {below : List Frame} {meth : Method} {c : Code} {D : va_G} {cA : Nat → ClassId} {ex : Nat → Nat} {A : Nat → Prop} {Q : State → Prop} {cells slots : Nat} {as : Nat → Nat}
set_option maxHeartbeats 4000000 in
set_option maxRecDepth 100000 in
theorem zPx_ok (E : zEv Y p l R s m args meth c D cA ex A) {i : Instr} {a b w pc : Nat} {ls ls' : zL} {st st' : List Value} {sh : List va_E} {M M' : zM} (hx : zPx sh a b i ls st M = some (ls', st', M')) (hd : decode Y.2.1 pc = .ok (i, zLn i)) (hk : zOk Y.1.cls Y.2.2.1 i a b w pc = true)
    (k : zG Y p l e R s m args below meth c D cA ex A Q cells slots as (zNx i pc, ls', st', sh, M')) : zG Y p l e R s m args below meth c D cA ex A Q cells slots as (pc, ls, st, sh, M) := by
  obtain ⟨hx0, hb, hml, hown, hts, hK, hA, hSt, hfl, hlk, hret, hnm, hfr, hlo⟩ := E
  intro H locs lsR hP hD hS hl
  cases i with
  | iconst n => cases hx; exact lv_iconst hx0 hb hd rfl (k H locs lsR hP hD hS hl)
  | bipush n => cases hx; exact lv_bipush hx0 hb hd rfl (k H locs lsR hP hD hS hl)
  | sipush n => cases hx; exact lv_sipush hx0 hb hd rfl (k H locs lsR hP hD hS hl)
  | lconst n => cases hx; exact lv_lconst hx0 hb hd rfl (k H locs lsR hP hD hS hl)
  | aconst_null => cases hx; exact lv_null hx0 hb hd (k H locs lsR hP hD hS hl)
  | ldc n => cases hx; exact lv_ldc (v := Int32.ofNat a) hx0 hb hown (hts _ (zIn (of_decide_eq_true hk) rfl)) hd (k H locs lsR hP hD hS hl)
  | ldc_w n => cases hx; exact lv_ldcw (v := Int32.ofNat a) hx0 hb hown (hts _ (zIn (of_decide_eq_true hk) rfl)) hd (k H locs lsR hP hD hS hl)
  | ldc2_w n => cases hx; exact lv_ldc2 (v := Int64.ofNat a) hx0 hb hown (hts _ (zIn (of_decide_eq_true hk) rfl)) hd (k H locs lsR hP hD hS hl)
  | iload n =>
    simp only [zPx, zIld] at hx
    split at hx
    · rename_i x h
      cases hx
      exact lv_iload hx0 hb hd (zHas_at hl h) (k H locs lsR hP hD hS hl)
    · cases hx
  | iload_n n =>
    simp only [zPx, zIld] at hx
    split at hx
    · rename_i x h
      cases hx
      exact lv_iload_n hx0 hb hd rfl (zHas_at hl h) (k H locs lsR hP hD hS hl)
    · cases hx
  | aload n =>
    simp only [zPx, zAld] at hx
    split at hx
    · rename_i x h
      cases hx
      exact lv_aload hx0 hb hd (zHas_at hl h) (k H locs lsR hP hD hS hl)
    · rename_i x h
      cases hx
      exact lv_aload hx0 hb hd (zHas_at hl h) (k H locs lsR hP hD hS hl)
    · rename_i h
      cases hx
      exact lv_aloadN hx0 hb hd (zHas_at hl h) (k H locs lsR hP hD hS hl)
    · cases hx
  | aload_n n =>
    simp only [zPx, zAld] at hx
    split at hx
    · rename_i x h
      cases hx
      exact lv_aload_n hx0 hb hd rfl (zHas_at hl h) (k H locs lsR hP hD hS hl)
    · rename_i x h
      cases hx
      exact lv_aload_n hx0 hb hd rfl (zHas_at hl h) (k H locs lsR hP hD hS hl)
    · rename_i h
      cases hx
      exact lv_aload_nN hx0 hb hd rfl (zHas_at hl h) (k H locs lsR hP hD hS hl)
    · cases hx
  | istore n =>
    simp only [zPx, zIst] at hx
    split at hx
    · cases hz : zNb ls n with
      | false => rw [hz] at hx; cases hx
      | true =>
        rw [hz] at hx
        cases hx
        exact lv_istore hx0 hb hd hl (of_decide_eq_true hk) rfl (fun ls' h => k H locs ls' hP hD hS (zHas_set (w := .int _) hz h))
    · cases hx
  | istore_n n =>
    simp only [zPx, zIst] at hx
    split at hx
    · cases hz : zNb ls n with
      | false => rw [hz] at hx; cases hx
      | true =>
        rw [hz] at hx
        cases hx
        exact lv_istore_n hx0 hb hd rfl hl (of_decide_eq_true hk) rfl (fun ls' h => k H locs ls' hP hD hS (zHas_set (w := .int _) hz h))
    · cases hx
  | astore n =>
    simp only [zPx, zAst] at hx
    split at hx
    · cases hz : zNb ls n with
      | false => rw [hz] at hx; cases hx
      | true =>
        rw [hz] at hx
        cases hx
        exact lv_astore hx0 hb hd hl (of_decide_eq_true hk) rfl (fun ls' h => k H locs ls' hP hD hS (zHas_set (as := as) (ex := ex) (w := .ref _) hz h))
    · cases hz : zNb ls n with
      | false => rw [hz] at hx; cases hx
      | true =>
        rw [hz] at hx
        cases hx
        exact lv_astore hx0 hb hd hl (of_decide_eq_true hk) rfl (fun ls' h => k H locs ls' hP hD hS (zHas_set (as := as) (ex := ex) (w := .retAddr _) hz h))
    · cases hz : zNb ls n with
      | false => rw [hz] at hx; cases hx
      | true =>
        rw [hz] at hx
        cases hx
        exact lv_astoreN hx0 hb hd hl (of_decide_eq_true hk) rfl (fun ls' h => k H locs ls' hP hD hS (zHas_set (as := as) (ex := ex) (w := .null) hz h))
    · cases hx
  | astore_n n =>
    simp only [zPx, zAst] at hx
    split at hx
    · cases hz : zNb ls n with
      | false => rw [hz] at hx; cases hx
      | true =>
        rw [hz] at hx
        cases hx
        exact lv_astore_n hx0 hb hd rfl hl (of_decide_eq_true hk) rfl (fun ls' h => k H locs ls' hP hD hS (zHas_set (as := as) (ex := ex) (w := .ref _) hz h))
    · cases hz : zNb ls n with
      | false => rw [hz] at hx; cases hx
      | true =>
        rw [hz] at hx
        cases hx
        exact lv_astore_n hx0 hb hd rfl hl (of_decide_eq_true hk) rfl (fun ls' h => k H locs ls' hP hD hS (zHas_set (as := as) (ex := ex) (w := .retAddr _) hz h))
    · cases hz : zNb ls n with
      | false => rw [hz] at hx; cases hx
      | true =>
        rw [hz] at hx
        cases hx
        exact lv_astore_nN hx0 hb hd rfl hl (of_decide_eq_true hk) rfl (fun ls' h => k H locs ls' hP hD hS (zHas_set (as := as) (ex := ex) (w := .null) hz h))
    · cases hx
  | iinc j n =>
    simp only [zPx, zInc] at hx
    split at hx
    · rename_i x h
      cases hz : zNb ls j with
      | false => rw [hz] at hx; cases hx
      | true =>
        rw [hz] at hx
        cases hx
        have h9 := zLv_in (as := as) (ex := ex) (b := 0) h
        rw [Nat.zero_add] at h9
        obtain ⟨q9, hq9⟩ := List.getElem?_of_mem h9
        exact lv_iinc hx0 hb hd hl hq9 rfl (of_decide_eq_true hk) rfl (fun ls' h => k H locs ls' hP hD hS (zHas_set (as := as) (ex := ex) (w := .int _) hz h))
    · cases hx
  | iadd =>
    simp only [zPx, z2] at hx
    split at hx
    · cases hx; exact lv_iadd hx0 hb hd (k H locs lsR hP hD hS hl)
    · cases hx
  | isub =>
    simp only [zPx, z2] at hx
    split at hx
    · cases hx; exact lv_isub hx0 hb hd (k H locs lsR hP hD hS hl)
    · cases hx
  | imul =>
    simp only [zPx, z2] at hx
    split at hx
    · cases hx; exact lv_imul hx0 hb hd (k H locs lsR hP hD hS hl)
    · cases hx
  | iand =>
    simp only [zPx, z2] at hx
    split at hx
    · cases hx; exact lv_iand hx0 hb hd (k H locs lsR hP hD hS hl)
    · cases hx
  | ior =>
    simp only [zPx, z2] at hx
    split at hx
    · cases hx; exact lv_ior hx0 hb hd (k H locs lsR hP hD hS hl)
    · cases hx
  | ixor =>
    simp only [zPx, z2] at hx
    split at hx
    · cases hx; exact lv_ixor hx0 hb hd (k H locs lsR hP hD hS hl)
    · cases hx
  | ishl =>
    simp only [zPx, z2] at hx
    split at hx
    · cases hx; exact lv_ishl hx0 hb hd (k H locs lsR hP hD hS hl)
    · cases hx
  | ishr =>
    simp only [zPx, z2] at hx
    split at hx
    · cases hx; exact lv_ishr hx0 hb hd (k H locs lsR hP hD hS hl)
    · cases hx
  | iushr =>
    simp only [zPx, z2] at hx
    split at hx
    · cases hx; exact lv_iushr hx0 hb hd rfl (k H locs lsR hP hD hS hl)
    · cases hx
  | idiv =>
    simp only [zPx, zDiv] at hx
    split at hx
    · split at hx
      · cases hx
      · rename_i hne
        cases hx; exact lv_idiv hx0 hb hd hne (k H locs lsR hP hD hS hl)
    · cases hx
  | irem =>
    simp only [zPx, zDiv] at hx
    split at hx
    · split at hx
      · cases hx
      · rename_i hne
        cases hx; exact lv_irem hx0 hb hd hne (k H locs lsR hP hD hS hl)
    · cases hx
  | ineg =>
    simp only [zPx, z1] at hx
    split at hx
    · cases hx; exact lv_ineg hx0 hb hd (k H locs lsR hP hD hS hl)
    · cases hx
  | i2b =>
    simp only [zPx, z1] at hx
    split at hx
    · cases hx; exact lv_i2b hx0 hb hd rfl (k H locs lsR hP hD hS hl)
    · cases hx
  | i2c =>
    simp only [zPx, z1] at hx
    split at hx
    · cases hx; exact lv_i2c hx0 hb hd rfl (k H locs lsR hP hD hS hl)
    · cases hx
  | i2l =>
    simp only [zPx, zI2l] at hx
    split at hx
    · cases hx; exact lv_i2l hx0 hb hd rfl (k H locs lsR hP hD hS hl)
    · cases hx
  | l2i =>
    simp only [zPx, zL2i] at hx
    split at hx
    · cases hx; exact lv_l2i hx0 hb hd rfl (k H locs lsR hP hD hS hl)
    · cases hx
  | ladd =>
    simp only [zPx, zL2] at hx
    split at hx
    · cases hx; exact lv_ladd hx0 hb hd (k H locs lsR hP hD hS hl)
    · cases hx
  | lmul =>
    simp only [zPx, zL2] at hx
    split at hx
    · cases hx; exact lv_lmul hx0 hb hd (k H locs lsR hP hD hS hl)
    · cases hx
  | lcmp =>
    simp only [zPx, zLcmp] at hx
    split at hx
    · cases hx; exact W.lcmp hx0 hb hd (k H locs lsR hP hD hS hl)
    · cases hx
  | lrem =>
    simp only [zPx, zLrem] at hx
    split at hx
    · split at hx
      · cases hx
      · rename_i hne
        cases hx; exact lv_lrem hx0 hb hd hne (k H locs lsR hP hD hS hl)
    · cases hx
  | dup =>
    simp only [zPx, zDup] at hx
    split at hx
    · rename_i v r
      cases hz : zC1 v with
      | false => rw [hz] at hx; cases hx
      | true =>
        rw [hz] at hx
        cases hx
        exact lv_dup hx0 hb hd ((zTr_cat as ex v).trans (zC1_cat hz)) (k H locs lsR hP hD hS hl)
    · cases hx
  | dup2 =>
    simp only [zPx, zDup2] at hx
    split at hx
    · rename_i v w r
      cases hz : zC1 v with
      | false => rw [hz] at hx; cases hx
      | true =>
        cases hy : zC1 w with
        | false => rw [hz, hy] at hx; cases hx
        | true =>
          rw [hz, hy] at hx
          cases hx
          exact lv_dup2_11 hx0 hb hd ((zTr_cat as ex v).trans (zC1_cat hz)) ((zTr_cat as ex w).trans (zC1_cat hy)) (k H locs lsR hP hD hS hl)
    · cases hx
  | pop =>
    simp only [zPx, zPop] at hx
    split at hx
    · rename_i v r
      cases hz : zC1 v with
      | false => rw [hz] at hx; cases hx
      | true =>
        rw [hz] at hx
        cases hx
        exact lv_pop hx0 hb hd ((zTr_cat as ex v).trans (zC1_cat hz)) (k H locs lsR hP hD hS hl)
    · cases hx
  | goto off =>
    cases hx
    exact lv_goto (tgt := ((pc : Int) + off).toNat) hx0 hb hd (Int.toNat_of_nonneg (of_decide_eq_true hk)).symm (k H locs lsR hP hD hS hl)
  | arraylength =>
    simp only [zPx, zLen9] at hx
    split at hx
    · rename_i o r
      split at hx
      · rename_i t n y h
        cases hz : Nat.blt t 6 with
        | false => rw [hz] at hx; cases hx
        | true =>
          rw [hz] at hx
          cases hx
          obtain ⟨ty, hty⟩ := zTys_at cA (show t < 6 from Nat.le_of_ble_eq_true hz)
          obtain ⟨z, hz9⟩ := zE_arr cA as ex (M o) t n y
          have ha := zWd_at (cA := cA) (as := as) (ex := ex) (M := M) h
          rw [hz9] at ha
          exact va_alen hx0 hb hK hP o t ha hty rfl hd (k H locs lsR hP hD hS hl)
      · cases hx
    · cases hx
  | getfield idx =>
    simp only [zPx, zGetf] at hx
    split at hx
    · rename_i o r
      split at hx
      · rename_i ci fs h
        split at hx
        · rename_i v hc hv
          cases hx
          cases Nat.eq_of_beq_eq_true hc
          simp only [zOk] at hk
          split at hk
          · rename_i q hq
            simp only [Bool.and_eq_true, decide_eq_true_eq] at hk
            have ha := zWd_at (cA := cA) (as := as) (ex := ex) (M := M) h
            refine va_get hx0 hb hts (zCl_in q (List.mem_of_getElem? hq)) hown hK hP o ha hq b hk.1 (hts _ (zIn hk.2 rfl)) (fun _ h9 => h9) (v := zTr as ex (zI v (M o b))) ?_ hd (k H locs lsR hP hD hS hl)
            rw [List.getElem?_map, zMkF_get, ← zSg_eq, hv, Nat.zero_add]
            rfl
          · cases hk
        · cases hx
      · cases hx
    · cases hx
  | putfield idx =>
    simp only [zPx, zPutf] at hx
    split at hx
    · rename_i x o r
      split at hx
      · rename_i ci fs h
        split at hx
        · rename_i x9 hc hv
          cases hx
          cases Nat.eq_of_beq_eq_true hc
          simp only [zOk] at hk
          split at hk
          · rename_i q hq
            simp only [Bool.and_eq_true, decide_eq_true_eq] at hk
            have ha := zWd_at (cA := cA) (as := as) (ex := ex) (M := M) h
            have hty := zCl_ty _ q hq b hk.1.1.1
            rw [hk.2] at hty
            refine va_put hx0 hb hts (zCl_in q (List.mem_of_getElem? hq)) (zFt _) (zCl_ty _ q hq) (zCl_nm _ q hq) hown hK hP hD hS o ha hq b hk.1.1.1 (hts _ (zIn hk.1.1.2 rfl)) (fun _ h9 => h9) hk.1.2 hty rfl rfl ?_ hd (fun H1 locs1 hP hD hS => ?_)
            · rw [List.length_map, zMkF_len]
              rw [zSg_eq] at hv
              exact (List.getElem?_eq_some_iff.mp hv).1
            · have e9 : (zWd cA as ex M 0 sh).set o (as o, .inr (a, ((zMkF (M o) 0 fs).map (zTr as ex)).set b (.int x))) = zWd cA as ex (zU M o b x) 0 sh := by
                have h8 := zWd_set (cA := cA) (as := as) (ex := ex) (M := M) (M' := zU M o b x) (sh := sh) (k := o) (q' := .inr (a, fs)) (fun j hj => zU_ne hj)
                rw [zSet_same h] at h8
                rw [← h8]
                congr 2
                exact (zPut_eq hv).symm
              have hP : va_P D vwCl ((zWd cA as ex M 0 sh).set o (as o, .inr (a, ((zMkF (M o) 0 fs).map (zTr as ex)).set b (.int x)))) H1 := hP
              have hD : va_D A ((zWd cA as ex M 0 sh).set o (as o, .inr (a, ((zMkF (M o) 0 fs).map (zTr as ex)).set b (.int x)))) := hD
              rw [e9] at hP hD
              exact k H1 locs1 lsR hP hD hS hl
          · cases hk
        · cases hx
      · cases hx
    · cases hx
  | _ => cases hx
end ZPX
/-- a stretch: instructions with their entries -/
def zRun (sh : List va_E) : List (Instr × Nat × Nat × Nat) → zL → List Value → zM → zQ
  | [], ls, st, M => some (ls, st, M)
  | q :: r, ls, st, M => match zPx sh q.2.1 q.2.2.1 q.1 ls st M with
    | some x => zRun sh r x.1 x.2.1 x.2.2
    | none => none
def zOkB (Y : zY) : Nat → List (Instr × Nat × Nat × Nat) → Nat → Bool
  | pc, [], pe => pc == pe
  | pc, q :: r, pe => decide (decode Y.2.1 pc = .ok (q.1, zLn q.1)) && zOk Y.1.cls Y.2.2.1 q.1 q.2.1 q.2.2.1 q.2.2.2 pc && zOkB Y (zNx q.1 pc) r pe
/-- a straight stretch, by computing -/
theorem zT.run {Y : zY} {k n : Nat} {Z : zS → Prop} (b : List (Instr × Nat × Nat × Nat)) {pc pe : Nat} {ls ls' : zL} {st st' : List Value} {sh : List va_E} {M M' : zM} (hk : zOkB Y pc b pe = true) (hr : zRun sh b ls st M = some (ls', st', M'))
    (k1 : zT Y k n Z (pe, ls', st', sh, M')) : zT Y k n Z (pc, ls, st, sh, M) := by
  induction b generalizing pc ls st M with
  | nil =>
    simp only [zOkB, beq_iff_eq] at hk
    cases hr
    subst hk
    exact k1
  | cons q r ih =>
    simp only [zOkB, Bool.and_eq_true, decide_eq_true_eq] at hk
    simp only [zRun] at hr
    split at hr
    · rename_i x hx
      exact zT.step (S1 := (zNx q.1 pc, x.1, x.2.1, sh, x.2.2)) rfl (fun p l e R s m args below meth c D cA ex A E Q cells slots as _ _ k9 => zPx_ok E hx hk.1.1 hk.1.2 k9) (ih hk.2 hr)
    · cases hr
