/-! PURE STATES: a method's frame and its world as plain data; a reference is a place in the world ('.ref k'), or a thing outside it ('.retAddr i') -/
abbrev zM : Type := Nat → Nat → Int32
abbrev zL : Type := List (Option Value)
abbrev zS : Type := Nat × zL × List Value × List va_E × zM
/-- name, bytes, locals, what it returns, frames and words of locals below it -/
abbrev zY : Type := MethodName × ByteArray × Nat × Option FieldType × Nat × Nat
def zTr (as ex : Nat → Nat) (v : Value) : Value := match v with
  | .ref k => .ref (as k)
  | .retAddr i => .ref (ex i)
  | .int x => .int x
  | .long x => .long x
  | .float x => .float x
  | .double x => .double x
  | .null => .null
def zTrE (cA : Nat → ClassId) (as ex : Nat → Nat) (q : va_E) : va_E := match q with
  | .inl (t, n, .inl f) => .inl (cA t, n, .inl f)
  | .inl (t, n, .inr (.inl f)) => .inl (cA t, n, .inr (.inl f))
  | .inl (t, n, .inr (.inr (.inl f))) => .inl (cA t, n, .inr (.inr (.inl f)))
  | .inl (t, n, .inr (.inr (.inr (.inl f)))) => .inl (cA t, n, .inr (.inr (.inr (.inl f))))
  | .inl (t, n, .inr (.inr (.inr (.inr g)))) => .inl (cA t, n, .inr (.inr (.inr (.inr fun j => (g j).map as))))
  | .inr (ci, fs) => .inr (ci, fs.map (zTr as ex))
def zI (v : Value) (x : Int32) : Value := match v with
  | .int _ => .int x
  | w => w
def zMkF (f : Nat → Int32) : Nat → List Value → List Value
  | _, [] => []
  | j, v :: r => zI v (f j) :: zMkF f (j + 1) r
def zMkE (f : Nat → Int32) (q : va_E) : va_E := match q with
  | .inl (t, n, .inl _) => .inl (t, n, .inl f)
  | .inl (t, n, .inr x) => .inl (t, n, .inr x)
  | .inr (ci, fs) => .inr (ci, zMkF f 0 fs)
def zWd (cA : Nat → ClassId) (as ex : Nat → Nat) (M : zM) : Nat → List va_E → va_W
  | _, [] => []
  | k, q :: r => (as k, zTrE cA as ex (zMkE (M k) q)) :: zWd cA as ex M (k + 1) r
def zLv (as ex : Nat → Nat) : Nat → zL → List (Nat × Value)
  | _, [] => []
  | i, none :: r => zLv as ex (i + 1) r
  | i, some v :: r => (i, zTr as ex v) :: zLv as ex (i + 1) r
def zSg {α : Type} : List α → Nat → Option α
  | [], _ => none
  | q :: _, 0 => some q
  | _ :: r, n + 1 => zSg r n
def zGl : zL → Nat → Option Value
  | [], _ => none
  | v :: _, 0 => v
  | _ :: r, n + 1 => zGl r n
def zSl : zL → Nat → Value → zL
  | [], _, _ => []
  | _ :: r, 0, w => some w :: r
  | v :: r, n + 1, w => v :: zSl r n w
def zU (M : zM) (o k : Nat) (x : Int32) : zM := fun o' k' => bif Nat.beq o' o && Nat.beq k' k then x else M o' k'
def zUa (M : zM) (o : Nat) (f : Nat → Int32) : zM := fun o' => bif Nat.beq o' o then f else M o'
theorem zTr_cat (as ex : Nat → Nat) (v : Value) : (zTr as ex v).category = v.category := by cases v <;> rfl
theorem zTr_sum (as ex : Nat → Nat) (st : List Value) : ((st.map (zTr as ex)).map fun v => v.category).sum = (st.map fun v => v.category).sum := by
  rw [List.map_map]
  congr 1
  apply List.map_congr_left
  intro v _
  exact zTr_cat as ex v
theorem zSg_eq {α : Type} : ∀ (l : List α) (k : Nat), zSg l k = l[k]?
  | [], k => by simp [zSg]
  | q :: r, 0 => by simp [zSg]
  | q :: r, k + 1 => by simp [zSg, zSg_eq r k]
theorem zMkF_get (f : Nat → Int32) : ∀ (fs : List Value) (j k : Nat), (zMkF f j fs)[k]? = (fs[k]?).map fun v => zI v (f (j + k))
  | [], j, k => by simp [zMkF]
  | v :: r, j, 0 => by simp [zMkF]
  | v :: r, j, k + 1 => by
    simp only [zMkF, List.getElem?_cons_succ, zMkF_get f r (j + 1) k]
    rw [show j + 1 + k = j + (k + 1) by omega]
theorem zMkF_len (f : Nat → Int32) : ∀ (fs : List Value) (j : Nat), (zMkF f j fs).length = fs.length
  | [], j => rfl
  | v :: r, j => by simp [zMkF, zMkF_len f r (j + 1)]
theorem zWd_get (cA : Nat → ClassId) (as ex : Nat → Nat) (M : zM) : ∀ (sh : List va_E) (b k : Nat), (zWd cA as ex M b sh)[k]? = (zSg sh k).map fun q => (as (b + k), zTrE cA as ex (zMkE (M (b + k)) q))
  | [], b, k => by simp [zWd, zSg]
  | q :: r, b, 0 => by simp [zWd, zSg]
  | q :: r, b, k + 1 => by
    simp only [zWd, zSg, List.getElem?_cons_succ, zWd_get cA as ex M r (b + 1) k]
    rw [show b + 1 + k = b + (k + 1) by omega]
theorem zWd_len (cA : Nat → ClassId) (as ex : Nat → Nat) (M : zM) : ∀ (sh : List va_E) (b : Nat), (zWd cA as ex M b sh).length = sh.length
  | [], b => rfl
  | q :: r, b => by simp [zWd, zWd_len cA as ex M r (b + 1)]
theorem zWd_at {cA : Nat → ClassId} {as ex : Nat → Nat} {M : zM} {sh : List va_E} {k : Nat} {q : va_E} (h : zSg sh k = some q) : (zWd cA as ex M 0 sh)[k]? = some (as k, zTrE cA as ex (zMkE (M k) q)) := by
  rw [zWd_get, h, Nat.zero_add]
  rfl
theorem zWd_set0 (cA : Nat → ClassId) (as ex : Nat → Nat) (M M' : zM) (q' : va_E) : ∀ (sh : List va_E) (b k : Nat), (∀ j, j ≠ b + k → M' j = M j) → (zWd cA as ex M b sh).set k (as (b + k), zTrE cA as ex (zMkE (M' (b + k)) q')) = zWd cA as ex M' b (sh.set k q')
  | [], b, k, _ => by simp [zWd]
  | q :: r, b, 0, h => by
    simp only [zWd, List.set_cons_zero, Nat.add_zero]
    congr 1
    have : ∀ (r : List va_E) (c : Nat), b < c → zWd cA as ex M c r = zWd cA as ex M' c r := by
      intro r
      induction r with
      | nil => intro c _; rfl
      | cons x r ih =>
        intro c hc
        simp only [zWd]
        rw [ih (c + 1) (by omega), h c (by omega)]
    exact this r (b + 1) (by omega)
  | q :: r, b, k + 1, h => by
    simp only [zWd, List.set_cons_succ]
    have := zWd_set0 cA as ex M M' q' r (b + 1) k (fun j hj => h j (by omega))
    rw [show b + (k + 1) = b + 1 + k by omega, this, h b (by omega)]
theorem zWd_set {cA : Nat → ClassId} {as ex : Nat → Nat} {M M' : zM} {sh : List va_E} {k : Nat} {q' : va_E} (h : ∀ j, j ≠ k → M' j = M j) : (zWd cA as ex M 0 sh).set k (as k, zTrE cA as ex (zMkE (M' k) q')) = zWd cA as ex M' 0 (sh.set k q') := by
  have := zWd_set0 cA as ex M M' q' sh 0 k (fun j hj => h j (by omega))
  rwa [Nat.zero_add] at this
theorem zSet_same {α : Type} : ∀ {sh : List α} {k : Nat} {q : α}, zSg sh k = some q → sh.set k q = sh
  | [], k, q, h => by simp
  | x :: r, 0, q, h => by simp [zSg] at h; simp [h]
  | x :: r, k + 1, q, h => by
    simp only [zSg] at h
    simp [zSet_same h]
theorem zU_ne {M : zM} {o k : Nat} {x : Int32} {j : Nat} (h : j ≠ o) : zU M o k x j = M j := by
  funext k'
  have : Nat.beq j o = false := by
    cases hb : Nat.beq j o with
    | true => exact absurd (Nat.eq_of_beq_eq_true hb) h
    | false => rfl
  simp [zU, this]
theorem zU_eq {M : zM} {o k : Nat} {x : Int32} : zU M o k x o = fun k' => if k' = k then x else M o k' := by
  funext k'
  have h1 : Nat.beq o o = true := Nat.beq_refl o
  by_cases h : k' = k
  · subst h
    simp [zU, h1, Nat.beq_refl]
  · have : Nat.beq k' k = false := by
      cases hb : Nat.beq k' k with
      | true => exact absurd (Nat.eq_of_beq_eq_true hb) h
      | false => rfl
    simp [zU, h1, this, h]
theorem zUa_ne {M : zM} {o : Nat} {f : Nat → Int32} {j : Nat} (h : j ≠ o) : zUa M o f j = M j := by
  have : Nat.beq j o = false := by
    cases hb : Nat.beq j o with
    | true => exact absurd (Nat.eq_of_beq_eq_true hb) h
    | false => rfl
  simp [zUa, this]
theorem zUa_eq {M : zM} {o : Nat} {f : Nat → Int32} : zUa M o f o = f := by
  simp [zUa, Nat.beq_refl o]
theorem zLv_mem {as ex : Nat → Nat} : ∀ {ls : zL} {b : Nat} {q : Nat × Value}, q ∈ zLv as ex b ls → ∃ (j : Nat) (v : Value), zGl ls j = some v ∧ q = (b + j, zTr as ex v)
  | [], b, q, h => by cases h
  | none :: r, b, q, h => by
    obtain ⟨j, v, h1, h2⟩ := zLv_mem (ls := r) (b := b + 1) h
    exact ⟨j + 1, v, h1, by rw [h2]; congr 1; omega⟩
  | some v :: r, b, q, h => by
    rcases List.mem_cons.mp h with h | h
    · exact ⟨0, v, rfl, h⟩
    · obtain ⟨j, v, h1, h2⟩ := zLv_mem (ls := r) (b := b + 1) h
      exact ⟨j + 1, v, h1, by rw [h2]; congr 1; omega⟩
theorem zLv_in {as ex : Nat → Nat} : ∀ {ls : zL} {b j : Nat} {v : Value}, zGl ls j = some v → (b + j, zTr as ex v) ∈ zLv as ex b ls
  | [], b, j, v, h => by cases h
  | none :: r, b, 0, v, h => by cases h
  | none :: r, b, j + 1, v, h => by
    have := zLv_in (as := as) (ex := ex) (ls := r) (b := b + 1) (j := j) (v := v) h
    rw [show b + (j + 1) = b + 1 + j by omega]
    exact this
  | some w :: r, b, 0, v, h => by
    cases h
    exact List.mem_cons_self
  | some w :: r, b, j + 1, v, h => by
    have := zLv_in (as := as) (ex := ex) (ls := r) (b := b + 1) (j := j) (v := v) h
    rw [show b + (j + 1) = b + 1 + j by omega]
    exact List.mem_cons_of_mem _ this
theorem zSl_get : ∀ {ls : zL} {i j : Nat} {w v : Value}, zGl (zSl ls i w) j = some v → (j = i ∧ v = w) ∨ (j ≠ i ∧ zGl ls j = some v)
  | [], i, j, w, v, h => by cases h
  | x :: r, 0, 0, w, v, h => by cases h; exact Or.inl ⟨rfl, rfl⟩
  | x :: r, 0, j + 1, w, v, h => Or.inr ⟨by omega, h⟩
  | x :: r, i + 1, 0, w, v, h => Or.inr ⟨by omega, h⟩
  | x :: r, i + 1, j + 1, w, v, h => by
    rcases zSl_get (ls := r) h with ⟨h1, h2⟩ | ⟨h1, h2⟩
    · exact Or.inl ⟨by omega, h2⟩
    · exact Or.inr ⟨by omega, h2⟩
/-- no place of two words right below i -/
def zNb : zL → Nat → Bool
  | _, 0 => true
  | ls, i + 1 => match zGl ls i with
    | some (.long _) => false
    | some (.double _) => false
    | _ => true
theorem zHas_at {as ex : Nat → Nat} {lsR : Array Slot} {nL : Nat} {ls : zL} {i : Nat} {v : Value} (h : lv_has lsR nL (zLv as ex 0 ls)) (hi : zGl ls i = some v) : lsR[i]? = some (.val (zTr as ex v)) := by
  have := h.2.2 _ (zLv_in (b := 0) hi)
  rwa [Nat.zero_add] at this
theorem zHas_set {as ex : Nat → Nat} {lsR : Array Slot} {nL : Nat} {ls : zL} {i : Nat} {w : Value} (hb : zNb ls i = true) (h : lv_has lsR nL ((i, zTr as ex w) :: (zLv as ex 0 ls).filter (fun q => !(q.1 == i) && !(q.1 + 1 == i && q.2.category == 2)))) : lv_has lsR nL (zLv as ex 0 (zSl ls i w)) := by
  refine ⟨h.1, h.2.1, fun q hq => ?_⟩
  obtain ⟨j, v, h1, rfl⟩ := zLv_mem hq
  rw [Nat.zero_add]
  rcases zSl_get h1 with ⟨rfl, rfl⟩ | ⟨hj, h2⟩
  · exact h.2.2 (j, zTr as ex v) List.mem_cons_self
  · refine h.2.2 (j, zTr as ex v) (List.mem_cons_of_mem _ (List.mem_filter.mpr ⟨by have := zLv_in (as := as) (ex := ex) (b := 0) h2; rwa [Nat.zero_add] at this, ?_⟩))
    simp only [Bool.and_eq_true, Bool.not_eq_true', beq_eq_false_iff_ne, ne_eq, Bool.and_eq_false_iff]
    refine ⟨hj, ?_⟩
    by_cases h3 : j + 1 = i
    · right
      rw [zTr_cat]
      subst h3
      simp only [zNb, h2] at hb
      intro hc
      cases v <;> simp [Value.category] at hc hb
    · left
      exact h3
