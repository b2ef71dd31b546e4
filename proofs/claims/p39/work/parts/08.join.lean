/-! A CALLEE'S WORLD: a stretch of the caller's, from place b on -/
def zRv (b : Nat) (v : Value) : Value := match v with
  | .ref k => .ref (b + k)
  | .retAddr i => .retAddr i
  | .int x => .int x
  | .long x => .long x
  | .float x => .float x
  | .double x => .double x
  | .null => .null
def zRe (b : Nat) (q : va_E) : va_E := match q with
  | .inl (t, n, .inl f) => .inl (t, n, .inl f)
  | .inl (t, n, .inr (.inl f)) => .inl (t, n, .inr (.inl f))
  | .inl (t, n, .inr (.inr (.inl f))) => .inl (t, n, .inr (.inr (.inl f)))
  | .inl (t, n, .inr (.inr (.inr (.inl f)))) => .inl (t, n, .inr (.inr (.inr (.inl f))))
  | .inl (t, n, .inr (.inr (.inr (.inr g)))) => .inl (t, n, .inr (.inr (.inr (.inr fun j => (g j).map fun k => b + k))))
  | .inr (ci, fs) => .inr (ci, fs.map (zRv b))
/-- the callee's memory put back -/
def zPs (M : zM) (b n : Nat) (N : zM) : zM := fun k => bif Nat.ble b k && Nat.blt k (b + n) then N (k - b) else M k
def zPl (M : zM) (b : Nat) : zM := fun k => M (b + k)
theorem zTr_rv (as ex : Nat → Nat) (b : Nat) (v : Value) : zTr (fun k => as (b + k)) ex v = zTr as ex (zRv b v) := by cases v <;> rfl
theorem zTrE_re (cA : Nat → ClassId) (as ex : Nat → Nat) (b : Nat) (f : Nat → Int32) (q : va_E) : zTrE cA (fun k => as (b + k)) ex (zMkE f q) = zTrE cA as ex (zMkE f (zRe b q)) := by
  rcases q with ⟨t, n, y | y | y | y | g⟩ | ⟨ci, fs⟩
  · rfl
  · rfl
  · rfl
  · rfl
  · show (Sum.inl _ : va_E) = Sum.inl _
    have : (fun j => Option.map (fun k => as (b + k)) (g j)) = fun j => Option.map as ((fun j => Option.map (fun k => b + k) (g j)) j) := by
      funext j
      show Option.map (fun k => as (b + k)) (g j) = Option.map as (Option.map (fun k => b + k) (g j))
      cases g j <;> rfl
    rw [this]
  · show (Sum.inr (ci, _) : va_E) = Sum.inr (ci, _)
    congr 2
    apply List.ext_getElem?
    intro j
    rw [List.getElem?_map, zMkF_get, List.getElem?_map, zMkF_get, List.getElem?_map]
    cases fs[j]? with
    | none => rfl
    | some v => cases v <;> rfl
theorem zPs_in {M N : zM} {b n k : Nat} (h1 : b ≤ k) (h2 : k < b + n) : zPs M b n N k = N (k - b) := by
  have e1 : Nat.ble b k = true := Nat.ble_eq_true_of_le h1
  have e2 : Nat.blt k (b + n) = true := Nat.ble_eq_true_of_le h2
  simp [zPs, e1, e2]
theorem zPs_out {M N : zM} {b n k : Nat} (h : k < b ∨ b + n ≤ k) : zPs M b n N k = M k := by
  rcases h with h | h
  · have e1 : Nat.ble b k = false := by
      cases hb : Nat.ble b k with
      | true => have := Nat.le_of_ble_eq_true hb; omega
      | false => rfl
    simp [zPs, e1]
  · have e2 : Nat.blt k (b + n) = false := by
      cases hb : Nat.blt k (b + n) with
      | true => have := Nat.le_of_ble_eq_true hb; omega
      | false => rfl
    simp [zPs, e2]
theorem zSg_lt {α : Type} {l : List α} {k : Nat} {q : α} (h : zSg l k = some q) : k < l.length := by
  rw [zSg_eq] at h
  exact (List.getElem?_eq_some_iff.mp h).1
/-- the callee's world is part of the caller's -/
def zSub (sh : List va_E) (b : Nat) (sc : List va_E) : Prop := ∀ j, j < sc.length → zSg sh (b + j) = (zSg sc j).map (zRe b)
/-- the caller's world with the callee's put back; none of a place is lost -/
def zBack (sh : List va_E) (b n : Nat) (sc' sh' : List va_E) : Prop := sh'.length = sh.length ∧ ∀ k, zSg sh' k = if b ≤ k ∧ k < b + n then (zSg sc' (k - b)).map (zRe b) else zSg sh k
theorem zBack.same {sh sc : List va_E} {b n : Nat} (h : zSub sh b sc) (hn : sc.length = n) : zBack sh b n sc sh := by
  refine ⟨rfl, fun k => ?_⟩
  subst hn
  split
  · rename_i hk
    have := h (k - b) (by omega)
    rw [show b + (k - b) = k by omega] at this
    exact this
  · rfl
section ZJ
variable {D : va_G} {cA : Nat → ClassId} {as ex : Nat → Nat} {A0 : Nat → Prop} {sh sc sc' sh' : List va_E} {M N N' : zM} {b : Nat} {H H1 : Heap}
theorem zSub.wd (hs : zSub sh b sc) (hN : ∀ j, j < sc.length → N j = M (b + j)) {j : Nat} {q : Nat × va_E} (h : (zWd cA (fun k => as (b + k)) ex N 0 sc)[j]? = some q) : j < sc.length ∧ (zWd cA as ex M 0 sh)[b + j]? = some q := by
  rw [zWd_get, Nat.zero_add] at h
  cases h1 : zSg sc j with
  | none => rw [h1] at h; cases h
  | some x =>
    rw [h1] at h
    have hj := zSg_lt h1
    refine ⟨hj, ?_⟩
    rw [zWd_get, Nat.zero_add, hs j hj, h1]
    simp only [Option.map] at h ⊢
    rw [← h, hN j hj, zTrE_re]
theorem zSub.Pp (hs : zSub sh b sc) (hN : ∀ j, j < sc.length → N j = M (b + j)) (hP : va_P D vwCl (zWd cA as ex M 0 sh) H) : va_P D vwCl (zWd cA (fun k => as (b + k)) ex N 0 sc) H :=
  fun j q h => hP (b + j) q (hs.wd hN h).2
theorem zSub.Dd (hs : zSub sh b sc) (hN : ∀ j, j < sc.length → N j = M (b + j)) (hD : va_D A0 (zWd cA as ex M 0 sh)) : va_D A0 (zWd cA (fun k => as (b + k)) ex N 0 sc) :=
  ⟨fun i j x y hi hj hxy => by
    have := hD.1 (b + i) (b + j) x y (hs.wd hN hi).2 (hs.wd hN hj).2 hxy
    omega, fun j q h => hD.2 (b + j) q (hs.wd hN h).2⟩
theorem zSub.free {H0 : Heap} {locs : List Loc} (hs : zSub sh b sc) (hN : ∀ j, j < sc.length → N j = M (b + j)) (hD : va_D A0 (zWd cA as ex M 0 sh)) (hS : va_S A0 H0 H locs) (hA : ∀ q, H0.size ≤ q → A0 q) :
    ∀ q, va_A (zWd cA (fun k => as (b + k)) ex N 0 sc) H.size q → A0 q := by
  intro q h
  rcases h with ⟨k, x, h⟩ | h
  · exact hD.2 (b + k) (q, x) (hs.wd hN h).2
  · exact hA q (Nat.le_trans hS.1 h)
/-- behind a call that makes no cell of the world: as the caller sees it -/
theorem zJoin (hs : zSub sh b sc) (hN : ∀ j, j < sc.length → N j = M (b + j)) (hb : zBack sh b sc.length sc' sh') (hl : sc'.length = sc.length)
    (hP : va_P D vwCl (zWd cA as ex M 0 sh) H) (hD : va_D A0 (zWd cA as ex M 0 sh))
    (hk : ∀ q : Nat, q < H.size → ¬ va_A (zWd cA (fun k => as (b + k)) ex N 0 sc) H.size q → H1[q]? = H[q]?)
    (hF : ∀ q, va_A (zWd cA (fun k => as (b + k)) ex N 0 sc) H.size q → A0 q)
    (hP1 : va_P D vwCl (zWd cA (fun k => as (b + k)) ex N' 0 sc') H1) (hD1 : va_D (va_A (zWd cA (fun k => as (b + k)) ex N 0 sc) H.size) (zWd cA (fun k => as (b + k)) ex N' 0 sc')) :
    va_P D vwCl (zWd cA as ex (zPs M b sc.length N') 0 sh') H1 ∧ va_D A0 (zWd cA as ex (zPs M b sc.length N') 0 sh') := by
  -- a cell of the new world: one of the callee's, or an old one that the callee couldn't touch
  have key : ∀ (k : Nat) (q : Nat × va_E), (zWd cA as ex (zPs M b sc.length N') 0 sh')[k]? = some q →
      (b ≤ k ∧ k < b + sc.length ∧ (zWd cA (fun k => as (b + k)) ex N' 0 sc')[k - b]? = some q) ∨ (¬ (b ≤ k ∧ k < b + sc.length) ∧ (zWd cA as ex M 0 sh)[k]? = some q) := by
    intro k q h
    rw [zWd_get, Nat.zero_add, hb.2 k] at h
    by_cases hin : b ≤ k ∧ k < b + sc.length
    · refine Or.inl ⟨hin.1, hin.2, ?_⟩
      rw [if_pos hin] at h
      rw [zWd_get, Nat.zero_add]
      cases h1 : zSg sc' (k - b) with
      | none => rw [h1] at h; cases h
      | some x =>
        rw [h1] at h
        simp only [Option.map] at h ⊢
        rw [zPs_in hin.1 hin.2] at h
        rw [← h, zTrE_re, show b + (k - b) = k by omega]
    · refine Or.inr ⟨hin, ?_⟩
      rw [if_neg hin] at h
      rw [zWd_get, Nat.zero_add]
      cases h1 : zSg sh k with
      | none => rw [h1] at h; cases h
      | some x =>
        rw [h1] at h
        simp only [Option.map] at h ⊢
        rw [zPs_out (by omega)] at h
        exact h
  have apart : ∀ (k : Nat) (q : Nat × va_E), ¬ (b ≤ k ∧ k < b + sc.length) → (zWd cA as ex M 0 sh)[k]? = some q → q.1 < H.size ∧ ¬ va_A (zWd cA (fun k => as (b + k)) ex N 0 sc) H.size q.1 := by
    intro k q hin h
    have hlt := (hP k q h).lt
    refine ⟨hlt, fun h9 => ?_⟩
    rcases h9 with ⟨j, x, h9⟩ | h9
    · have h8 := hs.wd hN h9
      have := hD.1 k (b + j) q (q.1, x) h h8.2 rfl
      omega
    · omega
  refine ⟨fun k q h => ?_, fun i j x y hi hj hxy => ?_, fun k q h => ?_⟩
  · rcases key k q h with ⟨-, -, h1⟩ | ⟨hin, h1⟩
    · exact hP1 _ q h1
    · obtain ⟨g1, g2⟩ := apart k q hin h1
      exact (hP k q h1).kept (hk q.1 g1 g2)
  · rcases key i x hi with ⟨a1, a2, a3⟩ | ⟨a1, a2⟩ <;> rcases key j y hj with ⟨b1, b2, b3⟩ | ⟨b1, b2⟩
    · have := hD1.1 _ _ x y a3 b3 hxy
      omega
    · exact absurd (by rw [← hxy]; exact hD1.2 _ x a3) (apart j y b1 b2).2
    · exact absurd (by rw [hxy]; exact hD1.2 _ y b3) (apart i x a1 a2).2
    · exact hD.1 i j x y a2 b2 hxy
  · rcases key k q h with ⟨-, -, h1⟩ | ⟨-, h1⟩
    · exact hF _ (hD1.2 _ q h1)
    · exact hD.2 k q h1
end ZJ
