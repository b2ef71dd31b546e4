/-! SETS OF SMALL NUMBERS in an int, by their bits; what loops come to -/
def qB (S : Int32) (r : Nat) : Bool := S.toBitVec.getLsbD r
def qS (n : Nat) (S : Int32) : Prop := ∀ r, n ≤ r → qB S r = false
def bI (b : Bool) : Int32 := if b then 1 else 0
def qN : Nat → (Nat → Bool) → Nat
  | 0, _ => 0
  | n + 1, f => qN n f + (if f n then 1 else 0)
theorem qB_ext {A B : Int32} (h : ∀ r, qB A r = qB B r) : A = B := Int32.toBitVec_inj.mp (BitVec.eq_of_getLsbD_eq fun i _ => h i)
theorem qB_hi {A : Int32} {r : Nat} (h : 32 ≤ r) : qB A r = false := BitVec.getLsbD_of_ge _ _ h
theorem qB_and (A B : Int32) (r : Nat) : qB (A &&& B) r = (qB A r && qB B r) := by
  unfold qB
  rw [Int32.toBitVec_and, BitVec.getLsbD_and]
theorem qB_or (A B : Int32) (r : Nat) : qB (A ||| B) r = (qB A r || qB B r) := by
  unfold qB
  rw [Int32.toBitVec_or, BitVec.getLsbD_or]
theorem qB_xor (A B : Int32) (r : Nat) : qB (A ^^^ B) r = (qB A r ^^ qB B r) := by
  unfold qB
  rw [Int32.toBitVec_xor, BitVec.getLsbD_xor]
theorem qB_0 (r : Nat) : qB 0 r = false := by
  unfold qB
  simp
theorem qB_m1 {r : Nat} (h : r < 32) : qB (-1) r = true := by
  have : ∀ r, r < 32 → qB (-1) r = true := by decide +kernel
  exact this r h
theorem qB_nI {k r : Nat} (h : r < 32) : qB (nI k) r = k.testBit r := by
  show (BitVec.ofNat 32 k).getLsbD r = k.testBit r
  rw [BitVec.getLsbD_ofNat]
  simp [h]
theorem qB_bit {r : Nat} (h : r < 32) (k : Nat) : qB (1 <<< (nI r &&& 31)) k = (k == r) := by
  by_cases hk : k < 32
  · have : ∀ r, r < 32 → ∀ k, k < 32 → qB (1 <<< (nI r &&& 31)) k = (k == r) := by decide +kernel
    exact this r h k hk
  · rw [qB_hi (by omega)]
    exact (beq_eq_false_iff_ne.mpr (by omega)).symm
theorem qB_add {r : Nat} (h : r < 32) (A : Int32) (k : Nat) : qB (A ||| (1 <<< (nI r &&& 31))) k = (qB A k || k == r) := by rw [qB_or, qB_bit h]
theorem qB_flip {r : Nat} (h : r < 32) (A : Int32) (k : Nat) : qB (A ^^^ (1 <<< (nI r &&& 31))) k = (qB A k ^^ (k == r)) := by rw [qB_xor, qB_bit h]
theorem qB_del {r : Nat} (h : r < 32) (A : Int32) (k : Nat) : qB (A &&& ((1 <<< (nI r &&& 31)) ^^^ (-1))) k = (qB A k && !(k == r)) := by
  rw [qB_and, qB_xor, qB_bit h]
  by_cases hk : k < 32
  · rw [qB_m1 hk, Bool.xor_true]
  · rw [qB_hi (by omega)]
    rfl
theorem qB_sh {r : Nat} (h : r < 32) (A : Int32) : (((A >>> (nI r &&& 31)) &&& 1) = 1) ↔ qB A r = true := by
  have e : ∀ r, r < 32 → ((nI r &&& 31).toBitVec.smod 32).toNat = r := by decide +kernel
  have e0 : qB (A >>> (nI r &&& 31)) 0 = qB A r := by
    unfold qB
    rw [Int32.toBitVec_shiftRight]
    show (A.toBitVec.sshiftRight ((nI r &&& 31).toBitVec.smod 32).toNat).getLsbD 0 = _
    rw [e r h, BitVec.getLsbD_sshiftRight, if_pos (by omega), Nat.add_zero]
    simp
  have e1 : ∀ k, qB (1 : Int32) k = (k == 0) := fun k => qB_bit (r := 0) (by omega) k
  rw [← e0]
  constructor
  · intro h1
    have := congrArg (fun X => qB X 0) h1
    rw [qB_and, e1] at this
    simpa [e1] using this
  · intro h1
    refine qB_ext fun k => ?_
    rw [qB_and, e1]
    by_cases hk : k = 0
    · subst hk
      rw [h1]
      rfl
    · rw [beq_eq_false_iff_ne.mpr hk, Bool.and_false]
theorem has_q {r : Nat} (h : r < 32) (A : Int32) : g_X9_has A (nI r) = bI (qB A r) := by
  unfold g_X9_has bI
  by_cases hq : qB A r = true
  · rw [if_pos ((qB_sh h A).mpr hq), if_pos hq]
  · rw [if_neg (fun e => hq ((qB_sh h A).mp e)), if_neg hq]
theorem bI_t : bI true = 1 := rfl
theorem bI_f : bI false = 0 := rfl
theorem bI_0 {b : Bool} : bI b = 0 ↔ b = false := by
  cases b
  · exact ⟨fun _ => rfl, fun _ => rfl⟩
  · exact ⟨fun h => absurd h (by decide), fun h => by cases h⟩
theorem bI_inj {a b : Bool} : bI a = bI b ↔ a = b := by
  constructor
  · intro h
    cases a <;> cases b <;> first | rfl | exact absurd h (by decide)
  · intro h
    rw [h]
theorem bI_ite {α : Type} {b : Bool} {x y : α} : (if bI b = 0 then x else y) = if b = true then y else x := by
  cases b
  · rw [bI_f, if_pos rfl, if_neg (by decide)]
  · rw [bI_t, if_neg (by decide), if_pos rfl]
theorem bI_nI (b : Bool) : bI b = nI (if b then 1 else 0) := by cases b <;> rfl
theorem sh_ite {α : Type} {r : Nat} (h : r < 32) (A : Int32) {x y : α} : (if ((A >>> (nI r &&& 31)) &&& 1) = 1 then x else y) = if qB A r = true then x else y := by
  by_cases hq : qB A r = true
  · rw [if_pos ((qB_sh h A).mpr hq), if_pos hq]
  · rw [if_neg (fun e => hq ((qB_sh h A).mp e)), if_neg hq]
theorem qS.mono {n m : Nat} {S : Int32} (h : qS n S) (hm : n ≤ m) : qS m S := fun r hr => h r (Nat.le_trans hm hr)
theorem qS_0 (n : Nat) : qS n 0 := fun r _ => qB_0 r
theorem qS_lt {S : Int32} (h : qS 9 S) : ∃ k, k < 512 ∧ S = nI k := by
  refine ⟨S.toBitVec.toNat, ?_, ?_⟩
  · exact Nat.lt_pow_two_of_testBit (n := 9) _ (fun i hi => h i hi)
  · refine Int32.toBitVec_inj.mp ?_
    show S.toBitVec = BitVec.ofNat 32 S.toBitVec.toNat
    simp
theorem qS_z {S : Int32} (h : ∀ r, qB S r = false) : S = 0 := qB_ext fun r => by rw [h r, qB_0]
theorem bc_q {S : Int32} (h : qS 9 S) : g_J6_bitCount_0f7a4 S = nI (qN 9 (qB S)) := by
  obtain ⟨k, hk, rfl⟩ := qS_lt h
  have : ∀ k, k < 512 → g_J6_bitCount_0f7a4 (nI k) = nI (qN 9 (qB (nI k))) := by decide +kernel
  exact this k hk
theorem qN_congr {f g : Nat → Bool} : ∀ n, (∀ i, i < n → f i = g i) → qN n f = qN n g
  | 0, _ => rfl
  | n + 1, h => by rw [qN, qN, qN_congr n (fun i hi => h i (by omega)), h n (by omega)]
theorem qN_le {f : Nat → Bool} : ∀ n, qN n f ≤ n
  | 0 => Nat.le_refl 0
  | n + 1 => by
    have := qN_le (f := f) n
    rw [qN]
    split <;> omega
theorem qN_cut {f : Nat → Bool} {n : Nat} : ∀ m, n ≤ m → (∀ i, n ≤ i → i < m → f i = false) → qN m f = qN n f
  | 0, h, _ => by
    obtain rfl : n = 0 := by omega
    rfl
  | m + 1, h, hf => by
    rcases Nat.lt_or_ge m n with h1 | h1
    · obtain rfl : n = m + 1 := by omega
      rfl
    · rw [qN, qN_cut m h1 (fun i hi hm => hf i hi (by omega)), hf m h1 (by omega)]
      rfl
theorem qN_0 {f : Nat → Bool} (n : Nat) (h : ∀ i, i < n → f i = false) : qN n f = 0 := qN_cut n (Nat.zero_le n) (fun i _ hi => h i hi)
theorem qN_mono {f g : Nat → Bool} : ∀ n, (∀ i, i < n → f i = true → g i = true) → qN n f ≤ qN n g
  | 0, _ => Nat.le_refl 0
  | n + 1, h => by
    have h1 := qN_mono n (fun i hi => h i (by omega))
    have h2 := h n (by omega)
    rw [qN, qN]
    cases hf : f n
    · simp only [Bool.false_eq_true, if_false]
      omega
    · rw [h2 hf]
      simp only [if_true]
      omega
theorem qN_pos {f : Nat → Bool} : ∀ n, 0 < qN n f → ∃ i, i < n ∧ f i = true
  | 0, h => absurd h (Nat.lt_irrefl 0)
  | n + 1, h => by
    rw [qN] at h
    cases hf : f n
    · rw [hf] at h
      obtain ⟨i, h1, h2⟩ := qN_pos n (by simpa using h)
      exact ⟨i, by omega, h2⟩
    · exact ⟨n, by omega, hf⟩
theorem qN_both {f g : Nat → Bool} : ∀ n, qN n f + qN n g ≤ n + qN n (fun i => f i && g i)
  | 0 => Nat.le_refl 0
  | n + 1 => by
    have := qN_both (f := f) (g := g) n
    rw [qN, qN, qN]
    cases f n <;> cases g n <;> simp only [Bool.false_eq_true, if_false, if_true, Bool.and_true, Bool.and_false] <;> omega
theorem qN_maj {f g : Nat → Bool} {n : Nat} (hf : n < 2 * qN n f) (hg : n < 2 * qN n g) : ∃ i, i < n ∧ f i = true ∧ g i = true := by
  have := qN_both (f := f) (g := g) n
  obtain ⟨i, h1, h2⟩ := qN_pos (f := fun i => f i && g i) n (by omega)
  rw [Bool.and_eq_true] at h2
  exact ⟨i, h1, h2.1, h2.2⟩
theorem qN_add {f g : Nat → Bool} : ∀ n, (∀ i, i < n → ¬ (f i = true ∧ g i = true)) → qN n f + qN n g = qN n (fun i => f i || g i)
  | 0, _ => rfl
  | n + 1, h => by
    have h1 := qN_add n (fun i hi => h i (by omega))
    have h2 := h n (by omega)
    rw [qN, qN, qN, ← h1]
    cases hf : f n <;> cases hg : g n <;> simp only [Bool.false_eq_true, if_false, if_true, Bool.or_true, Bool.or_false] <;> first | omega | exact absurd ⟨hf, hg⟩ h2
/-! loops -/
theorem zIt_congr {α : Type} {f g : Nat → α → α} : ∀ (n : Nat) (s : α), (∀ i, i < n → ∀ s, f i s = g i s) → zIt f n s = zIt g n s
  | 0, _, _ => rfl
  | n + 1, s, h => by rw [zIt, zIt, zIt_congr n s (fun i hi => h i (by omega)), h n (by omega)]
theorem zIt_cut {α : Type} {f : Nat → α → α} {n : Nat} : ∀ (m : Nat) (s : α), n ≤ m → (∀ i, n ≤ i → i < m → ∀ s, f i s = s) → zIt f m s = zIt f n s
  | 0, s, h, _ => by
    obtain rfl : n = 0 := by omega
    rfl
  | m + 1, s, h, hf => by
    rcases Nat.lt_or_ge m n with h1 | h1
    · obtain rfl : n = m + 1 := by omega
      rfl
    · rw [zIt, zIt_cut m s h1 (fun i hi hm => hf i hi (by omega)), hf m h1 (by omega)]
theorem zIt_cnt {f : Nat → Int32 → Int32} {p : Nat → Bool} : ∀ (n a : Nat), (∀ i, i < n → ∀ s, f i s = s + bI (p i)) → zIt f n (nI a) = nI (a + qN n p)
  | 0, a, _ => rfl
  | n + 1, a, h => by
    rw [zIt, zIt_cnt n a (fun i hi => h i (by omega)), h n (by omega), bI_nI, nI_add, qN, Nat.add_assoc]
theorem zIt_cnt0 {f : Nat → Int32 → Int32} {p : Nat → Bool} (n : Nat) (h : ∀ i, i < n → ∀ s, f i s = s + bI (p i)) : zIt f n 0 = nI (qN n p) := by
  have := zIt_cnt n 0 h
  rw [Nat.zero_add] at this
  exact this
theorem zIt_rel {α β : Type} {f : Nat → α → α} {g : Nat → β → β} {R : Nat → α → β → Prop} : ∀ (n : Nat) (s : α) (t : β), R 0 s t → (∀ i, i < n → ∀ s t, R i s t → R (i + 1) (f i s) (g i t)) → R n (zIt f n s) (zIt g n t)
  | 0, _, _, h, _ => h
  | n + 1, s, t, h, hs => hs n (Nat.lt_succ_self n) _ _ (zIt_rel n s t h fun i hi => hs i (Nat.lt_succ_of_lt hi))
theorem zIt_set {f : Nat → Int32 → Int32} {p : Nat → Bool} {n : Nat} (hn : n ≤ 32) (h : ∀ i, i < n → ∀ s, f i s = if p i = true then s ||| (1 <<< (nI i &&& 31)) else s) : ∀ k, qB (zIt f n 0) k = (decide (k < n) && p k) := by
  refine zIt_inv (P := fun i (s : Int32) => ∀ k, qB s k = (decide (k < i) && p k)) n 0 (fun k => by simp [qB_0]) ?_
  intro i hi s hs k
  rw [h i hi]
  by_cases hp : p i = true
  · rw [if_pos hp, qB_add (by omega), hs k]
    by_cases hk : k = i
    · subst hk
      simp [hp]
    · rw [beq_eq_false_iff_ne.mpr hk, Bool.or_false]
      congr 1
      exact decide_eq_decide.mpr (by omega)
  · rw [if_neg hp, hs k]
    by_cases hk : k = i
    · subst hk
      simp [hp]
    · congr 1
      exact decide_eq_decide.mpr (by omega)
theorem zFst_congr {β : Type} {f g : Nat → Option β} {d : β} : ∀ (k i : Nat), (∀ j, i ≤ j → j < i + k → f j = g j) → zFst f d k i = zFst g d k i
  | 0, _, _ => rfl
  | k + 1, i, h => by
    rw [zFst, zFst, h i (Nat.le_refl i) (by omega), zFst_congr k (i + 1) (fun j h1 h2 => h j (by omega) (by omega))]
/-- comparing small counts -/
theorem nI_le9 {a b : Nat} (ha : a < 4096) (hb : b < 4096) : nI a ≤ nI b ↔ a ≤ b := nI_leI (by omega) (by omega)
theorem nI_lt9 {a b : Nat} (ha : a < 4096) (hb : b < 4096) : nI a < nI b ↔ a < b := nI_ltI (by omega) (by omega)
theorem nI_eq9 {a b : Nat} (ha : a < 4096) (hb : b < 4096) : nI a = nI b ↔ a = b := nI_eq (by omega) (by omega)
