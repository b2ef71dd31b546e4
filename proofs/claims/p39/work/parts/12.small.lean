/-! SMALL RULES that the printed walks use -/
def zM0 : zM := fun _ _ => 0
def zDl : zL → Nat → zL
  | [], _ => []
  | _ :: r, 0 => none :: r
  | v :: r, n + 1 => v :: zDl r n
theorem zDl_get : ∀ {ls : zL} {i j : Nat} {v : Value}, zGl (zDl ls i) j = some v → zGl ls j = some v
  | [], i, j, v, h => by cases h
  | x :: r, 0, 0, v, h => by cases h
  | x :: r, 0, j + 1, v, h => h
  | x :: r, i + 1, 0, v, h => h
  | x :: r, i + 1, j + 1, v, h => zDl_get (ls := r) h
theorem zPs_fr {M N : zM} {b n o : Nat} (h : ∀ j, j < n → b + j = o → N j = M (b + j)) : zPs M b n N o = M o := by
  by_cases hin : b ≤ o ∧ o < b + n
  · rw [zPs_in hin.1 hin.2, h (o - b) (by omega) (by omega), show b + (o - b) = o by omega]
  · exact zPs_out (by omega)
section ZSM
variable {Y : zY} {kc nc : Nat} {Z : zS → Prop} {pc tgt : Nat} {ls : zL} {st : List Value} {sh : List va_E} {M : zM}
/-- a local that is used no more -/
theorem zT.drop (i : Nat) (k1 : zT Y kc nc Z (pc, zDl ls i, st, sh, M)) : zT Y kc nc Z (pc, ls, st, sh, M) := by
  refine zT.step (S1 := (pc, zDl ls i, st, sh, M)) rfl ?_ k1
  intro p l e R s m args below meth c D cA ex A E Q cells slots as _ _ k9 H locs lsR hP hD hS hl
  refine k9 H locs lsR hP hD hS ⟨hl.1, hl.2.1, fun q hq => ?_⟩
  obtain ⟨j, v, h1, rfl⟩ := zLv_mem hq
  exact hl.2.2 _ (zLv_in (zDl_get h1))
theorem zT.eq {S S1 : zS} (h : S = S1) (k1 : zT Y kc nc Z S1) : zT Y kc nc Z S := h ▸ k1
theorem zT.eqM {M2 : zM} (h : M = M2) (k1 : zT Y kc nc Z (pc, ls, st, sh, M2)) : zT Y kc nc Z (pc, ls, st, sh, M) := h ▸ k1
theorem zT.eqS {st2 : List Value} (h : st = st2) (k1 : zT Y kc nc Z (pc, ls, st2, sh, M)) : zT Y kc nc Z (pc, ls, st, sh, M) := h ▸ k1
theorem zGeN {B : Int32} {n i : Nat} (hB : B = nI n) (hi : i < n) (hn : n < 2 ^ 31) : ¬ B ≤ nI i := by
  rw [hB]
  exact nI_ge hi hn
theorem zGeY {B : Int32} {n : Nat} (hB : B = nI n) : B ≤ nI n := by
  rw [hB]
  exact Int32.le_refl _
theorem zGeL {B : Int32} {n j : Nat} (hB : B = nI n) (h : n ≤ j) (hj : j < 2 ^ 31) : B ≤ nI j := by
  rw [hB]
  exact nI_le h hj
theorem zPos {B : Int32} {n : Nat} (hB : B = nI n) (c : ¬ B ≤ 0) : 0 < n := by
  rcases Nat.eq_zero_or_pos n with h | h
  · subst h
    exact absurd (by rw [hB]; exact Int32.le_refl _) c
  · exact h
theorem zLt {B : Int32} {n k : Nat} (hB : B = nI n) (hn : n < 2 ^ 31) (hk : k < 2 ^ 31) (c : ¬ nI k ≤ B) : n < k := by
  rcases Nat.lt_or_ge n k with h | h
  · exact h
  · exact absurd (by rw [hB]; exact nI_le h hn) c
theorem zIx8 {B : Int32} {n w : Nat} (hB : B = nI n) (hp : 0 < n) : (B - 1) * 8 + nI w = nI ((n - 1) * 8 + w) := by
  rw [hB, show (1 : Int32) = nI 1 from rfl, show (8 : Int32) = nI 8 from rfl, pk_sub hp, pk_mul, nI_add]
theorem zBk {b B : Int32} {n : Nat} (hB : B = nI n) (hn : n < 2 ^ 31) (c1 : ¬ b < 0) (c2 : b < B) : b = nI b.toNatClampNeg ∧ b.toNatClampNeg < n := by
  obtain ⟨j, hj, rfl⟩ := nI_of c1
  rw [nI_clamp hj]
  refine ⟨rfl, zLt rfl hj hn ?_⟩
  rw [← hB]
  exact Int32.not_le.mpr c2
theorem zIx8b {b B : Int32} {n w : Nat} (hB : B = nI n) (hn : n < 2 ^ 31) (c1 : ¬ b < 0) (c2 : b < B) : (B - 1 - b) * 8 + nI w = nI ((n - 1 - b.toNatClampNeg) * 8 + w) := by
  obtain ⟨h1, h2⟩ := zBk hB hn c1 c2
  rw [hB, h1, nI_clamp (Nat.lt_trans h2 hn), show (1 : Int32) = nI 1 from rfl, show (8 : Int32) = nI 8 from rfl, pk_sub (by omega), pk_sub (by omega), pk_mul, nI_add]
theorem zEl {x : Int32} (he : x = -1 ∨ ∃ e, e < 9 ∧ x = nI e) (c : ¬ x = -1) : x = nI x.toNatClampNeg ∧ x.toNatClampNeg < 9 := by
  rcases he with h | ⟨e, h1, rfl⟩
  · exact absurd h c
  · rw [nI_clamp (by omega)]
    exact ⟨rfl, h1⟩
theorem zLtB {B : Int32} {n k : Nat} (hB : B = nI n) (hn : n < 2 ^ 31) (hk : k < 2 ^ 31) (c : B < nI k) : n < k := by
  rw [hB] at c
  exact (nI_ltI hn hk).mp c
/-- what the walks need of an office: its caller is one of nine, where there is a ballot -/
def zHc (M : zM) : Prop := M 7 0 = 0 ∨ ∃ c, c < 9 ∧ M 7 2 = nI c
theorem zHc.of {M M' : zM} (e : M' 7 = M 7) (h : zHc M) : zHc M' := by
  unfold zHc at h ⊢
  rw [e]
  exact h
theorem zHcI {M : zM} (h : zHc M) (c : ¬ M 7 0 = 0) : M 7 2 = nI (M 7 2).toNatClampNeg ∧ (M 7 2).toNatClampNeg < 9 := by
  rcases h with h | ⟨e, h1, h2⟩
  · exact absurd h c
  · rw [h2, nI_clamp (by omega)]
    exact ⟨rfl, h1⟩
def zMr (sz : Nat) : Nat := if sz < 12 then sz + 1 else sz
theorem zMr_le {sz : Nat} (h : sz ≤ 12) : zMr sz ≤ 12 := by
  unfold zMr
  split <;> omega
theorem zNe {x v : Int32} {k : Int} (hk : v.toInt = k) (h : ¬ x = v) : x.toInt ≠ k := fun e => h (Int32.toInt_inj.mp (e.trans hk.symm))
theorem zT.tabEq {x v : Int32} (h : x = v) {off dflt lo hi : Int} {offs : Array Int} {len : Nat} (hd : decode Y.2.1 pc = .ok (.tableswitch dflt lo hi offs, len)) (h1 : ¬ v.toInt < lo) (h2 : ¬ hi < v.toInt) (ho : offs[(v.toInt - lo).toNat]? = some off) (ht : (pc : Int) + off = (tgt : Int)) (k1 : zT Y kc nc Z (tgt, ls, st, sh, M)) : zT Y kc nc Z (pc, ls, .int x :: st, sh, M) := by
  subst h
  exact zT.tabIn hd h1 h2 ho ht k1
theorem zT.tabDef {x : Int32} {dflt lo hi : Int} {offs : Array Int} {len : Nat} (hd : decode Y.2.1 pc = .ok (.tableswitch dflt lo hi offs, len)) (hv : ∀ k : Int, lo ≤ k → k ≤ hi → offs[(k - lo).toNat]? = some dflt ∨ x.toInt ≠ k) (ht : (pc : Int) + dflt = (tgt : Int)) (k1 : zT Y kc nc Z (tgt, ls, st, sh, M)) : zT Y kc nc Z (pc, ls, .int x :: st, sh, M) := by
  by_cases h : x.toInt < lo ∨ hi < x.toInt
  · exact zT.tabOut hd h ht k1
  · have h1 : ¬ x.toInt < lo := fun q => h (Or.inl q)
    have h2 : ¬ hi < x.toInt := fun q => h (Or.inr q)
    rcases hv x.toInt (by omega) (by omega) with h3 | h3
    · exact zT.tabIn hd h1 h2 h3 ht k1
    · exact absurd rfl h3
end ZSM
theorem zLm_max : Cond.static Lib.Math.max.name ∈ zW ∧ Cond.initialized "java/lang/Math" ∈ zW ∧ Cond.code Lib.Math.max.name Lib.Math.max.code 2 (some .int) ∈ zW := ⟨zIn (w := 2040) (by decide +kernel) rfl, zIn (w := 1012) (by decide +kernel) rfl, zIn (w := 2041) (by decide +kernel) rfl⟩
theorem zLm_min : Cond.static Lib.Math.min.name ∈ zW ∧ Cond.initialized "java/lang/Math" ∈ zW ∧ Cond.code Lib.Math.min.name Lib.Math.min.code 2 (some .int) ∈ zW := ⟨zIn (w := 3031) (by decide +kernel) rfl, zIn (w := 1012) (by decide +kernel) rfl, zIn (w := 3032) (by decide +kernel) rfl⟩
theorem zLm_abs : Cond.static Lib.Math.abs.name ∈ zW ∧ Cond.initialized "java/lang/Math" ∈ zW ∧ Cond.code Lib.Math.abs.name Lib.Math.abs.code 1 (some .int) ∈ zW := ⟨zIn (w := 5115) (by decide +kernel) rfl, zIn (w := 1012) (by decide +kernel) rfl, zIn (w := 5116) (by decide +kernel) rfl⟩
theorem zLa : Cond.native arraycopyName ∈ zW ∧ Cond.static arraycopyName ∈ zW ∧ Cond.initialized "java/lang/System" ∈ zW := ⟨zIn (w := 1237) (by decide +kernel) rfl, zIn (w := 1236) (by decide +kernel) rfl, zIn (w := 1009) (by decide +kernel) rfl⟩
