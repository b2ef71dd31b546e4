/-! THE RELATION: an office of the class (N: cells 0 to 11) and a row of the reference (w) say the same -/
def qSt (N : zM) (r : Nat) : Nat := if qB (N 7 5) r = true then 1 else if qB (N 7 6) r = true then 2 else if qB (N 7 7) r = true then 3 else 0
def rl_nv (n : Nat) (N : zM) : Prop := ((N 7 0 = 0 → N 7 3 = 0) ∧ (N 7 0 = 1 → N 7 6 = 0 ∧ N 7 7 = 0)) ∧ (qS n (N 7 3) ∧ qS n (N 7 5) ∧ qS n (N 7 6) ∧ qS n (N 7 7)) ∧
  ∀ r, r < n → (qB (N 7 5) r = true → qB (N 7 3) r = true ∧ qB (N 7 6) r = false ∧ qB (N 7 7) r = false) ∧ (qB (N 7 6) r = true → qB (N 7 3) r = true ∧ qB (N 7 7) r = false ∧ ∃ v, v < n ∧ N 9 r = nI v) ∧ (qB (N 7 7) r = true → qB (N 7 3) r = true) ∧ (qB (N 7 6) r = false → qB (N 7 7) r = false → N 9 r = -1)
/-- most replicas have a TERM of t or more -/
def qMj (n : Nat) (N : zM) (t : Nat) : Prop := n < 2 * qN n (fun r => decide (nI t ≤ N 4 r))
section RLOF
variable {n oz T : Nat} {N N' : zM} {w w' : Nat → Int32}
theorem rl_nv.of (h : rl_nv n N) (e : N' 7 = N 7) (e9 : ∀ r, r < n → N' 9 r = N 9 r) : rl_nv n N' := by
  unfold rl_nv
  rw [e]
  refine ⟨h.1, h.2.1, fun r hr => ?_⟩
  rw [e9 r hr]
  exact h.2.2 r hr
end RLOF
/-! WHAT IS READ on both sides -/
theorem bI_1 {b : Bool} : bI b = 1 ↔ b = true := by
  cases b
  · exact ⟨fun h => absurd h (by decide), fun h => by cases h⟩
  · exact ⟨fun _ => rfl, fun _ => rfl⟩
theorem bI_ite1 {α : Type} {b : Bool} {x y : α} : (if bI b = 1 then x else y) = if b = true then x else y := by
  cases b
  · rw [bI_f, if_neg (by decide), if_neg (by decide)]
  · rw [bI_t, if_pos rfl, if_pos rfl]
theorem bI_def (b : Bool) : (if b = true then (1 : Int32) else 0) = bI b := rfl
section READS
variable {n oz T : Nat} {N M : zM}
theorem c_onRoll {r : Nat} (hr : r < 32) : g_X1_isOnRoll (zPl N 7) (nI r) = bI (qB (N 7 3) r) := has_q hr _
theorem qS.and {m : Nat} {A B : Int32} (h : qS m B) : qS m (A &&& B) := fun r hr => by rw [qB_and, h r hr, Bool.and_false]
theorem c_state {r : Nat} (hr : r < 32) : g_X1_stateOf (zPl N 7) (nI r) = nI (qSt N r) := by
  have e : g_X1_stateOf (zPl N 7) (nI r) = (if (g_X9_has (N 7 5) (nI r)) = 0 then (if (g_X9_has (N 7 6) (nI r)) = 0 then (if (g_X9_has (N 7 7) (nI r)) = 0 then 0 else 3) else 2) else 1) := rfl
  rw [e, has_q hr, has_q hr, has_q hr, bI_ite, bI_ite, bI_ite]
  unfold qSt
  (repeat' split) <;> rfl
theorem qSt_lt (r : Nat) : qSt N r < 4 := by
  unfold qSt
  (repeat' split) <;> decide
theorem qSt_1 {r : Nat} : (qSt N r == 1) = qB (N 7 5) r := by
  unfold qSt
  cases qB (N 7 5) r <;> cases qB (N 7 6) r <;> cases qB (N 7 7) r <;> rfl
theorem qSt_2 (hv : rl_nv n N) {r : Nat} (hr : r < n) : (qSt N r == 2) = qB (N 7 6) r := by
  have := ((hv.2.2 r hr).1)
  unfold qSt
  cases h5 : qB (N 7 5) r <;> cases h6 : qB (N 7 6) r <;> cases h7 : qB (N 7 7) r <;> first | rfl | (rw [h5, h6] at this; exact absurd (this rfl).2.1 (by decide))
theorem qSt_3 (hv : rl_nv n N) {r : Nat} (hr : r < n) : (qSt N r == 3) = qB (N 7 7) r := by
  have h1 := ((hv.2.2 r hr).1)
  have h2 := ((hv.2.2 r hr).2.1)
  unfold qSt
  cases h5 : qB (N 7 5) r <;> cases h6 : qB (N 7 6) r <;> cases h7 : qB (N 7 7) r <;> first | rfl | (rw [h5, h7] at h1; exact absurd (h1 rfl).2.2 (by decide)) | (rw [h6, h7] at h2; exact absurd (h2 rfl).2.1 (by decide))
theorem bc_n (h9 : n ≤ 9) {S : Int32} (h : qS n S) : g_J6_bitCount_0f7a4 S = nI (qN n (qB S)) := by rw [bc_q (h.mono h9), qN_cut 9 h9 (fun i hi _ => h i hi)]
end READS
/-! THE DEEDS, on both sides -/
theorem zU_s {M : zM} {o k : Nat} {x : Int32} : zU M o k x o k = x := by rw [zU_eq]; exact if_pos rfl
theorem zU_c {M : zM} {o k j : Nat} {x : Int32} : zU M o k x o j = if j = k then x else M o j := congrFun zU_eq j
theorem sealC_n {a b c : Nat} : g_X9_sealNumber (nI a) (nI b) (nI c) = nI ((31 * a + 17 * b + 7 * c + 5) * 40503 % 65536) := by
  unfold g_X9_sealNumber
  rw [show (31 : Int32) = nI 31 from rfl, show (17 : Int32) = nI 17 from rfl, show (7 : Int32) = nI 7 from rfl, show (5 : Int32) = nI 5 from rfl, show (40503 : Int32) = nI 40503 from rfl]
  simp only [pk_mul, nI_add]
  rw [pk_and _ 16 rfl, show (nI ((31 * a + 17 * b + 7 * c + 5) * 40503)).toBitVec.toNat = (31 * a + 17 * b + 7 * c + 5) * 40503 % 2 ^ 32 from rfl, Nat.mod_mod_of_dvd _ (by decide)]
theorem bc_pos {n : Nat} {S : Int32} (h9 : n ≤ 9) (h : qS n S) : ¬ g_J6_bitCount_0f7a4 S < 0 := by
  rw [bc_n h9 h]
  have := qN_le (f := qB S) n
  exact nI_pos (by omega)
theorem qS_addB {n r : Nat} {S : Int32} (h : qS n S) (hr : r < n) (h9 : n ≤ 9) : qS n (S ||| (1 <<< (nI r &&& 31))) := fun k hk => by
  rw [qB_add (by omega), h k hk, beq_eq_false_iff_ne.mpr (by omega)]
  rfl
theorem qS_delB {n r : Nat} {S : Int32} (h : qS n S) (hr : r < 32) : qS n (S &&& ((1 <<< (nI r &&& 31)) ^^^ (-1))) := fun k hk => by
  rw [qB_del hr, h k hk]
  rfl
section STEPS
variable {n oz T : Nat} {N M : zM}
theorem e_begin (A : zM) (t c r : Int32) : (∀ k, g_X1_begin A t c r 0 k = if k = 0 then 1 else if k = 1 then t else if k = 2 then c else if k = 3 then r else if k < 8 then 0 else A 0 k) ∧ (∀ k, k < 9 → g_X1_begin A t c r 1 k = 0) ∧ ∀ k, k < 9 → g_X1_begin A t c r 2 k = -1 := by
  unfold g_X1_begin
  refine ⟨fun k => ?_, ?_⟩
  · rw [fr_l_X1_begin_43 A t c r 0 (by decide)]
    simp only [zU_c]
    by_cases h0 : k = 0
    · subst h0; rfl
    by_cases h1 : k = 1
    · subst h1; rfl
    by_cases h2 : k = 2
    · subst h2; rfl
    by_cases h3 : k = 3
    · subst h3; rfl
    rw [if_neg h0, if_neg h1, if_neg h2, if_neg h3, if_neg h0, if_neg h1, if_neg h2, if_neg h3]
    by_cases h4 : k = 4
    · subst h4; rfl
    by_cases h5 : k = 5
    · subst h5; rfl
    by_cases h6 : k = 6
    · subst h6; rfl
    by_cases h7 : k = 7
    · subst h7; rfl
    rw [if_neg h4, if_neg h5, if_neg h6, if_neg h7, if_neg (by omega)]
  · have := zIt_inv (f := l_X1_begin_43 A t c r) (P := fun i (s : zM) => (∀ k, k < i → s 1 k = 0) ∧ ∀ k, k < i → s 2 k = -1) 9 (zU (zU (zU (zU (zU (zU (zU (zU A 0 0 1) 0 1 t) 0 2 c) 0 3 r) 0 4 0) 0 5 0) 0 6 0) 0 7 0) ⟨fun k hk => absurd hk (Nat.not_lt_zero k), fun k hk => absurd hk (Nat.not_lt_zero k)⟩ ?_
    · exact this
    · intro i _ s hs
      unfold l_X1_begin_43
      refine ⟨fun k hk => ?_, fun k hk => ?_⟩
      · rw [zU_ne (by decide), zU_c]
        by_cases e : k = i
        · rw [if_pos e]
        · rw [if_neg e]
          exact hs.1 k (by omega)
      · rw [zU_c]
        by_cases e : k = i
        · rw [if_pos e]
        · rw [if_neg e, zU_ne (by decide)]
          exact hs.2 k (by omega)
end STEPS
/-! THE DEEDS, on both sides: close, break, links, ups -/
section STEPS2
variable {n oz T : Nat} {N M : zM}
theorem e_forget (A : zM) (S ld : Int32) (h9 : n ≤ 9) : (∀ o, o ≠ 5 → g_X4_forgetLeader A n S ld o = A o) ∧ ∀ k, g_X4_forgetLeader A n S ld 5 k = if k < n ∧ qB S k = true ∧ A 5 k = ld then -1 else A 5 k := by
  refine ⟨fun o ho => fr_X4_forgetLeader A n S ld o ho, ?_⟩
  unfold g_X4_forgetLeader
  refine zIt_inv (P := fun i (s : zM) => ∀ k, s 5 k = if k < i ∧ qB S k = true ∧ A 5 k = ld then -1 else A 5 k) n A (fun k => (if_neg fun q => Nat.not_lt_zero k q.1).symm) ?_
  intro i hi s hs k
  unfold l_X4_forgetLeader_2
  rw [has_q (by omega), bI_ite]
  have hi5 : s 5 i = A 5 i := by rw [hs i, if_neg (fun q => Nat.lt_irrefl i q.1)]
  by_cases e : k = i
  · subst e
    cases hq : qB S k
    · rw [if_neg Bool.false_ne_true, hi5, if_neg (fun q => Bool.false_ne_true q.2.1)]
    · rw [if_pos rfl, hi5]
      by_cases hl : A 5 k = ld
      · rw [if_pos hl, zU_s, if_pos ⟨Nat.lt_succ_self k, rfl, hl⟩]
      · rw [if_neg hl, hi5, if_neg (fun q => hl q.2.2)]
  · have e2 : (if qB S i = true then (if s 5 i = ld then zU s 5 i (-1) else s) else s) 5 k = s 5 k := by
      split
      · split
        · exact zU_k e
        · rfl
      · rfl
    rw [e2, hs k]
    by_cases hp : k < i ∧ qB S k = true ∧ A 5 k = ld
    · rw [if_pos hp, if_pos ⟨by omega, hp.2⟩]
    · rw [if_neg hp, if_neg (fun q => hp ⟨by omega, q.2⟩)]
end STEPS2
/-! THE TALLY, on both sides -/
/-- the valid votes for one -/
def qV (n : Nat) (N : zM) (r : Nat) : Nat := qN n (fun i => qB (N 7 6) i && decide (N 9 i = nI r))
section TALLY
variable {n oz T : Nat} {N M : zM}
theorem c_votesFor (h9 : n ≤ 9) (hv : rl_nv n N) (r : Nat) : g_X1_validVotesFor (zPl N 7) (nI r) = nI (qV n N r) := by
  unfold g_X1_validVotesFor qV
  rw [zIt_cnt0 (p := fun i => qB (N 7 6) i && decide (N 9 i = nI r)) 9 ?_]
  · rw [qN_cut 9 h9]
    intro i hi _
    rw [hv.2.1.2.2.1 i hi]
    rfl
  · intro i hi s
    unfold l_X1_validVotesFor_4
    rw [show zPl N 7 0 6 = N 7 6 from rfl, show zPl N 7 2 i = N 9 i from rfl, has_q (by omega), bI_ite]
    congr 1
    cases qB (N 7 6) i
    · rfl
    · rw [if_pos rfl, Bool.true_and]
      by_cases e : N 9 i = nI r
      · rw [if_pos e, decide_eq_true e]
        rfl
      · rw [if_neg e, decide_eq_false e]
        rfl
theorem m1_lt {k : Nat} (h : k < 4096) : (-1 : Int32) < nI k := by
  rw [Int32.lt_iff_toInt_lt, nI_toInt (by omega)]
  exact Int.lt_of_lt_of_le (by decide) (Int.natCast_nonneg k)
theorem m1_ne {k : Nat} (h : k < 4096) : ¬ nI k = -1 := fun e => by
  have := m1_lt h
  rw [e] at this
  exact Int32.lt_irrefl this
theorem m1_nle {k : Nat} (h : k < 4096) : ¬ nI k ≤ -1 := Int32.not_le.mpr (m1_lt h)
end TALLY
/-! THE DEEDS, on both sides: call -/
section CALL
variable {n oz T : Nat} {N M : zM}
theorem e_great (h9 : n ≤ 9) (S : Int32) (h : ∀ r, r < n → ∃ t, t ≤ T ∧ N 4 r = nI t) : ∃ t, t ≤ T ∧ g_X4_greatestTermOf N n S = nI t ∧ ∀ j, j < n → qB S j = true → N 4 j ≤ nI t := by
  unfold g_X4_greatestTermOf
  refine zIt_inv (P := fun i (s : Int32) => ∃ t, t ≤ T ∧ s = nI t ∧ ∀ j, j < i → qB S j = true → N 4 j ≤ nI t) n 0 ⟨0, Nat.zero_le T, rfl, fun j hj => absurd hj (Nat.not_lt_zero j)⟩ ?_
  intro i hi s hs
  obtain ⟨t, h1, h2, h3⟩ := hs
  obtain ⟨t', h4, h5⟩ := h i hi
  unfold l_X4_greatestTermOf_4
  rw [has_q (by omega), bI_ite, h5, h2]
  cases hq : qB S i
  · rw [if_neg Bool.false_ne_true]
    refine ⟨t, h1, rfl, fun j hj hj2 => ?_⟩
    by_cases e : j = i
    · rw [e, hq] at hj2
      cases hj2
    · exact h3 j (by omega) hj2
  · rw [if_pos rfl]
    by_cases c : nI t < nI t'
    · rw [if_pos c]
      refine ⟨t', h4, rfl, fun j hj hj2 => ?_⟩
      by_cases e : j = i
      · rw [e, h5]
        exact Int32.le_refl _
      · exact Int32.le_trans (h3 j (by omega) hj2) (Int32.le_of_lt c)
    · rw [if_neg c]
      refine ⟨t, h1, rfl, fun j hj hj2 => ?_⟩
      by_cases e : j = i
      · rw [e, h5]
        exact Int32.not_lt.mp c
      · exact h3 j (by omega) hj2
theorem e_call73 (h9 : n ≤ 9) (r : Nat) : (∀ o, o ≠ 4 ∧ o ≠ 5 → zIt (l_X4_callBallot_73 N n r) n N o = N o) ∧ (∀ k, zIt (l_X4_callBallot_73 N n r) n N 4 k = if k < n ∧ qB ((N 6 r) &&& (N 0 1)) k = true then g_X4_greatestTermOf N n ((N 6 r) &&& (N 0 1)) + 1 else N 4 k) ∧ ∀ k, zIt (l_X4_callBallot_73 N n r) n N 5 k = if k < n ∧ qB ((N 6 r) &&& (N 0 1)) k = true then -1 else N 5 k := by
  refine ⟨fun o ho => fr_l_X4_callBallot_73 N n r o ho n N, ?_⟩
  refine zIt_inv (P := fun i (s : zM) => (∀ k, s 4 k = if k < i ∧ qB ((N 6 r) &&& (N 0 1)) k = true then g_X4_greatestTermOf N n ((N 6 r) &&& (N 0 1)) + 1 else N 4 k) ∧ ∀ k, s 5 k = if k < i ∧ qB ((N 6 r) &&& (N 0 1)) k = true then -1 else N 5 k) n N ⟨fun k => (if_neg fun q => Nat.not_lt_zero k q.1).symm, fun k => (if_neg fun q => Nat.not_lt_zero k q.1).symm⟩ ?_
  intro i hi s hs
  unfold l_X4_callBallot_73
  rw [has_q (by omega), bI_ite]
  generalize g_X4_greatestTermOf N n ((N 6 r) &&& (N 0 1)) + 1 = g at *
  generalize (N 6 r) &&& (N 0 1) = S at *
  have nx : ∀ k, k ≠ i → ((k < i ∧ qB S k = true) ↔ (k < i + 1 ∧ qB S k = true)) := fun k hk => ⟨fun q => ⟨by omega, q.2⟩, fun q => ⟨by omega, q.2⟩⟩
  cases hq : qB S i
  · rw [if_neg Bool.false_ne_true]
    refine ⟨fun k => ?_, fun k => ?_⟩
    · rw [hs.1 k]
      by_cases e : k = i
      · subst e
        rw [if_neg (fun q => Nat.lt_irrefl k q.1), if_neg (fun q => by rw [hq] at q; cases q.2)]
      · by_cases q : k < i ∧ qB S k = true
        · rw [if_pos q, if_pos ((nx k e).mp q)]
        · rw [if_neg q, if_neg (fun p => q ((nx k e).mpr p))]
    · rw [hs.2 k]
      by_cases e : k = i
      · subst e
        rw [if_neg (fun q => Nat.lt_irrefl k q.1), if_neg (fun q => by rw [hq] at q; cases q.2)]
      · by_cases q : k < i ∧ qB S k = true
        · rw [if_pos q, if_pos ((nx k e).mp q)]
        · rw [if_neg q, if_neg (fun p => q ((nx k e).mpr p))]
  · rw [if_pos rfl]
    refine ⟨fun k => ?_, fun k => ?_⟩
    · rw [zU_ne (show (4 : Nat) ≠ 5 by decide), zU_c]
      by_cases e : k = i
      · subst e
        rw [if_pos rfl, if_pos ⟨Nat.lt_succ_self k, hq⟩]
      · rw [if_neg e, hs.1 k]
        by_cases q : k < i ∧ qB S k = true
        · rw [if_pos q, if_pos ((nx k e).mp q)]
        · rw [if_neg q, if_neg (fun p => q ((nx k e).mpr p))]
    · rw [zU_c]
      by_cases e : k = i
      · subst e
        rw [if_pos rfl, if_pos ⟨Nat.lt_succ_self k, hq⟩]
      · rw [if_neg e, zU_ne (show (5 : Nat) ≠ 4 by decide), hs.2 k]
        by_cases q : k < i ∧ qB S k = true
        · rw [if_pos q, if_pos ((nx k e).mp q)]
        · rw [if_neg q, if_neg (fun p => q ((nx k e).mpr p))]
end CALL
/-! THE DEEDS, on both sides: count -/
theorem zFst_all {β : Type} {f : Nat → Option β} {d : β} : ∀ (k i : Nat), (∀ j, i ≤ j → j < i + k → f j = none) → zFst f d k i = d
  | 0, _, _ => rfl
  | k + 1, i, h => by
    rw [zFst, h i (Nat.le_refl i) (by omega)]
    exact zFst_all k (i + 1) fun j h1 h2 => h j (by omega) (by omega)
theorem zFst_one {β : Type} {f : Nat → Option β} {d c : β} (hc : ∀ j b, f j = some b → b = c) : ∀ (k i : Nat), (∃ j, i ≤ j ∧ j < i + k ∧ f j ≠ none) → zFst f d k i = c
  | 0, i, h => by
    obtain ⟨j, h1, h2, -⟩ := h
    omega
  | k + 1, i, h => by
    rw [zFst]
    cases e : f i with
    | some b => exact hc i b e
    | none =>
      refine zFst_one hc k (i + 1) ?_
      obtain ⟨j, h1, h2, h3⟩ := h
      refine ⟨j, ?_, by omega, h3⟩
      rcases Nat.lt_or_ge i j with q | q
      · exact q
      · obtain rfl : i = j := by omega
        exact absurd e h3
/-- one number of the latest outcome is written -/
noncomputable def kW (B : zM) (s w : Nat) (x : Int32) : zM := zPs B 10 2 (g_X6_write (zPl B 10) s w x)
theorem kW_eq {B : zM} {s w : Nat} {x : Int32} (hs : B 10 0 = nI s) (h0 : 0 < s) (h12 : s ≤ 12) : kW B s w x 10 0 = nI s ∧ ∀ k, kW B s w x 11 k = if k = (s - 1) * 8 + w then x else B 11 k := by
  have e : g_X6_write (zPl B 10) s w x = zU (zPl B 10) 1 ((s - 1) * 8 + w) x := by
    unfold g_X6_write
    rw [show zPl B 10 0 0 = B 10 0 from rfl, hs, if_neg (nI_nle h0 (by omega))]
  unfold kW
  rw [e]
  refine ⟨?_, fun k => ?_⟩
  · rw [zPs_in (by decide) (by decide), zU_ne (by decide)]
    exact hs
  · rw [zPs_in (by decide) (by decide)]
    exact zU_c
theorem e_keepDef (A : zM) (sz : Nat) (ch : Int32) : g_X4_keepOutcome A sz ch = kW (kW (kW (kW (kW (kW (kW (kW (zPs A 10 2 (g_X6_makeRoom (zPl A 10))) (zMr sz) 0 (A 7 1)) (zMr sz) 1 (ch)) (zMr sz) 2 (if ch = (-1) then 0 else (A 12 1))) (zMr sz) 3 (g_J6_bitCount_0f7a4 (A 7 6))) (zMr sz) 4 (g_J6_bitCount_0f7a4 (A 7 7))) (zMr sz) 5 (if ch = (-1) then 0 else (if (A 12 2) ≤ 1 then 0 else 1))) (zMr sz) 6 (A 1 0)) (zMr sz) 7 (A 1 1) := rfl
theorem zMr_z (sz : Nat) : zMr sz = zOn2 sz + 1 ∨ 12 < sz := by
  unfold zMr zOn2
  split <;> split <;> omega
theorem e_keepOut (A : zM) {sz : Nat} (ch : Int32) (h0 : A 10 0 = nI sz) (h12 : sz ≤ 12) : g_X4_keepOutcome A sz ch 10 0 = nI (zOn2 sz + 1) ∧ g_X4_keepOutcome A sz ch 11 (zOn2 sz * 8 + 0) = (A 7 1) ∧ g_X4_keepOutcome A sz ch 11 (zOn2 sz * 8 + 1) = (ch) ∧ g_X4_keepOutcome A sz ch 11 (zOn2 sz * 8 + 2) = (if ch = (-1) then 0 else (A 12 1)) ∧ g_X4_keepOutcome A sz ch 11 (zOn2 sz * 8 + 3) = (g_J6_bitCount_0f7a4 (A 7 6)) ∧ g_X4_keepOutcome A sz ch 11 (zOn2 sz * 8 + 4) = (g_J6_bitCount_0f7a4 (A 7 7)) ∧ g_X4_keepOutcome A sz ch 11 (zOn2 sz * 8 + 5) = (if ch = (-1) then 0 else (if (A 12 2) ≤ 1 then 0 else 1)) ∧ g_X4_keepOutcome A sz ch 11 (zOn2 sz * 8 + 6) = (A 1 0) ∧ g_X4_keepOutcome A sz ch 11 (zOn2 sz * 8 + 7) = (A 1 1) ∧ ∀ k, k < zOn2 sz * 8 → g_X4_keepOutcome A sz ch 11 k = if sz = 12 then A 11 (k + 8) else A 11 k := by
  rw [e_keepDef]
  have hs : zMr sz = zOn2 sz + 1 := by
    rcases zMr_z sz with q | q
    · exact q
    · omega
  have hz : zOn2 sz ≤ 11 := by
    unfold zOn2
    split <;> omega
  have r0 : zPs A 10 2 (g_X6_makeRoom (zPl A 10)) 10 0 = nI (zMr sz) := by
    rw [zPs_in (by decide) (by decide)]
    exact e_makeRoom (M := zPl A 10) h0 h12
  have r1 : ∀ k, k < zOn2 sz * 8 → zPs A 10 2 (g_X6_makeRoom (zPl A 10)) 11 k = if sz = 12 then A 11 (k + 8) else A 11 k := fun k hk => by
    rw [zPs_in (by decide) (by decide)]
    unfold g_X6_makeRoom
    rw [show zPl A 10 0 0 = A 10 0 from rfl, h0]
    by_cases e : sz = 12
    · subst e
      rw [if_pos (show (12 : Int32) ≤ nI 12 by decide), if_pos rfl, zUa_eq, pk_cpy_in (by omega) (by unfold zOn2 at hk; simp at hk; omega)]
      show A 11 (8 + (k - 0)) = _
      congr 1
      omega
    · rw [if_neg (fun q => e (by have := (nI_le9 (a := 12) (b := sz) (by decide) (by omega)).mp q; omega)), if_neg e]
      rfl
  rw [hs] at r0 ⊢
  generalize zPs A 10 2 (g_X6_makeRoom (zPl A 10)) = K at *
  have g1 := kW_eq (w := 0) (x := A 7 1) r0 (Nat.succ_pos _) (by omega)
  generalize kW K (zOn2 sz + 1) 0 (A 7 1) = K1 at *
  rw [Nat.add_sub_cancel] at g1
  have g2 := kW_eq (w := 1) (x := ch) g1.1 (Nat.succ_pos _) (by omega)
  generalize kW K1 (zOn2 sz + 1) 1 (ch) = K2 at *
  rw [Nat.add_sub_cancel] at g2
  have g3 := kW_eq (w := 2) (x := if ch = (-1) then 0 else (A 12 1)) g2.1 (Nat.succ_pos _) (by omega)
  generalize kW K2 (zOn2 sz + 1) 2 (if ch = (-1) then 0 else (A 12 1)) = K3 at *
  rw [Nat.add_sub_cancel] at g3
  have g4 := kW_eq (w := 3) (x := g_J6_bitCount_0f7a4 (A 7 6)) g3.1 (Nat.succ_pos _) (by omega)
  generalize kW K3 (zOn2 sz + 1) 3 (g_J6_bitCount_0f7a4 (A 7 6)) = K4 at *
  rw [Nat.add_sub_cancel] at g4
  have g5 := kW_eq (w := 4) (x := g_J6_bitCount_0f7a4 (A 7 7)) g4.1 (Nat.succ_pos _) (by omega)
  generalize kW K4 (zOn2 sz + 1) 4 (g_J6_bitCount_0f7a4 (A 7 7)) = K5 at *
  rw [Nat.add_sub_cancel] at g5
  have g6 := kW_eq (w := 5) (x := if ch = (-1) then 0 else (if (A 12 2) ≤ 1 then 0 else 1)) g5.1 (Nat.succ_pos _) (by omega)
  generalize kW K5 (zOn2 sz + 1) 5 (if ch = (-1) then 0 else (if (A 12 2) ≤ 1 then 0 else 1)) = K6 at *
  rw [Nat.add_sub_cancel] at g6
  have g7 := kW_eq (w := 6) (x := A 1 0) g6.1 (Nat.succ_pos _) (by omega)
  generalize kW K6 (zOn2 sz + 1) 6 (A 1 0) = K7 at *
  rw [Nat.add_sub_cancel] at g7
  have g8 := kW_eq (w := 7) (x := A 1 1) g7.1 (Nat.succ_pos _) (by omega)
  generalize kW K7 (zOn2 sz + 1) 7 (A 1 1) = K8 at *
  rw [Nat.add_sub_cancel] at g8
  refine ⟨g8.1, ?_, ?_, ?_, ?_, ?_, ?_, ?_, ?_, ?_⟩
  · rw [g8.2, if_neg (by omega), g7.2, if_neg (by omega), g6.2, if_neg (by omega), g5.2, if_neg (by omega), g4.2, if_neg (by omega), g3.2, if_neg (by omega), g2.2, if_neg (by omega), g1.2, if_pos rfl]
  · rw [g8.2, if_neg (by omega), g7.2, if_neg (by omega), g6.2, if_neg (by omega), g5.2, if_neg (by omega), g4.2, if_neg (by omega), g3.2, if_neg (by omega), g2.2, if_pos rfl]
  · rw [g8.2, if_neg (by omega), g7.2, if_neg (by omega), g6.2, if_neg (by omega), g5.2, if_neg (by omega), g4.2, if_neg (by omega), g3.2, if_pos rfl]
  · rw [g8.2, if_neg (by omega), g7.2, if_neg (by omega), g6.2, if_neg (by omega), g5.2, if_neg (by omega), g4.2, if_pos rfl]
  · rw [g8.2, if_neg (by omega), g7.2, if_neg (by omega), g6.2, if_neg (by omega), g5.2, if_pos rfl]
  · rw [g8.2, if_neg (by omega), g7.2, if_neg (by omega), g6.2, if_pos rfl]
  · rw [g8.2, if_neg (by omega), g7.2, if_pos rfl]
  · rw [g8.2, if_pos rfl]
  · intro k hk
    rw [g8.2, if_neg (by omega), g7.2, if_neg (by omega), g6.2, if_neg (by omega), g5.2, if_neg (by omega), g4.2, if_neg (by omega), g3.2, if_neg (by omega), g2.2, if_neg (by omega), g1.2, if_neg (by omega)]
    exact r1 k hk
section COUNT
variable {n oz T : Nat} {N M : zM}
end COUNT
/-! THE DEEDS, on both sides: count, joined -/
section COUNT2
variable {n oz T : Nat} {N M : zM}
theorem nv_ph {X : zM} (hv : rl_nv n N) (p : Nat) (h2 : 2 ≤ p) (hp4 : p < 4) (e0 : X 7 0 = nI p) (e7 : ∀ k, 3 ≤ k → k < 8 → X 7 k = N 7 k) (e9 : ∀ r, r < n → X 9 r = N 9 r) : rl_nv n X := by
  refine ⟨⟨fun q => absurd ((nI_eq9 (a := p) (b := 0) (by omega) (by decide)).mp (e0.symm.trans q)) (by omega), fun q => absurd ((nI_eq9 (a := p) (b := 1) (by omega) (by decide)).mp (e0.symm.trans q)) (by omega)⟩, ?_, fun r hr => ?_⟩
  · rw [e7 3 (by decide) (by decide), e7 5 (by decide) (by decide), e7 6 (by decide) (by decide), e7 7 (by decide) (by decide)]
    exact hv.2.1
  · rw [e7 3 (by decide) (by decide), e7 5 (by decide) (by decide), e7 6 (by decide) (by decide), e7 7 (by decide) (by decide), e9 r hr]
    exact hv.2.2 r hr
end COUNT2
/-! THE DEEDS, on both sides: recount -/
section RECOUNT
variable {n oz T : Nat} {N M : zM}
/-- votes that are sealed again -/
def qPr (Z7 : Int32) (Z9 : Nat → Int32) (k : Nat) : Bool := qB Z7 k && decide (Z9 k = 1)
theorem e_misfits (Z : zM) : (g_X1_sealMisfitsAgain Z).1 = nI (qN 9 (qPr (Z 0 7) (Z 2))) ∧ (∀ k, k ≠ 5 → k ≠ 7 → (g_X1_sealMisfitsAgain Z).2 0 k = Z 0 k) ∧ (∀ k, qB ((g_X1_sealMisfitsAgain Z).2 0 7) k = (qB (Z 0 7) k && !(decide (k < 9) && qPr (Z 0 7) (Z 2) k))) ∧ (∀ k, qB ((g_X1_sealMisfitsAgain Z).2 0 5) k = (qB (Z 0 5) k || (decide (k < 9) && qPr (Z 0 7) (Z 2) k))) ∧ (g_X1_sealMisfitsAgain Z).2 1 = Z 1 ∧ ∀ k, (g_X1_sealMisfitsAgain Z).2 2 k = if k < 9 ∧ qPr (Z 0 7) (Z 2) k = true then -1 else Z 2 k := by
  unfold g_X1_sealMisfitsAgain
  refine zIt_inv (f := l_X1_sealMisfitsAgain_4 Z) (P := fun i (s : Int32 × zM) => s.1 = nI (qN i (qPr (Z 0 7) (Z 2))) ∧ (∀ k, k ≠ 5 → k ≠ 7 → s.2 0 k = Z 0 k) ∧ (∀ k, qB (s.2 0 7) k = (qB (Z 0 7) k && !(decide (k < i) && qPr (Z 0 7) (Z 2) k))) ∧ (∀ k, qB (s.2 0 5) k = (qB (Z 0 5) k || (decide (k < i) && qPr (Z 0 7) (Z 2) k))) ∧ s.2 1 = Z 1 ∧ ∀ k, s.2 2 k = if k < i ∧ qPr (Z 0 7) (Z 2) k = true then -1 else Z 2 k) 9 (0, Z) ⟨rfl, fun _ _ _ => rfl, fun k => by simp, fun k => by simp, rfl, fun k => (if_neg fun q => Nat.not_lt_zero k q.1).symm⟩ ?_
  intro i hi s hs
  obtain ⟨h1, h2, h3, h4, h5, h6⟩ := hs
  unfold l_X1_sealMisfitsAgain_4
  have e7 : qB (s.2 0 7) i = qB (Z 0 7) i := by rw [h3]; simp
  have e2 : s.2 2 i = Z 2 i := by rw [h6, if_neg (fun q => Nat.lt_irrefl i q.1)]
  rw [has_q (by omega), bI_ite, e7, e2]
  have hk : ∀ k, k ≠ i → (decide (k < i + 1) = decide (k < i)) := fun k hk => decide_eq_decide.mpr (by omega)
  have hkk : ∀ k, k ≠ i → ((k < i + 1 ∧ qPr (Z 0 7) (Z 2) k = true) ↔ (k < i ∧ qPr (Z 0 7) (Z 2) k = true)) := fun k hk => ⟨fun q => ⟨by omega, q.2⟩, fun q => ⟨by omega, q.2⟩⟩
  have no : qPr (Z 0 7) (Z 2) i = false → ((s.1 = nI (qN (i + 1) (qPr (Z 0 7) (Z 2))) ∧ (∀ k, k ≠ 5 → k ≠ 7 → s.2 0 k = Z 0 k) ∧ (∀ k, qB (s.2 0 7) k = (qB (Z 0 7) k && !(decide (k < i + 1) && qPr (Z 0 7) (Z 2) k))) ∧ (∀ k, qB (s.2 0 5) k = (qB (Z 0 5) k || (decide (k < i + 1) && qPr (Z 0 7) (Z 2) k))) ∧ s.2 1 = Z 1 ∧ ∀ k, s.2 2 k = if k < i + 1 ∧ qPr (Z 0 7) (Z 2) k = true then -1 else Z 2 k)) := by
    intro hq
    refine ⟨?_, h2, fun k => ?_, fun k => ?_, h5, fun k => ?_⟩
    · rw [h1, qN, hq, if_neg Bool.false_ne_true, Nat.add_zero]
    · rw [h3]
      by_cases e : k = i
      · rw [e, hq, Bool.and_false, Bool.and_false]
      · rw [hk k e]
    · rw [h4]
      by_cases e : k = i
      · rw [e, hq, Bool.and_false, Bool.and_false]
      · rw [hk k e]
    · rw [h6]
      by_cases e : k = i
      · rw [e, if_neg (fun q => Nat.lt_irrefl i q.1), if_neg (fun q => by rw [hq] at q; cases q.2)]
      · by_cases q : k < i ∧ qPr (Z 0 7) (Z 2) k = true
        · rw [if_pos q, if_pos ((hkk k e).mpr q)]
        · rw [if_neg q, if_neg (fun p => q ((hkk k e).mp p))]
  cases hz : qB (Z 0 7) i
  · rw [if_neg Bool.false_ne_true]
    exact no (by unfold qPr; rw [hz]; rfl)
  · rw [if_pos rfl]
    by_cases h9 : Z 2 i = 1
    · rw [if_pos h9]
      have hq : qPr (Z 0 7) (Z 2) i = true := by
        unfold qPr
        rw [hz, decide_eq_true h9]
        rfl
      refine ⟨?_, fun k k5 k7 => ?_, fun k => ?_, fun k => ?_, ?_, fun k => ?_⟩
      · dsimp only
        rw [h1, qN, hq, if_pos rfl, nI_1]
      · dsimp only
        rw [zU_ne (show (0 : Nat) ≠ 2 by decide), zU_k k5, zU_k k7]
        exact h2 k k5 k7
      · dsimp only
        rw [zU_ne (show (0 : Nat) ≠ 2 by decide), zU_k (show (7 : Nat) ≠ 5 by decide), zU_s, qB_del (by omega), h3]
        by_cases e : k = i
        · subst e
          rw [beq_self_eq_true, hq, decide_eq_true (Nat.lt_succ_self k)]
          simp
        · rw [beq_eq_false_iff_ne.mpr e, hk k e, Bool.not_false, Bool.and_true]
      · dsimp only
        rw [zU_ne (show (0 : Nat) ≠ 2 by decide), zU_s, qB_add (by omega), h4]
        by_cases e : k = i
        · subst e
          rw [beq_self_eq_true, hq, decide_eq_true (Nat.lt_succ_self k)]
          simp
        · rw [beq_eq_false_iff_ne.mpr e, hk k e, Bool.or_false]
      · dsimp only
        rw [zU_ne (show (1 : Nat) ≠ 2 by decide), zU_ne (show (1 : Nat) ≠ 0 by decide), zU_ne (show (1 : Nat) ≠ 0 by decide)]
        exact h5
      · dsimp only
        rw [zU_c]
        by_cases e : k = i
        · subst e
          rw [if_pos rfl, if_pos ⟨Nat.lt_succ_self k, hq⟩]
        · rw [if_neg e, zU_ne (show (2 : Nat) ≠ 0 by decide), zU_ne (show (2 : Nat) ≠ 0 by decide), h6]
          by_cases q : k < i ∧ qPr (Z 0 7) (Z 2) k = true
          · rw [if_pos q, if_pos ((hkk k e).mpr q)]
          · rw [if_neg q, if_neg (fun p => q ((hkk k e).mp p))]
    · rw [if_neg h9]
      exact no (by unfold qPr; rw [hz, decide_eq_false h9]; rfl)
end RECOUNT
/-! WHAT IS TOLD, on both sides -/
section TELL
variable {n oz T : Nat} {N M : zM}
theorem nv_off (hv : rl_nv n N) {r : Nat} (hr : r < n) (hq : qB (N 7 3) r = false) : N 9 r = -1 := by
  obtain ⟨v1, v2, v3, v4⟩ := hv.2.2 r hr
  refine v4 ?_ ?_
  · cases h : qB (N 7 6) r
    · rfl
    · rw [(v2 h).1] at hq; cases hq
  · cases h : qB (N 7 7) r
    · rfl
    · rw [v3 h] at hq; cases hq
end TELL
/-! WHAT DOES NOT AGREE, on both sides -/
section GAP
variable {n oz T : Nat} {N M : zM}
/-- a valid vote for one who is not on the roll -/
def qPv (N : zM) (i : Nat) : Bool := qB (N 7 6) i && !(qB (N 7 3) (N 9 i).toNatClampNeg)
/-- a term astray -/
def qPt (N : zM) (i : Nat) : Bool := qB (N 7 3) i && !(decide (N 4 i = N 7 1))
theorem e_stray (h9 : n ≤ 9) (hv : rl_nv n N) : g_X1_strayVotes (zPl N 7) = nI (qN n (qPv N)) := by
  unfold g_X1_strayVotes
  have e3 : zPl N 7 0 3 = N 7 3 := rfl
  have e5 : zPl N 7 0 5 = N 7 5 := rfl
  have e6 : zPl N 7 0 6 = N 7 6 := rfl
  have e7 : zPl N 7 0 7 = N 7 7 := rfl
  have eR : g_X1_rollSize (zPl N 7) = nI (qN 9 (qB (N 7 3))) := bc_q (hv.2.1.1.mono h9)
  rw [e3, e5, e6, e7, eR]
  have hd : ∀ i, i < 9 → ¬ (qB (N 7 5) i = true ∧ qB (N 7 6) i = true) ∧ ¬ ((qB (N 7 5) i || qB (N 7 6) i) = true ∧ qB (N 7 7) i = true) ∧ ((qB (N 7 5) i || qB (N 7 6) i || qB (N 7 7) i) = true → qB (N 7 3) i = true) := by
    intro i hi
    by_cases hn : i < n
    · obtain ⟨v1, v2, v3, v4⟩ := hv.2.2 i hn
      cases h5 : qB (N 7 5) i
      · cases h6 : qB (N 7 6) i
        · cases h7 : qB (N 7 7) i
          · simp
          · simp [v3 h7]
        · have := v2 h6
          simp [this.1, this.2.1]
      · have := v1 h5
        simp [this.1, this.2.1, this.2.2]
    · have g5 := hv.2.1.2.1 i (by omega)
      have g6 := hv.2.1.2.2.1 i (by omega)
      have g7 := hv.2.1.2.2.2 i (by omega)
      simp [g5, g6, g7]
  have q0 : ∀ k, qB ((N 7 3) &&& ((((N 7 5) ||| (N 7 6)) ||| (N 7 7)) ^^^ (-1))) k = (qB (N 7 3) k && !(qB (N 7 5) k || qB (N 7 6) k || qB (N 7 7) k)) := fun k => by
    rw [qB_and, qB_xor, qB_or, qB_or]
    by_cases hk : k < 32
    · rw [qB_m1 hk, Bool.xor_true]
    · rw [qB_hi (by omega)]
      rfl
  have hs0 : qS 9 ((N 7 3) &&& ((((N 7 5) ||| (N 7 6)) ||| (N 7 7)) ^^^ (-1))) := fun k hk => by
    rw [q0, (hv.2.1.1.mono h9) k hk]
    rfl
  have eS : qN 9 (qB ((N 7 3) &&& ((((N 7 5) ||| (N 7 6)) ||| (N 7 7)) ^^^ (-1)))) + qN 9 (qB (N 7 5)) + qN 9 (qB (N 7 6)) + qN 9 (qB (N 7 7)) = qN 9 (qB (N 7 3)) := by
    rw [qN_add 9 (fun i hi p => ?_), qN_add 9 (fun i hi p => ?_), qN_add 9 (fun i hi p => ?_)]
    · refine qN_congr 9 fun i hi => ?_
      rw [q0]
      have := (hd i hi).2.2
      cases h3 : qB (N 7 3) i
      · rw [h3] at this
        cases h5 : qB (N 7 5) i <;> cases h6 : qB (N 7 6) i <;> cases h7 : qB (N 7 7) i <;> rw [h5, h6, h7] at this <;> first | rfl | (have := this rfl; cases this)
      · cases qB (N 7 5) i <;> cases qB (N 7 6) i <;> cases qB (N 7 7) i <;> rfl
    · rw [q0] at p
      have := (hd i hi).2.1
      cases h5 : qB (N 7 5) i <;> cases h6 : qB (N 7 6) i <;> cases h7 : qB (N 7 7) i <;> rw [h5, h6, h7] at p this <;> simp at p this
    · rw [q0] at p
      have := (hd i hi).1
      cases h5 : qB (N 7 5) i <;> cases h6 : qB (N 7 6) i <;> rw [h5, h6] at p this <;> simp at p this
    · rw [q0] at p
      cases h5 : qB (N 7 5) i <;> rw [h5] at p <;> simp at p
  have eX : nI (qN 9 (qB (N 7 3))) - ((((g_J6_bitCount_0f7a4 ((N 7 3) &&& ((((N 7 5) ||| (N 7 6)) ||| (N 7 7)) ^^^ (-1)))) + (g_J6_bitCount_0f7a4 (N 7 5))) + (g_J6_bitCount_0f7a4 (N 7 6))) + (g_J6_bitCount_0f7a4 (N 7 7))) = 0 := by
    rw [bc_q hs0, bc_q (hv.2.1.2.1.mono h9), bc_q (hv.2.1.2.2.1.mono h9), bc_q (hv.2.1.2.2.2.mono h9), nI_add, nI_add, nI_add, eS, Int32.sub_self]
  rw [eX, if_pos (show (0 : Int32) ≤ 0 by decide)]
  rw [zIt_cnt0 (p := qPv N) 9 ?_]
  · rw [qN_cut 9 h9]
    intro i hi _
    unfold qPv
    rw [hv.2.1.2.2.1 i hi]
    rfl
  · intro i hi s
    unfold l_X1_strayVotes_64 qPv
    rw [e6, show zPl N 7 2 i = N 9 i from rfl, has_q (by omega), bI_ite]
    congr 1
    cases h6 : qB (N 7 6) i
    · rfl
    · have hn : i < n := by
        rcases Nat.lt_or_ge i n with q | q
        · exact q
        · rw [hv.2.1.2.2.1 i q] at h6; cases h6
      obtain ⟨v, v1, v2⟩ := ((hv.2.2 i hn).2.1 h6).2.2
      rw [if_pos rfl, v2, nI_clamp (by omega), c_onRoll (by omega), bI_ite, Bool.true_and]
      cases qB (N 7 3) v <;> rfl
theorem e_astray (h9 : n ≤ 9) (hv : rl_nv n N) : g_X4_termsAstray N n = nI (qN n (qPt N)) := by
  unfold g_X4_termsAstray
  refine zIt_cnt0 n fun i hi s => ?_
  unfold l_X4_termsAstray_4 qPt
  rw [c_onRoll (by omega), bI_ite]
  congr 1
  cases qB (N 7 3) i
  · rfl
  · rw [if_pos rfl, Bool.true_and]
    by_cases e : N 4 i = N 7 1
    · rw [if_pos e, decide_eq_true e]
      rfl
    · rw [if_neg e, decide_eq_false e]
      rfl
end GAP
/-! WHY, on both sides -/
section WHY
variable {n oz T : Nat} {N M : zM}
theorem zFst_hit {β : Type} {f : Nat → Option β} {d b : β} {q : Nat} (hq : f q = some b) : ∀ (k i : Nat), i ≤ q → q < i + k → (∀ j, i ≤ j → j < q → f j = none) → zFst f d k i = b
  | 0, i, h1, h2, _ => by omega
  | k + 1, i, h1, h2, h3 => by
    rw [zFst]
    by_cases e : i = q
    · rw [e, hq]
    · rw [h3 i (Nat.le_refl i) (by omega)]
      exact zFst_hit hq k (i + 1) (by omega) (by omega) fun j a b => h3 j (by omega) b
end WHY
/-! THE WHOLE OBJECT and the whole reference say the same -/
/-- the numbers of an office that count -/
def qUse (o k : Nat) : Prop := (o = 0 ∧ k < 2) ∨ (o = 1 ∧ k < 3) ∨ (2 ≤ o ∧ o ≤ 6 ∧ k < 9) ∨ (o = 7 ∧ k < 8) ∨ ((o = 8 ∨ o = 9) ∧ k < 9) ∨ (o = 10 ∧ k = 0) ∨ (o = 11 ∧ k < 96)
theorem qUse_r {o r n : Nat} (h9 : n ≤ 9) (hr : r < n) (ho : 2 ≤ o ∧ o ≤ 6 ∨ o = 8 ∨ o = 9) : qUse o r := by
  unfold qUse
  omega
theorem qUse_7 {k : Nat} (hk : k < 8) : qUse 7 k := by
  unfold qUse
  omega
theorem qUse_11 {k : Nat} (hk : k < 96) : qUse 11 k := by
  unfold qUse
  omega
theorem qUse_1 {k : Nat} (hk : k < 3) : qUse 1 k := by
  unfold qUse
  omega
theorem qUse_00 : qUse 0 0 := by
  unfold qUse
  omega
theorem qUse_01 : qUse 0 1 := by
  unfold qUse
  omega
theorem qUse_10 : qUse 10 0 := by
  unfold qUse
  omega
/-! copies of offices -/
def qIv (M : zM) (a b : Nat) (D : Nat → Nat → Prop) (X : zM) : Prop := (∀ o k, D o k → X (a + o) k = M (b + o) k) ∧ ∀ o, b ≤ o → o < b + 14 → X o = M o
theorem qIv.u {M X : zM} {a b i k0 A B : Nat} {D : Nat → Nat → Prop} (hd : a + 14 ≤ b ∨ b + 14 ≤ a) (hi : i < 14) (hA : A = a + i) (hB : B = b + i) (h : qIv M a b D X) : qIv M a b (fun o k => D o k ∨ (o = i ∧ k = k0)) (zU X A k0 (X B k0)) := by
  subst hA hB
  refine ⟨fun o k hok => ?_, fun o h1 h2 => (zU_ne (by omega)).trans (h.2 o h1 h2)⟩
  by_cases e : o = i
  · subst e
    rw [zU_c]
    by_cases ek : k = k0
    · rw [if_pos ek, ek, h.2 (b + o) (by omega) (by omega)]
    · rw [if_neg ek]
      rcases hok with q | q
      · exact h.1 o k q
      · exact absurd q.2 ek
  · rw [zU_ne (by omega)]
    rcases hok with q | q
    · exact h.1 o k q
    · exact absurd q.1 e
theorem qIv.a {M X : zM} {a b i n A B : Nat} {D : Nat → Nat → Prop} (hd : a + 14 ≤ b ∨ b + 14 ≤ a) (hi : i < 14) (hA : A = a + i) (hB : B = b + i) (h : qIv M a b D X) : qIv M a b (fun o k => D o k ∨ (o = i ∧ k < n)) (zUa X A (va_cpy (X B) (X A) 0 0 n)) := by
  subst hA hB
  refine ⟨fun o k hok => ?_, fun o h1 h2 => (zUa_ne (by omega)).trans (h.2 o h1 h2)⟩
  by_cases e : o = i
  · subst e
    rw [zUa_eq]
    by_cases ek : k < n
    · rw [pk_cpy_in (by omega) (by omega), h.2 (b + o) (by omega) (by omega), Nat.sub_zero, Nat.zero_add]
    · rw [pk_cpy_out (by omega)]
      rcases hok with q | q
      · exact h.1 o k q
      · exact absurd q.2 ek
  · rw [zUa_ne (by omega)]
    rcases hok with q | q
    · exact h.1 o k q
    · exact absurd q.1 e
theorem e_copy (M : zM) (a b : Nat) (hd : a + 14 ≤ b ∨ b + 14 ≤ a) : (∀ o, o < a ∨ a + 12 ≤ o → g_X4_copyFrom M a b o = M o) ∧ ∀ o k, qUse o k → g_X4_copyFrom M a b (a + o) k = M (b + o) k := by
  refine ⟨fun o ho => fr_copy M a b o ho, ?_⟩
  have h0 : qIv M a b (fun _ _ => False) M := ⟨fun _ _ q => q.elim, fun _ _ _ => rfl⟩
  have g1 : qIv M a b _ (m_X4_copyFrom_1 M a b) := h0.u (i := 0) (k0 := 0) (A := a) (B := b) hd (by decide) rfl rfl
  have g2 : qIv M a b _ (m_X4_copyFrom_2 M a b) := g1.u (i := 0) (k0 := 1) (A := a) (B := b) hd (by decide) rfl rfl
  have g3 : qIv M a b _ (m_X4_copyFrom_3 M a b) := g2.a (i := 1) (n := 3) (A := (a + 1)) (B := (b + 1)) hd (by decide) rfl rfl
  have g4 : qIv M a b _ (m_X4_copyFrom_4 M a b) := g3.a (i := 2) (n := 9) (A := (a + 2)) (B := (b + 2)) hd (by decide) rfl rfl
  have g5 : qIv M a b _ (m_X4_copyFrom_5 M a b) := g4.a (i := 3) (n := 9) (A := (a + 3)) (B := (b + 3)) hd (by decide) rfl rfl
  have g6 : qIv M a b _ (m_X4_copyFrom_6 M a b) := g5.a (i := 4) (n := 9) (A := (a + 4)) (B := (b + 4)) hd (by decide) rfl rfl
  have g7 : qIv M a b _ (m_X4_copyFrom_7 M a b) := g6.a (i := 5) (n := 9) (A := (a + 5)) (B := (b + 5)) hd (by decide) rfl rfl
  have g8 : qIv M a b _ (m_X4_copyFrom_8 M a b) := g7.a (i := 6) (n := 9) (A := (a + 6)) (B := (b + 6)) hd (by decide) rfl rfl
  have g9 : qIv M a b _ (m_X1_copyFrom_1 (m_X4_copyFrom_8 M a b) (a + 7) (b + 7)) := g8.u (i := 7) (k0 := 0) (A := (a + 7)) (B := (b + 7)) hd (by decide) rfl rfl
  have g10 : qIv M a b _ (m_X1_copyFrom_2 (m_X4_copyFrom_8 M a b) (a + 7) (b + 7)) := g9.u (i := 7) (k0 := 1) (A := (a + 7)) (B := (b + 7)) hd (by decide) rfl rfl
  have g11 : qIv M a b _ (m_X1_copyFrom_3 (m_X4_copyFrom_8 M a b) (a + 7) (b + 7)) := g10.u (i := 7) (k0 := 2) (A := (a + 7)) (B := (b + 7)) hd (by decide) rfl rfl
  have g12 : qIv M a b _ (m_X1_copyFrom_4 (m_X4_copyFrom_8 M a b) (a + 7) (b + 7)) := g11.u (i := 7) (k0 := 3) (A := (a + 7)) (B := (b + 7)) hd (by decide) rfl rfl
  have g13 : qIv M a b _ (m_X1_copyFrom_5 (m_X4_copyFrom_8 M a b) (a + 7) (b + 7)) := g12.u (i := 7) (k0 := 4) (A := (a + 7)) (B := (b + 7)) hd (by decide) rfl rfl
  have g14 : qIv M a b _ (m_X1_copyFrom_6 (m_X4_copyFrom_8 M a b) (a + 7) (b + 7)) := g13.u (i := 7) (k0 := 5) (A := (a + 7)) (B := (b + 7)) hd (by decide) rfl rfl
  have g15 : qIv M a b _ (m_X1_copyFrom_7 (m_X4_copyFrom_8 M a b) (a + 7) (b + 7)) := g14.u (i := 7) (k0 := 6) (A := (a + 7)) (B := (b + 7)) hd (by decide) rfl rfl
  have g16 : qIv M a b _ (m_X1_copyFrom_8 (m_X4_copyFrom_8 M a b) (a + 7) (b + 7)) := g15.u (i := 7) (k0 := 7) (A := (a + 7)) (B := (b + 7)) hd (by decide) rfl rfl
  have g17 : qIv M a b _ (m_X1_copyFrom_9 (m_X4_copyFrom_8 M a b) (a + 7) (b + 7)) := g16.a (i := 8) (n := 9) (A := (a + 7 + 1)) (B := (b + 7 + 1)) hd (by decide) (by omega) (by omega)
  have g18 : qIv M a b _ (m_X1_copyFrom_10 (m_X4_copyFrom_8 M a b) (a + 7) (b + 7)) := g17.a (i := 9) (n := 9) (A := (a + 7 + 2)) (B := (b + 7 + 2)) hd (by decide) (by omega) (by omega)
  have gm : qIv M a b _ (m_X4_copyFrom_9 M a b) := g18
  have g20 : qIv M a b _ (m_X6_copyFrom_1 (m_X4_copyFrom_9 M a b) (a + 10) (b + 10)) := gm.u (i := 10) (k0 := 0) (A := (a + 10)) (B := (b + 10)) hd (by decide) rfl rfl
  have g21 : qIv M a b _ (m_X6_copyFrom_2 (m_X4_copyFrom_9 M a b) (a + 10) (b + 10)) := g20.a (i := 11) (n := 96) (A := (a + 10 + 1)) (B := (b + 10 + 1)) hd (by decide) (by omega) (by omega)
  have h4 : qIv M a b _ (g_X4_copyFrom M a b) := g21
  intro o k hu
  refine h4.1 o k ?_
  clear h0 h4 gm
  rcases hu with ⟨rfl, hk⟩ | ⟨rfl, hk⟩ | ⟨h2, h6, hk⟩ | ⟨rfl, hk⟩ | ⟨rfl | rfl, hk⟩ | ⟨rfl, hk⟩ | ⟨rfl, hk⟩
  · simp
    omega
  · simp [hk]
  · rcases (show o = 2 ∨ o = 3 ∨ o = 4 ∨ o = 5 ∨ o = 6 by omega) with rfl | rfl | rfl | rfl | rfl <;> simp [hk]
  · simp
    omega
  · simp [hk]
  · simp [hk]
  · simp [hk]
  · simp [hk]
/-- bytes of the text on both sides -/
def qBy (a b : Int32) : Prop := ∃ v, v < 256 ∧ b = nI v ∧ a = (nI v).toInt8.toInt32
/-! A CHANGE, at the whole object and the whole reference -/
theorem e_keepNote {X : zM} {nx pc : Nat} (h1 : X 33 1 = nI nx) (hn : nx < 11) (h0 : X 33 0 = nI pc) (hp : pc ≤ 10) : g_X3_keepNote X 33 1 = nI ((nx + 1) % 11) ∧ g_X3_keepNote X 33 0 = nI (if pc = 10 then 10 else pc + 1) ∧ ∀ o, o ≠ 33 → g_X3_keepNote X o = X o := by
  refine ⟨?_, ?_, fun o ho => fr_X3_keepNote X o ho⟩
  · unfold g_X3_keepNote
    rw [zU_k (by decide), zU_s, zNx1 h1 hn]
  · unfold g_X3_keepNote
    rw [zU_s, h0, nI_1]
    by_cases e : pc = 10
    · subst e
      rfl
    · have n1 : ¬ (10 : Int32) < nI (pc + 1) := fun q => absurd ((nI_lt9 (a := 10) (b := pc + 1) (by decide) (by omega)).mp q) (by omega)
      rw [if_neg n1, if_neg e]
section LIFT
variable {n oz nx pc ty rp T : Nat} {sl : Nat → Option Nat} {ext : List va_E} {gq : Nat → Nat} {x m : zM}
theorem note_0 (nx : Nat) : zPl (g_X3_note x nx) 5 0 = x 5 := fr_X3_note x nx 5 (by decide)
theorem note_out (hn : nx < 11) {o : Nat} (ho : o < 35 + 14 * nx ∨ 35 + 14 * nx + 14 ≤ o) : g_X3_note x nx o = x o := (e_copy x (35 + 14 * nx) 5 (by omega)).1 o (by omega)
end LIFT
/-! THE CALLS, at the whole object and the whole reference: slots, text, report -/
section OK2
variable {n oz nx pc ty rp T : Nat} {sl : Nat → Option Nat} {ext : List va_E} {gq : Nat → Nat} {x m : zM}
/-! text -/
theorem by_sh (z : Int32) {s : Int32} {k : Nat} (hk : k ≤ 24) (h1 : (s.toBitVec.smod 32).toNat = k) (h2 : ((s.toUInt32 &&& Int32.toUInt32 31).toBitVec % 32).toNat = k) : qBy (vp_nar .byte ((z >>> s).toInt8.toInt32)) (((z.toUInt32 >>> (s.toUInt32 &&& Int32.toUInt32 31)).toInt32) &&& 255) := by
  refine ⟨z.toBitVec.toNat / 2 ^ k % 2 ^ 8, Nat.mod_lt _ (by decide), ?_, ?_⟩
  · rw [pk_and _ 8 rfl, pk_ushr z s k h2]
  · rw [pk_vb]
    congr 1
    refine Int8.toBitVec_inj.mp ?_
    rw [Int32.toBitVec_toInt8, Int32.toBitVec_toInt8, Int32.toBitVec_shiftRight]
    refine BitVec.eq_of_getLsbD_eq fun i hi => ?_
    show (BitVec.signExtend 8 (z.toBitVec.sshiftRight (s.toBitVec.smod 32).toNat)).getLsbD i = _
    rw [h1, BitVec.getLsbD_signExtend, BitVec.getLsbD_signExtend, decide_eq_true hi, if_pos (by omega), if_pos (by omega), BitVec.getLsbD_sshiftRight, if_pos (by omega)]
    have e : (nI (z.toBitVec.toNat / 2 ^ k % 2 ^ 8)).toBitVec.getLsbD i = (z.toBitVec.toNat / 2 ^ k % 2 ^ 8).testBit i := qB_nI (k := z.toBitVec.toNat / 2 ^ k % 2 ^ 8) (r := i) (by omega)
    rw [e, Nat.testBit_mod_two_pow, decide_eq_true hi, Nat.testBit_div_two_pow, decide_eq_false (show ¬ 32 ≤ i by omega), Nat.add_comm i k]
    simp
    rfl
end OK2
/-! THE CALLS, at the whole object and the whole reference: the text buffer -/
section OK3
variable {n oz nx pc ty rp T : Nat} {sl : Nat → Option Nat} {ext : List va_E} {gq : Nat → Nat} {x m : zM}
theorem by_4 (z : Int32) : qBy (vp_nar .byte (((z >>> (24 &&& 31))).toInt8.toInt32)) ((((z).toUInt32 >>> ((24 : Int32).toUInt32 &&& Int32.toUInt32 31)).toInt32) &&& 255) ∧ qBy (vp_nar .byte (((z >>> (16 &&& 31))).toInt8.toInt32)) ((((z).toUInt32 >>> ((16 : Int32).toUInt32 &&& Int32.toUInt32 31)).toInt32) &&& 255) ∧ qBy (vp_nar .byte (((z >>> (8 &&& 31))).toInt8.toInt32)) ((((z).toUInt32 >>> ((8 : Int32).toUInt32 &&& Int32.toUInt32 31)).toInt32) &&& 255) ∧ qBy (vp_nar .byte (((z >>> (0 &&& 31))).toInt8.toInt32)) ((((z).toUInt32 >>> ((0 : Int32).toUInt32 &&& Int32.toUInt32 31)).toInt32) &&& 255) := by
  rw [show (24 &&& 31 : Int32) = 24 by decide, show (16 &&& 31 : Int32) = 16 by decide, show (8 &&& 31 : Int32) = 8 by decide, show (0 &&& 31 : Int32) = 0 by decide]
  exact ⟨by_sh z (k := 24) (by decide) (by decide) (by decide), by_sh z (k := 16) (by decide) (by decide) (by decide), by_sh z (k := 8) (by decide) (by decide) (by decide), by_sh z (k := 0) (by decide) (by decide) (by decide)⟩
end OK3
/-! TOKENS, on both sides -/
section TOK
variable {ty : Nat} {Z m : zM}
theorem g_le {a : Nat} (h6 : ty ≤ 600) (ha : a ≤ ty) : (nI ty ≤ nI a) ↔ a = ty := by
  rw [nI_le9 (by omega) (by omega)]
  omega
/-- one round of the class's letters -/
theorem f_let (h6 : ty ≤ 600) (A : zM) {s : zM} {a : Nat} (ha : a ≤ ty) (h0 : s 0 0 = nI ty) (h4 : s 0 4 = nI a) : f_X8_takeWord_0 A ty s = if a = ty then .inr s else (if s 1 a < 97 ∨ 122 < s 1 a then .inr s else .inl (zU s 0 4 (nI a + 1))) := by
  unfold f_X8_takeWord_0
  rw [h0, h4, nI_clamp (by omega)]
  by_cases e : a = ty
  · rw [if_pos ((g_le h6 ha).mpr e), if_pos e]
  · rw [if_neg (fun q => e ((g_le h6 ha).mp q)), if_neg e]
    by_cases c1 : s 1 a < 97
    · rw [if_pos c1, if_pos (Or.inl c1)]
    · rw [if_neg c1]
      by_cases c2 : 122 < s 1 a
      · rw [if_pos c2, if_pos (Or.inr c2)]
      · rw [if_neg c2, if_neg (fun q => q.elim c1 c2)]
theorem f_dig (h6 : ty ≤ 600) (A : zM) {s : zM} {a : Nat} (ha : a ≤ ty) (h0 : s 0 0 = nI ty) (h4 : s 0 4 = nI a) : f_X8_takeNumber_5 A ty s = if a = ty then .inr s else (if s 1 a < 48 ∨ 57 < s 1 a then .inr s else .inl (zU (zU s 0 5 (((10 * (s 0 5)) + (s 1 a)) - 48)) 0 4 (nI a + 1))) := by
  unfold f_X8_takeNumber_5
  rw [h0, h4, nI_clamp (by omega)]
  by_cases e : a = ty
  · rw [if_pos ((g_le h6 ha).mpr e), if_pos e]
  · rw [if_neg (fun q => e ((g_le h6 ha).mp q)), if_neg e]
    by_cases c1 : s 1 a < 48
    · rw [if_pos c1, if_pos (Or.inl c1)]
    · rw [if_neg c1]
      by_cases c2 : 57 < s 1 a
      · rw [if_pos c2, if_pos (Or.inr c2)]
      · rw [if_neg c2, if_neg (fun q => q.elim c1 c2)]
end TOK
/-! THE NEXT TOKEN, on both sides -/
section SCAN
variable {ty : Nat} {Z m : zM}
theorem zWr_one {α : Type} {f : α → α ⊕ α} {x : α} (h : f x = .inr x) (k : Nat) : zWr (fun z => z) f k x = x := by
  cases k with
  | zero => rfl
  | succ k => rw [zWr, h]
end SCAN
/-! REPLICAS of a text, on both sides -/
/-! WORDS -/
theorem zFst_z1 {g : Nat → Option Int32} (hg : ∀ j b, g j = some b → b = 0) : ∀ (k i : Nat), (zFst g 1 k i = 0 ∨ zFst g 1 k i = 1) ∧ (¬ zFst g 1 k i = 0 → ∀ j, i ≤ j → j < i + k → g j = none)
  | 0, i => ⟨Or.inr rfl, fun _ j h1 h2 => absurd h2 (by omega)⟩
  | k + 1, i => by
    rw [zFst]
    cases e : g i with
    | some b =>
      dsimp only
      obtain rfl := hg i b e
      exact ⟨Or.inl rfl, fun q => absurd rfl q⟩
    | none =>
      dsimp only
      obtain ⟨h1, h2⟩ := zFst_z1 hg k (i + 1)
      refine ⟨h1, fun q j j1 j2 => ?_⟩
      by_cases c : j = i
      · rw [c]
        exact e
      · exact h2 q j (by omega) (by omega)
/-! AT THE START both sides say the same -/
theorem pl_ps {M N : zM} {o : Nat} (ho : o < 12) : zPl (zPs M 5 14 N) 5 o = N o := by
  show zPs M 5 14 N (5 + o) = N o
  rw [zPs_in (by omega) (by omega), show 5 + o - 5 = o by omega]
theorem ps_ps {M N : zM} : zPs M 5 14 N = zPs (zPs M 5 14 N) 5 14 N := by
  funext o
  by_cases h : 5 ≤ o ∧ o < 19
  · rw [zPs_in h.1 (by omega), zPs_in h.1 (by omega)]
  · rw [zPs_out (M := zPs M 5 14 N) (by omega)]
theorem b_out {X N : zM} {o : Nat} (h : o < 5 ∨ 19 ≤ o) : zPs X 5 14 N o = X o := zPs_out (by omega)
theorem b_x {o : Nat} (h : o < 5 ∨ 19 ≤ o) : zXI12 o = fun _ => 0 := by
  have e12 : zXI12 o = zXI11 o := b_out h
  have e11 : zXI11 o = zXI10 o := b_out h
  have e10 : zXI10 o = zXI9 o := b_out h
  have e9 : zXI9 o = zXI8 o := b_out h
  have e8 : zXI8 o = zXI7 o := b_out h
  have e7 : zXI7 o = zXI6 o := b_out h
  have e6 : zXI6 o = zXI5 o := b_out h
  have e5 : zXI5 o = zXI4 o := b_out h
  have e4 : zXI4 o = zXI3 o := b_out h
  have e3 : zXI3 o = zXI2 o := b_out h
  have e2 : zXI2 o = zXI1 o := b_out h
  have e1 : zXI1 o = zM0 o := b_out h
  rw [e12, e11, e10, e9, e8, e7, e6, e5, e4, e3, e2, e1]
  rfl
/-! THE LAW: the world is the script, the reference, the row of one long, the object -/
theorem zBack.mid {a sc sc' t : List va_E} {b n : Nat} (ha : a.length = b) (hn : sc.length = n) (hl : sc'.length = sc.length) : zBack (a ++ sc.map (zRe b) ++ t) b n sc' (a ++ sc'.map (zRe b) ++ t) := by
  subst ha hn
  refine ⟨by simp [hl], fun k => ?_⟩
  rw [zSg_eq, zSg_eq, zSg_eq, List.append_assoc, List.append_assoc]
  by_cases h1 : k < a.length
  · rw [if_neg (by omega), List.getElem?_append_left h1, List.getElem?_append_left h1]
  · rw [List.getElem?_append_right (l₁ := a) (by omega), List.getElem?_append_right (l₁ := a) (by omega)]
    by_cases h2 : k < a.length + sc.length
    · rw [if_pos ⟨by omega, h2⟩, List.getElem?_append_left (by rw [List.length_map]; omega), List.getElem?_map]
    · rw [if_neg (by omega), List.getElem?_append_right (l₁ := sc'.map (zRe a.length)) (by rw [List.length_map]; omega), List.getElem?_append_right (l₁ := sc.map (zRe a.length)) (by rw [List.length_map]; omega), List.length_map, List.length_map, hl]
/-! THE LAW'S OWN JUDGEMENT: the script stands outside the world (local 0 is no cell) -/
section ZV
variable {s : Nat → Int32} {Ns kc nc : Nat} {Z : zS → Prop}
variable {pc : Nat} {ls : zL} {st : List Value} {sh : List va_E} {M : zM} {tgt : Nat} {off : Int}
end ZV
