/-! THE LAW: what is broken as it was sealed, and taken back -/
section UNDO
variable {n oz T t0 nx pc q j m : Nat} {x x0 : zM}
/-- the office of x0 stands at nx of the history -/
def jSv (x0 : zM) (nx : Nat) (x : zM) : Prop := ∀ o k, qUse o k → x (35 + 14 * nx + o) k = x0 (5 + o) k
/-- behind a deed -/
noncomputable def jDn (x : zM) (nx : Nat) (a : Int32 × zM) : zM := (g_X9_settled (zPs (g_X3_note x nx) 5 14 a.2) a.1).2
theorem sv_first (a : Int32 × zM) : jSv x nx (jDn x nx a) := fun o k hu => by
  have h12 := us_12 hu
  have e : jDn x nx a (35 + 14 * nx + o) = g_X3_note x nx (35 + 14 * nx + o) := done_out a nx _ (by omega)
  rw [e]
  exact (e_copy x (35 + 14 * nx) 5 (by omega)).2 o k hu
theorem sv_next (a : Int32 × zM) (h : jSv x0 nx x) (hne : nx ≠ m) (hm : m < 11) : jSv x0 nx (jDn x m a) := fun o k hu => by
  have h12 := us_12 hu
  have e : jDn x m a (35 + 14 * nx + o) = g_X3_note x m (35 + 14 * nx + o) := done_out a m _ (by omega)
  rw [e, note_out hm (by omega)]
  exact h o k hu
/-- k changes since x0 -/
def jUn (x0 : zM) (nx pc k : Nat) (x : zM) : Prop := jSv x0 nx x ∧ x 33 1 = nI ((nx + k) % 11) ∧ x 33 0 = nI (min 10 (pc + k))
theorem un_first (h1 : x 33 1 = nI nx) (h11 : nx < 11) (h0 : x 33 0 = nI pc) (h10 : pc ≤ 10) {a : Int32 × zM} (ha : ¬ a.1 < 0) : jUn x nx pc 1 (jDn x nx a) := by
  rcases done_his a h1 h11 h0 h10 with ⟨q, -⟩ | ⟨-, q1, q0⟩
  · exact absurd q ha
  · refine ⟨sv_first a, q1, ?_⟩
    have e : (if pc = 10 then 10 else pc + 1) = min 10 (pc + 1) := by split <;> omega
    rw [← e]
    exact q0
theorem un_next {k : Nat} (h : jUn x0 nx pc k x) (h11 : nx < 11) (h10 : pc ≤ 10) (hk1 : 1 ≤ k) (hk : k ≤ 9) (hm : m = (nx + k) % 11) (a : Int32 × zM) : (a.1 < 0 → jUn x0 nx pc k (jDn x m a)) ∧ (¬ a.1 < 0 → jUn x0 nx pc (k + 1) (jDn x m a)) := by
  obtain ⟨g1, g2, g3⟩ := h
  have hs := sv_next a g1 (m := m) (by omega) (by omega)
  have h1 : x 33 1 = nI m := by rw [hm]; exact g2
  have dh := done_his (pc := min 10 (pc + k)) a h1 (by omega) g3 (by omega)
  have ed : (g_X9_settled (zPs (g_X3_note x m) 5 14 a.2) a.1).2 = jDn x m a := rfl
  rw [ed] at dh
  clear ed
  generalize jDn x m a = D at dh hs ⊢
  rcases dh with ⟨q, e⟩ | ⟨q, q1, q0⟩
  · refine ⟨fun _ => ⟨hs, ?_, ?_⟩, fun q' => absurd q q'⟩
    · exact (congrFun e 1).trans g2
    · exact (congrFun e 0).trans g3
  · refine ⟨fun q' => absurd q' q, fun _ => ⟨hs, ?_, ?_⟩⟩
    · rw [show (nx + (k + 1)) % 11 = (m + 1) % 11 by omega]
      exact q1
    · have e : (if min 10 (pc + k) = 10 then 10 else min 10 (pc + k) + 1) = min 10 (pc + (k + 1)) := by split <;> omega
      rw [← e]
      exact q0
theorem un_step (hS : jSv x0 nx x) (hn : nx < 11) (hm : m = (nx + (j + 1)) % 11) (h1 : x 33 1 = nI m) (h0 : x 33 0 = nI (q + (j + 1))) (hq : q + (j + 1) ≤ 10) :
    jSv x0 nx (g_X9_undo x m).2 ∧ (g_X9_undo x m).2 33 1 = nI ((nx + j) % 11) ∧ (g_X9_undo x m).2 33 0 = nI (q + j) ∧ (j = 0 → ∀ o k, qUse o k → (g_X9_undo x m).2 (5 + o) k = x0 (5 + o) k) := by
  have hm11 : m < 11 := by omega
  have e : (g_X9_undo x m).2 = g_X4_copyFrom (zU (zU x 33 0 ((x 33 0) - 1)) 33 1 ((((x 33 1) + 11) - 1) - (((x 33 1) + 11) - 1) / 11 * 11)) 5 (35 + 14 * ((m + 10) % 11)) := by
    unfold g_X9_undo d_X9_undo_1 g_X3_takeBack
    rw [if_neg (show ¬ x 33 0 = 0 by rw [h0]; exact nI_ne0 (by omega) (by omega)), if_neg (show ¬ (1 : Int32) = 0 by decide)]
  rw [e, zNx2 h1 hm11, h0, show (m + 10) % 11 = (nx + j) % 11 by omega, show (nI (q + (j + 1)) - 1 : Int32) = nI (q + j) from pk_sub (a := q + (j + 1)) (b := 1) (by omega)]
  have hj : (nx + j) % 11 < 11 := Nat.mod_lt _ (by decide)
  obtain ⟨X, hX⟩ : ∃ X, zU (zU x 33 0 (nI (q + j))) 33 1 (nI ((nx + j) % 11)) = X := ⟨_, rfl⟩
  rw [hX]
  have eo : ∀ o, o ≠ 33 → X o = x o := fun o ho => by rw [← hX, zU_ne ho, zU_ne ho]
  have e1 : X 33 1 = nI ((nx + j) % 11) := by rw [← hX, zU_s]
  have e0 : X 33 0 = nI (q + j) := by rw [← hX, zU_k (by decide), zU_s]
  have hd : 5 + 14 ≤ 35 + 14 * ((nx + j) % 11) := by omega
  obtain ⟨k1, k2⟩ := e_copy X 5 (35 + 14 * ((nx + j) % 11)) (Or.inl hd)
  refine ⟨fun o k hu => ?_, ?_, ?_, fun hj0 o k hu => ?_⟩
  · have h12 := us_12 hu
    rw [k1 _ (by omega), eo _ (by omega)]
    exact hS o k hu
  · rw [k1 33 (by decide)]; exact e1
  · rw [k1 33 (by decide)]; exact e0
  · have h12 := us_12 hu
    subst hj0
    rw [k2 o k hu, eo _ (by omega), show (nx + 0) % 11 = nx by omega]
    exact hS o k hu
/-! the deeds, as the trial wants them -/
variable {N : zM} {v cd : Nat} {y : Int32}
theorem vt_ok (h : ¬ (g_X4_sealVote N v (nI cd) y).1 < 0) : N 7 0 = 1 ∧ ¬ g_X1_isOnRoll (zPl N 7) (nI v) = 0 ∧ g_X9_has (N 7 5) (nI v) = 0 ∧ (g_X4_sealVote N v (nI cd) y).2 8 v = g_X9_sealNumber (nI cd) y (N 7 1) ∧ (g_X4_sealVote N v (nI cd) y).2 7 1 = N 7 1 := by
  unfold g_X4_sealVote at h ⊢
  generalize g_X9_sealNumber (nI cd) y (N 7 1) = s at h ⊢
  unfold g_X4_sealWith at h ⊢
  by_cases c1 : N 7 0 = 1
  case neg => rw [if_neg c1] at h; exact absurd (show ((-5 : Int32)) < 0 by decide) h
  rw [if_pos c1] at h ⊢
  by_cases c2 : g_X1_isOnRoll (zPl N 7) (nI v) = 0
  · rw [if_pos c2] at h; exact absurd (show ((-6 : Int32)) < 0 by decide) h
  rw [if_neg c2] at h ⊢
  by_cases c3 : g_X9_has (N 7 5) (nI v) = 0
  case neg => rw [if_neg c3] at h; exact absurd (show ((-7 : Int32)) < 0 by decide) h
  rw [if_pos c3] at h ⊢
  by_cases c4 : g_X9_has (g_X4_reachedSet N) (nI v) = 0
  · rw [if_pos c4] at h; exact absurd (show ((-8 : Int32)) < 0 by decide) h
  rw [if_neg c4]
  refine ⟨c1, c2, c3, ?_, ?_⟩
  · show zPs N 7 3 (g_X1_putSeal (zPl N 7) v s) 8 v = s
    rw [zPs_in (by decide) (by decide)]
    show zU (zU (zPl N 7) 0 5 _) 1 v s 1 v = s
    exact zU_s
  · show zPs N 7 3 (g_X1_putSeal (zPl N 7) v s) 7 1 = N 7 1
    rw [zPs_in (by decide) (by decide)]
    show zU (zU (zPl N 7) 0 5 _) 1 v s 0 1 = _
    rw [zU_ne (by decide), zU_k (by decide)]
    rfl
theorem cl_1 : (g_X4_closeSealing N).2 7 1 = N 7 1 := by
  unfold g_X4_closeSealing
  split
  · split
    · show zU N 7 0 2 7 1 = N 7 1
      exact zU_k (o := 1) (i := 0) (by decide)
    · rfl
  · rfl
theorem bk_no1 (h : N 8 v = g_X9_sealNumber (nI cd) y (N 7 1)) : (g_X4_breakVote N v cd y).1 ≠ 1 := by
  have e : g_X1_sealFits (zPl N 7) v (nI cd) y = 1 := by
    unfold g_X1_sealFits
    exact if_pos h.symm
  have hf : g_X4_flawOf N v cd ≠ 1 := by
    unfold g_X4_flawOf
    split
    · decide
    · split
      · split <;> decide
      · decide
  unfold g_X4_breakVote
  rw [e, if_neg (show ¬ (1 : Int32) = 0 by decide)]
  split
  · split
    · show ¬ (-6 : Int32) = 1
      decide
    · split
      · show ¬ (-11 : Int32) = 1
        decide
      · split
        · show ¬ (-8 : Int32) = 1
          decide
        · exact hf
  · show ¬ (-10 : Int32) = 1
    decide
theorem te6_0 (h : J n oz T t0 (zPl x 5)) (hv : v < n) (h1 : x 12 0 = 1) (h2 : qB (x 12 3) v = true) (h3 : qB (x 12 5) v = false) : g_X4_tellOf (zPl x 5) v 6 = 0 := by
  have h9 := h.1.2.1
  have z : x 12 6 = 0 ∧ x 12 7 = 0 := h.2.2.2.2.2.2.2.1.1.1.2 h1
  have eR : g_X1_isOnRoll (zPl (zPl x 5) 7) (nI v) = bI (qB (x 12 3) v) := c_onRoll (by omega)
  have eS : g_X1_stateOf (zPl (zPl x 5) 7) (nI v) = (if (g_X9_has (x 12 5) (nI v)) = 0 then (if (g_X9_has (x 12 6) (nI v)) = 0 then (if (g_X9_has (x 12 7) (nI v)) = 0 then 0 else 3) else 2) else 1) := rfl
  rw [te_6, eR, h2, if_neg (show ¬ bI true = 0 by decide), eS, z.1, z.2, has_q (by omega), has_q (by omega), h3, qB_0]
  rfl
/-- a vote is sealed -/
theorem ft_voteU (h : XI n T t0 x) (h1 : x 33 1 = nI nx) (h11 : nx < 11) (h0 : x 33 0 = nI pc) (h10 : pc ≤ 10) (hv : v < n) (hcd : cd < n) {b : Nat} (hb : b ≤ 999) {sl : Nat → Option Nat} {ext : List va_E} :
    fx yy_X9_vote [.int (nI v), .int (nI cd), .int (nI b)] sl ext x (fun a x' => XI n T t0 x' ∧ (¬ a < 0 → jUn x nx pc 1 x' ∧ x' 13 v = g_X9_sealNumber (nI cd) (nI b) (x' 12 1) ∧ x 12 0 = 1 ∧ qB (x 12 3) v = true ∧ qB (x 12 5) v = false)) := by
  obtain ⟨e0, -, h9⟩ := xi_n h
  refine ⟨_, _, c_X9_vote x sl ext n nx v cd (nI b) e0 h9 (xi_hc h) h1 h11 hv hcd (nI_pos (by omega)) (nI_le (b := 999) hb (by decide)), xi_done h h1 h11 (d_vote (xi_note h.1 nx) hv _ _), fun ha => ?_⟩
  have ea : (g_X9_vote x n nx v cd (nI b)).1 = (g_X4_sealVote (zPl (g_X3_note x nx) 5) v (nI cd) (nI b)).1 := settled_1 _ _
  rw [ea] at ha
  have hN : ∀ o, o < 14 → zPl (g_X3_note x nx) 5 o = x (5 + o) := fun o ho => note_cell nx ho
  have N7 := hN 7 (by decide)
  obtain ⟨g1, g2, g3, g4, g5⟩ := vt_ok ha
  have eR : g_X1_isOnRoll (zPl (zPl (g_X3_note x nx) 5) 7) (nI v) = bI (qB (zPl (g_X3_note x nx) 5 7 3) v) := c_onRoll (by omega)
  rw [eR] at g2
  rw [has_q (by omega)] at g3
  rw [N7] at g1 g2 g3 g4 g5
  have d7 : (g_X9_vote x n nx v cd (nI b)).2 12 = (g_X4_sealVote (zPl (g_X3_note x nx) 5) v (nI cd) (nI b)).2 7 := done_use (g_X4_sealVote (zPl (g_X3_note x nx) 5) v (nI cd) (nI b)) nx 7 (by decide)
  have d8 : (g_X9_vote x n nx v cd (nI b)).2 13 = (g_X4_sealVote (zPl (g_X3_note x nx) 5) v (nI cd) (nI b)).2 8 := done_use (g_X4_sealVote (zPl (g_X3_note x nx) 5) v (nI cd) (nI b)) nx 8 (by decide)
  refine ⟨un_first h1 h11 h0 h10 ha, ?_, g1, ?_, ?_⟩
  · rw [d7, d8, g4, g5]
  · cases q : qB (x (5 + 7) 3) v
    · rw [q] at g2; exact absurd rfl g2
    · rfl
  · cases q : qB (x (5 + 7) 5) v
    · rfl
    · rw [q] at g3; exact absurd g3 (by decide)
theorem ft_closeU (h : XI n T t0 x) {k : Nat} (hu : jUn x0 nx pc k x) (h11 : nx < 11) (h10 : pc ≤ 10) (hk1 : 1 ≤ k) (hk : k ≤ 9) {sl : Nat → Option Nat} {ext : List va_E} :
    fx yy_X9_close [] sl ext x (fun a x' => XI n T t0 x' ∧ (a < 0 → jUn x0 nx pc k x') ∧ (¬ a < 0 → jUn x0 nx pc (k + 1) x') ∧ x' 13 = x 13 ∧ x' 12 1 = x 12 1) := by
  have hm : (nx + k) % 11 < 11 := Nat.mod_lt _ (by decide)
  obtain ⟨m, em⟩ : ∃ m, m = (nx + k) % 11 := ⟨_, rfl⟩
  have h1 : x 33 1 = nI m := by rw [em]; exact hu.2.1
  have hm11 : m < 11 := by omega
  obtain ⟨k1, k2⟩ := un_next hu h11 h10 hk1 hk em (g_X4_closeSealing (zPl (g_X3_note x m) 5))
  have ea : (g_X9_close x m).1 = (g_X4_closeSealing (zPl (g_X3_note x m) 5)).1 := settled_1 _ _
  have ed : (g_X9_close x m).2 = jDn x m (g_X4_closeSealing (zPl (g_X3_note x m) 5)) := rfl
  rw [← ea, ← ed] at k1 k2
  have d7 : (g_X9_close x m).2 12 = (g_X4_closeSealing (zPl (g_X3_note x m) 5)).2 7 := done_use (g_X4_closeSealing (zPl (g_X3_note x m) 5)) m 7 (by decide)
  have d8 : (g_X9_close x m).2 13 = (g_X4_closeSealing (zPl (g_X3_note x m) 5)).2 8 := done_use (g_X4_closeSealing (zPl (g_X3_note x m) 5)) m 8 (by decide)
  refine ⟨_, _, c_X9_close x sl ext m h1 hm11, xi_done h h1 hm11 (d_close (xi_note h.1 m)), k1, k2, ?_, ?_⟩
  · rw [d8, fr_X4_closeSealing _ 8 (by decide)]
    exact note_cell m (by decide)
  · rw [d7, cl_1]
    exact congrFun (note_cell m (by decide)) 1
theorem ft_breakU (h : XI n T t0 x) {k : Nat} (hu : jUn x0 nx pc k x) (h11 : nx < 11) (h10 : pc ≤ 10) (hk1 : 1 ≤ k) (hk : k ≤ 9) (hv : v < n) (hcd : cd < n) {b : Nat} (hb : b ≤ 999) (hs : x 13 v = g_X9_sealNumber (nI cd) (nI b) (x 12 1)) {sl : Nat → Option Nat} {ext : List va_E} :
    fx yy_X9_breakSeal [.int (nI v), .int (nI cd), .int (nI b)] sl ext x (fun a x' => XI n T t0 x' ∧ (a < 0 → jUn x0 nx pc k x') ∧ (¬ a < 0 → jUn x0 nx pc (k + 1) x') ∧ ¬ a = 1) := by
  obtain ⟨e0, -, h9⟩ := xi_n h
  have hm : (nx + k) % 11 < 11 := Nat.mod_lt _ (by decide)
  obtain ⟨m, em⟩ : ∃ m, m = (nx + k) % 11 := ⟨_, rfl⟩
  have h1 : x 33 1 = nI m := by rw [em]; exact hu.2.1
  have hm11 : m < 11 := by omega
  obtain ⟨k1, k2⟩ := un_next hu h11 h10 hk1 hk em (g_X4_breakVote (zPl (g_X3_note x m) 5) v cd (nI b))
  have ea : (g_X9_breakSeal x n m v cd (nI b)).1 = (g_X4_breakVote (zPl (g_X3_note x m) 5) v cd (nI b)).1 := settled_1 _ _
  have ed : (g_X9_breakSeal x n m v cd (nI b)).2 = jDn x m (g_X4_breakVote (zPl (g_X3_note x m) 5) v cd (nI b)) := rfl
  rw [← ea, ← ed] at k1 k2
  refine ⟨_, _, c_X9_breakSeal x sl ext n m v cd (nI b) e0 h9 (xi_hc h) h1 hm11 hv hcd (nI_pos (by omega)) (nI_le (b := 999) hb (by decide)), xi_done h h1 hm11 (d_break (xi_note h.1 m) hv hcd _), k1, k2, ?_⟩
  rw [ea]
  refine bk_no1 ?_
  have n7 : zPl (g_X3_note x m) 5 7 = x 12 := note_cell m (by decide)
  have n8 : zPl (g_X3_note x m) 5 8 = x 13 := note_cell m (by decide)
  rw [n7, n8]
  exact hs
end UNDO
