/-! THE OBJECT: its office, its history -/
def XI (n T t0 : Nat) (x : zM) : Prop := JJ n T t0 (zPl x 5) ∧ (∃ nx, nx < 11 ∧ x 33 1 = nI nx) ∧ ∃ pc, pc ≤ 10 ∧ x 33 0 = nI pc
section OBJ
variable {n oz T T' t0 nx pc : Nat} {x : zM}
theorem XI.up (h : XI n T t0 x) (hT : T ≤ T') : XI n T' t0 x := ⟨h.1.up hT, h.2⟩
theorem note_use (nx : Nat) : ∀ o k, qUse o k → zPl (g_X3_note x nx) 5 o k = zPl x 5 o k := fun o k hu => by
  have := us_12 hu
  exact congrFun (fr_X3_note x nx (5 + o) (by omega)) k
theorem note_cell (nx : Nat) {o : Nat} (ho : o < 14) : zPl (g_X3_note x nx) 5 o = zPl x 5 o := fr_X3_note x nx (5 + o) (by omega)
/-- behind a deed: what the history has, and the office -/
theorem done_use (a : Int32 × zM) (nx : Nat) : ∀ o, o < 14 → zPl (g_X9_settled (zPs (g_X3_note x nx) 5 14 a.2) a.1).2 5 o = a.2 o := fun o ho => by
  have e1 : zPs (g_X3_note x nx) 5 14 a.2 (5 + o) = a.2 o := by
    rw [zPs_in (by omega) (by omega), show 5 + o - 5 = o by omega]
  unfold g_X9_settled
  split
  · exact e1
  · exact (fr_X3_keepNote _ (5 + o) (by omega)).trans e1
theorem done_out (a : Int32 × zM) (nx : Nat) : ∀ o, 34 ≤ o → (g_X9_settled (zPs (g_X3_note x nx) 5 14 a.2) a.1).2 o = g_X3_note x nx o := fun o ho => by
  have e1 : zPs (g_X3_note x nx) 5 14 a.2 o = g_X3_note x nx o := zPs_out (by omega)
  unfold g_X9_settled
  split
  · exact e1
  · exact (fr_X3_keepNote _ o (by omega)).trans e1
theorem done_his (a : Int32 × zM) (hx : x 33 1 = nI nx) (h11 : nx < 11) (hp : x 33 0 = nI pc) (h10 : pc ≤ 10) :
    (a.1 < 0 ∧ (g_X9_settled (zPs (g_X3_note x nx) 5 14 a.2) a.1).2 33 = x 33) ∨
    (¬ a.1 < 0 ∧ (g_X9_settled (zPs (g_X3_note x nx) 5 14 a.2) a.1).2 33 1 = nI ((nx + 1) % 11) ∧ (g_X9_settled (zPs (g_X3_note x nx) 5 14 a.2) a.1).2 33 0 = nI (if pc = 10 then 10 else pc + 1)) := by
  have e1 : zPs (g_X3_note x nx) 5 14 a.2 33 = x 33 := by rw [zPs_out (by omega)]; exact fr_X3_note x nx 33 (by decide)
  unfold g_X9_settled
  by_cases c : a.1 < 0
  · rw [if_pos c]
    exact Or.inl ⟨c, e1⟩
  · rw [if_neg c]
    obtain ⟨k1, k0, -⟩ := e_keepNote (X := zPs (g_X3_note x nx) 5 14 a.2) (by rw [e1]; exact hx) h11 (by rw [e1]; exact hp) h10
    exact Or.inr ⟨c, k1, k0⟩
theorem settled_1 (M : zM) (a : Int32) : (g_X9_settled M a).1 = a := by
  unfold g_X9_settled
  split <;> rfl
theorem xi_done (h : XI n T t0 x) (hx : x 33 1 = nI nx) (h11 : nx < 11) {a : Int32 × zM} (ha : JJ n T' t0 a.2) : XI n T' t0 (g_X9_settled (zPs (g_X3_note x nx) 5 14 a.2) a.1).2 := by
  obtain ⟨h1, -, pc, h10, hp⟩ := h
  refine ⟨ha.pt fun o k hu => congrFun (done_use a nx o (by have := us_12 hu; omega)) k, ?_⟩
  rcases done_his a hx h11 hp h10 with ⟨-, q⟩ | ⟨-, q1, q0⟩
  · rw [q]
    exact ⟨⟨nx, h11, hx⟩, pc, h10, hp⟩
  · exact ⟨⟨_, Nat.mod_lt _ (by decide), q1⟩, _, by split <;> omega, q0⟩
theorem xi_note (h : JJ n T t0 (zPl x 5)) (nx : Nat) : JJ n T t0 (zPl (g_X3_note x nx) 5) := h.pt (note_use nx)
theorem xi_noteJ (h : J n oz T t0 (zPl x 5)) (nx : Nat) : J n oz T t0 (zPl (g_X3_note x nx) 5) := h.pt (note_use nx)
theorem xi_n (h : XI n T t0 x) : x 5 0 = nI n ∧ 2 ≤ n ∧ n ≤ 9 := by
  obtain ⟨⟨oz, h1, -⟩, -⟩ := h
  exact ⟨h1.2.2, h1.1, h1.2.1⟩
theorem xi_hc (h : XI n T t0 x) : zHc (zPl x 5) := by
  obtain ⟨⟨oz, h1, -, -, -, -, -, h7, -⟩, -⟩ := h
  exact h7.hc h1.2.1
/-! the face, as it is called -/
variable {sl : Nat → Option Nat} {ext : List va_E} {r cd o2 : Nat}
/-- an answer, and the object behind it -/
def fx (Yc : zY) (av : List Value) (sl : Nat → Option Nat) (ext : List va_E) (x : zM) (P : Int32 → zM → Prop) : Prop := ∃ v x', zC Yc 0 0 (.ref 0 :: av) (sh_X sl ext) x (some (.int v)) (sh_X sl ext) x' ∧ P v x'
theorem ft_call (h : XI n T t0 x) (hT : T < 3000) (hr : r < n) : fx yy_X9_call [.int (nI r)] sl ext x (fun _ x' => XI n (T + 1) t0 x') := by
  obtain ⟨e0, -, h9⟩ := xi_n h
  obtain ⟨nx, h11, hx⟩ := h.2.1
  exact ⟨_, _, c_X9_call x sl ext n nx r e0 h9 hx h11 hr, xi_done h hx h11 (d_call (xi_note h.1 nx) hT hr)⟩
theorem ft_seal (h : XI n T t0 x) (hr : r < n) {b : Nat} (hb : b ≤ 65535) : fx yy_X9_seal [.int (nI r), .int (nI b)] sl ext x (fun _ x' => XI n T t0 x') := by
  obtain ⟨e0, -, h9⟩ := xi_n h
  obtain ⟨nx, h11, hx⟩ := h.2.1
  exact ⟨_, _, c_X9_seal x sl ext n nx r (nI b) e0 h9 (xi_hc h) hx h11 hr (nI_pos (by omega)) (nI_le (b := 65535) hb (by decide)), xi_done h hx h11 (d_seal (xi_note h.1 nx) hr _)⟩
theorem ft_vote (h : XI n T t0 x) (hr : r < n) (hcd : cd < n) {b : Nat} (hb : b ≤ 999) : fx yy_X9_vote [.int (nI r), .int (nI cd), .int (nI b)] sl ext x (fun _ x' => XI n T t0 x') := by
  obtain ⟨e0, -, h9⟩ := xi_n h
  obtain ⟨nx, h11, hx⟩ := h.2.1
  exact ⟨_, _, c_X9_vote x sl ext n nx r cd (nI b) e0 h9 (xi_hc h) hx h11 hr hcd (nI_pos (by omega)) (nI_le (b := 999) hb (by decide)), xi_done h hx h11 (d_vote (xi_note h.1 nx) hr _ _)⟩
theorem ft_close (h : XI n T t0 x) : fx yy_X9_close [] sl ext x (fun _ x' => XI n T t0 x') := by
  obtain ⟨nx, h11, hx⟩ := h.2.1
  exact ⟨_, _, c_X9_close x sl ext nx hx h11, xi_done h hx h11 (d_close (xi_note h.1 nx))⟩
theorem ft_break (h : XI n T t0 x) (hr : r < n) (hcd : cd < n) {b : Nat} (hb : b ≤ 999) : fx yy_X9_breakSeal [.int (nI r), .int (nI cd), .int (nI b)] sl ext x (fun _ x' => XI n T t0 x') := by
  obtain ⟨e0, -, h9⟩ := xi_n h
  obtain ⟨nx, h11, hx⟩ := h.2.1
  exact ⟨_, _, c_X9_breakSeal x sl ext n nx r cd (nI b) e0 h9 (xi_hc h) hx h11 hr hcd (nI_pos (by omega)) (nI_le (b := 999) hb (by decide)), xi_done h hx h11 (d_break (xi_note h.1 nx) hr hcd _)⟩
theorem ft_count (h : XI n T t0 x) : fx yy_X9_count [] sl ext x (fun _ x' => XI n T t0 x') := by
  obtain ⟨e0, -, h9⟩ := xi_n h
  obtain ⟨nx, h11, hx⟩ := h.2.1
  obtain ⟨oz, hJ⟩ := id h.1
  exact ⟨_, _, c_X9_count x sl ext n oz nx e0 h9 hJ.2.2.2.2.2.2.2.2.1.2.1 hJ.2.2.2.2.2.2.2.2.1.1 (xi_hc h) hx h11, xi_done h hx h11 (d_count (xi_noteJ hJ nx))⟩
theorem ft_recount (h : XI n T t0 x) (hr : r < n) : fx yy_X9_recount [.int (nI r)] sl ext x (fun _ x' => XI n T t0 x') := by
  obtain ⟨e0, -, h9⟩ := xi_n h
  obtain ⟨nx, h11, hx⟩ := h.2.1
  obtain ⟨oz, hJ⟩ := id h.1
  exact ⟨_, _, c_X9_recount x sl ext n oz nx r e0 h9 hJ.2.2.2.2.2.2.2.2.1.2.1 hJ.2.2.2.2.2.2.2.2.1.1 hx h11 hr, xi_done h hx h11 (d_recount (xi_noteJ hJ nx) r)⟩
theorem ft_giveUp (h : XI n T t0 x) : fx yy_X9_giveUp [] sl ext x (fun _ x' => XI n T t0 x') := by
  obtain ⟨nx, h11, hx⟩ := h.2.1
  exact ⟨_, _, c_X9_giveUp x sl ext nx hx h11, xi_done h hx h11 (d_give (xi_note h.1 nx))⟩
theorem ft_setUp (h : XI n T t0 x) (hr : r < n) (b : Bool) : fx yy_X9_setUp [.int (nI r), .int (bI b)] sl ext x (fun _ x' => XI n T t0 x') := by
  obtain ⟨e0, -, h9⟩ := xi_n h
  obtain ⟨nx, h11, hx⟩ := h.2.1
  exact ⟨_, _, c_X9_setUp x sl ext n nx r (bI b) e0 h9 hx h11 hr, xi_done h hx h11 (d_up (xi_note h.1 nx) hr b)⟩
theorem ft_setLink (h : XI n T t0 x) (hr : r < n) (ho : o2 < n) (b : Int32) : fx yy_X9_setLink [.int (nI r), .int (nI o2), .int b] sl ext x (fun _ x' => XI n T t0 x') := by
  obtain ⟨e0, -, h9⟩ := xi_n h
  obtain ⟨nx, h11, hx⟩ := h.2.1
  exact ⟨_, _, c_X9_setLink x sl ext n nx r o2 b e0 h9 hx h11 hr ho, xi_done h hx h11 (d_link (xi_note h.1 nx) hr ho b)⟩
theorem ft_setFresh (h : XI n T t0 x) (hr : r < n) {b : Nat} (hb : b ≤ 999) : fx yy_X9_setFresh [.int (nI r), .int (nI b)] sl ext x (fun _ x' => XI n T t0 x') := by
  obtain ⟨e0, -, h9⟩ := xi_n h
  obtain ⟨nx, h11, hx⟩ := h.2.1
  exact ⟨_, _, c_X9_setFresh x sl ext n nx r (nI b) e0 h9 hx h11 hr (nI_pos (by omega)) (nI_le (b := 999) hb (by decide)), xi_done h hx h11 (d_fresh (xi_note h.1 nx) r _)⟩
theorem ft_set (h : XI n T t0 x) {w b : Nat} (hw : w < 3) (hb : (w = 0 ∧ 1 ≤ b ∧ b ≤ 4) ∨ (w ≠ 0 ∧ b ≤ 1)) : fx yy_X9_set [.int (nI w), .int (nI b)] sl ext x (fun _ x' => XI n T t0 x') := by
  obtain ⟨nx, h11, hx⟩ := h.2.1
  have hr : ¬ nI b < zLo w ∧ ¬ zHi w < nI b := by
    have : ∀ w, w < 3 → ∀ b, b < 5 → ((w = 0 ∧ 1 ≤ b ∧ b ≤ 4) ∨ (w ≠ 0 ∧ b ≤ 1)) → ¬ nI b < zLo w ∧ ¬ zHi w < nI b := by decide
    exact this w hw b (by omega) hb
  refine ⟨_, _, c_X9_set x sl ext nx w (nI b) hx h11 hw hr.1 hr.2, xi_done h hx h11 (d_set (xi_note h.1 nx) w _ fun e => ⟨b, ?_, ?_, rfl⟩)⟩ <;> omega
end OBJ
