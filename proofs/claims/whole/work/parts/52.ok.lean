/-! THE CALLS, at the whole object and the whole reference: changes -/
def xE (T : Nat) (sl : Nat → Option Nat) (ext : List va_E) (gq : Nat → Nat) (x m : zM) : Prop := ∃ n oz nx pc ty rp, xR n oz nx pc ty rp T sl ext gq x m
theorem qStep.up {n T T' : Nat} {N : zM} {a : Int32 × zM} {re : Int32} {b : Int32 × zM} (h : qStep n T N a re b) (hT : T ≤ T') : qStep n T' N a re b := by
  rcases h with h | ⟨h1, h2, h3, oz, h4⟩
  · exact Or.inl h
  · exact Or.inr ⟨h1, h2, h3, oz, h4.up hT⟩
section OK
variable {n oz nx pc ty rp T : Nat} {sl : Nat → Option Nat} {ext : List va_E} {gq : Nat → Nat} {x m : zM}
theorem ok_call (h : xR n oz nx pc ty rp T sl ext gq x m) (hT : T < 2 ^ 28) {r : Nat} (hr : r < n) : (g_X9_call x n nx r).1 = (g_X10_call m gq pc n r).1 ∧ (g_X10_call m gq pc n r).2 0 0 = 0 ∧ xE (T + 601) sl ext (h_X10_call m gq pc n r) (g_X9_call x n nx r).2 (g_X10_call m gq pc n r).2 := by
  obtain ⟨e1, e2, oz', nx', pc', e3⟩ := lift h (T' := T + 601) (by omega) (g_X4_callBallot (zPl (g_X3_note x nx) 5) n r) (fun M => g_X10_noCall M n r) (fun M => g_X10_callIt M n r) (fun M => zKe.of (fun o h1 _ => fr_X10_callIt M n r o h1) zKe.rf) (fun M hM => (st_call (T := T) (by rw [hM]; exact rl_note h.1.2 nx) (by omega) hr).up (by omega))
  exact ⟨e1, e2, n, oz', nx', pc', ty, rp, e3⟩
theorem ok_seal (h : xR n oz nx pc ty rp T sl ext gq x m) {r : Nat} (hr : r < n) (v : Int32) : (g_X9_seal x n nx r v).1 = (g_X10_seal m gq pc n r v).1 ∧ (g_X10_seal m gq pc n r v).2 0 0 = 0 ∧ xE (T + 601) sl ext (h_X10_seal m gq pc n r v) (g_X9_seal x n nx r v).2 (g_X10_seal m gq pc n r v).2 := by
  obtain ⟨e1, e2, oz', nx', pc', e3⟩ := lift h (T' := T + 601) (by omega) (g_X4_sealWith (zPl (g_X3_note x nx) 5) r v) (fun M => g_X10_noSeal M r) (fun M => g_X10_sealIt M n r v) (fun M => zKe.of (fun o h1 _ => fr_X10_sealIt M n r v o h1) zKe.rf) (fun M hM => (st_seal (T := T) (oz := oz) (by rw [hM]; exact rl_note h.1.2 nx) hr v).up (by omega))
  exact ⟨e1, e2, n, oz', nx', pc', ty, rp, e3⟩
theorem st_vote {N M : zM} (h : rl n oz T N (M 1)) (hT : T < 2 ^ 30) {r cd b : Nat} (hr : r < n) (hcd : cd < n) (hb : b ≤ 999) : qStep n T N (g_X4_sealVote N r (nI cd) (nI b)) (g_X10_noSeal M r) (g_X10_sealIt M n r (g_X10_sealOf (nI cd) (nI b) (M 1 5))) := by
  have hs := st_seal h hr (g_X9_sealNumber (nI cd) (nI b) (N 7 1))
  obtain ⟨a1, a2, a3, a4, a5, a6, a7, a8, a9, b1, b2, b3, b4, b5⟩ := id h
  have h9 : n ≤ 9 := a1.1
  show qStep n T N (g_X4_sealWith N r (g_X9_sealNumber (nI cd) (nI b) (N 7 1))) _ _
  by_cases hp : N 7 0 = 0
  · rcases hs with q | ⟨q, _⟩
    · exact Or.inl q
    · unfold g_X10_noSeal at q
      rw [a9.1, if_neg (by rw [hp]; decide)] at q
      exact absurd q (by decide)
  · obtain ⟨t, ht, et, -⟩ := b5.2.1 hp
    rw [(a9.2.2 hp).1, et, seal_eq (by omega) hb (by omega)]
    rw [et] at hs
    exact hs
theorem ok_vote (h : xR n oz nx pc ty rp T sl ext gq x m) (hT : T < 2 ^ 28) {r cd b : Nat} (hr : r < n) (hcd : cd < n) (hb : b ≤ 999) : (g_X9_vote x n nx r cd (nI b)).1 = (g_X10_vote m gq pc n r cd (nI b)).1 ∧ (g_X10_vote m gq pc n r cd (nI b)).2 0 0 = 0 ∧ xE (T + 601) sl ext (h_X10_vote m gq pc n r cd (nI b)) (g_X9_vote x n nx r cd (nI b)).2 (g_X10_vote m gq pc n r cd (nI b)).2 := by
  obtain ⟨e1, e2, oz', nx', pc', e3⟩ := lift h (T' := T + 601) (by omega) (g_X4_sealVote (zPl (g_X3_note x nx) 5) r (nI cd) (nI b)) (fun M => g_X10_noSeal M r) (fun M => g_X10_sealIt M n r (g_X10_sealOf (nI cd) (nI b) (M 1 5))) (fun M => zKe.of (fun o h1 _ => fr_X10_sealIt M n r _ o h1) zKe.rf) (fun M hM => (st_vote (T := T) (oz := oz) (by rw [hM]; exact rl_note h.1.2 nx) (by omega) hr hcd hb).up (by omega))
  exact ⟨e1, e2, n, oz', nx', pc', ty, rp, e3⟩
theorem ok_close (h : xR n oz nx pc ty rp T sl ext gq x m) : (g_X9_close x nx).1 = (g_X10_close m gq pc n).1 ∧ (g_X10_close m gq pc n).2 0 0 = 0 ∧ xE (T + 601) sl ext (h_X10_close m gq pc n) (g_X9_close x nx).2 (g_X10_close m gq pc n).2 := by
  obtain ⟨e1, e2, oz', nx', pc', e3⟩ := lift h (T' := T + 601) (by omega) (g_X4_closeSealing (zPl (g_X3_note x nx) 5)) (fun M => g_X10_noClose M n) (fun M => g_X10_closeIt M n) (fun M => zKe.of (fun o h1 _ => fr_X10_closeIt M n o h1) zKe.rf) (fun M hM => (st_close (T := T) (oz := oz) (by rw [hM]; exact rl_note h.1.2 nx)).up (by omega))
  exact ⟨e1, e2, n, oz', nx', pc', ty, rp, e3⟩
theorem ok_breakSeal (h : xR n oz nx pc ty rp T sl ext gq x m) (hT : T < 2 ^ 28) {r cd b : Nat} (hr : r < n) (hcd : cd < n) (hb : b ≤ 999) : (g_X9_breakSeal x n nx r cd (nI b)).1 = (g_X10_breakSeal m gq pc n r cd (nI b)).1 ∧ (g_X10_breakSeal m gq pc n r cd (nI b)).2 0 0 = 0 ∧ xE (T + 601) sl ext (h_X10_breakSeal m gq pc n r cd (nI b)) (g_X9_breakSeal x n nx r cd (nI b)).2 (g_X10_breakSeal m gq pc n r cd (nI b)).2 := by
  obtain ⟨e1, e2, oz', nx', pc', e3⟩ := lift h (T' := T + 601) (by omega) (g_X4_breakVote (zPl (g_X3_note x nx) 5) r cd (nI b)) (fun M => g_X10_noBreak M r) (fun M => g_X10_breakIt M r cd (nI b)) (fun M => zKe.of (fun o h1 _ => fr_X10_breakIt M r cd _ o h1) zKe.rf) (fun M hM => (st_break (T := T) (oz := oz) (by rw [hM]; exact rl_note h.1.2 nx) (by omega) hr hcd hb).up (by omega))
  exact ⟨e1, e2, n, oz', nx', pc', ty, rp, e3⟩
theorem ok_count (h : xR n oz nx pc ty rp T sl ext gq x m) : (g_X9_count x n oz nx).1 = (g_X10_count m gq pc n oz).1 ∧ (g_X10_count m gq pc n oz).2 0 0 = 0 ∧ xE (T + 601) sl ext (h_X10_count m gq pc n oz) (g_X9_count x n oz nx).2 (g_X10_count m gq pc n oz).2 := by
  obtain ⟨e1, e2, oz', nx', pc', e3⟩ := lift h (T' := T + 601) (by omega) (g_X4_countVotes (zPl (g_X3_note x nx) 5) n oz) (fun M => g_X10_noCount M n) (fun M => g_X10_countIt M n oz) (fun M => kp_X10_countIt (ty := 0) M n oz (by decide) zKe.rf) (fun M hM => (st_count (T := T) (by rw [hM]; exact rl_note h.1.2 nx)).up (by omega))
  exact ⟨e1, e2, n, oz', nx', pc', ty, rp, e3⟩
theorem ok_recount (h : xR n oz nx pc ty rp T sl ext gq x m) {r : Nat} (hr : r < n) : (g_X9_recount x n oz nx r).1 = (g_X10_recount m gq pc n oz r).1 ∧ (g_X10_recount m gq pc n oz r).2 0 0 = 0 ∧ xE (T + 601) sl ext (h_X10_recount m gq pc n oz r) (g_X9_recount x n oz nx r).2 (g_X10_recount m gq pc n oz r).2 := by
  obtain ⟨e1, e2, oz', nx', pc', e3⟩ := lift h (T' := T + 601) (by omega) (g_X4_askRecount (zPl (g_X3_note x nx) 5) n oz r) (fun M => g_X10_noRecount M oz r) (fun M => g_X10_recountIt M n oz) (fun M => zKe.of (fun o h1 _ => fr_X10_recountIt M n oz o h1) zKe.rf) (fun M hM => (st_recount (T := T) (by rw [hM]; exact rl_note h.1.2 nx) hr).up (by omega))
  exact ⟨e1, e2, n, oz', nx', pc', ty, rp, e3⟩
theorem ok_giveUp (h : xR n oz nx pc ty rp T sl ext gq x m) (hT : T < 2 ^ 28) : (g_X9_giveUp x nx).1 = (g_X10_giveUp m gq pc).1 ∧ (g_X10_giveUp m gq pc).2 0 0 = 0 ∧ xE (T + 601) sl ext (h_X10_giveUp m gq pc) (g_X9_giveUp x nx).2 (g_X10_giveUp m gq pc).2 := by
  obtain ⟨e1, e2, oz', nx', pc', e3⟩ := lift h (T' := T + 601) (by omega) (g_X4_giveBallotUp (zPl (g_X3_note x nx) 5)) (fun M => if M 1 4 = 0 then 17 else 0) (fun M => g_X10_giveIt M) (fun M => zKe.of (fun o h1 _ => fr_X10_giveIt M o h1) zKe.rf) (fun M hM => (st_give (T := T) (oz := oz) (by rw [hM]; exact rl_note h.1.2 nx) (by omega)).up (by omega))
  exact ⟨e1, e2, n, oz', nx', pc', ty, rp, e3⟩
theorem ok_setUp (h : xR n oz nx pc ty rp T sl ext gq x m) {r : Nat} (hr : r < n) (b : Bool) : (g_X9_setUp x n nx r (bI b)).1 = (g_X10_setUp m gq pc n r (bI b)).1 ∧ (g_X10_setUp m gq pc n r (bI b)).2 0 0 = 0 ∧ xE (T + 601) sl ext (h_X10_setUp m gq pc n r (bI b)) (g_X9_setUp x n nx r (bI b)).2 (g_X10_setUp m gq pc n r (bI b)).2 := by
  obtain ⟨e1, e2, oz', nx', pc', e3⟩ := lift h (T' := T + 601) (by omega) (g_X4_changeUp (zPl (g_X3_note x nx) 5) n r (bI b)) (fun M => if g_X10_isUp M r = bI b then 16 else 0) (fun M => g_X10_upIt M n r (bI b)) (fun M => zKe.of (fun o h1 _ => fr_X10_upIt M n r _ o h1) zKe.rf) (fun M hM => (st_up (T := T) (oz := oz) (by rw [hM]; exact rl_note h.1.2 nx) hr b).up (by omega))
  exact ⟨e1, e2, n, oz', nx', pc', ty, rp, e3⟩
theorem ok_setLink (h : xR n oz nx pc ty rp T sl ext gq x m) {r o : Nat} (hr : r < n) (ho : o < n) (b : Bool) : (g_X9_setLink x n nx r o (bI b)).1 = (g_X10_setLink m gq pc n r o (bI b)).1 ∧ (g_X10_setLink m gq pc n r o (bI b)).2 0 0 = 0 ∧ xE (T + 601) sl ext (h_X10_setLink m gq pc n r o (bI b)) (g_X9_setLink x n nx r o (bI b)).2 (g_X10_setLink m gq pc n r o (bI b)).2 := by
  obtain ⟨e1, e2, oz', nx', pc', e3⟩ := lift h (T' := T + 601) (by omega) (g_X4_changeLink (zPl (g_X3_note x nx) 5) r o (bI b)) (fun M => g_X10_noLink M r (nI o) (bI b)) (fun M => (g_X10_ones (g_X10_of (g_X10_link M r o (bI b)) r 5), g_X10_link M r o (bI b))) (fun M => zKe.of (fun q h1 _ => fr_X10_link M r o _ q h1) zKe.rf) (fun M hM => (st_link (T := T) (oz := oz) (by rw [hM]; exact rl_note h.1.2 nx) hr ho b).up (by omega))
  exact ⟨e1, e2, n, oz', nx', pc', ty, rp, e3⟩
theorem ok_setFresh (h : xR n oz nx pc ty rp T sl ext gq x m) {r : Nat} (hr : r < n) {v : Int32} (hv : ∃ f, f ≤ 999 ∧ v = nI f) : (g_X9_setFresh x n nx r v).1 = (g_X10_setFresh m gq pc n r v).1 ∧ (g_X10_setFresh m gq pc n r v).2 0 0 = 0 ∧ xE (T + 601) sl ext (h_X10_setFresh m gq pc n r v) (g_X9_setFresh x n nx r v).2 (g_X10_setFresh m gq pc n r v).2 := by
  have := lift h (T' := T + 601) (by omega) (g_X4_changeFresh (zPl (g_X3_note x nx) 5) r v) (fun _ => 0) (fun M => (g_X10_of M r 1, g_X10_put M r 1 v)) (fun M => zKe.of (fun q h1 _ => zU_ne h1) zKe.rf) (fun M hM => by
    obtain ⟨q1, q2, q3⟩ := st_fresh (T := T + 601) (oz := oz) (M := M) (N := zPl (g_X3_note x nx) 5) (by rw [hM]; exact (rl_note h.1.2 nx).up (by omega)) hr hv
    exact Or.inr ⟨rfl, q1, q2, oz, q3⟩)
  simp only [if_true] at this
  obtain ⟨e1, e2, oz', nx', pc', e3⟩ := this
  exact ⟨e1, e2, n, oz', nx', pc', ty, rp, e3⟩
theorem ok_set (h : xR n oz nx pc ty rp T sl ext gq x m) {w : Nat} (hw : w < 3) {v : Int32} (hv : ∃ f, f ≤ 9 ∧ v = nI f) : (g_X9_set x nx w v).1 = (g_X10_set m gq pc w v).1 ∧ (g_X10_set m gq pc w v).2 0 0 = 0 ∧ xE (T + 601) sl ext (h_X10_set m gq pc w v) (g_X9_set x nx w v).2 (g_X10_set m gq pc w v).2 := by
  have := lift h (T' := T + 601) (by omega) (g_X4_changeSetting (zPl (g_X3_note x nx) 5) w v) (fun _ => 0) (fun M => (M 1 (1 + w), zU M 1 (1 + w) v)) (fun M => zKe.of (fun q h1 _ => zU_ne h1) zKe.rf) (fun M hM => by
    obtain ⟨q1, q2, q3⟩ := st_set (T := T + 601) (oz := oz) (n := n) (M := M) (N := zPl (g_X3_note x nx) 5) (by rw [hM]; exact (rl_note h.1.2 nx).up (by omega)) hw hv
    exact Or.inr ⟨rfl, q1, q2, oz, q3⟩)
  simp only [if_true] at this
  obtain ⟨e1, e2, oz', nx', pc', e3⟩ := this
  exact ⟨e1, e2, n, oz', nx', pc', ty, rp, e3⟩
theorem ok_undo (h : xR n oz nx pc ty rp T sl ext gq x m) : (g_X9_undo x nx).1 = (g_X10_undo m gq pc).1 ∧ (g_X10_undo m gq pc).2 0 0 = 0 ∧ xE (T + 601) sl ext gq (g_X9_undo x nx).2 (g_X10_undo m gq pc).2 := by
  obtain ⟨⟨h1, h2⟩, ⟨g1, g2, g3, g4⟩, hS, hT', hP⟩ := id h
  have hd : d_X9_undo_1 x nx = g_X3_takeBack x nx := rfl
  unfold g_X9_undo g_X10_undo
  rw [hd]
  unfold g_X3_takeBack
  rw [g1.1, g1.2.1]
  by_cases hz : pc = 0
  · subst hz
    rw [if_pos (show nI 0 = 0 from rfl), if_pos (show nI 0 = 0 from rfl)]
    exact ⟨rfl, (show zU m 0 0 0 0 0 = 0 from zU_s), n, oz, nx, 0, ty, rp, h.of (by omega) (fun _ _ => rfl) (fun o ho _ => zU_ne ho) (fun k _ hk => zU_k hk)⟩
  · have hpz : ¬ nI pc = 0 := nI_ne0 (by omega) (by omega)
    rw [if_neg hpz, if_neg hpz]
    have hn := g2.2
    have hi : (nx + 10) % 11 < 11 := Nat.mod_lt _ (by decide)
    have hr := g3.1 (pc - 1) (by omega)
    have hs1 : nI pc - 1 = nI (pc - 1) := pk_sub (a := pc) (b := 1) (by omega)
    rw [zNx2 g2.1 hn, hs1]
    obtain ⟨n0, oz0, q1, q2⟩ := g4 0 (by omega)
    rw [Nat.sub_zero, Nat.sub_zero] at q2
    have hC := e_copy (zU (zU x 33 0 (nI (pc - 1))) 33 1 (nI ((nx + 10) % 11))) 5 (35 + 14 * ((nx + 10) % 11)) (by omega)
    generalize hX : g_X4_copyFrom (zU (zU x 33 0 (nI (pc - 1))) 33 1 (nI ((nx + 10) % 11))) 5 (35 + 14 * ((nx + 10) % 11)) = X at *
    generalize hY : zCp (zU (zU m 0 0 0) 0 3 (nI (pc - 1))) (gq (pc - 1)) 1 = Y
    have xo : ∀ o, o ≠ 33 → (o < 5 ∨ 17 ≤ o) → X o = x o := fun o h33 ho => (hC.1 o ho).trans ((zU_ne h33).trans (zU_ne h33))
    have x33 : X 33 0 = nI (pc - 1) ∧ X 33 1 = nI ((nx + 10) % 11) := by
      rw [hC.1 33 (by decide)]
      exact ⟨(zU_k (by decide)).trans zU_s, zU_s⟩
    have yo : ∀ o, o ≠ 0 → o ≠ 1 → Y o = m o := fun o h0 h1 => by
      rw [← hY]
      unfold zCp
      rw [zUa_ne h1, zU_ne h0, zU_ne h0]
    have y0 : ∀ k, Y 0 k = if k = 3 then nI (pc - 1) else if k = 0 then 0 else m 0 k := fun k => by
      rw [← hY]
      unfold zCp
      rw [zUa_ne (by decide), zU_c, zU_c]
    have y1 : ∀ k, k < 187 → Y 1 k = m (gq (pc - 1)) k := fun k hk => by
      rw [← hY]
      unfold zCp
      rw [zUa_eq, if_pos hk, zU_ne (by omega), zU_ne (by omega)]
    have hqi : (nx + 10) % 11 < 11 := hi
    show X 33 0 = nI (pc - 1) ∧ Y 0 0 = 0 ∧ xE (T + 601) sl ext gq X Y
    refine ⟨x33.1, y0 0, n0, oz0, (nx + 10) % 11, pc - 1, ty, rp, ⟨q1, ?_⟩, ⟨⟨x33.1, y0 3, by omega⟩, ⟨x33.2, hi⟩, g3, fun j hj => ?_⟩, hS.of (by omega) (fun o ho => xo o (by omega) (by omega)) (fun o ho => yo o (by omega) (by omega)), hT'.of (by rw [xo 2 (by decide) (by decide)]) (xo 3 (by decide) (by decide)) (y0 8) (yo 18 (by decide) (by decide)), hP.of (by rw [xo 0 (by decide) (by decide)]) (xo 190 (by decide) (by decide)) (y0 10) (yo 19 (by decide) (by decide))⟩
    · refine (q2.up (by omega)).pt (fun o k hu => ?_) y1
      have := hC.2 o k hu
      refine this.trans ?_
      show zU (zU x 33 0 (nI (pc - 1))) 33 1 (nI ((nx + 10) % 11)) (35 + 14 * ((nx + 10) % 11) + o) k = x (35 + 14 * ((nx + 10) % 11) + o) k
      rw [zU_ne (by omega), zU_ne (by omega)]
    · obtain ⟨n1, oz1, p1, p2⟩ := g4 (j + 1) (by omega)
      have ei : ((nx + 10) % 11 + 10 - j) % 11 = (nx + 10 - (j + 1)) % 11 := by omega
      have ej : pc - 1 - 1 - j = pc - 1 - (j + 1) := by omega
      have hr2 := g3.1 (pc - 1 - (j + 1)) (by omega)
      rw [ei, ej]
      exact ⟨n1, oz1, p1, (p2.up (by omega)).eq (fun o _ => xo _ (by omega) (by omega)) (fun k _ => by rw [yo _ (by omega) (by omega)])⟩
end OK
