/-! WHAT THE COMMANDS ASK FOR, from the relation -/
section FACTS
variable {n oz nx pc ty rp T : Nat} {sl : Nat → Option Nat} {ext : List va_E} {gq : Nat → Nat} {x m : zM}
theorem xR.c5 (h : xR n oz nx pc ty rp T sl ext gq x m) : x 5 0 = nI n := h.1.2.1.2.1
theorem xR.n9 (h : xR n oz nx pc ty rp T sl ext gq x m) : n ≤ 9 := h.1.2.1.1
theorem xR.n2 (h : xR n oz nx pc ty rp T sl ext gq x m) : 2 ≤ n := h.1.1
theorem xR.n1 (h : xR n oz nx pc ty rp T sl ext gq x m) : 0 < n := by have := h.n2; omega
theorem xR.m10 (h : xR n oz nx pc ty rp T sl ext gq x m) : m 1 0 = nI n := h.1.2.1.2.2
theorem xR.x33 (h : xR n oz nx pc ty rp T sl ext gq x m) : x 33 1 = nI nx := h.2.1.2.1.1
theorem xR.nx11 (h : xR n oz nx pc ty rp T sl ext gq x m) : nx < 11 := h.2.1.2.1.2
theorem xR.m3 (h : xR n oz nx pc ty rp T sl ext gq x m) : m 0 3 = nI pc := h.2.1.1.2.1
theorem xR.pc10 (h : xR n oz nx pc ty rp T sl ext gq x m) : pc ≤ 10 := h.2.1.1.2.2
theorem xR.hq (h : xR n oz nx pc ty rp T sl ext gq x m) : zPm gq := h.2.1.2.2.1
theorem xR.oc (h : xR n oz nx pc ty rp T sl ext gq x m) : rl_oc oz (zPl x 5) (m 1) := h.1.2.2.2.2.2.2.2.2.2.2.2.2.2.1
theorem xR.m19 (h : xR n oz nx pc ty rp T sl ext gq x m) : m 1 9 = nI oz := h.oc.2.2.1
theorem xR.x15 (h : xR n oz nx pc ty rp T sl ext gq x m) : x 15 0 = nI oz := h.oc.2.1
theorem xR.oz12 (h : xR n oz nx pc ty rp T sl ext gq x m) : oz ≤ 12 := h.oc.1
theorem xR.bhd (h : xR n oz nx pc ty rp T sl ext gq x m) : rl_hd n (zPl x 5) (m 1) := h.1.2.2.2.2.2.2.2.2.2.1
theorem xR.hc (h : xR n oz nx pc ty rp T sl ext gq x m) : zHc (zPl x 5) := by
  by_cases q : zPl x 5 7 0 = 0
  · exact Or.inl q
  · obtain ⟨-, ⟨c, c1, c2, -⟩, -⟩ := h.bhd.2.2 q
    have := h.n9
    exact Or.inr ⟨c, by omega, c2⟩
theorem xR.hd (h : xR n oz nx pc ty rp T sl ext gq x m) : zHd m := by
  by_cases q : zPl x 5 7 0 = 0
  · refine Or.inl ?_
    rw [h.bhd.1, q]
    decide
  · obtain ⟨-, ⟨c, c1, -, c3⟩, -⟩ := h.bhd.2.2 q
    have := h.n9
    exact Or.inr ⟨c, by omega, c3⟩
theorem xR.hv (h : xR n oz nx pc ty rp T sl ext gq x m) : zHv m := h.1.2.2.2.2.2.2.2.2.2.2.2.2.1
theorem xR.hP (h : xR n oz nx pc ty rp T sl ext gq x m) : m 1 4 = 3 → 0 < oz := fun q => (h.1.2.2.2.2.2.2.2.2.2.2.2.2.2.2.2.2.2 (h.bhd.1.symm.trans q)).1
theorem xR.wn (h : xR n oz nx pc ty rp T sl ext gq x m) : zWn n m := ⟨oz, ⟨h.m10, h.n9⟩, ⟨h.m19, h.oz12⟩, h.hd, h.hv, h.hP⟩
theorem xR.ty2 (h : xR n oz nx pc ty rp T sl ext gq x m) : x 2 0 = nI ty := h.2.2.2.1.1.1
theorem xR.ty8 (h : xR n oz nx pc ty rp T sl ext gq x m) : m 0 8 = nI ty := h.2.2.2.1.1.2.1
theorem xR.ty6 (h : xR n oz nx pc ty rp T sl ext gq x m) : ty ≤ 600 := h.2.2.2.1.1.2.2
theorem xR.rp7 (h : xR n oz nx pc ty rp T sl ext gq x m) : x 0 7 = nI rp := h.2.2.2.2.1.1
theorem xR.rp10 (h : xR n oz nx pc ty rp T sl ext gq x m) : m 0 10 = nI rp := h.2.2.2.2.1.2.1
theorem xR.rp9 (h : xR n oz nx pc ty rp T sl ext gq x m) : rp ≤ 9 := h.2.2.2.2.1.2.2
theorem xR.xs (h : xR n oz nx pc ty rp T sl ext gq x m) : xS T sl ext x m := h.2.2.1
theorem xR.bad (h : xR n oz nx pc ty rp T sl ext gq x m) (c : Int32) : xE (T + 601) sl ext gq x (zU (zU m 0 0 0) 0 0 c) := ⟨n, oz, nx, pc, ty, rp, h.of (by omega) (fun _ _ => rfl) (fun o h0 _ => by rw [zU_ne h0, zU_ne h0]) (fun k _ h0 => by rw [zU_k h0, zU_k h0])⟩
theorem xR.up (h : xR n oz nx pc ty rp T sl ext gq x m) : xE (T + 601) sl ext gq x m := ⟨n, oz, nx, pc, ty, rp, h.of (by omega) (fun _ _ => rfl) (fun _ _ _ => rfl) (fun _ _ _ => rfl)⟩
theorem xR.rep (h : xR n oz nx pc ty rp T sl ext gq x m) {v : Int32} (hc : ¬ (v < 0 ∨ nI n ≤ v)) : ∃ r, r < n ∧ v = nI r := by
  obtain ⟨j, hj, rfl⟩ := nI_of (fun q => hc (Or.inl q))
  refine ⟨j, ?_, rfl⟩
  have := h.n9
  exact Classical.byContradiction fun q => hc (Or.inr ((nI_leI (by omega) hj).mpr (by omega)))
theorem xR.bR5 (h : xR n oz nx pc ty rp T sl ext gq x m) {v : Int32} (hc : v < 0 ∨ nI n ≤ v) : v < 0 ∨ ¬ v < x 5 0 := hc.imp id fun q => by rw [h.c5]; exact Int32.not_lt.mpr q
end FACTS
def zNz (v : Int32) : Int32 := if v = 0 then 0 else 1
theorem nz_b (v : Int32) : ∃ b, zNz v = bI b := by
  unfold zNz
  by_cases c : v = 0
  · exact ⟨false, if_pos c⟩
  · exact ⟨true, if_neg c⟩
theorem bR_n {v lo hi : Int32} (hc : v < lo ∨ ¬ v ≤ hi) : v < lo ∨ hi < v := hc.imp id Int32.not_le.mp
theorem ob_s {ob : Nat → Int64} {v : Int64} : vp_updL ob 0 v 0 = v := if_pos rfl
