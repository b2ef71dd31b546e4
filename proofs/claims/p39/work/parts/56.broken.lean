/-! THE LAW: a vote that is broken as it was sealed -/
theorem ft_undo {n m nx q j : Nat} {x x0 : zM} (hS : jSv x0 nx x) (hn : nx < 11) (h1 : x 33 1 = nI ((nx + (j + 1)) % 11)) (h0 : x 33 0 = nI (q + (j + 1))) (hq : q + (j + 1) ≤ 10) {sl : Nat → Option Nat} {ext : List va_E} :
    fx yy_X9_undo [] sl ext x (fun _ x' => jSv x0 nx x' ∧ x' 33 1 = nI ((nx + j) % 11) ∧ x' 33 0 = nI (q + j) ∧ (j = 0 → ∀ o k, qUse o k → x' (5 + o) k = x0 (5 + o) k)) := by
  obtain ⟨m, em⟩ : ∃ m, m = (nx + (j + 1)) % 11 := ⟨_, rfl⟩
  have h1' : x 33 1 = nI m := by rw [em]; exact h1
  exact ⟨_, _, c_X9_undo x sl ext m h1' (by omega), un_step hS hn em h1' h0 hq⟩
theorem rd_17 {n T t0 : Nat} {x : zM} (v : Int32) (h0 : x 33 0 = v) : g_X9_office x n 17 = v := by
  have e : g_X9_office x n 17 = if (17 : Int32) = 17 then x 33 0 else (if (17 : Int32) = 18 then (x 2 0) else (if (17 : Int32) < 6 then (g_X4_tell (zPl x 5) n 17) else (if (13 : Int32) < 17 then (g_X4_tell (zPl x 5) n 17) else (g_X1_tell (zPl x 12) 17)))) := rfl
  rw [e, if_pos rfl]
  exact h0
theorem nI_mn {a : Nat} (h : a < 100) : (7 : Int32) < nI a ↔ 7 < a := nI_lt9 (a := 7) (b := a) (by decide) (by omega)
noncomputable abbrev yy_L_isBrokenAsSealed : zY := (yL_isBrokenAsSealed, cL_isBrokenAsSealed, 8, (some Jvm.ClassFile.FieldType.boolean), 12, 268)
theorem w_broken87 {n oz T t0 : Nat} {x0 : zM} {sl : Nat → Option Nat} {ext : List va_E} (hJ : J n oz T t0 (zPl x0 5)) {nx pc v b : Nat} {c : Int32} (h11 : nx < 11) (h10 : pc ≤ 10) (hv : v < n) (p1 : x0 12 0 = 1) (p2 : qB (x0 12 3) v = true) (p3 : qB (x0 12 5) v = false) {x : zM} {a : Nat} (ha1 : 1 ≤ a) (ha : a ≤ 3) (he : ∀ o k, qUse o k → x (5 + o) k = x0 (5 + o) k) (h1 : x 33 1 = nI nx) (h0 : x 33 0 = nI (min 10 (pc + a) - a)) (l7 : Option Value) : zT yy_L_isBrokenAsSealed 0 0 (zEndR yy_L_isBrokenAsSealed (fun rv sh' x' => sh' = sh_X sl ext ∧ rv = some (.int 1) ∧ XI n T t0 x')) (87, [some (.ref 0), some (.int (nI v)), some (.int c), some (.int (nI b)), some (.int (nI pc)), some (.int (nI a)), some (.int 1), l7], [], (sh_X sl ext), x) := by
  have e12 : x 12 0 = x0 12 0 ∧ x 12 3 = x0 12 3 ∧ x 12 5 = x0 12 5 := ⟨he 7 0 (qUse_7 (by decide)), he 7 3 (qUse_7 (by decide)), he 7 5 (qUse_7 (by decide))⟩
  have hx : J n oz T t0 (zPl x 5) := hJ.pt he
  have h : XI n T t0 x := ⟨⟨oz, hx⟩, ⟨nx, h11, h1⟩, min 10 (pc + a) - a, by omega, h0⟩
  have h6 : g_X4_tellOf (zPl x 5) v 6 = 0 := te6_0 hx hv (by rw [e12.1]; exact p1) (by rw [e12.2.1]; exact p2) (by rw [e12.2.2]; exact p3)
  refine zT.run [(.iload 6, 0, 0, 0)] (pe := 89) (ls' := [some (.ref 0), some (.int (nI v)), some (.int c), some (.int (nI b)), some (.int (nI pc)), some (.int (nI a)), some (.int 1), l7]) (st' := [.int 1]) (M' := x) (by decide +kernel) rfl ?_
  refine zT.zeq (tgt := 124) (off := 35) (by decide +kernel) (by decide) (fun q => absurd q (by decide)) (fun _ => ?_)
  have n110 : zT yy_L_isBrokenAsSealed 0 0 (zEndR yy_L_isBrokenAsSealed (fun rv sh' x' => sh' = sh_X sl ext ∧ rv = some (.int 1) ∧ XI n T t0 x')) (110, [some (.ref 0), some (.int (nI v)), some (.int c), some (.int (nI b)), some (.int (nI pc)), some (.int (nI a)), some (.int 1), l7], [], (sh_X sl ext), x) := by
    refine zT.run [(.aload_n 0, 0, 0, 0), (.iload_n 1, 0, 0, 0), (.bipush 6, 0, 0, 0)] (pe := 114) (ls' := [some (.ref 0), some (.int (nI v)), some (.int c), some (.int (nI b)), some (.int (nI pc)), some (.int (nI a)), some (.int 1), l7]) (st' := [.int 6, .int (nI v), .ref 0]) (M' := x) (by decide +kernel) rfl ?_
    refine zT.cSw (idx := 116) (av := [.ref 0, .int (nI v), .int 6]) (rv := some (.int 0)) (st := []) (S1 := [.int 0]) (c_L_replica x x sl ext (nI v) 6 0 (rd_re h hv 6 (by decide) (by decide) h6)) rfl k_L_replica (zIn (w := 4189) (by decide +kernel) rfl) (by decide +kernel) (Nat.le_of_ble_eq_true rfl) (by decide +kernel) rfl rfl ?_
    refine zT.zne (tgt := 124) (off := 7) (by decide +kernel) (by decide) (fun q => absurd rfl q) (fun _ => ?_)
    refine zT.run [(.iconst 1, 0, 0, 0), (.goto 4, 0, 0, 0)] (pe := 125) (ls' := [some (.ref 0), some (.int (nI v)), some (.int c), some (.int (nI b)), some (.int (nI pc)), some (.int (nI a)), some (.int 1), l7]) (st' := [.int 1]) (M' := x) (by decide +kernel) rfl ?_
    exact zT.retI (ty := .boolean) ⟨rfl, rfl, h⟩ rfl rfl (by decide +kernel)
  refine zT.run [(.iload 4, 0, 0, 0), (.bipush 7, 0, 0, 0)] (pe := 96) (ls' := [some (.ref 0), some (.int (nI v)), some (.int c), some (.int (nI b)), some (.int (nI pc)), some (.int (nI a)), some (.int 1), l7]) (st' := [.int 7, .int (nI pc)]) (M' := x) (by decide +kernel) rfl ?_
  refine zT.cgt (tgt := 110) (off := 14) (by decide +kernel) (by decide) (fun q => ?_) (fun q => ?_)
  · exact n110
  · skip
    have h7 : pc ≤ 7 := Nat.le_of_not_lt fun e => q ((nI_mn (by omega)).mpr e)
    have h0' : x 33 0 = nI pc := by rw [h0, show min 10 (pc + a) - a = pc by omega]
    refine zT.run [(.aload_n 0, 0, 0, 0), (.bipush 17, 0, 0, 0)] (pe := 102) (ls' := [some (.ref 0), some (.int (nI v)), some (.int c), some (.int (nI b)), some (.int (nI pc)), some (.int (nI a)), some (.int 1), l7]) (st' := [.int 17, .ref 0]) (M' := x) (by decide +kernel) rfl ?_
    refine zT.cSw (idx := 113) (av := [.ref 0, .int 17]) (rv := some (.int (nI pc))) (st := []) (S1 := [.int (nI pc)]) (c_L_office x x sl ext 17 (nI pc) (rd_of h 17 (by decide) (by decide) (rd_17 (T := T) (t0 := t0) _ h0'))) rfl k_L_office (zIn (w := 2096) (by decide +kernel) rfl) (by decide +kernel) (Nat.le_of_ble_eq_true rfl) (by decide +kernel) rfl rfl ?_
    refine zT.run [(.iload 4, 0, 0, 0)] (pe := 107) (ls' := [some (.ref 0), some (.int (nI v)), some (.int c), some (.int (nI b)), some (.int (nI pc)), some (.int (nI a)), some (.int 1), l7]) (st' := [.int (nI pc), .int (nI pc)]) (M' := x) (by decide +kernel) rfl ?_
    refine zT.cne (tgt := 124) (off := 17) (by decide +kernel) (by decide) (fun q => absurd rfl q) (fun _ => ?_)
    exact n110
theorem w_broken69 {n oz T t0 : Nat} {x0 : zM} {sl : Nat → Option Nat} {ext : List va_E} (hJ : J n oz T t0 (zPl x0 5)) {nx pc v b : Nat} {c : Int32} (h11 : nx < 11) (h10 : pc ≤ 10) (hv : v < n) (p1 : x0 12 0 = 1) (p2 : qB (x0 12 3) v = true) (p3 : qB (x0 12 5) v = false) {a : Nat} (ha1 : 1 ≤ a) (ha : a ≤ 3) : ∀ (j i : Nat) (x : zM), i + j = a → jSv x0 nx x → x 33 1 = nI ((nx + j) % 11) → x 33 0 = nI (min 10 (pc + a) - a + j) → (j = 0 → ∀ o k, qUse o k → x (5 + o) k = x0 (5 + o) k) → zT yy_L_isBrokenAsSealed 0 0 (zEndR yy_L_isBrokenAsSealed (fun rv sh' x' => sh' = sh_X sl ext ∧ rv = some (.int 1) ∧ XI n T t0 x')) (69, [some (.ref 0), some (.int (nI v)), some (.int c), some (.int (nI b)), some (.int (nI pc)), some (.int (nI a)), some (.int 1), some (.int (nI i))], [], (sh_X sl ext), x) := by
  intro j
  induction j with
  | zero =>
    intro i x hi hS h1 h0 hz
    refine zT.run [(.iload 7, 0, 0, 0), (.iload 5, 0, 0, 0)] (pe := 73) (ls' := [some (.ref 0), some (.int (nI v)), some (.int c), some (.int (nI b)), some (.int (nI pc)), some (.int (nI a)), some (.int 1), some (.int (nI i))]) (st' := [.int (nI a), .int (nI i)]) (M' := x) (by decide +kernel) rfl ?_
    refine zT.cge (tgt := 87) (off := 14) (by decide +kernel) (by decide) (fun _ => ?_) (fun q => absurd (nI_le (a := a) (b := i) (by omega) (by omega)) q)
    refine w_broken87 hJ h11 h10 hv p1 p2 p3 ha1 ha (hz rfl) ?_ ?_ _
    · rw [h1, show (nx + 0) % 11 = nx by omega]
    · exact h0
  | succ j ih =>
    intro i x hi hS h1 h0 hz
    refine zT.run [(.iload 7, 0, 0, 0), (.iload 5, 0, 0, 0)] (pe := 73) (ls' := [some (.ref 0), some (.int (nI v)), some (.int c), some (.int (nI b)), some (.int (nI pc)), some (.int (nI a)), some (.int 1), some (.int (nI i))]) (st' := [.int (nI a), .int (nI i)]) (M' := x) (by decide +kernel) rfl ?_
    refine zT.cge (tgt := 87) (off := 14) (by decide +kernel) (by decide) (fun q => absurd q (nI_ge (a := i) (b := a) (by omega) (by omega))) (fun _ => ?_)
    refine zT.run [(.aload_n 0, 0, 0, 0)] (pe := 77) (ls' := [some (.ref 0), some (.int (nI v)), some (.int c), some (.int (nI b)), some (.int (nI pc)), some (.int (nI a)), some (.int 1), some (.int (nI i))]) (st' := [.ref 0]) (M' := x) (by decide +kernel) rfl ?_
    obtain ⟨q, x2, hC, g1, g2, g3, g4⟩ := ft_undo (n := n) (m := 0) (q := min 10 (pc + a) - a) (sl := sl) (ext := ext) hS h11 h1 h0 (by omega)
    refine zT.cVx (o := 0) (idx := 175) (av := []) (rv := some (.int q)) (st := []) (S1 := [.int q]) (hC) k_X9_undo 7 _ rfl rfl rfl (zIn (w := 5151) (by decide +kernel) rfl) (by decide +kernel) (Nat.le_of_ble_eq_true rfl) (by decide +kernel) rfl rfl ?_
    refine zT.run [(.pop, 0, 0, 0), (.iinc 7 1, 0, 0, 0), (.goto (-15), 0, 0, 0)] (pe := 69) (ls' := [some (.ref 0), some (.int (nI v)), some (.int c), some (.int (nI b)), some (.int (nI pc)), some (.int (nI a)), some (.int 1), some (.int ((nI i) + 1))]) (st' := []) (M' := x2) (by decide +kernel) rfl ?_
    rw [nI_1]
    exact ih (i + 1) x2 (by omega) g1 g2 g3 g4
theorem w_broken66 {n oz T t0 : Nat} {x0 : zM} {sl : Nat → Option Nat} {ext : List va_E} (hJ : J n oz T t0 (zPl x0 5)) {nx pc v b : Nat} {c : Int32} (h11 : nx < 11) (h10 : pc ≤ 10) (hv : v < n) (p1 : x0 12 0 = 1) (p2 : qB (x0 12 3) v = true) (p3 : qB (x0 12 5) v = false) {x : zM} {a : Nat} (ha1 : 1 ≤ a) (ha : a ≤ 3) (hU : jUn x0 nx pc a x) (l7 : Option Value) : zT yy_L_isBrokenAsSealed 0 0 (zEndR yy_L_isBrokenAsSealed (fun rv sh' x' => sh' = sh_X sl ext ∧ rv = some (.int 1) ∧ XI n T t0 x')) (66, [some (.ref 0), some (.int (nI v)), some (.int c), some (.int (nI b)), some (.int (nI pc)), some (.int (nI a)), some (.int 1), l7], [], (sh_X sl ext), x) := by
  refine zT.run [(.iconst 0, 0, 0, 0), (.istore 7, 0, 0, 0)] (pe := 69) (ls' := [some (.ref 0), some (.int (nI v)), some (.int c), some (.int (nI b)), some (.int (nI pc)), some (.int (nI a)), some (.int 1), some (.int 0)]) (st' := []) (M' := x) (by decide +kernel) rfl ?_
  exact w_broken69 hJ h11 h10 hv p1 p2 p3 ha1 ha a 0 x (by omega) hU.1 hU.2.1 (by rw [hU.2.2, show min 10 (pc + a) - a + a = min 10 (pc + a) by omega]) (fun q => absurd q (by omega))
theorem c_L_isBrokenAsSealed {n T t0 : Nat} {x : zM} {sl : Nat → Option Nat} {ext : List va_E} (h : XI n T t0 x) {v c b : Nat} (hv : v < n) (hc : c < n) (hb : b ≤ 999) : zCr yy_L_isBrokenAsSealed 0 0 [.ref 0, .int (nI v), .int (nI c), .int (nI b)] (sh_X sl ext) x (fun rv sh' x' => sh' = sh_X sl ext ∧ rv = some (.int 1) ∧ XI n T t0 x') := by
  refine zCr.of (by decide +kernel) rfl (Nat.le_of_ble_eq_true rfl) ?_
  obtain ⟨⟨oz, hJ⟩, ⟨nx, h11, hx⟩, pc, h10, hpc⟩ := id h
  refine zT.run [(.aload_n 0, 0, 0, 0), (.bipush 17, 0, 0, 0)] (pe := 3) (ls' := [some (.ref 0), some (.int (nI v)), some (.int (nI c)), some (.int (nI b)), none, none, none, none]) (st' := [.int 17, .ref 0]) (M' := x) (by decide +kernel) rfl ?_
  refine zT.cSw (idx := 113) (av := [.ref 0, .int 17]) (rv := some (.int (nI pc))) (st := []) (S1 := [.int (nI pc)]) (c_L_office x x sl ext 17 (nI pc) (rd_of h 17 (by decide) (by decide) (rd_17 (T := T) (t0 := t0) _ hpc))) rfl k_L_office (zIn (w := 2096) (by decide +kernel) rfl) (by decide +kernel) (Nat.le_of_ble_eq_true rfl) (by decide +kernel) rfl rfl ?_
  refine zT.run [(.istore 4, 0, 0, 0), (.aload_n 0, 0, 0, 0), (.iload_n 1, 0, 0, 0), (.iload_n 2, 0, 0, 0), (.iload_n 3, 0, 0, 0)] (pe := 12) (ls' := [some (.ref 0), some (.int (nI v)), some (.int (nI c)), some (.int (nI b)), some (.int (nI pc)), none, none, none]) (st' := [.int (nI b), .int (nI c), .int (nI v), .ref 0]) (M' := x) (by decide +kernel) rfl ?_
  obtain ⟨a, x2, hC, h2, hU⟩ := ft_voteU (sl := sl) (ext := ext) h hx h11 hpc h10 hv hc hb
  refine zT.cSw (idx := 121) (av := [.ref 0, .int (nI v), .int (nI c), .int (nI b)]) (rv := some (.int a)) (st := []) (S1 := [.int a]) (c_L_vote x x2 sl ext (nI v) (nI c) (nI b) a (hC)) rfl k_L_vote (zIn (w := 4233) (by decide +kernel) rfl) (by decide +kernel) (Nat.le_of_ble_eq_true rfl) (by decide +kernel) rfl rfl ?_
  refine zT.zge (tgt := 20) (off := 5) (by decide +kernel) (by decide) (fun ha => ?_) (fun ha => ?_)
  · skip
    have ha2 : ¬ a < 0 := Int32.not_lt.mpr ha
    obtain ⟨hU1, hs, p1, p2, p3⟩ := hU ha2
    refine zT.run [(.iconst 1, 0, 0, 0), (.istore 5, 0, 0, 0), (.iconst 1, 0, 0, 0), (.istore 6, 0, 0, 0), (.aload_n 0, 0, 0, 0)] (pe := 27) (ls' := [some (.ref 0), some (.int (nI v)), some (.int (nI c)), some (.int (nI b)), some (.int (nI pc)), some (.int 1), some (.int 1), none]) (st' := [.ref 0]) (M' := x2) (by decide +kernel) rfl ?_
    obtain ⟨a3, x3, hC3, h3, k1, k2, e13, e12⟩ := ft_closeU (sl := sl) (ext := ext) h2 hU1 h11 h10 (by decide) (by decide)
    refine zT.cVx (o := 0) (idx := 124) (av := []) (rv := some (.int a3)) (st := []) (S1 := [.int a3]) (hC3) k_X9_close 7 _ rfl rfl rfl (zIn (w := 5004) (by decide +kernel) rfl) (by decide +kernel) (Nat.le_of_ble_eq_true rfl) (by decide +kernel) rfl rfl ?_
    refine zT.zlt (tgt := 66) (off := 36) (by decide +kernel) (by decide) (fun q => ?_) (fun q => ?_)
    · exact w_broken66 hJ h11 h10 hv p1 p2 p3 (a := 1) (by decide) (by decide) (k1 q) none
    · skip
      refine zT.run [(.iinc 5 1, 0, 0, 0), (.aload_n 0, 0, 0, 0), (.iload_n 1, 0, 0, 0), (.iload_n 2, 0, 0, 0), (.iload_n 3, 0, 0, 0)] (pe := 40) (ls' := [some (.ref 0), some (.int (nI v)), some (.int (nI c)), some (.int (nI b)), some (.int (nI pc)), some (.int (1 + 1)), some (.int 1), none]) (st' := [.int (nI b), .int (nI c), .int (nI v), .ref 0]) (M' := x3) (by decide +kernel) rfl ?_
      obtain ⟨a4, x4, hC4, h4, m1, m2, m3⟩ := ft_breakU (sl := sl) (ext := ext) h3 (k2 (Int32.not_lt.mpr (Int32.not_lt.mp q))) h11 h10 (by decide) (by decide) hv hc hb (by rw [e13, e12]; exact hs)
      refine zT.cSw (idx := 127) (av := [.ref 0, .int (nI v), .int (nI c), .int (nI b)]) (rv := some (.int a4)) (st := []) (S1 := [.int a4]) (c_L_breakSeal x3 x4 sl ext (nI v) (nI c) (nI b) a4 (hC4)) rfl k_L_breakSeal (zIn (w := 5009) (by decide +kernel) rfl) (by decide +kernel) (Nat.le_of_ble_eq_true rfl) (by decide +kernel) rfl rfl ?_
      refine zT.run [(.istore 7, 0, 0, 0), (.iload 7, 0, 0, 0), (.iconst 1, 0, 0, 0)] (pe := 48) (ls' := [some (.ref 0), some (.int (nI v)), some (.int (nI c)), some (.int (nI b)), some (.int (nI pc)), some (.int (1 + 1)), some (.int 1), some (.int a4)]) (st' := [.int 1, .int a4]) (M' := x4) (by decide +kernel) rfl ?_
      refine zT.ceq (tgt := 55) (off := 7) (by decide +kernel) (by decide) (fun q4 => absurd q4 m3) (fun _ => ?_)
      refine zT.run [(.iconst 1, 0, 0, 0), (.goto 4, 0, 0, 0), (.istore 6, 0, 0, 0), (.iload 7, 0, 0, 0)] (pe := 60) (ls' := [some (.ref 0), some (.int (nI v)), some (.int (nI c)), some (.int (nI b)), some (.int (nI pc)), some (.int (1 + 1)), some (.int 1), some (.int a4)]) (st' := [.int a4]) (M' := x4) (by decide +kernel) rfl ?_
      refine zT.zlt (tgt := 66) (off := 6) (by decide +kernel) (by decide) (fun q4 => ?_) (fun q4 => ?_)
      · exact w_broken66 hJ h11 h10 hv p1 p2 p3 (a := 2) (by decide) (by decide) (m1 q4) (some (.int a4))
      · skip
        refine zT.run [(.iinc 5 1, 0, 0, 0)] (pe := 66) (ls' := [some (.ref 0), some (.int (nI v)), some (.int (nI c)), some (.int (nI b)), some (.int (nI pc)), some (.int ((1 + 1) + 1)), some (.int 1), some (.int a4)]) (st' := []) (M' := x4) (by decide +kernel) rfl ?_
        exact w_broken66 hJ h11 h10 hv p1 p2 p3 (a := 3) (by decide) (by decide) (m2 (Int32.not_lt.mpr (Int32.not_lt.mp q4))) (some (.int a4))
  · skip
    refine zT.run [(.iconst 1, 0, 0, 0)] (pe := 19) (ls' := [some (.ref 0), some (.int (nI v)), some (.int (nI c)), some (.int (nI b)), some (.int (nI pc)), none, none, none]) (st' := [.int 1]) (M' := x2) (by decide +kernel) rfl ?_
    exact zT.retI (ty := .boolean) ⟨rfl, rfl, h2⟩ rfl rfl (by decide +kernel)
theorem k_L_isBrokenAsSealed : zCad yy_L_isBrokenAsSealed 4 := ⟨⟨⟨zIn (w := 5150) (by decide +kernel) rfl, zIn (w := 1000) (by decide +kernel) rfl⟩, by decide +kernel⟩, zIn (w := 5149) (by decide +kernel) rfl⟩
