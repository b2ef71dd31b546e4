/-! THE LAW: it acts -/
theorem and_low {x c : Int32} (hc : 0 ≤ c) : ∃ j, j < 2 ^ 31 ∧ x &&& c = nI j := by
  refine nI_of ?_
  have h : ∀ z : Int32, 0 ≤ z ↔ z.toBitVec.msb = false := fun z => by
    rw [Int32.le_iff_toInt_le, BitVec.msb_eq_toInt]
    show (0 : Int) ≤ z.toBitVec.toInt ↔ _
    simp
  refine fun q => absurd q (Int32.not_lt.mpr ((h _).mpr ?_))
  rw [Int32.toBitVec_and, BitVec.msb_and, (h c).mp hc, Bool.and_false]
noncomputable abbrev yy_L_act : zY := (yL_act, cL_act, 7, none, 14, 317)
theorem c_L_act {n T t0 : Nat} {x : zM} {sl : Nat → Option Nat} {ext : List va_E} (h : XI n T t0 x) (hT : T < 2900) (hcs : zCs (sh_X sl ext).length (sh_X sl ext)) {k : Nat} (hk : k < 2 ^ 30) : zCr yy_L_act 0 0 [.ref 0, .retAddr 998, .int (nI k)] (sh_X sl ext) x (fun rv sh' x' => rv = none ∧ sh' = sh_X sl ext ∧ XI n (T + 2) t0 x') := by
  refine zCr.of (by decide +kernel) rfl (Nat.le_of_ble_eq_true rfl) ?_
  obtain ⟨-, h2n, h9⟩ := xi_n h
  refine zT.run [(.aload_n 1, 0, 0, 0), (.iload_n 2, 0, 0, 0), (.iconst 1, 0, 0, 0), (.iadd, 0, 0, 0)] (pe := 4) (ls' := [some (.ref 0), some (.retAddr 998), some (.int (nI k)), none, none, none, none]) (st' := [.int ((nI k) + 1), .retAddr 998]) (M' := x) (by decide +kernel) rfl ?_
  rw [nI_1]
  refine zT.cSi (sh := sh_X sl ext) (av := [.retAddr 998, .int (nI (k + 1))]) (idx := 7) (st := []) (c_L_cell (k + 1) (by omega)) rfl k_L_cell (zIn (w := 2093) (by decide +kernel) rfl) (by decide +kernel) (Nat.le_of_ble_eq_true rfl) (zLb_up (n := 1) rfl len1) (zVb_up (n := 1) rfl len1) hcs (by decide +kernel) rfl rfl ?_
  intro v0 _
  refine zT.run [(.ldc 86, 2147483647, 0, 3116), (.iand, 0, 0, 0)] (pe := 10) (ls' := [some (.ref 0), some (.retAddr 998), some (.int (nI k)), none, none, none, none]) (st' := [.int (v0 &&& 2147483647)]) (M' := x) (by decide +kernel) rfl ?_
  obtain ⟨u, hu, eu⟩ := and_low (x := v0) (c := 2147483647) (by decide)
  rw [eu]
  refine zT.run [(.istore_n 3, 0, 0, 0), (.aload_n 0, 0, 0, 0), (.iconst 0, 0, 0, 0)] (pe := 13) (ls' := [some (.ref 0), some (.retAddr 998), some (.int (nI k)), some (.int (nI u)), none, none, none]) (st' := [.int 0, .ref 0]) (M' := x) (by decide +kernel) rfl ?_
  refine zT.cSw (idx := 113) (av := [.ref 0, .int 0]) (rv := some (.int (nI n))) (st := []) (S1 := [.int (nI n)]) (c_L_office x x sl ext 0 (nI n) (rd_office0 h)) rfl k_L_office (zIn (w := 2096) (by decide +kernel) rfl) (by decide +kernel) (Nat.le_of_ble_eq_true rfl) (by decide +kernel) rfl rfl ?_
  refine zT.run [(.istore 4, 0, 0, 0), (.iload_n 3, 0, 0, 0), (.iload 4, 0, 0, 0)] (pe := 21) (ls' := [some (.ref 0), some (.retAddr 998), some (.int (nI k)), some (.int (nI u)), some (.int (nI n)), none, none]) (st' := [.int (nI n), .int (nI u)]) (M' := x) (by decide +kernel) rfl ?_
  refine zT.iremN hu (by omega) (by omega) (by decide +kernel) ?_
  have ha : u % n < n := Nat.mod_lt _ (by omega)
  generalize u % n = a at ha ⊢
  refine zT.run [(.istore 5, 0, 0, 0), (.iload_n 3, 0, 0, 0), (.bipush 16, 0, 0, 0), (.idiv, 0, 0, 0), (.iload 4, 0, 0, 0)] (pe := 30) (ls' := [some (.ref 0), some (.retAddr 998), some (.int (nI k)), some (.int (nI u)), some (.int (nI n)), some (.int (nI a)), none]) (st' := [.int (nI n), .int ((nI u) / 16)]) (M' := x) (by decide +kernel) rfl ?_
  rw [nI_div (c := 16) (b := 16) rfl hu (by decide) (by decide)]
  refine zT.iremN (by omega) (by omega) (by omega) (by decide +kernel) ?_
  have hb : u / 16 % n < n := Nat.mod_lt _ (by omega)
  generalize u / 16 % n = b at hb ⊢
  refine zT.run [(.istore 6, 0, 0, 0), (.aload_n 1, 0, 0, 0), (.iload_n 2, 0, 0, 0), (.iconst 0, 0, 0, 0), (.bipush 16, 0, 0, 0)] (pe := 38) (ls' := [some (.ref 0), some (.retAddr 998), some (.int (nI k)), some (.int (nI u)), some (.int (nI n)), some (.int (nI a)), some (.int (nI b))]) (st' := [.int 16, .int 0, .int (nI k), .retAddr 998]) (M' := x) (by decide +kernel) rfl ?_
  refine zT.cSi (sh := sh_X sl ext) (av := [.retAddr 998, .int (nI k), .int 0, .int 16]) (idx := 82) (st := []) (c_L_of k 0 16 (by omega) (by decide) (by decide)) rfl k_L_of (zIn (w := 3110) (by decide +kernel) rfl) (by decide +kernel) (Nat.le_of_ble_eq_true rfl) (zLb_up (n := 1) rfl len1) (zVb_up (n := 1) rfl len1) hcs (by decide +kernel) rfl rfl ?_
  rintro v ⟨j, hj, rfl⟩
  rw [Nat.zero_add]
  have g116 : zT yy_L_act 0 0 (zEndR yy_L_act (fun rv sh' x' => rv = none ∧ sh' = sh_X sl ext ∧ XI n (T + 2) t0 x')) (116, [some (.ref 0), some (.retAddr 998), some (.int (nI k)), some (.int (nI u)), some (.int (nI n)), some (.int (nI a)), some (.int (nI b))], [], (sh_X sl ext), x) := by
    refine zT.run [(.aload_n 0, 0, 0, 0), (.iload_n 3, 0, 0, 0)] (pe := 118) (ls' := [some (.ref 0), some (.retAddr 998), some (.int (nI k)), some (.int (nI u)), some (.int (nI n)), some (.int (nI a)), some (.int (nI b))]) (st' := [.int (nI u), .ref 0]) (M' := x) (by decide +kernel) rfl ?_
    refine zT.eq9 (zT.cSr (idx := 141) (av := [.ref 0, .int (nI u)]) (st := []) (c_L_goesOn h (by omega) hu) (zLb_up (n := 1) rfl len1) (zVb_up (n := 1) rfl len1) rfl k_L_goesOn (zIn (w := 4186) (by decide +kernel) rfl) (by decide +kernel) (Nat.le_of_ble_eq_true rfl) (by decide +kernel) rfl ?_)
    rintro rv sh2 x2 ⟨rfl, rfl, h2⟩
    refine zT.run [(.aload_n 0, 0, 0, 0), (.iload_n 3, 0, 0, 0), (.bipush 8, 0, 0, 0), (.idiv, 0, 0, 0)] (pe := 126) (ls' := [some (.ref 0), some (.retAddr 998), some (.int (nI k)), some (.int (nI u)), some (.int (nI n)), some (.int (nI a)), some (.int (nI b))]) (st' := [.int ((nI u) / 8), .ref 0]) (M' := x2) (by decide +kernel) rfl ?_
    rw [nI_div (c := 8) (b := 8) rfl hu (by decide) (by decide)]
    refine zT.eq9 (zT.cSr (idx := 141) (av := [.ref 0, .int (nI (u / 8))]) (st := []) (c_L_goesOn h2 (by omega) (by omega)) (zLb_up (n := 1) rfl len1) (zVb_up (n := 1) rfl len1) rfl k_L_goesOn (zIn (w := 4186) (by decide +kernel) rfl) (by decide +kernel) (Nat.le_of_ble_eq_true rfl) (by decide +kernel) rfl ?_)
    rintro rv sh3 x3 ⟨rfl, rfl, h3⟩
    refine zT.run [(.goto 166, 0, 0, 0)] (pe := 295) (ls' := [some (.ref 0), some (.retAddr 998), some (.int (nI k)), some (.int (nI u)), some (.int (nI n)), some (.int (nI a)), some (.int (nI b))]) (st' := []) (M' := x3) (by decide +kernel) rfl ?_
    exact zT.retV ⟨rfl, rfl, h3⟩ rfl (by decide +kernel)
  have g132 : zT yy_L_act 0 0 (zEndR yy_L_act (fun rv sh' x' => rv = none ∧ sh' = sh_X sl ext ∧ XI n (T + 2) t0 x')) (132, [some (.ref 0), some (.retAddr 998), some (.int (nI k)), some (.int (nI u)), some (.int (nI n)), some (.int (nI a)), some (.int (nI b))], [], (sh_X sl ext), x) := by
    refine zT.run [(.aload_n 0, 0, 0, 0), (.iload 5, 0, 0, 0), (.iload_n 3, 0, 0, 0), (.bipush 16, 0, 0, 0), (.idiv, 0, 0, 0), (.ldc 145, 65536, 0, 5047), (.irem, 0, 0, 0)] (pe := 142) (ls' := [some (.ref 0), some (.retAddr 998), some (.int (nI k)), some (.int (nI u)), some (.int (nI n)), some (.int (nI a)), some (.int (nI b))]) (st' := [.int (((nI u) / 16) - ((nI u) / 16) / 65536 * 65536), .int (nI a), .ref 0]) (M' := x) (by decide +kernel) rfl ?_
    rw [nI_div (c := 16) (b := 16) rfl hu (by decide) (by decide), nI_rem (c := 65536) (b := 65536) rfl (by omega) (by decide) (by decide)]
    obtain ⟨q, x2, hC, h2⟩ := ft_seal (sl := sl) (ext := ext) h ha (b := u / 16 % 65536) (by omega)
    refine zT.cSw (idx := 146) (av := [.ref 0, .int (nI a), .int (nI (u / 16 % 65536))]) (rv := some (.int q)) (st := []) (S1 := [.int q]) (c_L_seal x x2 sl ext (nI a) (nI (u / 16 % 65536)) q (hC)) rfl k_L_seal (zIn (w := 5048) (by decide +kernel) rfl) (by decide +kernel) (Nat.le_of_ble_eq_true rfl) (by decide +kernel) rfl rfl ?_
    refine zT.run [(.pop, 0, 0, 0), (.goto 149, 0, 0, 0)] (pe := 295) (ls' := [some (.ref 0), some (.retAddr 998), some (.int (nI k)), some (.int (nI u)), some (.int (nI n)), some (.int (nI a)), some (.int (nI b))]) (st' := []) (M' := x2) (by decide +kernel) rfl ?_
    exact zT.retV ⟨rfl, rfl, h2.up (by omega)⟩ rfl (by decide +kernel)
  have g149 : zT yy_L_act 0 0 (zEndR yy_L_act (fun rv sh' x' => rv = none ∧ sh' = sh_X sl ext ∧ XI n (T + 2) t0 x')) (149, [some (.ref 0), some (.retAddr 998), some (.int (nI k)), some (.int (nI u)), some (.int (nI n)), some (.int (nI a)), some (.int (nI b))], [], (sh_X sl ext), x) := by
    have nxt : ∀ f : Bool, zT yy_L_act 0 0 (zEndR yy_L_act (fun rv sh' x' => rv = none ∧ sh' = sh_X sl ext ∧ XI n (T + 2) t0 x')) (166, [some (.ref 0), some (.retAddr 998), some (.int (nI k)), some (.int (nI u)), some (.int (nI n)), some (.int (nI a)), some (.int (nI b))], [.int (bI f), .int (nI a), .ref 0], (sh_X sl ext), x) := by
      intro f
      obtain ⟨q, x2, hC, h2⟩ := ft_setUp (sl := sl) (ext := ext) h ha f
      refine zT.cSw (idx := 148) (av := [.ref 0, .int (nI a), .int (bI f)]) (rv := some (.int q)) (st := []) (S1 := [.int q]) (c_L_setUp x x2 sl ext (nI a) (bI f) q (hC)) rfl k_L_setUp (zIn (w := 5056) (by decide +kernel) rfl) (by decide +kernel) (Nat.le_of_ble_eq_true rfl) (by decide +kernel) rfl rfl ?_
      refine zT.run [(.pop, 0, 0, 0), (.goto 125, 0, 0, 0)] (pe := 295) (ls' := [some (.ref 0), some (.retAddr 998), some (.int (nI k)), some (.int (nI u)), some (.int (nI n)), some (.int (nI a)), some (.int (nI b))]) (st' := []) (M' := x2) (by decide +kernel) rfl ?_
      exact zT.retV ⟨rfl, rfl, h2.up (by omega)⟩ rfl (by decide +kernel)
    refine zT.run [(.aload_n 0, 0, 0, 0), (.iload 5, 0, 0, 0), (.iload_n 3, 0, 0, 0), (.bipush 16, 0, 0, 0), (.idiv, 0, 0, 0), (.iconst 3, 0, 0, 0), (.irem, 0, 0, 0)] (pe := 158) (ls' := [some (.ref 0), some (.retAddr 998), some (.int (nI k)), some (.int (nI u)), some (.int (nI n)), some (.int (nI a)), some (.int (nI b))]) (st' := [.int (((nI u) / 16) - ((nI u) / 16) / 3 * 3), .int (nI a), .ref 0]) (M' := x) (by decide +kernel) rfl ?_
    refine zT.zle (tgt := 165) (off := 7) (by decide +kernel) (by decide) (fun _ => ?_) (fun _ => ?_)
    · skip
      refine zT.run [(.iconst 0, 0, 0, 0)] (pe := 166) (ls' := [some (.ref 0), some (.retAddr 998), some (.int (nI k)), some (.int (nI u)), some (.int (nI n)), some (.int (nI a)), some (.int (nI b))]) (st' := [.int 0, .int (nI a), .ref 0]) (M' := x) (by decide +kernel) rfl ?_
      exact nxt false
    · skip
      refine zT.run [(.iconst 1, 0, 0, 0), (.goto 4, 0, 0, 0)] (pe := 166) (ls' := [some (.ref 0), some (.retAddr 998), some (.int (nI k)), some (.int (nI u)), some (.int (nI n)), some (.int (nI a)), some (.int (nI b))]) (st' := [.int 1, .int (nI a), .ref 0]) (M' := x) (by decide +kernel) rfl ?_
      exact nxt true
  have g173 : zT yy_L_act 0 0 (zEndR yy_L_act (fun rv sh' x' => rv = none ∧ sh' = sh_X sl ext ∧ XI n (T + 2) t0 x')) (173, [some (.ref 0), some (.retAddr 998), some (.int (nI k)), some (.int (nI u)), some (.int (nI n)), some (.int (nI a)), some (.int (nI b))], [], (sh_X sl ext), x) := by
    have nxt : ∀ f : Bool, zT yy_L_act 0 0 (zEndR yy_L_act (fun rv sh' x' => rv = none ∧ sh' = sh_X sl ext ∧ XI n (T + 2) t0 x')) (193, [some (.ref 0), some (.retAddr 998), some (.int (nI k)), some (.int (nI u)), some (.int (nI n)), some (.int (nI a)), some (.int (nI b))], [.int (bI f), .int (nI b), .int (nI a), .ref 0], (sh_X sl ext), x) := by
      intro f
      obtain ⟨q, x2, hC, h2⟩ := ft_setLink (sl := sl) (ext := ext) h ha hb (bI f)
      refine zT.cSw (idx := 151) (av := [.ref 0, .int (nI a), .int (nI b), .int (bI f)]) (rv := some (.int q)) (st := []) (S1 := [.int q]) (c_L_setLink x x2 sl ext (nI a) (nI b) (bI f) q (hC)) rfl k_L_setLink (zIn (w := 5064) (by decide +kernel) rfl) (by decide +kernel) (Nat.le_of_ble_eq_true rfl) (by decide +kernel) rfl rfl ?_
      refine zT.run [(.pop, 0, 0, 0), (.goto 98, 0, 0, 0)] (pe := 295) (ls' := [some (.ref 0), some (.retAddr 998), some (.int (nI k)), some (.int (nI u)), some (.int (nI n)), some (.int (nI a)), some (.int (nI b))]) (st' := []) (M' := x2) (by decide +kernel) rfl ?_
      exact zT.retV ⟨rfl, rfl, h2.up (by omega)⟩ rfl (by decide +kernel)
    refine zT.run [(.aload_n 0, 0, 0, 0), (.iload 5, 0, 0, 0), (.iload 6, 0, 0, 0), (.iload_n 3, 0, 0, 0), (.sipush 256, 0, 0, 0), (.idiv, 0, 0, 0), (.iconst 3, 0, 0, 0), (.irem, 0, 0, 0)] (pe := 185) (ls' := [some (.ref 0), some (.retAddr 998), some (.int (nI k)), some (.int (nI u)), some (.int (nI n)), some (.int (nI a)), some (.int (nI b))]) (st' := [.int (((nI u) / 256) - ((nI u) / 256) / 3 * 3), .int (nI b), .int (nI a), .ref 0]) (M' := x) (by decide +kernel) rfl ?_
    refine zT.zle (tgt := 192) (off := 7) (by decide +kernel) (by decide) (fun _ => ?_) (fun _ => ?_)
    · skip
      refine zT.run [(.iconst 0, 0, 0, 0)] (pe := 193) (ls' := [some (.ref 0), some (.retAddr 998), some (.int (nI k)), some (.int (nI u)), some (.int (nI n)), some (.int (nI a)), some (.int (nI b))]) (st' := [.int 0, .int (nI b), .int (nI a), .ref 0]) (M' := x) (by decide +kernel) rfl ?_
      exact nxt false
    · skip
      refine zT.run [(.iconst 1, 0, 0, 0), (.goto 4, 0, 0, 0)] (pe := 193) (ls' := [some (.ref 0), some (.retAddr 998), some (.int (nI k)), some (.int (nI u)), some (.int (nI n)), some (.int (nI a)), some (.int (nI b))]) (st' := [.int 1, .int (nI b), .int (nI a), .ref 0]) (M' := x) (by decide +kernel) rfl ?_
      exact nxt true
  have g200 : zT yy_L_act 0 0 (zEndR yy_L_act (fun rv sh' x' => rv = none ∧ sh' = sh_X sl ext ∧ XI n (T + 2) t0 x')) (200, [some (.ref 0), some (.retAddr 998), some (.int (nI k)), some (.int (nI u)), some (.int (nI n)), some (.int (nI a)), some (.int (nI b))], [], (sh_X sl ext), x) := by
    refine zT.run [(.aload_n 0, 0, 0, 0), (.iload 5, 0, 0, 0), (.iload_n 3, 0, 0, 0), (.bipush 16, 0, 0, 0), (.idiv, 0, 0, 0), (.iconst 5, 0, 0, 0), (.irem, 0, 0, 0)] (pe := 209) (ls' := [some (.ref 0), some (.retAddr 998), some (.int (nI k)), some (.int (nI u)), some (.int (nI n)), some (.int (nI a)), some (.int (nI b))]) (st' := [.int (((nI u) / 16) - ((nI u) / 16) / 5 * 5), .int (nI a), .ref 0]) (M' := x) (by decide +kernel) rfl ?_
    rw [nI_div (c := 16) (b := 16) rfl hu (by decide) (by decide), nI_rem (c := 5) (b := 5) rfl (by omega) (by decide) (by decide)]
    obtain ⟨q, x2, hC, h2⟩ := ft_setFresh (sl := sl) (ext := ext) h ha (b := u / 16 % 5) (by omega)
    refine zT.cSw (idx := 154) (av := [.ref 0, .int (nI a), .int (nI (u / 16 % 5))]) (rv := some (.int q)) (st := []) (S1 := [.int q]) (c_L_setFresh x x2 sl ext (nI a) (nI (u / 16 % 5)) q (hC)) rfl k_L_setFresh (zIn (w := 5071) (by decide +kernel) rfl) (by decide +kernel) (Nat.le_of_ble_eq_true rfl) (by decide +kernel) rfl rfl ?_
    refine zT.run [(.pop, 0, 0, 0), (.goto 82, 0, 0, 0)] (pe := 295) (ls' := [some (.ref 0), some (.retAddr 998), some (.int (nI k)), some (.int (nI u)), some (.int (nI n)), some (.int (nI a)), some (.int (nI b))]) (st' := []) (M' := x2) (by decide +kernel) rfl ?_
    exact zT.retV ⟨rfl, rfl, h2.up (by omega)⟩ rfl (by decide +kernel)
  have g216 : zT yy_L_act 0 0 (zEndR yy_L_act (fun rv sh' x' => rv = none ∧ sh' = sh_X sl ext ∧ XI n (T + 2) t0 x')) (216, [some (.ref 0), some (.retAddr 998), some (.int (nI k)), some (.int (nI u)), some (.int (nI n)), some (.int (nI a)), some (.int (nI b))], [], (sh_X sl ext), x) := by
    refine zT.run [(.aload_n 0, 0, 0, 0), (.iload_n 3, 0, 0, 0), (.iconst 3, 0, 0, 0), (.irem, 0, 0, 0), (.iload_n 3, 0, 0, 0), (.iconst 3, 0, 0, 0), (.irem, 0, 0, 0)] (pe := 223) (ls' := [some (.ref 0), some (.retAddr 998), some (.int (nI k)), some (.int (nI u)), some (.int (nI n)), some (.int (nI a)), some (.int (nI b))]) (st' := [.int ((nI u) - (nI u) / 3 * 3), .int ((nI u) - (nI u) / 3 * 3), .ref 0]) (M' := x) (by decide +kernel) rfl ?_
    rw [nI_rem (c := 3) (b := 3) rfl hu (by decide) (by decide)]
    have nxt : ∀ g : Nat, (u % 3 = 0 ∧ 1 ≤ g ∧ g ≤ 4) ∨ (u % 3 ≠ 0 ∧ g ≤ 1) → zT yy_L_act 0 0 (zEndR yy_L_act (fun rv sh' x' => rv = none ∧ sh' = sh_X sl ext ∧ XI n (T + 2) t0 x')) (241, [some (.ref 0), some (.retAddr 998), some (.int (nI k)), some (.int (nI u)), some (.int (nI n)), some (.int (nI a)), some (.int (nI b))], [.int (nI g), .int (nI (u % 3)), .ref 0], (sh_X sl ext), x) := by
      intro g hg
      obtain ⟨q, x2, hC, h2⟩ := ft_set (sl := sl) (ext := ext) h (w := u % 3) (b := g) (by omega) hg
      refine zT.cSw (idx := 156) (av := [.ref 0, .int (nI (u % 3)), .int (nI g)]) (rv := some (.int q)) (st := []) (S1 := [.int q]) (c_L_set x x2 sl ext (nI (u % 3)) (nI g) q (hC)) rfl k_L_set (zIn (w := 5082) (by decide +kernel) rfl) (by decide +kernel) (Nat.le_of_ble_eq_true rfl) (by decide +kernel) rfl rfl ?_
      refine zT.run [(.pop, 0, 0, 0), (.goto 50, 0, 0, 0)] (pe := 295) (ls' := [some (.ref 0), some (.retAddr 998), some (.int (nI k)), some (.int (nI u)), some (.int (nI n)), some (.int (nI a)), some (.int (nI b))]) (st' := []) (M' := x2) (by decide +kernel) rfl ?_
      exact zT.retV ⟨rfl, rfl, h2.up (by omega)⟩ rfl (by decide +kernel)
    refine zT.zne (tgt := 236) (off := 13) (by decide +kernel) (by decide) (fun q0 => ?_) (fun q0 => ?_)
    · skip
      refine zT.run [(.iload_n 3, 0, 0, 0), (.iconst 4, 0, 0, 0), (.idiv, 0, 0, 0), (.iconst 2, 0, 0, 0), (.irem, 0, 0, 0)] (pe := 241) (ls' := [some (.ref 0), some (.retAddr 998), some (.int (nI k)), some (.int (nI u)), some (.int (nI n)), some (.int (nI a)), some (.int (nI b))]) (st' := [.int (((nI u) / 4) - ((nI u) / 4) / 2 * 2), .int (nI (u % 3)), .ref 0]) (M' := x) (by decide +kernel) rfl ?_
      rw [nI_div (c := 4) (b := 4) rfl hu (by decide) (by decide), nI_rem (c := 2) (b := 2) rfl (by omega) (by decide) (by decide)]
      exact nxt _ (Or.inr ⟨fun e => q0 (by rw [e]; rfl), by omega⟩)
    · skip
      have e0 : u % 3 = 0 := (nI_eq (b := 0) (by omega) (by decide)).mp q0
      refine zT.run [(.iconst 1, 0, 0, 0), (.iload_n 3, 0, 0, 0), (.iconst 4, 0, 0, 0), (.idiv, 0, 0, 0), (.iconst 4, 0, 0, 0), (.irem, 0, 0, 0), (.iadd, 0, 0, 0), (.goto 8, 0, 0, 0)] (pe := 241) (ls' := [some (.ref 0), some (.retAddr 998), some (.int (nI k)), some (.int (nI u)), some (.int (nI n)), some (.int (nI a)), some (.int (nI b))]) (st' := [.int (1 + (((nI u) / 4) - ((nI u) / 4) / 4 * 4)), .int (nI (u % 3)), .ref 0]) (M' := x) (by decide +kernel) rfl ?_
      rw [nI_div (c := 4) (b := 4) rfl hu (by decide) (by decide), nI_rem (c := 4) (b := 4) rfl (by omega) (by decide) (by decide), show (1 : Int32) + nI (u / 4 % 4) = nI (1 + u / 4 % 4) from nI_add 1 _]
      exact nxt _ (Or.inl ⟨e0, by omega, by omega⟩)
  have g248 : zT yy_L_act 0 0 (zEndR yy_L_act (fun rv sh' x' => rv = none ∧ sh' = sh_X sl ext ∧ XI n (T + 2) t0 x')) (248, [some (.ref 0), some (.retAddr 998), some (.int (nI k)), some (.int (nI u)), some (.int (nI n)), some (.int (nI a)), some (.int (nI b))], [], (sh_X sl ext), x) := by
    refine zT.run [(.aload_n 0, 0, 0, 0), (.iload 5, 0, 0, 0)] (pe := 251) (ls' := [some (.ref 0), some (.retAddr 998), some (.int (nI k)), some (.int (nI u)), some (.int (nI n)), some (.int (nI a)), some (.int (nI b))]) (st' := [.int (nI a), .ref 0]) (M' := x) (by decide +kernel) rfl ?_
    obtain ⟨q, x2, hC, h2⟩ := ft_recount (sl := sl) (ext := ext) h ha
    refine zT.cSw (idx := 158) (av := [.ref 0, .int (nI a)]) (rv := some (.int q)) (st := []) (S1 := [.int q]) (c_L_recount x x2 sl ext (nI a) q (hC)) rfl k_L_recount (zIn (w := 5090) (by decide +kernel) rfl) (by decide +kernel) (Nat.le_of_ble_eq_true rfl) (by decide +kernel) rfl rfl ?_
    refine zT.run [(.pop, 0, 0, 0), (.goto 40, 0, 0, 0)] (pe := 295) (ls' := [some (.ref 0), some (.retAddr 998), some (.int (nI k)), some (.int (nI u)), some (.int (nI n)), some (.int (nI a)), some (.int (nI b))]) (st' := []) (M' := x2) (by decide +kernel) rfl ?_
    exact zT.retV ⟨rfl, rfl, h2.up (by omega)⟩ rfl (by decide +kernel)
  have g258 : zT yy_L_act 0 0 (zEndR yy_L_act (fun rv sh' x' => rv = none ∧ sh' = sh_X sl ext ∧ XI n (T + 2) t0 x')) (258, [some (.ref 0), some (.retAddr 998), some (.int (nI k)), some (.int (nI u)), some (.int (nI n)), some (.int (nI a)), some (.int (nI b))], [], (sh_X sl ext), x) := by
    refine zT.run [(.aload_n 0, 0, 0, 0)] (pe := 259) (ls' := [some (.ref 0), some (.retAddr 998), some (.int (nI k)), some (.int (nI u)), some (.int (nI n)), some (.int (nI a)), some (.int (nI b))]) (st' := [.ref 0]) (M' := x) (by decide +kernel) rfl ?_
    obtain ⟨q, x2, hC, h2⟩ := ft_close (sl := sl) (ext := ext) h
    refine zT.cVx (o := 0) (idx := 124) (av := []) (rv := some (.int q)) (st := []) (S1 := [.int q]) (hC) k_X9_close 7 _ rfl rfl rfl (zIn (w := 5004) (by decide +kernel) rfl) (by decide +kernel) (Nat.le_of_ble_eq_true rfl) (by decide +kernel) rfl rfl ?_
    refine zT.run [(.pop, 0, 0, 0), (.goto 32, 0, 0, 0)] (pe := 295) (ls' := [some (.ref 0), some (.retAddr 998), some (.int (nI k)), some (.int (nI u)), some (.int (nI n)), some (.int (nI a)), some (.int (nI b))]) (st' := []) (M' := x2) (by decide +kernel) rfl ?_
    exact zT.retV ⟨rfl, rfl, h2.up (by omega)⟩ rfl (by decide +kernel)
  have g266 : zT yy_L_act 0 0 (zEndR yy_L_act (fun rv sh' x' => rv = none ∧ sh' = sh_X sl ext ∧ XI n (T + 2) t0 x')) (266, [some (.ref 0), some (.retAddr 998), some (.int (nI k)), some (.int (nI u)), some (.int (nI n)), some (.int (nI a)), some (.int (nI b))], [], (sh_X sl ext), x) := by
    refine zT.run [(.aload_n 0, 0, 0, 0)] (pe := 267) (ls' := [some (.ref 0), some (.retAddr 998), some (.int (nI k)), some (.int (nI u)), some (.int (nI n)), some (.int (nI a)), some (.int (nI b))]) (st' := [.ref 0]) (M' := x) (by decide +kernel) rfl ?_
    obtain ⟨q, x2, hC, h2⟩ := ft_count (sl := sl) (ext := ext) h
    refine zT.cVx (o := 0) (idx := 135) (av := []) (rv := some (.int q)) (st := []) (S1 := [.int q]) (hC) k_X9_count 7 _ rfl rfl rfl (zIn (w := 5042) (by decide +kernel) rfl) (by decide +kernel) (Nat.le_of_ble_eq_true rfl) (by decide +kernel) rfl rfl ?_
    refine zT.run [(.pop, 0, 0, 0), (.goto 24, 0, 0, 0)] (pe := 295) (ls' := [some (.ref 0), some (.retAddr 998), some (.int (nI k)), some (.int (nI u)), some (.int (nI n)), some (.int (nI a)), some (.int (nI b))]) (st' := []) (M' := x2) (by decide +kernel) rfl ?_
    exact zT.retV ⟨rfl, rfl, h2.up (by omega)⟩ rfl (by decide +kernel)
  have g274 : zT yy_L_act 0 0 (zEndR yy_L_act (fun rv sh' x' => rv = none ∧ sh' = sh_X sl ext ∧ XI n (T + 2) t0 x')) (274, [some (.ref 0), some (.retAddr 998), some (.int (nI k)), some (.int (nI u)), some (.int (nI n)), some (.int (nI a)), some (.int (nI b))], [], (sh_X sl ext), x) := by
    refine zT.run [(.iload_n 3, 0, 0, 0), (.iconst 3, 0, 0, 0), (.irem, 0, 0, 0)] (pe := 277) (ls' := [some (.ref 0), some (.retAddr 998), some (.int (nI k)), some (.int (nI u)), some (.int (nI n)), some (.int (nI a)), some (.int (nI b))]) (st' := [.int ((nI u) - (nI u) / 3 * 3)]) (M' := x) (by decide +kernel) rfl ?_
    refine zT.zne (tgt := 288) (off := 11) (by decide +kernel) (by decide) (fun _ => ?_) (fun _ => ?_)
    · skip
      refine zT.run [(.aload_n 0, 0, 0, 0), (.iload 5, 0, 0, 0)] (pe := 291) (ls' := [some (.ref 0), some (.retAddr 998), some (.int (nI k)), some (.int (nI u)), some (.int (nI n)), some (.int (nI a)), some (.int (nI b))]) (st' := [.int (nI a), .ref 0]) (M' := x) (by decide +kernel) rfl ?_
      obtain ⟨q, x2, hC, h2⟩ := ft_call (sl := sl) (ext := ext) h (by omega) ha
      refine zT.cSw (idx := 119) (av := [.ref 0, .int (nI a)]) (rv := some (.int q)) (st := []) (S1 := [.int q]) (c_L_call x x2 sl ext (nI a) q (hC)) rfl k_L_call (zIn (w := 4226) (by decide +kernel) rfl) (by decide +kernel) (Nat.le_of_ble_eq_true rfl) (by decide +kernel) rfl rfl ?_
      refine zT.run [(.pop, 0, 0, 0)] (pe := 295) (ls' := [some (.ref 0), some (.retAddr 998), some (.int (nI k)), some (.int (nI u)), some (.int (nI n)), some (.int (nI a)), some (.int (nI b))]) (st' := []) (M' := x2) (by decide +kernel) rfl ?_
      exact zT.retV ⟨rfl, rfl, h2.up (by omega)⟩ rfl (by decide +kernel)
    · skip
      refine zT.run [(.aload_n 0, 0, 0, 0)] (pe := 281) (ls' := [some (.ref 0), some (.retAddr 998), some (.int (nI k)), some (.int (nI u)), some (.int (nI n)), some (.int (nI a)), some (.int (nI b))]) (st' := [.ref 0]) (M' := x) (by decide +kernel) rfl ?_
      obtain ⟨q, x2, hC, h2⟩ := ft_giveUp (sl := sl) (ext := ext) h
      refine zT.cVx (o := 0) (idx := 160) (av := []) (rv := some (.int q)) (st := []) (S1 := [.int q]) (hC) k_X9_giveUp 7 _ rfl rfl rfl (zIn (w := 5098) (by decide +kernel) rfl) (by decide +kernel) (Nat.le_of_ble_eq_true rfl) (by decide +kernel) rfl rfl ?_
      refine zT.run [(.pop, 0, 0, 0), (.goto 10, 0, 0, 0)] (pe := 295) (ls' := [some (.ref 0), some (.retAddr 998), some (.int (nI k)), some (.int (nI u)), some (.int (nI n)), some (.int (nI a)), some (.int (nI b))]) (st' := []) (M' := x2) (by decide +kernel) rfl ?_
      exact zT.retV ⟨rfl, rfl, h2.up (by omega)⟩ rfl (by decide +kernel)
  rcases (show j = 0 ∨ j = 1 ∨ j = 2 ∨ j = 3 ∨ j = 4 ∨ j = 5 ∨ j = 6 ∨ j = 7 ∨ j = 8 ∨ j = 9 ∨ j = 10 ∨ j = 11 ∨ j = 12 ∨ j = 13 ∨ j = 14 ∨ j = 15 by omega) with rfl | rfl | rfl | rfl | rfl | rfl | rfl | rfl | rfl | rfl | rfl | rfl | rfl | rfl | rfl | rfl
  · exact zT.tabIn (dflt := 233) (lo := 0) (hi := 14) (offs := #[75, 75, 75, 75, 75, 75, 75, 91, 108, 132, 159, 175, 207, 217, 225]) (len := 75) (tgt := 116) (off := 75) (x := nI 0) (by decide +kernel) (by decide) (by decide) (by decide) (by decide) g116
  · exact zT.tabIn (dflt := 233) (lo := 0) (hi := 14) (offs := #[75, 75, 75, 75, 75, 75, 75, 91, 108, 132, 159, 175, 207, 217, 225]) (len := 75) (tgt := 116) (off := 75) (x := nI 1) (by decide +kernel) (by decide) (by decide) (by decide) (by decide) g116
  · exact zT.tabIn (dflt := 233) (lo := 0) (hi := 14) (offs := #[75, 75, 75, 75, 75, 75, 75, 91, 108, 132, 159, 175, 207, 217, 225]) (len := 75) (tgt := 116) (off := 75) (x := nI 2) (by decide +kernel) (by decide) (by decide) (by decide) (by decide) g116
  · exact zT.tabIn (dflt := 233) (lo := 0) (hi := 14) (offs := #[75, 75, 75, 75, 75, 75, 75, 91, 108, 132, 159, 175, 207, 217, 225]) (len := 75) (tgt := 116) (off := 75) (x := nI 3) (by decide +kernel) (by decide) (by decide) (by decide) (by decide) g116
  · exact zT.tabIn (dflt := 233) (lo := 0) (hi := 14) (offs := #[75, 75, 75, 75, 75, 75, 75, 91, 108, 132, 159, 175, 207, 217, 225]) (len := 75) (tgt := 116) (off := 75) (x := nI 4) (by decide +kernel) (by decide) (by decide) (by decide) (by decide) g116
  · exact zT.tabIn (dflt := 233) (lo := 0) (hi := 14) (offs := #[75, 75, 75, 75, 75, 75, 75, 91, 108, 132, 159, 175, 207, 217, 225]) (len := 75) (tgt := 116) (off := 75) (x := nI 5) (by decide +kernel) (by decide) (by decide) (by decide) (by decide) g116
  · exact zT.tabIn (dflt := 233) (lo := 0) (hi := 14) (offs := #[75, 75, 75, 75, 75, 75, 75, 91, 108, 132, 159, 175, 207, 217, 225]) (len := 75) (tgt := 116) (off := 75) (x := nI 6) (by decide +kernel) (by decide) (by decide) (by decide) (by decide) g116
  · exact zT.tabIn (dflt := 233) (lo := 0) (hi := 14) (offs := #[75, 75, 75, 75, 75, 75, 75, 91, 108, 132, 159, 175, 207, 217, 225]) (len := 75) (tgt := 132) (off := 91) (x := nI 7) (by decide +kernel) (by decide) (by decide) (by decide) (by decide) g132
  · exact zT.tabIn (dflt := 233) (lo := 0) (hi := 14) (offs := #[75, 75, 75, 75, 75, 75, 75, 91, 108, 132, 159, 175, 207, 217, 225]) (len := 75) (tgt := 149) (off := 108) (x := nI 8) (by decide +kernel) (by decide) (by decide) (by decide) (by decide) g149
  · exact zT.tabIn (dflt := 233) (lo := 0) (hi := 14) (offs := #[75, 75, 75, 75, 75, 75, 75, 91, 108, 132, 159, 175, 207, 217, 225]) (len := 75) (tgt := 173) (off := 132) (x := nI 9) (by decide +kernel) (by decide) (by decide) (by decide) (by decide) g173
  · exact zT.tabIn (dflt := 233) (lo := 0) (hi := 14) (offs := #[75, 75, 75, 75, 75, 75, 75, 91, 108, 132, 159, 175, 207, 217, 225]) (len := 75) (tgt := 200) (off := 159) (x := nI 10) (by decide +kernel) (by decide) (by decide) (by decide) (by decide) g200
  · exact zT.tabIn (dflt := 233) (lo := 0) (hi := 14) (offs := #[75, 75, 75, 75, 75, 75, 75, 91, 108, 132, 159, 175, 207, 217, 225]) (len := 75) (tgt := 216) (off := 175) (x := nI 11) (by decide +kernel) (by decide) (by decide) (by decide) (by decide) g216
  · exact zT.tabIn (dflt := 233) (lo := 0) (hi := 14) (offs := #[75, 75, 75, 75, 75, 75, 75, 91, 108, 132, 159, 175, 207, 217, 225]) (len := 75) (tgt := 248) (off := 207) (x := nI 12) (by decide +kernel) (by decide) (by decide) (by decide) (by decide) g248
  · exact zT.tabIn (dflt := 233) (lo := 0) (hi := 14) (offs := #[75, 75, 75, 75, 75, 75, 75, 91, 108, 132, 159, 175, 207, 217, 225]) (len := 75) (tgt := 258) (off := 217) (x := nI 13) (by decide +kernel) (by decide) (by decide) (by decide) (by decide) g258
  · exact zT.tabIn (dflt := 233) (lo := 0) (hi := 14) (offs := #[75, 75, 75, 75, 75, 75, 75, 91, 108, 132, 159, 175, 207, 217, 225]) (len := 75) (tgt := 266) (off := 225) (x := nI 14) (by decide +kernel) (by decide) (by decide) (by decide) (by decide) g266
  · exact zT.tabOut (dflt := 233) (lo := 0) (hi := 14) (offs := #[75, 75, 75, 75, 75, 75, 75, 91, 108, 132, 159, 175, 207, 217, 225]) (len := 75) (tgt := 274) (x := nI 15) (by decide +kernel) (Or.inr (by decide)) (by decide) g274
theorem k_L_act : zCad yy_L_act 3 := ⟨⟨⟨zIn (w := 4185) (by decide +kernel) rfl, zIn (w := 1000) (by decide +kernel) rfl⟩, by decide +kernel⟩, zIn (w := 4184) (by decide +kernel) rfl⟩
