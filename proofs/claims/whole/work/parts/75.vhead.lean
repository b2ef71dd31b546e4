/-! THE LOOP'S HEAD -/
theorem zHead {Ns i : Nat} (hN : Ns < 4096) (hi : 6 * i < 4096) : (nI Ns - 6 < nI (6 * i)) ↔ Ns < 6 * i + 6 := by
  rw [Int32.lt_iff_toInt_lt, Int32.toInt_sub, nI_toInt (by omega), nI_toInt (by omega), show (6 : Int32).toInt = 6 from rfl, Int.bmod_eq_of_le (by omega) (by omega)]
  omega
set_option maxRecDepth 100000 in
theorem L_head {Z : zS → Prop} {kc nc : Nat} (s : Nat → Int32) (Ns i : Nat) (hN : Ns < 4096) (hi : 6 * i < 4096) (gp : Nat → Option Nat) (ob : Nat → Int64) (sl : Nat → Option Nat) (ext : List va_E) (m x : zM) (ke : Ns < 6 * i + 6 → zV s Ns kc nc Z (2025, [some (.retAddr 998), some (.ref 22), some (.ref 0), some (.ref 21), some (.int (nI (6 * i))), none, none, none, none], [.int 1], sh_W Ns gp ob sl ext, zJ s m x)) (kc9 : 6 * i + 6 ≤ Ns → zV s Ns kc nc Z (40, [some (.retAddr 998), some (.ref 22), some (.ref 0), some (.ref 21), some (.int (nI (6 * i))), none, none, none, none], [.int (s (6 * i) &&& 63)], sh_W Ns gp ob sl ext, zJ s m x)) : zV s Ns kc nc Z (23, [some (.retAddr 998), some (.ref 22), some (.ref 0), some (.ref 21), some (.int (nI (6 * i))), none, none, none, none], [], sh_W Ns gp ob sl ext, zJ s m x) := by
  refine zV.v0 (zT.run [(.iload 4, 0, 0, 0), (.aload_n 0, 0, 0, 0)] (pe := 26) (ls' := [some (.retAddr 998), some (.ref 22), some (.ref 0), some (.ref 21), some (.int (nI (6 * i))), none, none, none, none]) (st' := [.retAddr 998, .int (nI (6 * i))]) (M' := (zJ s m x)) (by decide +kernel) rfl (zT.here rfl)) ?_
  refine zV.alen (by decide +kernel) ?_
  refine zV.v0 (zT.run [(.bipush 6, 0, 0, 0), (.isub, 0, 0, 0)] (pe := 30) (ls' := [some (.retAddr 998), some (.ref 22), some (.ref 0), some (.ref 21), some (.int (nI (6 * i))), none, none, none, none]) (st' := [.int (nI Ns - 6), .int (nI (6 * i))]) (M' := (zJ s m x)) (by decide +kernel) rfl (zT.here rfl)) ?_
  refine zV.cgt (tgt := 2024) (off := 1994) (by decide +kernel) (by decide) (fun c => ?_) (fun c => ?_)
  · skip
    refine zV.v0 (zT.run [(.iconst 1, 0, 0, 0)] (pe := 2025) (ls' := [some (.retAddr 998), some (.ref 22), some (.ref 0), some (.ref 21), some (.int (nI (6 * i))), none, none, none, none]) (st' := [.int 1]) (M' := (zJ s m x)) (by decide +kernel) rfl (zT.here rfl)) ?_
    exact ke (by have := (zHead hN hi).mp c; omega)
  · skip
    refine zV.v0 (zT.run [(.aload_n 0, 0, 0, 0), (.iload 4, 0, 0, 0)] (pe := 36) (ls' := [some (.retAddr 998), some (.ref 22), some (.ref 0), some (.ref 21), some (.int (nI (6 * i))), none, none, none, none]) (st' := [.int (nI (6 * i)), .retAddr 998]) (M' := (zJ s m x)) (by decide +kernel) rfl (zT.here rfl)) ?_
    have hle : 6 * i + 6 ≤ Ns := by have h9 : ¬ Ns < 6 * i + 6 := fun h => c ((zHead hN hi).mpr h); omega
    refine zV.iald (k := 6 * i) rfl (by omega) (by omega) (by decide +kernel) ?_
    refine zV.v0 (zT.run [(.bipush 63, 0, 0, 0), (.iand, 0, 0, 0)] (pe := 40) (ls' := [some (.retAddr 998), some (.ref 22), some (.ref 0), some (.ref 21), some (.int (nI (6 * i))), none, none, none, none]) (st' := [.int (s (6 * i) &&& 63)]) (M' := (zJ s m x)) (by decide +kernel) rfl (zT.here rfl)) ?_
    exact kc9 hle
/-! THE SWITCH -/
def zCase (c : Nat) : Nat := ([200, 213, 269, 337, 417, 430, 510, 523, 579, 592, 676, 772, 840, 908, 921, 977, 1033, 1106, 1162, 1218, 1286, 1361, 1429, 1509, 1522, 1590, 1653, 1721, 1789, 1802, 1815, 1883, 1896, 1939, 1980, 1993] : List Nat).getD c 0
theorem zCase_at : ∀ c, c < 36 → (#[160, 173, 229, 297, 377, 390, 470, 483, 539, 552, 636, 732, 800, 868, 881, 937, 993, 1066, 1122, 1178, 1246, 1321, 1389, 1469, 1482, 1550, 1613, 1681, 1749, 1762, 1775, 1843, 1856, 1899, 1940, 1953] : Array Int)[c]? = some ((zCase c : Int) - 40) := by decide +kernel
theorem L_sw {s : Nat → Int32} {Ns : Nat} {Z : zS → Prop} {kc nc : Nat} (x : Int32) {ls : zL} {st : List Value} {sh : List va_E} {M : zM} (k : ∀ c : Nat, c < 36 → x = nI c → zV s Ns kc nc Z (zCase c, ls, st, sh, M)) (kd : (∀ c : Nat, c < 36 → ¬ x = nI c) → zV s Ns kc nc Z (2018, ls, st, sh, M)) : zV s Ns kc nc Z (40, ls, .int x :: st, sh, M) := by
  have hd : decode yy_L_law.2.1 40 = .ok (.tableswitch 1978 0 35 #[160, 173, 229, 297, 377, 390, 470, 483, 539, 552, 636, 732, 800, 868, 881, 937, 993, 1066, 1122, 1178, 1246, 1321, 1389, 1469, 1482, 1550, 1613, 1681, 1749, 1762, 1775, 1843, 1856, 1899, 1940, 1953], 160) := by decide +kernel
  by_cases h : x.toInt < 0 ∨ 35 < x.toInt
  · refine zV.v0 (zT.tabOut (tgt := 2018) hd h (by decide) (zT.here rfl)) (kd fun c hc e => ?_)
    rw [e, nI_toInt (by omega)] at h
    omega
  · have h1 : ¬ x.toInt < 0 := fun q => h (Or.inl q)
    have h2 : ¬ 35 < x.toInt := fun q => h (Or.inr q)
    have hc : x.toInt.toNat < 36 := by omega
    have hx : x = nI x.toInt.toNat := Int32.toInt_inj.mp (by rw [nI_toInt (by omega)]; omega)
    refine zV.v0 (zT.tabIn (tgt := zCase x.toInt.toNat) (off := (zCase x.toInt.toNat : Int) - 40) hd h1 h2 ?_ (by omega) (zT.here rfl)) (k _ hc hx)
    rw [Int.sub_zero]
    exact zCase_at _ hc
theorem L_def {Z : zS → Prop} {kc nc : Nat} (s : Nat → Int32) (Ns i : Nat) (gp : Nat → Option Nat) (ob : Nat → Int64) (sl : Nat → Option Nat) (ext : List va_E) (m x : zM) (k9 : zV s Ns kc nc Z (23, [some (.retAddr 998), some (.ref 22), some (.ref 0), some (.ref 21), some (.int (nI (6 * (i + 1)))), none, none, none, none], [], sh_W Ns gp ob sl ext, zJ s m x)) : zV s Ns kc nc Z (2018, [some (.retAddr 998), some (.ref 22), some (.ref 0), some (.ref 21), some (.int (nI (6 * i))), none, none, none, none], [], sh_W Ns gp ob sl ext, zJ s m x) := by
  refine zV.v0 (zT.run [(.iinc 4 6, 0, 0, 0), (.goto (-1998), 0, 0, 0)] (pe := 23) (ls' := [some (.retAddr 998), some (.ref 22), some (.ref 0), some (.ref 21), some (.int (nI (6 * i) + 6)), none, none, none, none]) (st' := []) (M' := (zJ s m x)) (by decide +kernel) rfl (zT.here rfl)) ?_
  exact zV.eq (by rw [show nI (6 * i) + 6 = nI (6 * (i + 1)) from nI_addl (6 * i) 6]) k9
/-- a round's budget, some rounds of it -/
theorem zV.rounds {s : Nat → Int32} {Ns : Nat} {K N : Nat} {Z : zS → Prop} {St : Type} (R : Nat → St → Prop) (S : Nat → St → zS) (n : Nat) (hend : ∀ u, R n u → zV s Ns 0 0 Z (S n u)) (hstep : ∀ i, i < n → ∀ u, R i u → ∀ kc nc, (∀ u', R (i + 1) u' → zV s Ns kc nc Z (S (i + 1) u')) → zV s Ns (K + kc) (N + nc) Z (S i u)) : ∀ j i, i + j = n → ∀ u, R i u → zV s Ns (K * j) (N * j) Z (S i u)
  | 0, i, h, u, hu => by
    obtain rfl : i = n := by omega
    exact hend u hu
  | j + 1, i, h, u, hu => by
    have := hstep i (by omega) u hu (K * j) (N * j) (fun u' hu' => zV.rounds R S n hend hstep j (i + 1) (by omega) u' hu')
    rw [show K * (j + 1) = K + K * j by rw [Nat.mul_succ]; omega, show N * (j + 1) = N + N * j by rw [Nat.mul_succ]; omega]
    exact this
