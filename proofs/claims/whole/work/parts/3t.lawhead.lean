/-! THE LOOP'S HEAD -/
theorem zHead {Ns i : Nat} (hN : Ns < 4096) (hi : 6 * i < 4096) : (nI Ns - 6 < nI (6 * i)) ↔ Ns < 6 * i + 6 := by
  rw [Int32.lt_iff_toInt_lt, Int32.toInt_sub, nI_toInt (by omega), nI_toInt (by omega), show (6 : Int32).toInt = 6 from rfl, Int.bmod_eq_of_le (by omega) (by omega)]
  omega
set_option maxRecDepth 100000 in
theorem L_head {Z : zS → Prop} {kc nc : Nat} (s : Nat → Int32) (Ns i : Nat) (hN : Ns < 4096) (hi : 6 * i < 4096) (gp : Nat → Option Nat) (ob : Nat → Int64) (sl : Nat → Option Nat) (ext : List va_E) (m x : zM) (ke : Ns < 6 * i + 6 → zT yy_L_law kc nc Z (2025, [some (.ref 0), some (.ref 23), some (.ref 1), some (.ref 22), some (.int (nI (6 * i))), none, none, none, none], [.int 1], sh_W Ns gp ob sl ext, zJ s m x)) (kc9 : 6 * i + 6 ≤ Ns → zT yy_L_law kc nc Z (40, [some (.ref 0), some (.ref 23), some (.ref 1), some (.ref 22), some (.int (nI (6 * i))), none, none, none, none], [.int (s (6 * i) &&& 63)], sh_W Ns gp ob sl ext, zJ s m x)) : zT yy_L_law kc nc Z (23, [some (.ref 0), some (.ref 23), some (.ref 1), some (.ref 22), some (.int (nI (6 * i))), none, none, none, none], [], sh_W Ns gp ob sl ext, zJ s m x) := by
  refine zT.run [(.iload 4, 0, 0, 0), (.aload_n 0, 0, 0, 0), (.arraylength, 0, 0, 0), (.bipush 6, 0, 0, 0), (.isub, 0, 0, 0)] (pe := 30) (ls' := [some (.ref 0), some (.ref 23), some (.ref 1), some (.ref 22), some (.int (nI (6 * i))), none, none, none, none]) (st' := [.int (nI Ns - 6), .int (nI (6 * i))]) (M' := (zJ s m x)) (by decide +kernel) rfl ?_
  refine zT.cgt (tgt := 2024) (off := 1994) (by decide +kernel) (by decide) (fun c => ?_) (fun c => ?_)
  · skip
    refine zT.run [(.iconst 1, 0, 0, 0)] (pe := 2025) (ls' := [some (.ref 0), some (.ref 23), some (.ref 1), some (.ref 22), some (.int (nI (6 * i))), none, none, none, none]) (st' := [.int 1]) (M' := (zJ s m x)) (by decide +kernel) rfl ?_
    exact ke (by have := (zHead hN hi).mp c; omega)
  · skip
    refine zT.run [(.aload_n 0, 0, 0, 0), (.iload 4, 0, 0, 0)] (pe := 36) (ls' := [some (.ref 0), some (.ref 23), some (.ref 1), some (.ref 22), some (.int (nI (6 * i))), none, none, none, none]) (st' := [.int (nI (6 * i)), .ref 0]) (M' := (zJ s m x)) (by decide +kernel) rfl ?_
    have hle : 6 * i + 6 ≤ Ns := by have h9 : ¬ Ns < 6 * i + 6 := fun h => c ((zHead hN hi).mpr h); omega
    refine zT.iald (n := Ns) (k := 6 * i) rfl rfl (by omega) (by omega) (by decide +kernel) ?_
    refine zT.run [(.bipush 63, 0, 0, 0), (.iand, 0, 0, 0)] (pe := 40) (ls' := [some (.ref 0), some (.ref 23), some (.ref 1), some (.ref 22), some (.int (nI (6 * i))), none, none, none, none]) (st' := [.int (s (6 * i) &&& 63)]) (M' := (zJ s m x)) (by decide +kernel) rfl ?_
    exact kc9 hle
