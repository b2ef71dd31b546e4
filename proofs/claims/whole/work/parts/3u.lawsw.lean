/-! THE SWITCH -/
def zCase (c : Nat) : Nat := ([200, 213, 269, 337, 417, 430, 510, 523, 579, 592, 676, 772, 840, 908, 921, 977, 1033, 1106, 1162, 1218, 1286, 1361, 1429, 1509, 1522, 1590, 1653, 1721, 1789, 1802, 1815, 1883, 1896, 1939, 1980, 1993] : List Nat).getD c 0
theorem zCase_at : ∀ c, c < 36 → (#[160, 173, 229, 297, 377, 390, 470, 483, 539, 552, 636, 732, 800, 868, 881, 937, 993, 1066, 1122, 1178, 1246, 1321, 1389, 1469, 1482, 1550, 1613, 1681, 1749, 1762, 1775, 1843, 1856, 1899, 1940, 1953] : Array Int)[c]? = some ((zCase c : Int) - 40) := by decide +kernel
theorem L_sw {Z : zS → Prop} {kc nc : Nat} (x : Int32) {ls : zL} {st : List Value} {sh : List va_E} {M : zM} (k : ∀ c : Nat, c < 36 → x = nI c → zT yy_L_law kc nc Z (zCase c, ls, st, sh, M)) (kd : (∀ c : Nat, c < 36 → ¬ x = nI c) → zT yy_L_law kc nc Z (2018, ls, st, sh, M)) : zT yy_L_law kc nc Z (40, ls, .int x :: st, sh, M) := by
  have hd : decode yy_L_law.2.1 40 = .ok (.tableswitch 1978 0 35 #[160, 173, 229, 297, 377, 390, 470, 483, 539, 552, 636, 732, 800, 868, 881, 937, 993, 1066, 1122, 1178, 1246, 1321, 1389, 1469, 1482, 1550, 1613, 1681, 1749, 1762, 1775, 1843, 1856, 1899, 1940, 1953], 160) := by decide +kernel
  by_cases h : x.toInt < 0 ∨ 35 < x.toInt
  · refine zT.tabOut (tgt := 2018) hd h (by decide) (kd fun c hc e => ?_)
    rw [e, nI_toInt (by omega)] at h
    omega
  · have h1 : ¬ x.toInt < 0 := fun q => h (Or.inl q)
    have h2 : ¬ 35 < x.toInt := fun q => h (Or.inr q)
    have hc : x.toInt.toNat < 36 := by omega
    have hx : x = nI x.toInt.toNat := Int32.toInt_inj.mp (by rw [nI_toInt (by omega)]; omega)
    refine zT.tabIn (tgt := zCase x.toInt.toNat) (off := (zCase x.toInt.toNat : Int) - 40) hd h1 h2 ?_ (by omega) (k _ hc hx)
    rw [Int.sub_zero]
    exact zCase_at _ hc
