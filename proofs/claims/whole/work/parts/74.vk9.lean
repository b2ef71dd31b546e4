theorem Jo_s {sl : Nat → Option Nat} {ext : List va_E} {ob : Nat → Int64} {x x' : zM} {j : Nat} (hj : j < (sh_O ob sl ext).length) : zPs (zJo x) 1 (sh_X sl ext).length x' j = zJo x' j := by
  rw [len_O] at hj
  by_cases h : j = 0
  · rw [zPs_out (by omega)]
    unfold zJo
    rw [if_pos h, if_pos h]
  · rw [zPs_in (by omega) (by rw [zX_len]; omega)]
    unfold zJo
    rw [if_neg h]
/-- what comes after a round -/
def zK9 (kc nc : Nat) (Z : zS → Prop) (s : Nat → Int32) (Ns i T : Nat) : Prop := ∀ (ob' : Nat → Int64) (gq' : Nat → Nat) (sl' : Nat → Option Nat) (ext' : List va_E) (m' x' : zM), xE T sl' ext' gq' x' m' → zV s Ns kc nc Z (23, [some (.retAddr 998), some (.ref 22), some (.ref 0), some (.ref 21), some (.int (nI (6 * i))), none, none, none, none], [], sh_W Ns (zGp gq') ob' sl' ext', zJ s m' x')
