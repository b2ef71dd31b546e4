/-! A ROW OF LONGS -/
section ZLG
variable {Y : zY} {kc nc : Nat} {Z : zS → Prop} {pc : Nat} {ls : zL} {st : List Value} {sh : List va_E} {M : zM} {o n k : Nat} {i : Int32} {z : Nat → Int64}
end ZLG
/-! WHAT THROWS -/
theorem zPl0 {M : zM} : zPl M 0 = M := by
  funext k
  show M (0 + k) = M k
  rw [Nat.zero_add]
