/-! SETS OF SMALL NUMBERS in an int, by their bits; what loops come to -/
def qB (S : Int32) (r : Nat) : Bool := S.toBitVec.getLsbD r
def qS (n : Nat) (S : Int32) : Prop := ∀ r, n ≤ r → qB S r = false
theorem qS.mono {n m : Nat} {S : Int32} (h : qS n S) (hm : n ≤ m) : qS m S := fun r hr => h r (Nat.le_trans hm hr)
/-! loops -/
