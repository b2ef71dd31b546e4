theorem L_def {Z : zS → Prop} {kc nc : Nat} (s : Nat → Int32) (Ns i : Nat) (gp : Nat → Option Nat) (ob : Nat → Int64) (sl : Nat → Option Nat) (ext : List va_E) (m x : zM) (k9 : zT yy_L_law kc nc Z (23, [some (.ref 0), some (.ref 23), some (.ref 1), some (.ref 22), some (.int (nI (6 * (i + 1)))), none, none, none, none], [], sh_W Ns gp ob sl ext, zJ s m x)) : zT yy_L_law kc nc Z (2018, [some (.ref 0), some (.ref 23), some (.ref 1), some (.ref 22), some (.int (nI (6 * i))), none, none, none, none], [], sh_W Ns gp ob sl ext, zJ s m x) := by
  refine zT.run [(.iinc 4 6, 0, 0, 0), (.goto (-1998), 0, 0, 0)] (pe := 23) (ls' := [some (.ref 0), some (.ref 23), some (.ref 1), some (.ref 22), some (.int (nI (6 * i) + 6)), none, none, none, none]) (st' := []) (M' := (zJ s m x)) (by decide +kernel) rfl ?_
  exact zT.eq (by rw [show nI (6 * i) + 6 = nI (6 * (i + 1)) from nI_addl (6 * i) 6]) k9
/-- a round's budget, some rounds of it -/
theorem zT.rounds {Y : zY} {K N : Nat} {Z : zS → Prop} {St : Type} (R : Nat → St → Prop) (S : Nat → St → zS) (n : Nat) (hend : ∀ u, R n u → zT Y 0 0 Z (S n u)) (hstep : ∀ i, i < n → ∀ u, R i u → ∀ kc nc, (∀ u', R (i + 1) u' → zT Y kc nc Z (S (i + 1) u')) → zT Y (K + kc) (N + nc) Z (S i u)) : ∀ j i, i + j = n → ∀ u, R i u → zT Y (K * j) (N * j) Z (S i u)
  | 0, i, h, u, hu => by
    obtain rfl : i = n := by omega
    exact hend u hu
  | j + 1, i, h, u, hu => by
    have := hstep i (by omega) u hu (K * j) (N * j) (fun u' hu' => zT.rounds R S n hend hstep j (i + 1) (by omega) u' hu')
    rw [show K * (j + 1) = K + K * j by rw [Nat.mul_succ]; omega, show N * (j + 1) = N + N * j by rw [Nat.mul_succ]; omega]
    exact this
