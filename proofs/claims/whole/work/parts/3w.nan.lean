/-! NO NUMBER: a share of small counts is one -/
theorem zNan32 : ∀ a : Nat, a < 10 → ∀ b : Nat, b < 10 → b ≠ 0 → vf_n32 (FP.fdiv (FP.i2f (nI a)) (FP.i2f (nI b))) ∧ vf_n64 (FP.f2d (FP.fdiv (FP.i2f (nI a)) (FP.i2f (nI b)))) := by
  unfold vf_n32 vf_n64
  decide +kernel
theorem zNan64 : ∀ a : Nat, a < 10 → ∀ b : Nat, b < 10 → b ≠ 0 → vf_n64 (FP.ddiv (FP.i2d (nI a)) (FP.i2d (nI b))) := by
  unfold vf_n64
  decide +kernel
