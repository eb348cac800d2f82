/-! LOADED SHARES: no division of small numbers gives a NaN -/
theorem fd_ok : ∀ y, y < 100 → ∀ x, x < 101 → vf_n32 (FP.fdiv (FP.i2f (nI x)) (FP.i2f (nI (y + 1)))) ∧ vf_n64 (FP.f2d (FP.fdiv (FP.i2f (nI x)) (FP.i2f (nI (y + 1))))) := by
  unfold vf_n32 vf_n64
  decide +kernel
