/-! SHARES COMPARE -/
theorem fd_cm : ∀ y, y < 100 → ∀ x, x < 101 → FP.dcmp (FP.f2d (FP.fdiv (FP.i2f (nI x)) (FP.i2f (nI (y + 1))))) (FP.f2d (FP.fdiv (FP.i2f (nI x)) (FP.i2f (nI (y + 1))))) = some .eq := by
  decide +kernel
theorem shF_c {l a : Nat} (hl : l ≤ 100) (ha : a ≤ 100) : FP.dcmp (FP.f2d (shF l a)) (FP.f2d (shF l a)) = some .eq := by
  unfold shF
  by_cases h : nI a = 0
  · rw [if_pos h]; decide +kernel
  · rw [if_neg h]
    have h0 : a ≠ 0 := fun e => h (by rw [e]; rfl)
    have := fd_cm (a - 1) (by omega) l (by omega)
    rw [show a - 1 + 1 = a by omega] at this
    exact this
theorem shF_n64 {v : UInt32} (h : ∃ l a9 : Nat, l ≤ 100 ∧ a9 ≤ 100 ∧ v = shF l a9) : vf_n64 (FP.f2d v) := by
  obtain ⟨l, a9, h1, h2, rfl⟩ := h
  exact shF_d h1 h2
theorem sh_cmp {n : Nat} {v w : UInt32} {D : JD} {b : Nat} (hn : n = 0) (hv : w = v) (h : ∃ l a9 : Nat, l ≤ 100 ∧ a9 ≤ 100 ∧ v = shF l a9) : Op.cmpValue (FP.dcmp (wDo n D b (FP.f2d v) b 0) (FP.f2d w)) .l = 0 := by
  subst hn
  subst hv
  obtain ⟨l, a9, h1, h2, rfl⟩ := h
  rw [show wDo 0 D b (FP.f2d (shF l a9)) b 0 = FP.f2d (shF l a9) by show u2 D b 0 _ b 0 = _; rw [u2_ap, if_pos rfl, if_pos rfl], shF_c h1 h2]
  rfl
