/-! the classes' own words are among the good ones -/
theorem k_inb {ws : List Cond} (h : ws.all (fun w => decide (w ∈ lw_tbl) && goodWord w) = true) : ∀ w ∈ ws, w ∈ lw_good := fun w hw => by
  have h1 := List.all_eq_true.mp h w hw
  simp only [Bool.and_eq_true, decide_eq_true_eq] at h1
  exact List.mem_filter.mpr h1
theorem k_in : ∀ ci, ci < 9 → ∀ w ∈ u_ws (kR ci) (kT ci) (kN ci), w ∈ lw_good := k_nine (k_inb (by decide +kernel)) (k_inb (by decide +kernel)) (k_inb (by decide +kernel)) (k_inb (by decide +kernel)) (k_inb (by decide +kernel)) (k_inb (by decide +kernel)) (k_inb (by decide +kernel)) (k_inb (by decide +kernel)) (k_inb (by decide +kernel))
