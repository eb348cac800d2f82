/-! ENDS: returns and throws -/
abbrev jj_names : List String := ["java/lang/RuntimeException", "java/lang/Exception"]
def XOK (own : String) (ik ic : Nat) (cls : String) : Prop := Bundle.fit cls = true ∧ Cond.classLink own ik cls ∈ lw_good ∧ Cond.initialized cls ∈ lw_good ∧ ∀ w ∈ vx_atS own ic cls jj_names, w ∈ lw_tbl ∧ (goodWord w || jj_nest w) = true
theorem xok_of {own : String} {ik ic : Nat} {cls : String} (h0 : Bundle.fit cls = true) (h1 : [Cond.classLink own ik cls, Cond.initialized cls].all (fun w => decide (w ∈ lw_tbl) && goodWord w) = true) (h2 : (vx_atS own ic cls jj_names).all (fun w => decide (w ∈ lw_tbl) && (goodWord w || jj_nest w)) = true) : XOK own ik ic cls := ⟨h0, k_inb h1 _ List.mem_cons_self, k_inb h1 _ (List.mem_cons_of_mem _ List.mem_cons_self), fun w hw => by
  have h3 := List.all_eq_true.mp h2 w hw
  rw [Bool.and_eq_true, decide_eq_true_eq] at h3
  exact h3⟩
theorem xok_1 : XOK RX8 81 85 xIOB := xok_of (by decide +kernel) (by decide +kernel) (by decide +kernel)
theorem xok_2 : XOK RX8 320 324 xIAE := xok_of (by decide +kernel) (by decide +kernel) (by decide +kernel)
theorem xok_3 : XOK RX8 331 335 xISE := xok_of (by decide +kernel) (by decide +kernel) (by decide +kernel)
theorem xok_4 : XOK RX2 253 257 xIAE := xok_of (by decide +kernel) (by decide +kernel) (by decide +kernel)
