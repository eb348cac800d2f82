/-! CONTRACTS OF METHODS THAT CATCH -/
abbrev JH : Type := List (Nat × Nat × Nat × Nat)
def jj_wsH (y : JY) (hh : JH) : List Cond := .codeWith y.1 y.2.1 y.2.2.1 y.2.2.2 hh :: lw_good
abbrev jj_EH (y : JY) (hh : JH) : JE := (y.1.cls, y.2.1, y.2.2.1, y.2.2.2, tableOf hh, y.1.name)
/-- as Ex, of a method with the table hh -/
def ExH (Γ : Gam) (d : Nat) (y : JY) (hh : JH) (as : List Value) (M : JM) (mc ms : Nat) (Q : JO → JM → Prop) : Prop := ∀ l : Launch, l.stackTraces = false → vx_Met l y.1 (jj_wsH y hh) (jj_rm d mc ms) (jj_Pc Γ as M) (jj_Qc Γ Q) (jj_XC Γ Q) mc ms Γ.A
theorem ExH.of {Γ : Gam} {d : Nat} {y : JY} {hh : JH} {as : List Value} {M : JM} {mc ms : Nat} {Q : JO → JM → Prop} {vl : List (Option Value)} (hy : plainName y.1.cls = true) (hc : ∀ v ∈ as, v.category = 1) (hn : as.length ≤ y.2.2.1) (hv : as.map some ++ List.replicate (y.2.2.1 - as.length) none = vl)
    (k : JJ Γ (jj_EH y hh) (jj_Z Γ Q mc ms) (jj_rm d mc ms) 0 0 0 vl [] M) : ExH Γ d y hh as M mc ms Q := by
  intro l hl
  refine vx_ofWH (cc := y.2.1) (maxL := y.2.2.1) (ret := y.2.2.2) (hh := hh) hy rfl ?_
  intro p e s m args below meth c s₁ B hml hP
  obtain ⟨rfl, hR, hK⟩ := hP
  rw [lg_entry_eq]
  have hts : ∀ w ∈ jj_wsH y hh, w.before as.toArray s = true := atoms_spec (ws := jj_wsH y hh) B.pre
  exact k p l e s m as.toArray below meth c s.heap [] _ ⟨B.exec, B.bytes, hml, B.returns, findClass_of_methodNamed B.named, fun w hw => hts w (List.mem_cons_of_mem _ hw), hK, B.notSynchronized, vx_table (x := y.1) B (hts _ List.mem_cons_self), hl, (name_of_methodNamed B.named B.method).1, hR.2.2.2.1⟩ hR (fun q hq => by cases hq) (jj_entry hc hn hv)
