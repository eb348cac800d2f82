/-! A CALL OF A METHOD THAT CATCHES -/
section C03
variable {Γ : Gam} {E : JE} {Zf : List Frame → Array Value → State → State → Prop} {Rm : Room} {cells slots pc ix n d mc ms : Nat} {vl : List (Option Value)} {rest as : List Value} {M : JM} {y : JY} {hh : JH} {Q : JO → JM → Prop}
def YOKH (y : JY) (hh : JH) (n : Nat) : Prop := Cond.codeWith y.1 y.2.1 y.2.2.1 y.2.2.2 hh ∈ lw_good ∧ (y.1.cls ≠ "java/lang/invoke/MethodHandle" ∧ y.1.cls ≠ "java/lang/invoke/VarHandle" ∧ (parseMethodDescriptor y.1.desc).map (fun d => d.parameters.length) = some n) ∧ Cond.initialized y.1.cls ∈ lw_good
theorem jj_wsGH (h : YOKH y hh n) : GoodIn lw_good (jj_wsH y hh) := lw_gin fun w hw => by
  rcases List.mem_cons.mp hw with rfl | h1
  · exact h.1
  · exact h1
theorem jj_callSH (hd : decode E.2.1 pc = .ok (.invokestatic ix, 3)) (hy : YOKH y hh n) (hm : MLS E.1 ix y) (hx : ExH Γ d y hh as M mc ms Q) (hn : as.length = n) (hrt : (rest.map fun v => v.category).sum ≤ 8) (hrm : d + 1 ≤ Rm.frames ∧ 8 + (y.2.2.1 + 11) + 40 * d ≤ Rm.locals) (hcs : cells + mc ≤ Rm.cells ∧ slots + ms ≤ Rm.slots)
    (kk : ∀ v M', Q (.inl v) M' → JJ Γ E Zf Rm (cells + mc) (slots + ms) (pc + 3) vl (v.toList ++ rest) M') (kx : ∀ X M', Q (.inr X) M' → JX Γ E Zf Rm (cells + mc) (slots + ms) pc vl rest M' X) : JJ Γ E Zf Rm cells slots pc vl (as.reverse ++ rest) M := by
  intro p l e s m args below meth c H locs ls C hR hlo hl
  have hts := C.2.2.2.2.2.1
  have cw : vx_CSW Rm s args E.1 ix y.1 y.2.1 y.2.2.1 y.2.2.2 hh (jj_wsH y hh) (jj_rm d mc ms) mc ms n := by
    refine ⟨⟨rfl, rfl, hrm.1, hrm.2, pay_in hts (jj_wsGH hy), List.mem_cons_self⟩, hts _ hy.1, hts _ hy.2.2, ⟨hy.2.1.1, hy.2.1.2.1⟩, fun sig h => ?_, hts _ hm.1, hts _ hm.2⟩
    have h2 := hy.2.1.2.2
    rw [h] at h2
    exact (Option.some.inj h2).symm
  exact jj_after C hlo hl (vx_runSX (As := as) (rest := rest) ⟨C.1, C.2.1, C.2.2.1, C.2.2.2.2.1, hts⟩ (hx l C.2.2.2.2.2.2.2.2.2.1) cw ⟨jj_blind Γ as M, jj_fr hR C.2.2.2.2.2.2.1⟩ rfl hn hl.1 rfl (lv_room hrt) hd hcs) kk kx
end C03
