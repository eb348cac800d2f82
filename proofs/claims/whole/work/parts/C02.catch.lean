/-! AN EXCEPTION IS CAUGHT -/
section C02
variable {Γ : Gam} {E : JE} {Zf : List Frame → Array Value → State → State → Prop} {Rm : Room} {cells slots pc : Nat} {vl : List (Option Value)} {st : List Value} {M : JM} {X name : String}
theorem jj_catch (pre : List ExceptionTableEntry) (x : ExceptionTableEntry) (suf : List ExceptionTableEntry) (hE : E.2.2.2.2.1 = pre ++ x :: suf) (hpass : ∀ s, KG Γ s → ∀ z ∈ pre, covers z pc = false ∨ (z.catchType ≠ 0 ∧ ∃ nm : String, Cond.classLink E.1 z.catchType nm ∈ lw_good ∧ va_Nc X nm s)) (hx : covers x pc = true) (h0 : x.catchType ≠ 0) (hlink : Cond.classLink E.1 x.catchType name ∈ lw_good) (hcast : Cond.castable X name ∈ lw_tbl) (kk : ∀ q, JJ Γ E Zf Rm cells slots x.handlerPc vl [.ref q] M) : JX Γ E Zf Rm cells slots pc vl st M X := by
  intro p l e s m args below meth c H locs ls q ce C hR hlo hl hq hv hcl
  have hts := C.2.2.2.2.2.1
  refine vx_catch (own := E.1) (name := name) C.2.2.2.2.1 pre x suf (C.2.2.2.2.2.2.2.2.1.trans hE) (fun z hz => ?_) hx h0 (hts _ hlink) (va_Nw.use (jj_nest_on rfl) (C.2.2.2.2.2.2.1.2.2.1 _ hcast rfl)) hq hv hcl (kk q p l e s m args below meth c H locs ls C hR hlo hl)
  rcases hpass s C.2.2.2.2.2.2.1 z hz with w | ⟨w1, nm, w2, w3⟩
  · exact Or.inl w
  · exact Or.inr ⟨w1, nm, hts _ w2, w3⟩
end C02
