theorem jj_nest_on {w : Cond} (h : jj_nest w = true) : w.onTables = true := by
  cases w <;> first | rfl | cases h
theorem xok_at {own : String} {ik ic : Nat} {cls : String} (h : XOK own ik ic cls) {Γ : Gam} {s : State} {args : Array Value} (hts : ∀ w ∈ lw_good, w.before args s = true) (hK : KG Γ s) : ∀ w ∈ vx_atS own ic cls jj_names, w.before args s = true := fun w hw => by
  obtain ⟨h1, h2⟩ := h.2.2.2 w hw
  rcases Bool.or_eq_true _ _ ▸ h2 with h3 | h3
  · exact hts w (List.mem_filter.mpr ⟨h1, h3⟩)
  · exact va_Nw.use (jj_nest_on h3) (hK.2.2.1 w h1 h3)
theorem xok_ot {own : String} {ik ic : Nat} {cls : String} (h : XOK own ik ic cls) : ∀ w ∈ Cond.classLink own ik cls :: Cond.initialized cls :: vx_atS own ic cls jj_names, vx_ot w = true := fun w hw => by
  unfold vx_ot
  rcases List.mem_cons.mp hw with rfl | hw
  · rw [(List.mem_filter.mp h.2.1).2, Bool.or_true]
  · rcases List.mem_cons.mp hw with rfl | hw
    · rw [(List.mem_filter.mp h.2.2.1).2, Bool.or_true]
    · rcases Bool.or_eq_true _ _ ▸ (h.2.2.2 w hw).2 with h3 | h3
      · rw [h3, Bool.or_true]
      · rw [jj_nest_on h3, Bool.true_or]
theorem jj_keep {Γ : Gam} {M : JM} {H : Heap} (h : jj_Rep Γ M H) : ∀ a : Nat, a < Γ.H0.size → ¬ Γ.A a → H[a]? = Γ.H0[a]? := fun a _ h2 => h.2.2.1 a (Nat.not_le.mp h2)
section JZ
variable {Γ : Gam} {E : JE} {Zf : List Frame → Array Value → State → State → Prop} {Rm : Room} {cells slots pc q : Nat} {vl : List (Option Value)} {M : JM} {st : List Value}
variable {mc ms : Nat} {Q : JO → JM → Prop} {T : JT} {R S : JR} {I : JI} {L : JL} {D : JD} {z : Option Nat}
theorem jj_iret {v : Int32} (hd : decode E.2.1 pc = .ok (.ireturn, 1)) (hr : E.2.2.2.1 = some .int) (hc : cells ≤ mc) (hs : slots ≤ ms) (hq : Q (.inl (some (.int v))) M) : JJ Γ E (jj_Z Γ Q mc ms) Rm cells slots pc vl [.int v] M := by
  intro p l e s m args below meth c H locs ls C hR hlo hl
  exact W.widen hc hs (vx_ret (W.iret (v := v) C.1 C.2.1 (C.2.2.2.1.trans hr) (fun t ht _ => ⟨_, M, rfl, hq, by rw [ht]; exact hR⟩) hlo hd C.2.2.2.2.2.2.2.1))
theorem jj_zret {v : Int32} {ty : FieldType} (hd : decode E.2.1 pc = .ok (.ireturn, 1)) (hr : E.2.2.2.1 = some ty) (hn : narrow ty (.int v) = .int v) (hc : cells ≤ mc) (hs : slots ≤ ms) (hq : Q (.inl (some (.int v))) M) : JJ Γ E (jj_Z Γ Q mc ms) Rm cells slots pc vl [.int v] M := by
  intro p l e s m args below meth c H locs ls C hR hlo hl
  exact W.widen hc hs (vx_ret (W.zret (v := v) C.1 C.2.1 (C.2.2.2.1.trans hr) hn (fun t ht _ => ⟨_, M, rfl, hq, by rw [ht]; exact hR⟩) hlo hd C.2.2.2.2.2.2.2.1))
theorem jj_fret {v : UInt32} (hd : decode E.2.1 pc = .ok (.freturn, 1)) (hr : E.2.2.2.1 = some .float) (hc : cells ≤ mc) (hs : slots ≤ ms) (hq : Q (.inl (some (.float v))) M) : JJ Γ E (jj_Z Γ Q mc ms) Rm cells slots pc vl [.float v] M := by
  intro p l e s m args below meth c H locs ls C hR hlo hl
  exact W.widen hc hs (vx_ret (W.fret (v := v) C.1 C.2.1 (C.2.2.2.1.trans hr) (fun t ht _ => ⟨_, M, rfl, hq, by rw [ht]; exact hR⟩) hlo hd C.2.2.2.2.2.2.2.1))
theorem jj_vret (hd : decode E.2.1 pc = .ok (.return_, 1)) (hr : E.2.2.2.1 = none) (hc : cells ≤ mc) (hs : slots ≤ ms) (hq : Q (.inl none) M) : JJ Γ E (jj_Z Γ Q mc ms) Rm cells slots pc vl [] M := by
  intro p l e s m args below meth c H locs ls C hR hlo hl
  exact W.widen hc hs (vx_ret (W.vret C.1 C.2.1 (C.2.2.2.1.trans hr) (fun t ht _ => ⟨_, M, rfl, hq, by rw [ht]; exact hR⟩) hlo hd C.2.2.2.2.2.2.2.1))
/-- an exception goes on to the caller -/
theorem jj_out {X : String} (hx : E.2.2.2.2.1 = []) (hc : cells ≤ mc) (hs : slots ≤ ms) (hq : Q (.inr X) M) : JX Γ E (jj_Z Γ Q mc ms) Rm cells slots pc vl st M X := by
  intro p l e s m args below meth c H locs ls q ce C hR hlo hl hcell hv hcl
  exact vx_out (E := X) (fun x hx9 => by rw [C.2.2.2.2.2.2.2.2.1, hx] at hx9; cases hx9) C.2.2.2.2.2.2.2.1 hcell hv hcl (fun t ht _ => ⟨M, hq, by rw [ht]; exact hR⟩) hlo hc hs
theorem jj_Rep.grow {H H' : Heap} (h : jj_Rep Γ (T, R, S, I, L, D, z) H) (hs : H.size ≤ H'.size) (hk : ∀ q : Nat, q < H.size → H'[q]? = H[q]?) : jj_Rep Γ (T, R, S, I, L, D, none) H' := by
  obtain ⟨h1, h2, h3, h4, h5⟩ := h
  refine ⟨fun z hz => (by cases hz), fun a e he => ?_, fun a ha => by rw [hk a (by omega)]; exact h3 a ha, by omega, h5⟩
  have he' : jj_ce Γ (T, R, S, I, L, D, z) a = some e := he
  exact (h2 a e he').kept (hk a (h2 a e he').lt)
/-- throw new X("text") -/
theorem jj_throw {ik ic is : Nat} {X tx : String} (hX : XOK E.1 ik ic X) (hstr : Cond.stringRef E.1 is tx ∈ lw_tbl) (hxt : E.2.2.2.2.1 = []) (d0 : decode E.2.1 pc = .ok (.new ik, 3)) (d3 : decode E.2.1 (pc + 3) = .ok (.dup, 1)) (d4 : decode E.2.1 (pc + 4) = .ok (.ldc is, 2)) (d6 : decode E.2.1 (pc + 6) = .ok (.invokespecial ic, 3)) (d9 : decode E.2.1 (pc + 9) = .ok (.athrow, 1)) (hf : 5 < Rm.frames) (hlm : 90 ≤ Rm.locals) (hrt : (st.map fun v => v.category).sum ≤ 8) (hcs : cells + 1 ≤ Rm.cells ∧ slots + 6 ≤ Rm.slots) (hc : cells + 1 ≤ mc) (hs : slots + 6 ≤ ms) (hq : Q (.inr X) (T, R, S, I, L, D, none)) : JJ Γ E (jj_Z Γ Q mc ms) Rm cells slots pc vl st (T, R, S, I, L, D, z) := by
  intro p l e s m args below meth c H locs ls C hR hlo hl
  have hK := C.2.2.2.2.2.2.1
  have hts := C.2.2.2.2.2.1
  intro Tt hT X9
  obtain ⟨f1, f2⟩ := vx_frame X9.same
  rw [hT] at f1 f2
  have f3 : ∀ q : Nat, q < s.heap.size → ¬ Γ.A q → H[q]? = s.heap[q]? := fun q h1 h2 => f2 q h1 (fun y hy h3 => h2 (by rw [← h3]; exact hlo y hy))
  have f4 : ∀ a : Nat, a < Γ.H0.size → ¬ Γ.A a → s.heap[a]? = Γ.H0[a]? := fun a h1 h2 => by
    have h3 : a < Γ.base := Nat.not_le.mp h2
    rw [← f3 a (Nat.lt_of_lt_of_le h3 C.2.2.2.2.2.2.2.2.2.2.2) h2]
    exact hR.2.2.1 a h3
  exact vx_throwS (A := Γ.A) C.1 C.2.1 C.2.2.2.2.2.2.2.2.2.1 C.2.2.2.2.1 hX.1 (by decide +kernel) (hts _ hX.2.1) (hts _ hX.2.2.1) (hK.2.2.2.2.1 _ _ _ hstr).1 (xok_at hX hts hK) (xok_ot hX) (hK.2.2.2.1.1.kept f4) (hK.2.2.2.1.2.kept f4) ⟨f1, f3, hlo⟩ (hl.1.trans C.2.2.1.symm) d0 d3 d4 d6 d9 (fun x hx9 => by rw [C.2.2.2.2.2.2.2.2.1, hxt] at hx9; cases hx9) hf (by show _ + (13 * 3 + 43) ≤ _; omega) hcs.1 hcs.2 C.2.2.2.2.2.2.2.1 (fun t _ h1 h2 => ⟨_, hq, hR.grow h1 h2⟩) hlo hc hs Tt hT X9
/-- the same, the text by a wide index -/
theorem jj_throwW {ik ic is : Nat} {X tx : String} (hX : XOK E.1 ik ic X) (hstr : Cond.stringRef E.1 is tx ∈ lw_tbl) (hxt : E.2.2.2.2.1 = []) (d0 : decode E.2.1 pc = .ok (.new ik, 3)) (d3 : decode E.2.1 (pc + 3) = .ok (.dup, 1)) (d4 : decode E.2.1 (pc + 4) = .ok (.ldc_w is, 3)) (d7 : decode E.2.1 (pc + 7) = .ok (.invokespecial ic, 3)) (d10 : decode E.2.1 (pc + 10) = .ok (.athrow, 1)) (hf : 5 < Rm.frames) (hlm : 90 ≤ Rm.locals) (hrt : (st.map fun v => v.category).sum ≤ 8) (hcs : cells + 1 ≤ Rm.cells ∧ slots + 6 ≤ Rm.slots) (hc : cells + 1 ≤ mc) (hs : slots + 6 ≤ ms) (hq : Q (.inr X) (T, R, S, I, L, D, none)) : JJ Γ E (jj_Z Γ Q mc ms) Rm cells slots pc vl st (T, R, S, I, L, D, z) := by
  intro p l e s m args below meth c H locs ls C hR hlo hl
  have hK := C.2.2.2.2.2.2.1
  have hts := C.2.2.2.2.2.1
  intro Tt hT X9
  obtain ⟨f1, f2⟩ := vx_frame X9.same
  rw [hT] at f1 f2
  have f3 : ∀ q : Nat, q < s.heap.size → ¬ Γ.A q → H[q]? = s.heap[q]? := fun q h1 h2 => f2 q h1 (fun y hy h3 => h2 (by rw [← h3]; exact hlo y hy))
  have f4 : ∀ a : Nat, a < Γ.H0.size → ¬ Γ.A a → s.heap[a]? = Γ.H0[a]? := fun a h1 h2 => by
    have h3 : a < Γ.base := Nat.not_le.mp h2
    rw [← f3 a (Nat.lt_of_lt_of_le h3 C.2.2.2.2.2.2.2.2.2.2.2) h2]
    exact hR.2.2.1 a h3
  exact vx_throwSW (A := Γ.A) C.1 C.2.1 C.2.2.2.2.2.2.2.2.2.1 C.2.2.2.2.1 hX.1 (by decide +kernel) (hts _ hX.2.1) (hts _ hX.2.2.1) (hK.2.2.2.2.1 _ _ _ hstr).1 (xok_at hX hts hK) (xok_ot hX) (hK.2.2.2.1.1.kept f4) (hK.2.2.2.1.2.kept f4) ⟨f1, f3, hlo⟩ (hl.1.trans C.2.2.1.symm) d0 d3 d4 d7 d10 (fun x hx9 => by rw [C.2.2.2.2.2.2.2.2.1, hxt] at hx9; cases hx9) hf (by show _ + (13 * 3 + 43) ≤ _; omega) hcs.1 hcs.2 C.2.2.2.2.2.2.2.1 (fun t _ h1 h2 => ⟨_, hq, hR.grow h1 h2⟩) hlo hc hs Tt hT X9
end JZ
