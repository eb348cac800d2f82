/-! CONTRACTS AND CALLS -/
def jj_rm (d mc ms : Nat) : Room := { frames := d, cells := mc, slots := ms, locals := 40 * d }
abbrev JO : Type := Option Value ⊕ String
def jj_Pc (Γ : Gam) (as : List Value) (M : JM) : Array Value → State → Prop := fun v U => v = as.toArray ∧ jj_Rep Γ M U.heap ∧ KG Γ U
def jj_Qc (Γ : Gam) (Q : JO → JM → Prop) : Array Value → State → Outcome → State → Prop := fun _ _ oc t => ∃ (v : Option Value) (M' : JM), oc = .returned v ∧ Q (.inl v) M' ∧ jj_Rep Γ M' t.heap
def jj_XC (Γ : Gam) (Q : JO → JM → Prop) : String → State → State → Prop := fun X _ t => ∃ M' : JM, Q (.inr X) M' ∧ jj_Rep Γ M' t.heap
def jj_Z (Γ : Gam) (Q : JO → JM → Prop) (mc ms : Nat) : List Frame → Array Value → State → State → Prop := fun below args s => vx_MQ below (jj_Qc Γ Q) (jj_XC Γ Q) args s mc ms Γ.A
/-- a method: its name, bytes, locals, return type -/
abbrev JY : Type := MethodName × ByteArray × Nat × Option FieldType
def jj_w (y : JY) : Cond := .code y.1 y.2.1 y.2.2.1 y.2.2.2
def jj_ws (y : JY) : List Cond := jj_w y :: lw_good
abbrev jj_E (y : JY) : JE := (y.1.cls, y.2.1, y.2.2.1, y.2.2.2, [], y.1.name)
/-- THE CONTRACT: y, called with 'as' in the memory M at depth d, ends with Q; at most mc cells of ms slots are made -/
def Ex (Γ : Gam) (d : Nat) (y : JY) (as : List Value) (M : JM) (mc ms : Nat) (Q : JO → JM → Prop) : Prop := ∀ l : Launch, l.stackTraces = false → vx_Met l y.1 (jj_ws y) (jj_rm d mc ms) (jj_Pc Γ as M) (jj_Qc Γ Q) (jj_XC Γ Q) mc ms Γ.A
theorem jj_blind (Γ : Gam) (as : List Value) (M : JM) : FrameBlind (jj_Pc Γ as M) := fun a U g mk h => by
  obtain ⟨h1, h2, h3⟩ := h
  exact ⟨h1, h2, KG.warm (s := U) (U := U.calling g mk a) (State.WarmedH.refl U) h3⟩
theorem jj_entry {as : List Value} {n : Nat} {vl : List (Option Value)} (hc : ∀ v ∈ as, v.category = 1) (hn : as.length ≤ n) (hv : as.map some ++ List.replicate (n - as.length) none = vl) : jj_has ((lg_sl as ++ List.replicate (n - (lg_sl as).length) Slot.unset).toArray) n vl := by
  have e : ∀ (l : List Value), (∀ v ∈ l, v.category = 1) → lg_sl l = l.map Slot.val := by
    intro l
    induction l with
    | nil => intro _; rfl
    | cons v l ih =>
      intro h
      have h1 := h v List.mem_cons_self
      have h2 := ih (fun w hw => h w (List.mem_cons_of_mem _ hw))
      unfold lg_sl at h2 ⊢
      rw [List.flatMap_cons, h2, if_neg (by omega)]
      rfl
  have hL : (lg_sl as).length = as.length := by rw [e as hc, List.length_map]
  have hw := lv_entry as (n := n) (by rw [hL]; exact hn)
  refine ⟨hw.1, hw.2.1, by rw [← hv]; simp; omega, fun i v hi => ?_⟩
  rw [← hv] at hi
  by_cases hl : i < as.length
  · rw [List.getElem?_append_left (by simpa using hl), List.getElem?_map] at hi
    cases hx : as[i]? with
    | none => rw [hx] at hi; cases hi
    | some w =>
      rw [hx] at hi
      cases hi
      refine ⟨hc v (List.mem_of_getElem? hx), ?_⟩
      rw [List.getElem?_toArray, e as hc, List.getElem?_append_left (by simpa using hl), List.getElem?_map, hx]
      rfl
  · rw [List.getElem?_append_right (by simpa using hl)] at hi
    have := List.mem_of_getElem? hi
    rw [List.mem_replicate] at this
    exact absurd this.2 (by simp)
/-- a body's walk gives the contract -/
theorem Ex.of {Γ : Gam} {d : Nat} {y : JY} {as : List Value} {M : JM} {mc ms : Nat} {Q : JO → JM → Prop} {vl : List (Option Value)} (hy : plainName y.1.cls = true) (hc : ∀ v ∈ as, v.category = 1) (hn : as.length ≤ y.2.2.1) (hv : as.map some ++ List.replicate (y.2.2.1 - as.length) none = vl)
    (k : JJ Γ (jj_E y) (jj_Z Γ Q mc ms) (jj_rm d mc ms) 0 0 0 vl [] M) : Ex Γ d y as M mc ms Q := by
  intro l hl
  refine vx_ofW (cc := y.2.1) (maxL := y.2.2.1) (ret := y.2.2.2) hy rfl ?_
  intro p e s m args below meth c s₁ B hml hxt hP
  obtain ⟨rfl, hR, hK⟩ := hP
  rw [lg_entry_eq]
  have hts : ∀ w ∈ jj_ws y, w.before as.toArray s = true := atoms_spec (ws := jj_ws y) B.pre
  exact k p l e s m as.toArray below meth c s.heap [] _ ⟨B.exec, B.bytes, hml, B.returns, findClass_of_methodNamed B.named, fun w hw => hts w (List.mem_cons_of_mem _ hw), hK, B.notSynchronized, by
    cases hx : c.exceptionTable.toList with
    | nil => rfl
    | cons x l => exact absurd (hxt x (by rw [hx]; exact List.mem_cons_self)) id, hl, (name_of_methodNamed B.named B.method).1, hR.2.2.2.1⟩ hR (fun q hq => by cases hq) (jj_entry hc hn hv)
theorem Ex.mono {Γ : Gam} {d : Nat} {y : JY} {as : List Value} {M : JM} {mc ms : Nat} {Q Q' : JO → JM → Prop} (h : Ex Γ d y as M mc ms Q) (hq : ∀ o M', Q o M' → Q' o M') : Ex Γ d y as M mc ms Q' := by
  intro l hl p e ha hc hk s m args below hf happ hP hK
  obtain ⟨n, o, h1, h2, h3, h4⟩ := h l hl p e ha hc hk s m args below hf happ hP hK
  refine ⟨n, o, h1, h2, h3, ?_⟩
  rcases h4 with ⟨⟨v, M', g1, g2, g3⟩, g4⟩ | ⟨q, g1, X, ce, L, ⟨M', g2, g3⟩, g4⟩
  · exact Or.inl ⟨⟨v, M', g1, hq _ _ g2, g3⟩, g4⟩
  · exact Or.inr ⟨q, g1, X, ce, L, ⟨M', hq _ _ g2, g3⟩, g4⟩
theorem Ex.met {Γ : Gam} {d : Nat} {y : JY} {as : List Value} {M : JM} {mc ms : Nat} {Q : JO → JM → Prop} (h : Ex Γ d y as M mc ms Q) (hx : ∀ X M', ¬ Q (.inr X) M') {l : Launch} (hl : l.stackTraces = false) : Met l y.1 (jj_ws y) (jj_rm d mc ms) (jj_Pc Γ as M) (jj_Qc Γ Q) mc ms Γ.A := by
  intro p e ha hc hk s m args below hf happ hP hK
  obtain ⟨n, o, h1, h2, h3, h4⟩ := h l hl p e ha hc hk s m args below hf happ hP hK
  refine ⟨n, o, h1, h2, h3, ?_⟩
  rcases h4 with h4 | ⟨q, g1, X, ce, L, ⟨M', g2, g3⟩, g4⟩
  · exact h4
  · exact absurd g2 (hx X M')
/-- the frame, with an exception of class X over it -/
def JX (Γ : Gam) (E : JE) (Zf : List Frame → Array Value → State → State → Prop) (R : Room) (cells slots pc : Nat) (vl : List (Option Value)) (st : List Value) (M : JM) (X : String) : Prop :=
  ∀ (p : Program) (l : Launch) (e : Env) (s : State) (m : MethodId) (args : Array Value) (below : List Frame) (meth : Method) (c : Code) (H : Heap) (locs : List Loc) (ls : Array Slot) (q : Addr) (ce : Cell), Cx Γ E p l s m args meth c → jj_Rep Γ M H → (∀ q ∈ locs, Γ.base ≤ q.base) → jj_has ls E.2.2.1 vl → H[q]? = some ce → ce.vm = .none → s.vm.findClass X = some ce.cls → vx_W p l e R s m args below meth c H locs cells slots (Zf below args s) (F0 m pc ls st) q
/-! what a link says -/
/-- a method of the own program: its code is in the tables, its name is plain, it has n parameters -/
def YOK (y : JY) (n : Nat) : Prop := jj_w y ∈ lw_good ∧ (y.1.cls ≠ "java/lang/invoke/MethodHandle" ∧ y.1.cls ≠ "java/lang/invoke/VarHandle" ∧ (parseMethodDescriptor y.1.desc).map (fun d => d.parameters.length) = some n) ∧ Cond.initialized y.1.cls ∈ lw_good
def MLS (own : String) (ix : Nat) (y : JY) : Prop := Cond.methodLink own ix y.1 ∈ lw_good ∧ Cond.static y.1 ∈ lw_good
def MLN (own : String) (ix : Nat) (y : JY) : Prop := (∃ host, Cond.methodLinkNest own ix y.1 host ∈ lw_tbl) ∧ Cond.static y.1 ∈ lw_good
def MLV (own : String) (ix : Nat) (y : JY) (ci : Nat) : Prop := Cond.methodLink own ix y.1 ∈ lw_good ∧ Cond.instanceMethod y.1 ∈ lw_good ∧ Cond.selects (kR ci) y.1 y.1 ∈ lw_good ∧ ci < 9
def MLI (own : String) (ix : Nat) (y : JY) : Prop := Cond.methodLink own ix y.1 ∈ lw_good ∧ Cond.instanceMethod y.1 ∈ lw_good ∧ y.1.name = "<init>" ∧ y.2.2.2 = none
theorem jj_wsG {y : JY} {n : Nat} (h : YOK y n) : GoodIn lw_good (jj_ws y) := lw_gin fun w hw => by
  rcases List.mem_cons.mp hw with rfl | h1
  · exact h.1
  · exact h1
theorem jj_fr {Γ : Gam} {M : JM} {H : Heap} {s : State} {as : List Value} (hR : jj_Rep Γ M H) (hK : KG Γ s) : ∀ U : State, U.heap = H → s.WarmedH U.vm → jj_Pc Γ as M as.toArray U := fun U hU hW => ⟨rfl, by rw [hU]; exact hR, KG.warm hW hK⟩
section JC
variable {Γ : Gam} {E : JE} {Zf : List Frame → Array Value → State → State → Prop} {Rm : Room} {cells slots pc q : Nat} {vl : List (Option Value)} {M : JM}
variable {ix n d mc ms : Nat} {y : JY} {as rest : List Value} {Q : JO → JM → Prop}
/-- what is left to show at a call -/
theorem jj_after {p : Program} {l : Launch} {e : Env} {s : State} {m : MethodId} {args : Array Value} {below : List Frame} {meth : Method} {c : Code} {H : Heap} {locs : List Loc} {ls : Array Slot} {st0 : List Value} {a : Array Value} (C : Cx Γ E p l s m args meth c) (hlo : ∀ q ∈ locs, Γ.base ≤ q.base) (hl : jj_has ls E.2.2.1 vl)
    (hr : vx_Run p l e Rm s m args below meth c H locs cells slots mc ms (F0 m pc ls st0) rest (jj_Qc Γ Q a) (jj_XC Γ Q) Γ.A)
    (kk : ∀ v M', Q (.inl v) M' → JJ Γ E Zf Rm (cells + mc) (slots + ms) (pc + 3) vl (v.toList ++ rest) M') (kx : ∀ X M', Q (.inr X) M' → JX Γ E Zf Rm (cells + mc) (slots + ms) pc vl rest M' X) : W p l e Rm s m args below meth c H locs cells slots (Zf below args s) (F0 m pc ls st0) := by
  intro T hT X
  rcases hr T hT X with ⟨v, st₀, t, T', L, h0, X', hL, e1, e2, ⟨v', M', g1, g2, g3⟩, st⟩ | ⟨q, st₀, t, T', L, XX, ce, h0, X', hL, e1, e2, ⟨M', g2, g3⟩, hce, hcv, hcl, st⟩
  · cases g1
    obtain ⟨t2, a1, b1⟩ := kk v M' g2 p l e s m args below meth c T'.heap (locs ++ L) ls C (by rw [e1]; exact g3) (fun q hq => (List.mem_append.mp hq).elim (hlo q) (hL q)) hl T' rfl X'
    exact ⟨t2, st t2 a1, b1⟩
  · obtain ⟨t2, a1, b1⟩ := kx XX M' g2 p l e s m args below meth c T'.heap (locs ++ L) ls q ce C (by rw [e1]; exact g3) (fun q hq => (List.mem_append.mp hq).elim (hlo q) (hL q)) hl (by rw [e1]; exact hce) hcv hcl T' rfl X'
    exact ⟨t2, st.trans a1, b1⟩
theorem jj_callS (hd : decode E.2.1 pc = .ok (.invokestatic ix, 3)) (hy : YOK y n) (hm : MLS E.1 ix y) (hx : Ex Γ d y as M mc ms Q) (hn : as.length = n) (hrt : (rest.map fun v => v.category).sum ≤ 8) (hrm : d + 1 ≤ Rm.frames ∧ 8 + (y.2.2.1 + 11) + 40 * d ≤ Rm.locals) (hcs : cells + mc ≤ Rm.cells ∧ slots + ms ≤ Rm.slots)
    (kk : ∀ v M', Q (.inl v) M' → JJ Γ E Zf Rm (cells + mc) (slots + ms) (pc + 3) vl (v.toList ++ rest) M') (kx : ∀ X M', Q (.inr X) M' → JX Γ E Zf Rm (cells + mc) (slots + ms) pc vl rest M' X) : JJ Γ E Zf Rm cells slots pc vl (as.reverse ++ rest) M := by
  intro p l e s m args below meth c H locs ls C hR hlo hl
  have hts := C.2.2.2.2.2.1
  exact jj_after C hlo hl (vx_runS (As := as) (rest := rest) (ret := y.2.2.2) ⟨C.1, C.2.1, C.2.2.1, C.2.2.2.2.1, hts⟩ (hx l C.2.2.2.2.2.2.2.2.2.1) ⟨callB_of n hts (jj_wsG hy) rfl rfl rfl (hts _ hy.2.2) (hts _ hm.1) hy.2.1 hrm, hts _ hm.2⟩ ⟨jj_blind Γ as M, jj_fr hR C.2.2.2.2.2.2.1⟩ rfl hn hl.1 rfl (lv_room hrt) hd hcs) kk kx
theorem jj_callV {ci b : Nat} (hd : decode E.2.1 pc = .ok (.invokevirtual ix, 3)) (hy : YOK y n) (hm : MLV E.1 ix y ci) (hT : M.1 b = some (.inl ci)) (hx : Ex Γ d y (.ref b :: as) M mc ms Q) (hn : as.length = n) (hrt : (rest.map fun v => v.category).sum ≤ 8) (hrm : d + 1 ≤ Rm.frames ∧ 8 + (y.2.2.1 + 11) + 40 * d ≤ Rm.locals) (hcs : cells + mc ≤ Rm.cells ∧ slots + ms ≤ Rm.slots)
    (kk : ∀ v M', Q (.inl v) M' → JJ Γ E Zf Rm (cells + mc) (slots + ms) (pc + 3) vl (v.toList ++ rest) M') (kx : ∀ X M', Q (.inr X) M' → JX Γ E Zf Rm (cells + mc) (slots + ms) pc vl rest M' X) : JJ Γ E Zf Rm cells slots pc vl (as.reverse ++ .ref b :: rest) M := by
  intro p l e s m args below meth c H locs ls C hR hlo hl
  have hts := C.2.2.2.2.2.1
  have hrecv : ∃ cellB : Cell, H[b]? = some cellB ∧ cellB.vm.isStatics = false ∧ s.vm.findClass (kR ci) = some cellB.cls := va_recv (jj_K C.2.2.2.2.2.2.1) (hR.P (jj_ce_obj hT)) (k_cl ci hm.2.2.2) (q0 := 0) rfl
  exact jj_after C hlo hl (vx_runV (As := as) (rest := rest) (ret := y.2.2.2) ⟨C.1, C.2.1, C.2.2.1, C.2.2.2.2.1, hts⟩ (hx l C.2.2.2.2.2.2.2.2.2.1) ⟨callB_of n hts (jj_wsG hy) rfl rfl rfl (hts _ hy.2.2) (hts _ hm.1) hy.2.1 hrm, hts _ hm.2.1, hts _ hm.2.2.1⟩ ⟨jj_blind Γ _ M, hrecv, jj_fr hR C.2.2.2.2.2.2.1⟩ rfl hn hl.1 rfl (lv_room hrt) hd hcs) kk kx
/-- a run that returns is one that returns or throws -/
theorem jj_run {p : Program} {l : Launch} {e : Env} {s : State} {m : MethodId} {args : Array Value} {below : List Frame} {meth : Method} {c : Code} {H : Heap} {locs : List Loc} {g : JFrame} {Qa : State → Outcome → State → Prop} {XC : String → State → State → Prop} {free : Addr → Prop} (h : va_Run p l e Rm s m args below meth c H locs cells slots mc ms g rest Qa free) : vx_Run p l e Rm s m args below meth c H locs cells slots mc ms g rest Qa XC free := fun T hT X => Or.inl (h T hT X)
theorem jj_callN (hd : decode E.2.1 pc = .ok (.invokestatic ix, 3)) (hy : YOK y n) (hm : MLN E.1 ix y) (hx : Ex Γ d y as M mc ms Q) (hnx : ∀ X M', ¬ Q (.inr X) M') (hn : as.length = n) (hrt : (rest.map fun v => v.category).sum ≤ 8) (hrm : d + 1 ≤ Rm.frames ∧ 8 + (y.2.2.1 + 11) + 40 * d ≤ Rm.locals) (hcs : cells + mc ≤ Rm.cells ∧ slots + ms ≤ Rm.slots)
    (kk : ∀ v M', Q (.inl v) M' → JJ Γ E Zf Rm (cells + mc) (slots + ms) (pc + 3) vl (v.toList ++ rest) M') : JJ Γ E Zf Rm cells slots pc vl (as.reverse ++ rest) M := by
  intro p l e s m args below meth c H locs ls C hR hlo hl
  have hts := C.2.2.2.2.2.1
  obtain ⟨host, hh⟩ := hm.1
  exact jj_after C hlo hl (jj_run (va_runSN (As := as) (rest := rest) (ret := y.2.2.2) ⟨C.1, C.2.1, C.2.2.1, C.2.2.2.2.1, hts⟩ (hx.met hnx C.2.2.2.2.2.2.2.2.2.1) ⟨va_cnB n hts (jj_wsG hy) rfl rfl rfl (C.2.2.2.2.2.2.1.2.2.1 _ hh rfl) (hts _ hy.2.2) hy.2.1 hrm, hts _ hm.2, trivial⟩ ⟨jj_blind Γ as M, jj_fr hR C.2.2.2.2.2.2.1⟩ rfl hn hl.1 rfl (lv_room hrt) hd hcs)) kk (fun X M' h => absurd h (hnx X M'))
theorem jj_callI {b : Nat} (hd : decode E.2.1 pc = .ok (.invokespecial ix, 3)) (hy : YOK y n) (hm : MLI E.1 ix y) (hx : Ex Γ d y (.ref b :: as) M mc ms Q) (hnx : ∀ X M', ¬ Q (.inr X) M') (hn : as.length = n) (hrt : (rest.map fun v => v.category).sum ≤ 8) (hrm : d + 1 ≤ Rm.frames ∧ 8 + (y.2.2.1 + 11) + 40 * d ≤ Rm.locals) (hcs : cells + mc ≤ Rm.cells ∧ slots + ms ≤ Rm.slots)
    (kk : ∀ v M', Q (.inl v) M' → JJ Γ E Zf Rm (cells + mc) (slots + ms) (pc + 3) vl (v.toList ++ rest) M') : JJ Γ E Zf Rm cells slots pc vl (as.reverse ++ .ref b :: rest) M := by
  intro p l e s m args below meth c H locs ls C hR hlo hl
  have hts := C.2.2.2.2.2.1
  have hr9 := hm.2.2.2
  exact jj_after C hlo hl (jj_run (va_runI (As := as) (rest := rest) ⟨C.1, C.2.1, C.2.2.1, C.2.2.2.2.1, hts⟩ (hx.met hnx C.2.2.2.2.2.2.2.2.2.1) ⟨callB_of n hts (jj_wsG hy) (by unfold jj_ws jj_w; rw [hr9]) rfl rfl (hts _ hy.2.2) (hts _ hm.1) hy.2.1 hrm, hm.2.2.1, hts _ hm.2.1⟩ ⟨jj_blind Γ _ M, jj_fr hR C.2.2.2.2.2.2.1⟩ rfl hn hl.1 rfl (lv_room hrt) hd hcs)) kk (fun X M' h => absurd h (hnx X M'))
end JC
