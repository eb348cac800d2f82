/-! MORE ROWS FOR CONSTRUCTORS: final fields, rows of references, Object's constructor, constructors of nest mates -/
theorem jj_asg (vm : Vm) (c : ClassId) : vm.assignable c c = true := by
  show vm.assignableAux _ c c = true
  unfold Vm.assignableAux
  simp
/-- a constructor of a nest mate -/
def MLM (own : String) (ix : Nat) (y : JY) : Prop := (∃ host, Cond.methodLinkNest own ix y.1 host ∈ lw_tbl) ∧ Cond.instanceMethod y.1 ∈ lw_good ∧ y.1.name = "<init>" ∧ y.2.2.2 = none
section JK8
variable {Γ : Gam} {E : JE} {Zf : List Frame → Array Value → State → State → Prop} {Rm : Room} {cells slots pc q : Nat} {vl : List (Option Value)} {st : List Value} {M : JM}
variable {T : JT} {R S : JR} {I : JI} {L : JL} {D : JD} {z : Option Nat} {a : Nat}
theorem jj_putFX {M' : JM} {ix ci k : Nat} {v : Value} (hd : decode E.2.1 pc = .ok (.putfield ix, 3)) (hf : FL E.1 ix ci k) (hT : M.1 a = some (.inl ci)) (hfin : (kT ci k).2.2.2 = true) (hdc : (kT ci k).1 = E.1) (hnm : E.2.2.2.2.2 = "<init>") (hn : narrow (kY ci k) v = v) (hfit : fits (kY ci k) v = true) (hT' : M'.1 = M.1) (hz : M'.2.2.2.2.2.2 = M.2.2.2.2.2.2) (hfv : ∀ j, j < kN ci → updV (jj_fv ci M a) k v j = jj_fv ci M' a j) (ho : ∀ b : Nat, b ≠ a → jj_ce Γ M' b = jj_ce Γ M b) (hq : pc + 3 = q) (kk : JJ Γ E Zf Rm cells slots q vl st M') : JJ Γ E Zf Rm cells slots pc vl (v :: .ref a :: st) M := by
  subst hq
  intro p l e s m args below meth c H locs ls C hR hlo hl
  have hK := jj_K C.2.2.2.2.2.2.1
  have hts := C.2.2.2.2.2.1
  have hin := k_in ci hf.1
  have hc := k_cl ci hf.1
  have hap := va_apart (own := E.1) hts hin (kY ci) (k_ty ci hf.1) (k_nm ci hf.1) hK hc
  obtain ⟨r, h1, cell, q1, q2, q3, q4⟩ := hR.2.1 a _ (jj_ce_obj hT)
  have hr : r = (kR ci, kT ci, kN ci) := Option.some.inj (h1.symm.trans hc)
  subst hr
  obtain ⟨hS, hfc, kC, hkC, hkind⟩ := hK.1 ci _ hc
  obtain ⟨cf, kf, fi, f, hi, hsl⟩ := hS k hf.2.1
  have hlay := hts _ (hin _ (u_in_lay hf.2.1))
  unfold u_lay at hlay
  rw [if_pos hfin] at hlay
  have hst := (u_facts hfc hkC (u_lays hts hin hf.2.1) hi).1
  have hcf : m.cls = cf := by
    obtain ⟨_, _, c', _, _, _, -, -, hf', -, -, -, hown2, -⟩ := Cond.laysFinal_spec hlay
    have e1 : c' = cf := by have := hi.symm.trans hf'; simp at this; exact this.1.symm
    rw [hdc] at hown2
    rw [← e1]; exact Option.some.inj (C.2.2.2.2.1.symm.trans hown2)
  have h6 := u_fits hfc hkC hkind (Or.inr hlay) hi (k_ty ci hf.1 k hf.2.1) hn hfit
  have q5 : ∀ j, j < kN ci → cell.slots[Γ.D.2 ci j]? = some (jj_fv ci M a j) := fun j hj => by rw [q4 j hj, jj_Vd M a hj]
  refine W.putFinK C.1 C.2.1 C.2.2.2.2.1 (hts _ hf.2.2) hi hst hcf (C.2.2.2.2.2.2.2.2.2.2.1.trans hnm) (by rw [q2]; exact h6) q1 q3 (by rw [hsl]; exact k2_hasslot (q4 k hf.2.1)) rfl rfl hd fun H' e1 e2 e3 => ?_
  rw [hsl] at e1 ⊢
  have hne : ¬ M.1 a = none := by rw [hT]; exact fun h => by cases h
  refine kk p l e s m args below meth c H' _ ls C (hR.put hT' hz hne (jj_ce_obj (by rw [hT']; exact hT)) ⟨_, hc, cell.setSlot _ v, e1, q2, q3, fun j hj => ?_⟩ ho e2 e3) (fun y hy => ?_) hl
  · rw [jj_Vd M' a hj, ← hfv j hj]
    exact t_set q5 hap hf.2.1 v j hj
  · rcases List.mem_append.mp hy with h | h
    · exact hlo y h
    · rw [List.mem_singleton.mp h]
      exact hR.2.2.2.2 a hne
theorem jj_putFR {ix ci k x : Nat} (hd : decode E.2.1 pc = .ok (.putfield ix, 3)) (hf : FL E.1 ix ci k) (h7 : Nat.ble 7 ci = false) (hT : T a = some (.inl ci)) (hy : jj_isr (kY ci k) = true) (hfin : (kT ci k).2.2.2 = true) (hdc : (kT ci k).1 = E.1) (hnm : E.2.2.2.2.2 = "<init>") (hfit : fits (kY ci k) (.ref x) = true) (hn : narrow (kY ci k) (.ref x) = .ref x) (hq : pc + 3 = q) (kk : JJ Γ E Zf Rm cells slots q vl st (T, u2 R a k (some x), S, I, L, D, z)) : JJ Γ E Zf Rm cells slots pc vl (.ref x :: .ref a :: st) (T, R, S, I, L, D, z) := by
  have h8 : ¬ 7 ≤ ci := fun h => by rw [Nat.ble_eq_true_of_le h] at h7; cases h7
  refine jj_putFX (M' := (T, u2 R a k (some x), S, I, L, D, z)) hd hf hT hfin hdc hnm hn hfit rfl rfl (fun j hj => ?_) (fun b hb => jj_ce_ne (u2_ne hb) rfl rfl rfl rfl) hq kk
  unfold updV
  by_cases hjk : j = k
  · subst hjk
    rw [if_pos rfl, jj_fv_ref hy]
    simp [u2, jj_rq, h8, va_rf]
  · rw [if_neg hjk]
    unfold jj_fv
    split <;> simp [u2, hjk, jj_rq, h8]
theorem jj_putFS {ix ci k x : Nat} (hd : decode E.2.1 pc = .ok (.putfield ix, 3)) (hf : FL E.1 ix ci k) (h7 : 7 ≤ ci) (hT : T a = some (.inl ci)) (hy : jj_isr (kY ci k) = true) (hfin : (kT ci k).2.2.2 = true) (hdc : (kT ci k).1 = E.1) (hnm : E.2.2.2.2.2 = "<init>") (hfit : fits (kY ci k) (.ref x) = true) (hn : narrow (kY ci k) (.ref x) = .ref x) (hq : pc + 3 = q) (kk : JJ Γ E Zf Rm cells slots q vl st (T, R, u2 S a k (some x), I, L, D, z)) : JJ Γ E Zf Rm cells slots pc vl (.ref x :: .ref a :: st) (T, R, S, I, L, D, z) := by
  refine jj_putFX (M' := (T, R, u2 S a k (some x), I, L, D, z)) hd hf hT hfin hdc hnm hn hfit rfl rfl (fun j hj => ?_) (fun b hb => jj_ce_ne rfl (u2_ne hb) rfl rfl rfl) hq kk
  unfold updV
  by_cases hjk : j = k
  · subst hjk
    rw [if_pos rfl, jj_fv_ref hy]
    simp [u2, jj_rq, h7, va_rf]
  · rw [if_neg hjk]
    unfold jj_fv
    split <;> simp [u2, hjk, jj_rq, h7]
/-- a reference into a row; the thing's class is the row's -/
theorem jj_aastX {C9 : String} {n x : Nat} {i : Int32} (hd : decode E.2.1 pc = .ok (.aastore, 1)) (hT : T a = some (.inr (.object C9, n))) (hty : (FieldType.object C9) ∈ jj_tys) (hin : vp_in i n) (hx : ∀ (s : State) (H : Heap), KG Γ s → jj_Rep Γ (T, R, S, I, L, D, z) H → ∃ cellV : Cell, H[x]? = some cellV ∧ cellV.vm.isStatics = false ∧ s.vm.findClass C9 = some cellV.cls) (hq : pc + 1 = q) (kk : JJ Γ E Zf Rm cells slots q vl st (T, u2 R a i.toNatClampNeg (some x), S, I, L, D, z)) : JJ Γ E Zf Rm cells slots pc vl (.ref x :: .int i :: .ref a :: st) (T, R, S, I, L, D, z) := by
  subst hq
  intro p l e s m args below meth c H locs ls C hR hlo hl
  have hlt : i.toNatClampNeg < n := Nat.not_le.mp fun q => hin (Or.inr q)
  have h0 : ¬ i < 0 := fun q => hin (Or.inl q)
  obtain ⟨cellV, g1, g3, g2⟩ := hx s H C.2.2.2.2.2.2.1 hR
  obtain ⟨kA, comp, k1, k2, k3, -⟩ := (KG.arr C.2.2.2.2.2.2.1 hty).2
  obtain ⟨kE, hkE, -⟩ := Vm.findClass_spec k3
  obtain ⟨kC, hkC, -⟩ := Vm.findClass_spec g2
  have hcc : cellV.cls = comp := Option.some.inj (g2.symm.trans k3)
  have hc : H[a]? = some (vp_cell (Γ.cA (.object C9)) (jj_ar (.object C9) (T, R, S, I, L, D, z) a n)) := hR.2.1 a _ (jj_ce_arr (M := (T, R, S, I, L, D, z)) hT)
  rw [show jj_ar (.object C9) (T, R, S, I, L, D, z) a n = (n, .inr (.inr (.inr (.inr (R a))))) from rfl, vp_cell_q] at hc
  refine W.aast C.1 C.2.1 hc (fun q h => by cases h) (fun h => by cases h) k1 k2 rfl hkE ⟨h0, by rw [arrV_size]; exact hlt⟩ g1 (fun q h => by rw [h] at g3; cases g3) hkC (by rw [hcc]; exact jj_asg _ _) rfl rfl hd fun H1 e1 z1 oq => ?_
  have hne : ¬ (T, R, S, I, L, D, z).1 a = none := by show ¬ T a = none; rw [hT]; exact fun h => by cases h
  refine kk p l e s m args below meth c H1 _ ls C (hR.put rfl rfl hne (jj_ce_arr (M := (T, u2 R a i.toNatClampNeg (some x), S, I, L, D, z)) hT) ?_ (fun b hb => jj_ce_ne (u2_ne hb) rfl rfl rfl rfl) z1 oq) (jj_lo hR hne hlo) hl
  show H1[a]? = some (vp_cell _ (n, .inr (.inr (.inr (.inr (u2 R a i.toNatClampNeg (some x) a))))))
  rw [e1, vp_cell_q, arrV_store]
  congr 2
  funext q
  by_cases hq : q = i.toNatClampNeg
  · subst hq
    simp [updV, u2, va_rf]
  · simp [updV, u2, hq]
theorem jj_aastO {ci n x : Nat} {i : Int32} (hd : decode E.2.1 pc = .ok (.aastore, 1)) (hT : T a = some (.inr (.object (kR ci), n))) (hty : (FieldType.object (kR ci)) ∈ jj_tys) (hci : ci < 9) (hin : vp_in i n) (hx : T x = some (.inl ci)) (hq : pc + 1 = q) (kk : JJ Γ E Zf Rm cells slots q vl st (T, u2 R a i.toNatClampNeg (some x), S, I, L, D, z)) : JJ Γ E Zf Rm cells slots pc vl (.ref x :: .int i :: .ref a :: st) (T, R, S, I, L, D, z) :=
  jj_aastX hd hT hty hin (fun s H hK hR => va_recv (jj_K hK) (hR.P (jj_ce_obj (M := (T, R, S, I, L, D, z)) hx)) (k_cl ci hci) (q0 := 0) rfl) hq kk
theorem jj_aastS {own tx : String} {i2 n : Nat} {i : Int32} (hd : decode E.2.1 pc = .ok (.aastore, 1)) (hT : T a = some (.inr (.object "java/lang/String", n))) (hin : vp_in i n) (hs : Cond.stringRef own i2 tx ∈ lw_tbl) (hq : pc + 1 = q) (kk : JJ Γ E Zf Rm cells slots q vl st (T, u2 R a i.toNatClampNeg (some (Γ.ss own i2)), S, I, L, D, z)) : JJ Γ E Zf Rm cells slots pc vl (.ref (Γ.ss own i2) :: .int i :: .ref a :: st) (T, R, S, I, L, D, z) :=
  jj_aastX hd hT (by decide) hin (fun s H hK hR => by
    obtain ⟨cell, g1, g2, g3, g4⟩ := (hK.2.2.2.2.1 own i2 tx hs).2.1
    exact ⟨cell, by rw [hR.2.2.1 _ (Nat.not_le.mp g4)]; exact g1, g2, g3⟩) hq kk
theorem jj_objInit {ix b : Nat} (hd : decode E.2.1 pc = .ok (.invokespecial ix, 3)) (hm : Cond.methodLink E.1 ix objectInit ∈ lw_good) (hi : Cond.instanceMethod objectInit ∈ lw_good) (hco : Cond.code objectInit ⟨#[0xb1]⟩ 1 none ∈ lw_good) (hf : 1 ≤ Rm.frames) (hlc : 20 ≤ Rm.locals) (hrt : Nat.ble (st.map fun v => v.category).sum 8 = true) (hq : pc + 3 = q) (kk : JJ Γ E Zf Rm cells slots q vl st M) : JJ Γ E Zf Rm cells slots pc vl (.ref b :: st) M := by
  subst hq
  intro p l e s m args below meth c H locs ls C hR hlo hl
  have hts := C.2.2.2.2.2.1
  exact W.objInit C.1 C.2.1 C.2.2.2.2.1 (hts _ hm) (hts _ hi) (hts _ hco) rfl (hl.1.trans C.2.2.1.symm) rfl hd hf (by have := Nat.le_of_ble_eq_true hrt; show 2 * 0 + _ + 12 ≤ _; omega) (kk p l e s m args below meth c H locs ls C hR hlo hl)
end JK8
section JC8
variable {Γ : Gam} {E : JE} {Zf : List Frame → Array Value → State → State → Prop} {Rm : Room} {cells slots pc q : Nat} {vl : List (Option Value)} {M : JM}
variable {ix n d mc ms mc1 ms1 mcR msR : Nat} {y : JY} {as rest : List Value} {Q Qc : JO → JM → Prop}
theorem jj_callM {b : Nat} (hd : decode E.2.1 pc = .ok (.invokespecial ix, 3)) (hy : YOK y n) (hm : MLM E.1 ix y) (hx : Ex Γ d y (.ref b :: as) M mc ms Q) (hnx : ∀ X M', ¬ Q (.inr X) M') (hn : as.length = n) (hrt : (rest.map fun v => v.category).sum ≤ 8) (hrm : d + 1 ≤ Rm.frames ∧ 8 + (y.2.2.1 + 11) + 40 * d ≤ Rm.locals) (hcs : cells + mc ≤ Rm.cells ∧ slots + ms ≤ Rm.slots)
    (kk : ∀ v M', Q (.inl v) M' → JJ Γ E Zf Rm (cells + mc) (slots + ms) (pc + 3) vl (v.toList ++ rest) M') : JJ Γ E Zf Rm cells slots pc vl (as.reverse ++ .ref b :: rest) M := by
  intro p l e s m args below meth c H locs ls C hR hlo hl
  have hts := C.2.2.2.2.2.1
  have hr9 := hm.2.2.2
  obtain ⟨host, hh⟩ := hm.1
  exact jj_after C hlo hl (jj_run (va_runIN (As := as) (rest := rest) ⟨C.1, C.2.1, C.2.2.1, C.2.2.2.2.1, hts⟩ (hx.met hnx C.2.2.2.2.2.2.2.2.2.1) ⟨va_cnB n hts (jj_wsG hy) (by unfold jj_ws jj_w; rw [hr9]) rfl rfl (C.2.2.2.2.2.2.1.2.2.1 _ hh rfl) (hts _ hy.2.2) hy.2.1 hrm, hm.2.2.1, hts _ hm.2.1⟩ ⟨jj_blind Γ _ M, jj_fr hR C.2.2.2.2.2.2.1⟩ rfl hn hl.1 rfl (lv_room hrt) hd hcs)) kk (fun X M' h => absurd h (hnx X M'))
/-- a constructor's end: nothing is returned, G holds of the memory -/
def rG (G : JM → Prop) : JO → JM → Prop := fun o M' => o = .inl none ∧ G M'
theorem jj_mI0 {b : Nat} {G : JM → Prop} (hd : decode E.2.1 pc = .ok (.invokespecial ix, 3)) (hy : YOK y 0) (hm : MLI E.1 ix y) (hx : Ex Γ d y [.ref b] M mc1 ms1 (rG G)) (hk : Nat.ble y.2.2.1 21 = true) (hrt : Nat.ble (rest.map fun v => v.category).sum 8 = true) (hq : pc + 3 = q) (hcs : cells + mc1 ≤ mcR ∧ slots + ms1 ≤ msR) (kk : ∀ M', G M' → JJ Γ E Zf (jj_rm (d + 1) mcR msR) (cells + mc1) (slots + ms1) q vl rest M') : JJ Γ E Zf (jj_rm (d + 1) mcR msR) cells slots pc vl (.ref b :: rest) M := by
  subst hq
  exact jj_callI (as := []) hd hy hm hx (fun X M' h => by cases h.1) rfl (Nat.le_of_ble_eq_true hrt) (jj_rok (Nat.le_of_ble_eq_true hk)) hcs (fun v M' h => by obtain ⟨h1, h2⟩ := h; cases h1; exact kk M' h2)
theorem jj_mI1 {b : Nat} {v1 : Value} {G : JM → Prop} (hd : decode E.2.1 pc = .ok (.invokespecial ix, 3)) (hy : YOK y 1) (hm : MLI E.1 ix y) (hx : Ex Γ d y [.ref b, v1] M mc1 ms1 (rG G)) (hk : Nat.ble y.2.2.1 21 = true) (hrt : Nat.ble (rest.map fun v => v.category).sum 8 = true) (hq : pc + 3 = q) (hcs : cells + mc1 ≤ mcR ∧ slots + ms1 ≤ msR) (kk : ∀ M', G M' → JJ Γ E Zf (jj_rm (d + 1) mcR msR) (cells + mc1) (slots + ms1) q vl rest M') : JJ Γ E Zf (jj_rm (d + 1) mcR msR) cells slots pc vl (v1 :: .ref b :: rest) M := by
  subst hq
  exact jj_callI (as := [v1]) hd hy hm hx (fun X M' h => by cases h.1) rfl (Nat.le_of_ble_eq_true hrt) (jj_rok (Nat.le_of_ble_eq_true hk)) hcs (fun v M' h => by obtain ⟨h1, h2⟩ := h; cases h1; exact kk M' h2)
theorem jj_mM0 {b : Nat} {G : JM → Prop} (hd : decode E.2.1 pc = .ok (.invokespecial ix, 3)) (hy : YOK y 0) (hm : MLM E.1 ix y) (hx : Ex Γ d y [.ref b] M mc1 ms1 (rG G)) (hk : Nat.ble y.2.2.1 21 = true) (hrt : Nat.ble (rest.map fun v => v.category).sum 8 = true) (hq : pc + 3 = q) (hcs : cells + mc1 ≤ mcR ∧ slots + ms1 ≤ msR) (kk : ∀ M', G M' → JJ Γ E Zf (jj_rm (d + 1) mcR msR) (cells + mc1) (slots + ms1) q vl rest M') : JJ Γ E Zf (jj_rm (d + 1) mcR msR) cells slots pc vl (.ref b :: rest) M := by
  subst hq
  exact jj_callM (as := []) hd hy hm hx (fun X M' h => by cases h.1) rfl (Nat.le_of_ble_eq_true hrt) (jj_rok (Nat.le_of_ble_eq_true hk)) hcs (fun v M' h => by obtain ⟨h1, h2⟩ := h; cases h1; exact kk M' h2)
end JC8
