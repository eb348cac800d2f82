/-- entry ix of class own's pool is field k of class ci -/
def FL (own : String) (ix ci k : Nat) : Prop := ci < 9 ∧ k < kN ci ∧ Cond.fieldLink own ix (kT ci k).1 (kT ci k).2.1 (kT ci k).2.2.1 ∈ lw_good
def jj_int : FieldType → Bool
  | .long => false
  | .array _ => false
  | .object _ => false
  | _ => true
theorem jj_fv_int {ci k : Nat} (h : jj_int (kY ci k) = true) (M : JM) (a : Nat) : jj_fv ci M a k = .int (M.2.2.2.1 a k) := by
  unfold jj_fv
  split <;> first | rfl | (rename_i e; rw [e] at h; cases h)
theorem jj_fv_long {ci k : Nat} (h : kY ci k = .long) (M : JM) (a : Nat) : jj_fv ci M a k = .long (M.2.2.2.2.1 a k) := by
  unfold jj_fv
  rw [h]
def jj_isr : FieldType → Bool
  | .array _ => true
  | .object _ => true
  | _ => false
theorem jj_fv_ref {ci k : Nat} (h : jj_isr (kY ci k) = true) (M : JM) (a : Nat) : jj_fv ci M a k = va_rf (jj_rq ci M.2.1 M.2.2.1 a k) := by
  unfold jj_fv
  cases hy : kY ci k <;> rw [hy] at h <;> first | rfl | cases h
theorem jj_ce_obj {Γ : Gam} {M : JM} {a ci : Nat} (h : M.1 a = some (.inl ci)) : jj_ce Γ M a = some (.inr (ci, (List.range (kN ci)).map (jj_fv ci M a))) := by
  unfold jj_ce
  rw [h]
theorem jj_ce_arr {Γ : Gam} {M : JM} {a n : Nat} {ty : FieldType} (h : M.1 a = some (.inr (ty, n))) : jj_ce Γ M a = some (.inl (Γ.cA ty, jj_ar ty M a n)) := by
  unfold jj_ce
  rw [h]
theorem jj_Rep.P {Γ : Gam} {M : JM} {H : Heap} {a : Nat} {e : va_E} (h : jj_Rep Γ M H) (he : jj_ce Γ M a = some e) : va_P Γ.D vwCl [(a, e)] H := by
  intro k q hk
  have hz : k < 1 := (List.getElem?_eq_some_iff.mp hk).1
  rw [show k = 0 by omega] at hk
  cases hk
  exact h.2.1 a e he
theorem jj_K {Γ : Gam} {s : State} (h : KG Γ s) : va_K Γ.D vwCl [] s := ⟨h.1, fun k q hk => by simp at hk⟩
theorem jj_K1 {Γ : Gam} {s : State} (h : KG Γ s) {ty : FieldType} (ht : ty ∈ jj_tys) : va_K Γ.D vwCl [(Γ.cA ty, ty)] s := ⟨h.1, fun k q hk => by
  have hz : k < 1 := (List.getElem?_eq_some_iff.mp hk).1
  rw [show k = 0 by omega] at hk
  cases hk
  exact h.arr ht⟩
theorem jj_V {ci k : Nat} (M : JM) (a : Nat) (hk : k < kN ci) : ((List.range (kN ci)).map (jj_fv ci M a))[k]? = some (jj_fv ci M a k) := by
  rw [List.getElem?_map, List.getElem?_range hk]
  rfl
theorem jj_Vd {ci k : Nat} (M : JM) (a : Nat) (hk : k < kN ci) : vp_V ((List.range (kN ci)).map (jj_fv ci M a)) k = jj_fv ci M a k := by
  unfold vp_V
  rw [List.getD_eq_getElem?_getD, jj_V M a hk]
  rfl
theorem u2_ne {α : Type} {f : Nat → Nat → α} {a k b : Nat} {v : α} (h : b ≠ a) : u2 f a k v b = f b := by
  funext j
  simp [u2, h]
theorem u2_eq {α : Type} {f : Nat → Nat → α} {a k : Nat} {v : α} : u2 f a k v a = fun j => if j = k then v else f a j := by
  funext j
  simp [u2]
theorem jj_ce_ne {Γ : Gam} {T : JT} {R S R' S' : JR} {I I' : JI} {L L' : JL} {D D' : JD} {z z' : Option Nat} {b : Nat} (h1 : R' b = R b) (h2 : S' b = S b) (h3 : I' b = I b) (h4 : L' b = L b) (h5 : D' b = D b) : jj_ce Γ (T, R', S', I', L', D', z') b = jj_ce Γ (T, R, S, I, L, D, z) b := by
  unfold jj_ce
  cases hT : T b with
  | none => simp [hT]
  | some q =>
    cases q with
    | inl ci =>
      simp only [hT]
      congr 3
      apply List.map_congr_left
      intro k _
      unfold jj_fv jj_rq
      dsimp only
      split <;> (try split) <;> simp [h1, h2, h3, h4, h5]
    | inr q =>
      simp only [hT]
      congr 3
      unfold jj_ar
      dsimp only
      split <;> simp [h1, h2, h3, h4, h5]
section JH
variable {Γ : Gam} {E : JE} {Zf : List Frame → Array Value → State → State → Prop} {Rm : Room} {cells slots pc q : Nat} {vl : List (Option Value)} {st : List Value} {M : JM}
variable {T : JT} {R S : JR} {I : JI} {L : JL} {D : JD} {z : Option Nat} {a : Nat}
theorem jj_get {ix ci k : Nat} {v : Value} (hd : decode E.2.1 pc = .ok (.getfield ix, 3)) (hf : FL E.1 ix ci k) (hT : M.1 a = some (.inl ci)) (hv : jj_fv ci M a k = v) (hq : pc + 3 = q) (kk : JJ Γ E Zf Rm cells slots q vl (v :: st) M) : JJ Γ E Zf Rm cells slots pc vl (.ref a :: st) M := by
  subst hq
  subst hv
  intro p l e s m args below meth c H locs ls C hR hlo hl
  exact va_get (D := Γ.D) (ci := ci) C.1 C.2.1 C.2.2.2.2.2.1 (k_in ci hf.1) C.2.2.2.2.1 (jj_K C.2.2.2.2.2.2.1) (hR.P (jj_ce_obj hT)) 0 rfl (k_cl ci hf.1) k hf.2.1 (C.2.2.2.2.2.1 _ hf.2.2) (fun _ h9 => h9) (jj_V M a hf.2.1) hd (kk p l e s m args below meth c H locs ls C hR hlo hl)
theorem jj_putX {M' : JM} {ix ci k : Nat} {v : Value} (hd : decode E.2.1 pc = .ok (.putfield ix, 3)) (hf : FL E.1 ix ci k) (hT : M.1 a = some (.inl ci)) (hfin : (kT ci k).2.2.2 = false) (hn : narrow (kY ci k) v = v) (hfit : fits (kY ci k) v = true) (hT' : M'.1 = M.1) (hz : M'.2.2.2.2.2.2 = M.2.2.2.2.2.2) (hfv : ∀ j, j < kN ci → updV (jj_fv ci M a) k v j = jj_fv ci M' a j) (ho : ∀ b : Nat, b ≠ a → jj_ce Γ M' b = jj_ce Γ M b) (hq : pc + 3 = q) (kk : JJ Γ E Zf Rm cells slots q vl st M') : JJ Γ E Zf Rm cells slots pc vl (v :: .ref a :: st) M := by
  subst hq
  intro p l e s m args below meth c H locs ls C hR hlo hl
  have hK := jj_K C.2.2.2.2.2.2.1
  have hts := C.2.2.2.2.2.1
  have hin := k_in ci hf.1
  have hc := k_cl ci hf.1
  have hap := va_apart (own := E.1) hts hin (kY ci) (k_ty ci hf.1) (k_nm ci hf.1) hK hc
  obtain ⟨r, h1, cell, q1, q2, q3, q4⟩ := hR.2.1 a _ (jj_ce_obj hT)
  have hr : r = (kR ci, kT ci, kN ci) := Option.some.inj (h1.symm.trans hc)
  subst hr
  obtain ⟨hS, hfc, kC, hkC, hkind⟩ := hK.1 ci _ hc
  obtain ⟨cf, kf, fi, f, hi, hsl⟩ := hS k hf.2.1
  have hlay := hts _ (hin _ (u_in_lay hf.2.1))
  unfold u_lay at hlay
  rw [if_neg (by rw [hfin]; decide)] at hlay
  have hst := (u_facts hfc hkC (u_lays hts hin hf.2.1) hi).1
  have h6 := u_store hfc hkC hkind hlay hi (k_ty ci hf.1 k hf.2.1) hn hfit
  have q5 : ∀ j, j < kN ci → cell.slots[Γ.D.2 ci j]? = some (jj_fv ci M a j) := fun j hj => by rw [q4 j hj, jj_Vd M a hj]
  refine W.putK C.1 C.2.1 (f := f) ⟨C.2.2.2.2.1, hts _ hf.2.2, ⟨_, _, _, hi⟩, hst⟩ (by rw [q2]; exact h6) q1 q3 (by rw [hsl]; exact k2_hasslot (q4 k hf.2.1)) rfl rfl hd fun H' e1 e2 e3 => ?_
  rw [hsl] at e1 ⊢
  have hne : ¬ M.1 a = none := by rw [hT]; exact fun h => by cases h
  refine kk p l e s m args below meth c H' _ ls C (hR.put hT' hz hne (jj_ce_obj (by rw [hT']; exact hT)) ⟨_, hc, cell.setSlot _ v, e1, q2, q3, fun j hj => ?_⟩ ho e2 e3) (fun y hy => ?_) hl
  · rw [jj_Vd M' a hj, ← hfv j hj]
    exact t_set q5 hap hf.2.1 v j hj
  · rcases List.mem_append.mp hy with h | h
    · exact hlo y h
    · rw [List.mem_singleton.mp h]
      exact hR.2.2.2.2 a hne
theorem jj_putI {ix ci k : Nat} {x : Int32} (hd : decode E.2.1 pc = .ok (.putfield ix, 3)) (hf : FL E.1 ix ci k) (hT : T a = some (.inl ci)) (hy : jj_int (kY ci k) = true) (hfin : (kT ci k).2.2.2 = false) (hn : narrow (kY ci k) (.int x) = .int x) (hfit : fits (kY ci k) (.int x) = true) (hq : pc + 3 = q) (kk : JJ Γ E Zf Rm cells slots q vl st (T, R, S, u2 I a k x, L, D, z)) : JJ Γ E Zf Rm cells slots pc vl (.int x :: .ref a :: st) (T, R, S, I, L, D, z) := by
  refine jj_putX (M' := (T, R, S, u2 I a k x, L, D, z)) hd hf hT hfin hn hfit rfl rfl (fun j hj => ?_) (fun b hb => jj_ce_ne rfl rfl (u2_ne hb) rfl rfl) hq kk
  unfold updV
  by_cases hjk : j = k
  · subst hjk
    rw [if_pos rfl, jj_fv_int hy]
    simp [u2]
  · rw [if_neg hjk]
    unfold jj_fv
    split <;> simp [u2, hjk]
theorem jj_putL {ix ci k : Nat} {x : Int64} (hd : decode E.2.1 pc = .ok (.putfield ix, 3)) (hf : FL E.1 ix ci k) (hT : T a = some (.inl ci)) (hy : kY ci k = .long) (hfin : (kT ci k).2.2.2 = false) (hq : pc + 3 = q) (kk : JJ Γ E Zf Rm cells slots q vl st (T, R, S, I, u2 L a k x, D, z)) : JJ Γ E Zf Rm cells slots pc vl (.long x :: .ref a :: st) (T, R, S, I, L, D, z) := by
  refine jj_putX (M' := (T, R, S, I, u2 L a k x, D, z)) hd hf hT hfin (by rw [hy]; rfl) (by rw [hy]; rfl) rfl rfl (fun j hj => ?_) (fun b hb => jj_ce_ne rfl rfl rfl (u2_ne hb) rfl) hq kk
  unfold updV
  by_cases hjk : j = k
  · subst hjk
    rw [if_pos rfl, jj_fv_long hy]
    simp [u2]
  · rw [if_neg hjk]
    unfold jj_fv
    split <;> simp [u2, hjk]
theorem jj_putS {ix ci k x : Nat} (hd : decode E.2.1 pc = .ok (.putfield ix, 3)) (hf : FL E.1 ix ci k) (h7 : 7 ≤ ci) (hT : T a = some (.inl ci)) (hy : jj_isr (kY ci k) = true) (hfin : (kT ci k).2.2.2 = false) (hfit : fits (kY ci k) (.ref x) = true) (hn : narrow (kY ci k) (.ref x) = .ref x) (hq : pc + 3 = q) (kk : JJ Γ E Zf Rm cells slots q vl st (T, R, u2 S a k (some x), I, L, D, z)) : JJ Γ E Zf Rm cells slots pc vl (.ref x :: .ref a :: st) (T, R, S, I, L, D, z) := by
  refine jj_putX (M' := (T, R, u2 S a k (some x), I, L, D, z)) hd hf hT hfin hn hfit rfl rfl (fun j hj => ?_) (fun b hb => jj_ce_ne rfl (u2_ne hb) rfl rfl rfl) hq kk
  unfold updV
  by_cases hjk : j = k
  · subst hjk
    rw [if_pos rfl, jj_fv_ref hy]
    simp [u2, jj_rq, h7, va_rf]
  · rw [if_neg hjk]
    unfold jj_fv
    split <;> simp [u2, hjk, jj_rq, h7]
theorem jj_aT {ty : FieldType} {n : Nat} (hT : M.1 a = some (.inr (ty, n))) : ¬ M.1 a = none := by rw [hT]; exact fun h => by cases h
theorem jj_iald {n : Nat} {i : Int32} {v : Int32} (hd : decode E.2.1 pc = .ok (.iaload, 1)) (hT : T a = some (.inr (.int, n))) (hin : vp_in i n) (hv : I a i.toNatClampNeg = v) (hq : pc + 1 = q) (kk : JJ Γ E Zf Rm cells slots q vl (.int v :: st) (T, R, S, I, L, D, z)) : JJ Γ E Zf Rm cells slots pc vl (.int i :: .ref a :: st) (T, R, S, I, L, D, z) := by
  subst hq
  subst hv
  intro p l e s m args below meth c H locs ls C hR hlo hl
  exact va_iald C.1 C.2.1 (jj_K1 C.2.2.2.2.2.2.1 (ty := .int) (by decide)) (hR.P (jj_ce_arr hT)) 0 0 rfl rfl hin hd (kk p l e s m args below meth c H locs ls C hR hlo hl)
theorem jj_bald {n : Nat} {i : Int32} {v : Int32} (hd : decode E.2.1 pc = .ok (.baload, 1)) (hT : T a = some (.inr (.byte, n))) (hin : vp_in i n) (hv : I a i.toNatClampNeg = v) (hq : pc + 1 = q) (kk : JJ Γ E Zf Rm cells slots q vl (.int v :: st) (T, R, S, I, L, D, z)) : JJ Γ E Zf Rm cells slots pc vl (.int i :: .ref a :: st) (T, R, S, I, L, D, z) := by
  subst hq
  subst hv
  intro p l e s m args below meth c H locs ls C hR hlo hl
  exact va_bald C.1 C.2.1 (jj_K1 C.2.2.2.2.2.2.1 (ty := .byte) (by decide)) (hR.P (jj_ce_arr hT)) 0 0 rfl rfl hin hd (kk p l e s m args below meth c H locs ls C hR hlo hl)
theorem jj_zald {n : Nat} {i : Int32} {v : Int32} (hd : decode E.2.1 pc = .ok (.baload, 1)) (hT : T a = some (.inr (.boolean, n))) (hin : vp_in i n) (hv : I a i.toNatClampNeg = v) (hq : pc + 1 = q) (kk : JJ Γ E Zf Rm cells slots q vl (.int v :: st) (T, R, S, I, L, D, z)) : JJ Γ E Zf Rm cells slots pc vl (.int i :: .ref a :: st) (T, R, S, I, L, D, z) := by
  subst hq
  subst hv
  intro p l e s m args below meth c H locs ls C hR hlo hl
  exact va_zald C.1 C.2.1 (jj_K1 C.2.2.2.2.2.2.1 (ty := .boolean) (by decide)) (hR.P (jj_ce_arr hT)) 0 0 rfl rfl hin hd (kk p l e s m args below meth c H locs ls C hR hlo hl)
theorem jj_lald {n : Nat} {i : Int32} {v : Int64} (hd : decode E.2.1 pc = .ok (.laload, 1)) (hT : T a = some (.inr (.long, n))) (hin : vp_in i n) (hv : L a i.toNatClampNeg = v) (hq : pc + 1 = q) (kk : JJ Γ E Zf Rm cells slots q vl (.long v :: st) (T, R, S, I, L, D, z)) : JJ Γ E Zf Rm cells slots pc vl (.int i :: .ref a :: st) (T, R, S, I, L, D, z) := by
  subst hq
  subst hv
  intro p l e s m args below meth c H locs ls C hR hlo hl
  exact va_lald C.1 C.2.1 (jj_K1 C.2.2.2.2.2.2.1 (ty := .long) (by decide)) (hR.P (jj_ce_arr hT)) 0 0 rfl rfl hin hd (kk p l e s m args below meth c H locs ls C hR hlo hl)
theorem jj_dald {n : Nat} {i : Int32} {v : UInt64} (hd : decode E.2.1 pc = .ok (.daload, 1)) (hT : T a = some (.inr (.double, n))) (hin : vp_in i n) (hv : D a i.toNatClampNeg = v) (hq : pc + 1 = q) (kk : JJ Γ E Zf Rm cells slots q vl (.double v :: st) (T, R, S, I, L, D, z)) : JJ Γ E Zf Rm cells slots pc vl (.int i :: .ref a :: st) (T, R, S, I, L, D, z) := by
  subst hq
  subst hv
  intro p l e s m args below meth c H locs ls C hR hlo hl
  exact va_dald C.1 C.2.1 (jj_K1 C.2.2.2.2.2.2.1 (ty := .double) (by decide)) (hR.P (jj_ce_arr hT)) 0 0 rfl rfl hin hd (kk p l e s m args below meth c H locs ls C hR hlo hl)
theorem jj_alen {ty : FieldType} {n : Nat} {v : Int32} (hd : decode E.2.1 pc = .ok (.arraylength, 1)) (hT : M.1 a = some (.inr (ty, n))) (hty : ty ∈ jj_tys) (hv : Int32.ofNat n = v) (hq : pc + 1 = q) (kk : JJ Γ E Zf Rm cells slots q vl (.int v :: st) M) : JJ Γ E Zf Rm cells slots pc vl (.ref a :: st) M := by
  subst hq
  subst hv
  intro p l e s m args below meth c H locs ls C hR hlo hl
  refine va_alen C.1 C.2.1 (jj_K1 C.2.2.2.2.2.2.1 hty) (hR.P (jj_ce_arr hT)) 0 0 rfl rfl ?_ hd (kk p l e s m args below meth c H locs ls C hR hlo hl)
  unfold jj_ar
  split <;> rfl
/-- references out of an array -/
theorem jj_aald {C9 : String} {n x : Nat} {i : Int32} (hd : decode E.2.1 pc = .ok (.aaload, 1)) (hT : T a = some (.inr (.object C9, n))) (hty : (FieldType.object C9) ∈ jj_tys) (hin : vp_in i n) (hv : R a i.toNatClampNeg = some x) (hq : pc + 1 = q) (kk : JJ Γ E Zf Rm cells slots q vl (.ref x :: st) (T, R, S, I, L, D, z)) : JJ Γ E Zf Rm cells slots pc vl (.int i :: .ref a :: st) (T, R, S, I, L, D, z) := by
  subst hq
  intro p l e s m args below meth c H locs ls C hR hlo hl
  have hc : H[a]? = some (arrV (Γ.cA (.object C9)) n (fun j => va_rf (R a j))) := hR.2.1 a _ (jj_ce_arr hT)
  have hlt : i.toNatClampNeg < n := Nat.not_le.mp fun q => hin (Or.inr q)
  exact W.aald (v := .ref x) C.1 C.2.1 hc ((KG.arr C.2.2.2.2.2.2.1 hty).1 n (fun j => va_rf (R a j))) rfl (fun q => by cases q) (by rw [arrV_size]; exact hin) (by rw [arrV_read _ _ hlt, hv]; rfl) rfl rfl hd (kk p l e s m args below meth c H locs ls C hR hlo hl)
theorem jj_lo {H : Heap} {locs : List Loc} {j : Nat} (hR : jj_Rep Γ M H) (hne : ¬ M.1 a = none) (hlo : ∀ y ∈ locs, Γ.base ≤ y.base) : ∀ y ∈ locs ++ [(⟨a, j⟩ : Loc)], Γ.base ≤ y.base := fun y hy => by
  rcases List.mem_append.mp hy with h | h
  · exact hlo y h
  · rw [List.mem_singleton.mp h]
    exact hR.2.2.2.2 a hne
theorem jj_up {α : Type} (mk : α → Value) {f : Nat → Nat → α} {a k : Nat} {x : α} : updV (fun j => mk (f a j)) k (mk x) = fun j => mk (u2 f a k x a j) := by
  funext j
  by_cases hj : j = k <;> simp [updV, u2, hj]
theorem jj_iast {n : Nat} {i : Int32} {x : Int32} (hd : decode E.2.1 pc = .ok (.iastore, 1)) (hT : T a = some (.inr (.int, n))) (hin : vp_in i n) (hq : pc + 1 = q) (kk : JJ Γ E Zf Rm cells slots q vl st (T, R, S, u2 I a i.toNatClampNeg x, L, D, z)) : JJ Γ E Zf Rm cells slots pc vl (.int x :: .int i :: .ref a :: st) (T, R, S, I, L, D, z) := by
  subst hq
  intro p l e s m args below meth c H locs ls C hR hlo hl
  have hc : H[a]? = some (arrV (Γ.cA .int) n (fun j => .int (I a j))) := hR.2.1 a _ (jj_ce_arr hT)
  have hne : ¬ T a = none := by rw [hT]; exact fun h => by cases h
  refine W.iast C.1 C.2.1 hc ((KG.arr C.2.2.2.2.2.2.1 (by decide)).1 n (fun j => .int (I a j))) (fun q => by cases q) (by rw [arrV_size]; exact hin) rfl rfl hd fun H1 e1 z1 oq => ?_
  rw [arrV_store, jj_up] at e1
  exact kk p l e s m args below meth c H1 _ ls C (hR.put (M' := (T, R, S, u2 I a i.toNatClampNeg x, L, D, z)) rfl rfl hne (jj_ce_arr hT) e1 (fun b hb => jj_ce_ne rfl rfl (u2_ne hb) rfl rfl) z1 oq) (jj_lo hR hne hlo) hl
theorem jj_bast {n : Nat} {i : Int32} {x : Int32} (hd : decode E.2.1 pc = .ok (.bastore, 1)) (hT : T a = some (.inr (.byte, n))) (hin : vp_in i n) (hq : pc + 1 = q) (kk : JJ Γ E Zf Rm cells slots q vl st (T, R, S, u2 I a i.toNatClampNeg x.toInt8.toInt32, L, D, z)) : JJ Γ E Zf Rm cells slots pc vl (.int x :: .int i :: .ref a :: st) (T, R, S, I, L, D, z) := by
  subst hq
  intro p l e s m args below meth c H locs ls C hR hlo hl
  have hc : H[a]? = some (arrV (Γ.cA .byte) n (fun j => .int (I a j))) := hR.2.1 a _ (jj_ce_arr hT)
  have hne : ¬ T a = none := by rw [hT]; exact fun h => by cases h
  refine W.bast C.1 C.2.1 hc ((KG.arr C.2.2.2.2.2.2.1 (by decide)).1 n (fun j => .int (I a j))) (fun q => by cases q) (by rw [arrV_size]; exact hin) rfl rfl hd fun H1 e1 z1 oq => ?_
  rw [arrV_store, show narrow .byte (.int x) = .int x.toInt8.toInt32 from rfl, jj_up] at e1
  exact kk p l e s m args below meth c H1 _ ls C (hR.put (M' := (T, R, S, u2 I a i.toNatClampNeg x.toInt8.toInt32, L, D, z)) rfl rfl hne (jj_ce_arr hT) e1 (fun b hb => jj_ce_ne rfl rfl (u2_ne hb) rfl rfl) z1 oq) (jj_lo hR hne hlo) hl
theorem jj_zast {n : Nat} {i : Int32} {x : Int32} (hd : decode E.2.1 pc = .ok (.bastore, 1)) (hT : T a = some (.inr (.boolean, n))) (hin : vp_in i n) (hx : narrow .boolean (.int x) = .int x) (hq : pc + 1 = q) (kk : JJ Γ E Zf Rm cells slots q vl st (T, R, S, u2 I a i.toNatClampNeg x, L, D, z)) : JJ Γ E Zf Rm cells slots pc vl (.int x :: .int i :: .ref a :: st) (T, R, S, I, L, D, z) := by
  subst hq
  intro p l e s m args below meth c H locs ls C hR hlo hl
  have hc : H[a]? = some (arrV (Γ.cA .boolean) n (fun j => .int (I a j))) := hR.2.1 a _ (jj_ce_arr hT)
  have hne : ¬ T a = none := by rw [hT]; exact fun h => by cases h
  refine W.zast C.1 C.2.1 hc ((KG.arr C.2.2.2.2.2.2.1 (by decide)).1 n (fun j => .int (I a j))) (fun q => by cases q) (by rw [arrV_size]; exact hin) rfl rfl hd fun H1 e1 z1 oq => ?_
  rw [arrV_store, hx, jj_up] at e1
  exact kk p l e s m args below meth c H1 _ ls C (hR.put (M' := (T, R, S, u2 I a i.toNatClampNeg x, L, D, z)) rfl rfl hne (jj_ce_arr hT) e1 (fun b hb => jj_ce_ne rfl rfl (u2_ne hb) rfl rfl) z1 oq) (jj_lo hR hne hlo) hl
theorem jj_last {n : Nat} {i : Int32} {x : Int64} (hd : decode E.2.1 pc = .ok (.lastore, 1)) (hT : T a = some (.inr (.long, n))) (hin : vp_in i n) (hq : pc + 1 = q) (kk : JJ Γ E Zf Rm cells slots q vl st (T, R, S, I, u2 L a i.toNatClampNeg x, D, z)) : JJ Γ E Zf Rm cells slots pc vl (.long x :: .int i :: .ref a :: st) (T, R, S, I, L, D, z) := by
  subst hq
  intro p l e s m args below meth c H locs ls C hR hlo hl
  have hc : H[a]? = some (arrV (Γ.cA .long) n (fun j => .long (L a j))) := hR.2.1 a _ (jj_ce_arr hT)
  have hne : ¬ T a = none := by rw [hT]; exact fun h => by cases h
  refine W.last C.1 C.2.1 hc ((KG.arr C.2.2.2.2.2.2.1 (by decide)).1 n (fun j => .long (L a j))) (fun q => by cases q) (by rw [arrV_size]; exact hin) rfl rfl hd fun H1 e1 z1 oq => ?_
  rw [arrV_store, jj_up] at e1
  exact kk p l e s m args below meth c H1 _ ls C (hR.put (M' := (T, R, S, I, u2 L a i.toNatClampNeg x, D, z)) rfl rfl hne (jj_ce_arr hT) e1 (fun b hb => jj_ce_ne rfl rfl rfl (u2_ne hb) rfl) z1 oq) (jj_lo hR hne hlo) hl
theorem jj_dast {n : Nat} {i : Int32} {x : UInt64} (hd : decode E.2.1 pc = .ok (.dastore, 1)) (hT : T a = some (.inr (.double, n))) (hin : vp_in i n) (hq : pc + 1 = q) (kk : JJ Γ E Zf Rm cells slots q vl st (T, R, S, I, L, u2 D a i.toNatClampNeg x, z)) : JJ Γ E Zf Rm cells slots pc vl (.double x :: .int i :: .ref a :: st) (T, R, S, I, L, D, z) := by
  subst hq
  intro p l e s m args below meth c H locs ls C hR hlo hl
  have hc : H[a]? = some (arrV (Γ.cA .double) n (fun j => .double (D a j))) := hR.2.1 a _ (jj_ce_arr hT)
  have hne : ¬ T a = none := by rw [hT]; exact fun h => by cases h
  refine W.dast C.1 C.2.1 hc ((KG.arr C.2.2.2.2.2.2.1 (by decide)).1 n (fun j => .double (D a j))) (fun q => by cases q) (by rw [arrV_size]; exact hin) rfl rfl hd fun H1 e1 z1 oq => ?_
  rw [arrV_store, jj_up] at e1
  exact kk p l e s m args below meth c H1 _ ls C (hR.put (M' := (T, R, S, I, L, u2 D a i.toNatClampNeg x, z)) rfl rfl hne (jj_ce_arr hT) e1 (fun b hb => jj_ce_ne rfl rfl rfl rfl (u2_ne hb)) z1 oq) (jj_lo hR hne hlo) hl
end JH
