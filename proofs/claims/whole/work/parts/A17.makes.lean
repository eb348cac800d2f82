/-! ROWS FOR CONSTRUCTORS: new cells, final fields -/
def fz {α : Type} (v : α) (f : Nat → Nat → α) (z : Nat) : Prop := ∀ b : Nat, z ≤ b → f b = fun _ => v
theorem fz.u {α : Type} {v x : α} {f : Nat → Nat → α} {z a k : Nat} (h : fz v f z) (ha : a < z) : fz v (u2 f a k x) z := fun b hb => (u2_ne (by omega)).trans (h b hb)
/-- nothing is written from z on -/
def Fre (R S : JR) (I : JI) (L : JL) (D : JD) (z : Nat) : Prop := fz none R z ∧ fz none S z ∧ fz 0 I z ∧ fz 0 L z ∧ fz 0 D z
section FR7
variable {R S : JR} {I : JI} {L : JL} {D : JD} {z z' a k : Nat}
theorem Fre.up (h : Fre R S I L D z) (hz : z ≤ z') : Fre R S I L D z' := ⟨fun b hb => h.1 b (by omega), fun b hb => h.2.1 b (by omega), fun b hb => h.2.2.1 b (by omega), fun b hb => h.2.2.2.1 b (by omega), fun b hb => h.2.2.2.2 b (by omega)⟩
theorem Fre.uR {x : Option Nat} (h : Fre R S I L D z) (ha : a < z) : Fre (u2 R a k x) S I L D z := ⟨h.1.u ha, h.2⟩
theorem Fre.uS {x : Option Nat} (h : Fre R S I L D z) (ha : a < z) : Fre R (u2 S a k x) I L D z := ⟨h.1, h.2.1.u ha, h.2.2⟩
theorem Fre.uI {x : Int32} (h : Fre R S I L D z) (ha : a < z) : Fre R S (u2 I a k x) L D z := ⟨h.1, h.2.1, h.2.2.1.u ha, h.2.2.2⟩
theorem Fre.i0 (h : Fre R S I L D z) : u2 I z k 0 = I := by
  have e := u2_self I z k
  rw [h.2.2.1 z (Nat.le_refl _)] at e
  exact e
theorem Fre.l0 (h : Fre R S I L D z) : u2 L z k 0 = L := by
  have e := u2_self L z k
  rw [h.2.2.2.1 z (Nat.le_refl _)] at e
  exact e
theorem Fre.i1 {j : Nat} {v : Int32} (h : Fre R S I L D z) (hj : k ≠ j) : u2 (u2 I z j v) z k 0 = u2 I z j v := by
  have e := u2_self (u2 I z j v) z k
  rw [u2_eq, h.2.2.1 z (Nat.le_refl _)] at e
  dsimp only at e
  rw [if_neg hj] at e
  exact e
end FR7
theorem u1_eq {α : Type} {f : Nat → α} {a : Nat} {v : α} : u1 f a v a = v := if_pos rfl
theorem u1_ne {α : Type} {f : Nat → α} {a b : Nat} {v : α} (h : b ≠ a) : u1 f a v b = f b := if_neg h
/-- the fields' types: none is a float or a double -/
def kok : FieldType → Bool
  | .float => false
  | .double => false
  | _ => true
theorem k_ok : ∀ ci, ci < 9 → ∀ k, k < kN ci → kok (kY ci k) = true := k_nine (by decide) (by decide) (by decide) (by decide) (by decide) (by decide) (by decide) (by decide) (by decide)
theorem jj_fv0 {R S : JR} {I : JI} {L : JL} {D : JD} {T : JT} {z : Option Nat} {a ci k : Nat} (h : Fre R S I L D a) (hk : kok (kY ci k) = true) : jj_fv ci (T, R, S, I, L, D, z) a k = defaultValue (kY ci k) := by
  have h1 := h.1 a (Nat.le_refl _)
  have h2 := h.2.1 a (Nat.le_refl _)
  have h3 := h.2.2.1 a (Nat.le_refl _)
  have h4 := h.2.2.2.1 a (Nat.le_refl _)
  have h5 : jj_rq ci R S a k = none := by
    unfold jj_rq
    split
    · rw [h2]
    · rw [h1]
  unfold jj_fv
  dsimp only
  rw [h3, h4, h5]
  cases e : kY ci k <;> first | rfl | (rw [e] at hk; cases hk)
/-- one cell more -/
theorem jj_Rep.more {Γ : Gam} {T : JT} {R S : JR} {I : JI} {L : JL} {D : JD} {z0 : Nat} {H H1 : Heap} {q : Nat ⊕ (FieldType × Nat)} {e9 : va_E} (h : jj_Rep Γ (T, R, S, I, L, D, some z0) H) (hs : H1.size = z0 + 1) (ho : ∀ a : Nat, a < z0 → H1[a]? = H[a]?) (hc : jj_ce Γ (u1 T z0 (some q), R, S, I, L, D, some (z0 + 1)) z0 = some e9) (hv : va_at Γ.D vwCl (z0, e9) H1) : jj_Rep Γ (u1 T z0 (some q), R, S, I, L, D, some (z0 + 1)) H1 := by
  obtain ⟨h1, h2, h3, h4, h5⟩ := h
  have hz : H.size = z0 := h1 z0 rfl
  refine ⟨fun z hz' => ?_, fun a e he => ?_, fun a ha => ?_, by omega, fun a ha => ?_⟩
  · cases hz'
    exact hs
  · by_cases e1 : a = z0
    · subst e1
      rw [hc] at he
      cases he
      exact hv
    · have he' : jj_ce Γ (T, R, S, I, L, D, some z0) a = some e := by
        rw [← he]
        unfold jj_ce
        dsimp only
        rw [u1_ne e1]
        rfl
      have hat := h2 a e he'
      exact hat.kept (ho a (by have := hat.lt; dsimp only at this; omega))
  · rw [ho a (by omega)]
    exact h3 a ha
  · by_cases e1 : a = z0
    · omega
    · exact h5 a (by
        dsimp only at ha ⊢
        rw [u1_ne e1] at ha
        exact ha)
section JK7
variable {Γ : Gam} {E : JE} {Zf : List Frame → Array Value → State → State → Prop} {Rm : Room} {cells slots pc q : Nat} {vl : List (Option Value)} {st : List Value} {M : JM}
variable {T : JT} {R S : JR} {I : JI} {L : JL} {D : JD} {z : Option Nat} {a : Nat}
theorem jj_new {ix ci z0 z1 : Nat} (hd : decode E.2.1 pc = .ok (.new ix, 3)) (hci : ci < 9) (hcl : Cond.classLink E.1 ix (kR ci) ∈ lw_good) (hinst : Cond.instantiable (kR ci) (kN ci) ∈ lw_good) (hini : Cond.initialized (kR ci) ∈ lw_good) (hF : Fre R S I L D z0) (hcs : cells + 1 ≤ Rm.cells ∧ slots + kN ci ≤ Rm.slots) (hz1 : z0 + 1 = z1) (hq : pc + 3 = q) (kk : JJ Γ E Zf Rm (cells + 1) (slots + kN ci) q vl (.ref z0 :: st) (u1 T z0 (some (.inl ci)), R, S, I, L, D, some z1)) : JJ Γ E Zf Rm cells slots pc vl st (T, R, S, I, L, D, some z0) := by
  subst hq
  subst hz1
  intro p l e s m args below meth c H locs ls C hR hlo hl
  have hK := jj_K C.2.2.2.2.2.2.1
  have hts := C.2.2.2.2.2.1
  have hc := k_cl ci hci
  have hKn := hK.1 ci _ hc
  have hz : H.size = z0 := hR.1 z0 rfl
  refine W.newcK C.1 C.2.1 C.2.2.2.2.1 (hts _ hcl) (hts _ hinst) (hts _ hini) rfl hd hcs.1 hcs.2 hKn.2.1 hz fun H1 kC hkC e1 s1 o1 => ?_
  have hT : (u1 T z0 (some (.inl ci))) z0 = some (.inl ci) := u1_eq
  refine kk p l e s m args below meth c H1 locs ls C (hR.more s1 o1 (jj_ce_obj (M := (u1 T z0 (some (.inl ci)), R, S, I, L, D, some (z0 + 1))) hT) ⟨_, hc, (u_born (kY ci) hts (k_in ci hci) hKn hkC e1 (k_ty ci hci)).to fun j hj => ?_⟩) hlo hl
  rw [jj_Vd _ z0 hj, jj_fv0 hF (k_ok ci hci j hj)]
theorem jj_newaX {atype : ArrayType} {ty : FieldType} {n : Int32} {N z0 z1 : Nat} (hd : decode E.2.1 pc = .ok (.newarray atype, 2)) (hty : newarray.typeOf atype = ty) (htm : ty ∈ jj_tys) (harr : Cond.arrayClass ty ∈ lw_good) (ha : ∀ cA : ClassId, vp_cell cA (jj_ar ty (T, R, S, I, L, D, z) z0 N) = arrV cA N (fun _ => defaultValue ty)) (hn : ¬ n < 0) (hN : n.toNatClampNeg = N) (hbytes : Nat.ble (N * componentBytes ty) 536870912 = true) (hcs : cells + 1 ≤ Rm.cells ∧ slots + N ≤ Rm.slots) (hz1 : z0 + 1 = z1) (hq : pc + 2 = q) (kk : JJ Γ E Zf Rm (cells + 1) (slots + N) q vl (.ref z0 :: st) (u1 T z0 (some (.inr (ty, N))), R, S, I, L, D, some z1)) : JJ Γ E Zf Rm cells slots pc vl (.int n :: st) (T, R, S, I, L, D, some z0) := by
  subst hq
  subst hz1
  subst hty
  intro p l e s m args below meth c H locs ls C hR hlo hl
  have hts := C.2.2.2.2.2.1
  have hz : H.size = z0 := hR.1 z0 rfl
  have hA := (KG.arr C.2.2.2.2.2.2.1 htm).2
  refine va_newaK C.1 C.2.1 (hts _ harr) rfl hd rfl hn hN (Nat.le_of_ble_eq_true hbytes) hcs.1 hcs.2 hz fun H1 cA e1 s1 o1 hAr hNm => ?_
  have hcA : cA = Γ.cA (newarray.typeOf atype) := by
    have h2 : s.vm.findClass ("[" ++ (newarray.typeOf atype).toString) = some (Γ.cA (newarray.typeOf atype)) := by cases atype <;> exact hA
    exact Option.some.inj (hNm.symm.trans h2)
  refine kk p l e s m args below meth c H1 locs ls C (hR.more s1 o1 (e9 := .inl (Γ.cA (newarray.typeOf atype), jj_ar (newarray.typeOf atype) (T, R, S, I, L, D, z) z0 N)) ?_ ?_) hlo hl
  · unfold jj_ce
    dsimp only
    rw [u1_eq]
    rfl
  · show H1[z0]? = some (vp_cell _ _)
    rw [ha, e1, hcA]
theorem jj_newI {n : Int32} {N z0 z1 : Nat} (hd : decode E.2.1 pc = .ok (.newarray .int, 2)) (hF : Fre R S I L D z0) (harr : Cond.arrayClass .int ∈ lw_good) (hn : ¬ n < 0) (hN : n.toNatClampNeg = N) (hbytes : Nat.ble (N * componentBytes .int) 536870912 = true) (hcs : cells + 1 ≤ Rm.cells ∧ slots + N ≤ Rm.slots) (hz1 : z0 + 1 = z1) (hq : pc + 2 = q) (kk : JJ Γ E Zf Rm (cells + 1) (slots + N) q vl (.ref z0 :: st) (u1 T z0 (some (.inr (.int, N))), R, S, I, L, D, some z1)) : JJ Γ E Zf Rm cells slots pc vl (.int n :: st) (T, R, S, I, L, D, some z0) :=
  jj_newaX (z := none) hd rfl (by decide) harr (fun cA => by show arrV cA N (fun j => .int (I z0 j)) = _; rw [hF.2.2.1 z0 (Nat.le_refl _)]; rfl) hn hN hbytes hcs hz1 hq kk
theorem jj_newB {n : Int32} {N z0 z1 : Nat} (hd : decode E.2.1 pc = .ok (.newarray .byte, 2)) (hF : Fre R S I L D z0) (harr : Cond.arrayClass .byte ∈ lw_good) (hn : ¬ n < 0) (hN : n.toNatClampNeg = N) (hbytes : Nat.ble (N * componentBytes .byte) 536870912 = true) (hcs : cells + 1 ≤ Rm.cells ∧ slots + N ≤ Rm.slots) (hz1 : z0 + 1 = z1) (hq : pc + 2 = q) (kk : JJ Γ E Zf Rm (cells + 1) (slots + N) q vl (.ref z0 :: st) (u1 T z0 (some (.inr (.byte, N))), R, S, I, L, D, some z1)) : JJ Γ E Zf Rm cells slots pc vl (.int n :: st) (T, R, S, I, L, D, some z0) :=
  jj_newaX (z := none) hd rfl (by decide) harr (fun cA => by show arrV cA N (fun j => .int (I z0 j)) = _; rw [hF.2.2.1 z0 (Nat.le_refl _)]; rfl) hn hN hbytes hcs hz1 hq kk
theorem jj_newZ {n : Int32} {N z0 z1 : Nat} (hd : decode E.2.1 pc = .ok (.newarray .boolean, 2)) (hF : Fre R S I L D z0) (harr : Cond.arrayClass .boolean ∈ lw_good) (hn : ¬ n < 0) (hN : n.toNatClampNeg = N) (hbytes : Nat.ble (N * componentBytes .boolean) 536870912 = true) (hcs : cells + 1 ≤ Rm.cells ∧ slots + N ≤ Rm.slots) (hz1 : z0 + 1 = z1) (hq : pc + 2 = q) (kk : JJ Γ E Zf Rm (cells + 1) (slots + N) q vl (.ref z0 :: st) (u1 T z0 (some (.inr (.boolean, N))), R, S, I, L, D, some z1)) : JJ Γ E Zf Rm cells slots pc vl (.int n :: st) (T, R, S, I, L, D, some z0) :=
  jj_newaX (z := none) hd rfl (by decide) harr (fun cA => by show arrV cA N (fun j => .int (I z0 j)) = _; rw [hF.2.2.1 z0 (Nat.le_refl _)]; rfl) hn hN hbytes hcs hz1 hq kk
theorem jj_newJ {n : Int32} {N z0 z1 : Nat} (hd : decode E.2.1 pc = .ok (.newarray .long, 2)) (hF : Fre R S I L D z0) (harr : Cond.arrayClass .long ∈ lw_good) (hn : ¬ n < 0) (hN : n.toNatClampNeg = N) (hbytes : Nat.ble (N * componentBytes .long) 536870912 = true) (hcs : cells + 1 ≤ Rm.cells ∧ slots + N ≤ Rm.slots) (hz1 : z0 + 1 = z1) (hq : pc + 2 = q) (kk : JJ Γ E Zf Rm (cells + 1) (slots + N) q vl (.ref z0 :: st) (u1 T z0 (some (.inr (.long, N))), R, S, I, L, D, some z1)) : JJ Γ E Zf Rm cells slots pc vl (.int n :: st) (T, R, S, I, L, D, some z0) :=
  jj_newaX (z := none) hd rfl (by decide) harr (fun cA => by show arrV cA N (fun j => .long (L z0 j)) = _; rw [hF.2.2.2.1 z0 (Nat.le_refl _)]; rfl) hn hN hbytes hcs hz1 hq kk
theorem jj_newD {n : Int32} {N z0 z1 : Nat} (hd : decode E.2.1 pc = .ok (.newarray .double, 2)) (hF : Fre R S I L D z0) (harr : Cond.arrayClass .double ∈ lw_good) (hn : ¬ n < 0) (hN : n.toNatClampNeg = N) (hbytes : Nat.ble (N * componentBytes .double) 536870912 = true) (hcs : cells + 1 ≤ Rm.cells ∧ slots + N ≤ Rm.slots) (hz1 : z0 + 1 = z1) (hq : pc + 2 = q) (kk : JJ Γ E Zf Rm (cells + 1) (slots + N) q vl (.ref z0 :: st) (u1 T z0 (some (.inr (.double, N))), R, S, I, L, D, some z1)) : JJ Γ E Zf Rm cells slots pc vl (.int n :: st) (T, R, S, I, L, D, some z0) :=
  jj_newaX (z := none) hd rfl (by decide) harr (fun cA => by show arrV cA N (fun j => .double (D z0 j)) = _; rw [hF.2.2.2.2 z0 (Nat.le_refl _)]; rfl) hn hN hbytes hcs hz1 hq kk
theorem jj_newQ {C9 : String} {ix : Nat} {n : Int32} {N z0 z1 : Nat} (hd : decode E.2.1 pc = .ok (.anewarray ix, 3)) (hF : Fre R S I L D z0) (htm : FieldType.object C9 ∈ jj_tys) (hcl : Cond.classLink E.1 ix C9 ∈ lw_good) (hn : ¬ n < 0) (hN : n.toNatClampNeg = N) (hbytes : Nat.ble (N * 4) 536870912 = true) (hcs : cells + 1 ≤ Rm.cells ∧ slots + N ≤ Rm.slots) (hz1 : z0 + 1 = z1) (hq : pc + 3 = q) (kk : JJ Γ E Zf Rm (cells + 1) (slots + N) q vl (.ref z0 :: st) (u1 T z0 (some (.inr (.object C9, N))), R, S, I, L, D, some z1)) : JJ Γ E Zf Rm cells slots pc vl (.int n :: st) (T, R, S, I, L, D, some z0) := by
  subst hq
  subst hz1
  subst hN
  intro p l e s m args below meth c H locs ls C hR hlo hl
  have hts := C.2.2.2.2.2.1
  have hz : H.size = z0 := hR.1 z0 rfl
  subst hz
  obtain ⟨kA9, comp9, g1, g2, g3, g4⟩ := (KG.arr C.2.2.2.2.2.2.1 htm).2
  refine W.anew C.1 C.2.1 C.2.2.2.2.1 (hts _ hcl) (va_AO.use (KG.ao C.2.2.2.2.2.2.1 htm)) rfl hd rfl hn (Nat.le_of_ble_eq_true hbytes) hcs.1 hcs.2 fun cA kA comp f1 f2 f3 f4 => ?_
  have hcA : cA = Γ.cA (.object C9) := Option.some.inj (f1.symm.trans g4)
  subst hcA
  refine kk p l e s m args below meth c _ locs ls C (hR.more (by rw [Array.size_push]) (fun q hq => by rw [Array.getElem?_push, if_neg (Nat.ne_of_lt hq)]) (e9 := .inl (Γ.cA (.object C9), jj_ar (.object C9) (T, R, S, I, L, D, none) H.size n.toNatClampNeg)) ?_ ?_) hlo hl
  · unfold jj_ce
    dsimp only
    rw [u1_eq]
    rfl
  · show (H.push _)[H.size]? = some (vp_cell _ (_, .inr (.inr (.inr (.inr (R H.size))))))
    rw [Array.getElem?_push_size, vp_cell_q, hF.1 H.size (Nat.le_refl _), ← arrV_new]
    rfl
end JK7
