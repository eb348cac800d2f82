/-! a COMPARISON of the model -/
def cO (b : Nat → Nat) (E : Nat) (r : Res Unit) : Nat := if rS b E (rN b E r) 60 = true then 0 else if rS b E (rN b E r) 62 = true then 1 else 2
def cBad (b : Nat → Nat) (E : Nat) (r : Res Unit) : Bool := decide (cO b E r = 2) && !rS b E (rN b E r) 61
theorem cBad_iff {b : Nat → Nat} {E : Nat} {r : Res Unit} : cBad b E r = true ↔ cO b E r = 2 ∧ ¬ rS b E (rN b E r) 61 = true := by simp [cBad]
def cR2 (b : Nat → Nat) (E : Nat) (r : Res Unit) : Res Unit := if cBad b E r = true then rF_ b E 1 (rN b E r) else rN b E r
def cG2 (b : Nat → Nat) (E : Nat) (r : Res Unit) (G : JV) : JV := if cBad b E r = true then gF b E 1 (rN b E r) (gN b E r G) else gN b E r G
def cVl (b : Nat → Nat) (E : Nat) (r2 : Res Unit) : Nat := vU 0 (rNu b E 0 10000 (rN b E r2))
def cG4 (b : Nat → Nat) (E : Nat) (r2 : Res Unit) (Gq : JV) : JV := gNu b E 0 10000 (rN b E r2) (gN b E r2 Gq)
def cR4 (b : Nat → Nat) (E : Nat) (r2 : Res Unit) : Res Unit := rU (rNu b E 0 10000 (rN b E r2))
theorem mSt.c2 {b : Nat → Nat} {E : Nat} {r : Res Unit} {G : JV} (h : mSt b E r G) : mSt b E (cR2 b E r) (cG2 b E r G) := by
  unfold cR2 cG2
  split
  · exact h.n.f (by omega)
  · exact h.n
theorem mSt.c4 {b : Nat → Nat} {E : Nat} {r : Res Unit} {G : JV} (h : mSt b E r G) : mSt b E (cR4 b E r) (cG4 b E r G) := h.n.nu
theorem mSt.w {b : Nat → Nat} {E j : Nat} {v : Int32} {r : Res Unit} {G : JV} (h : mSt b E r G) (hj : 9 < j) : mSt b E r (w1 G j v) := by
  have e : ∀ i, i < 10 → w1 G j v i = G i := fun i hi => w1_ne (by omega)
  cases r with
  | inl x => exact ⟨(e 3 (by omega)).trans h.1, (e 5 (by omega)).trans h.2.1, (e 6 (by omega)).trans h.2.2.1, h.2.2.2⟩
  | inr x =>
    have ha := h.2.2
    exact ⟨(e 3 (by omega)).trans h.1, h.2.1, (e 4 (by omega)).trans ha.1, (e 5 (by omega)).trans ha.2.1, (e 7 (by omega)).trans ha.2.2.1, (e 8 (by omega)).trans ha.2.2.2.1, fun q => (e 9 (by omega)).trans (ha.2.2.2.2.1 q), fun q => (e 9 (by omega)).trans (ha.2.2.2.2.2.1 q), (e 6 (by omega)).trans ha.2.2.2.2.2.2⟩
theorem cG2_o {b : Nat → Nat} {E j : Nat} {r : Res Unit} {G : JV} (h : j < 4 ∨ 9 < j) : cG2 b E r G j = G j := by
  unfold cG2
  split
  · rw [gF_o (by omega)]; exact gN_o h
  · exact gN_o h
theorem cG4_o {b : Nat → Nat} {E j : Nat} {r : Res Unit} {G : JV} (h : j < 4 ∨ 9 < j) : cG4 b E r G j = G j := (gNu_o h).trans (gN_o h)
/-- the pure comparison and the thread -/
theorem pCmp_r {b : Nat → Nat} {E w p : Nat} : rU (pCmp b E w p) = cR4 b E (cR2 b E (.inr ((), p))) ∧ ∀ x, pCmp b E w p = .inr x → x.1 = cmpT (cO b E (.inr ((), p))) w (cVl b E (cR2 b E (.inr ((), p)))) := by
  have hk : ∀ o, (pNum b E 0 10000 (tN b E (tN b E p))) = (pNum b E 0 10000 (tN b E (tN b E p))) → rU ((pNum b E 0 10000 (tN b E (tN b E p))).bd (fun v q2 => .inr (cmpT o w v, q2))) = rU (pNum b E 0 10000 (tN b E (tN b E p))) ∧ ∀ x, ((pNum b E 0 10000 (tN b E (tN b E p))).bd (fun v q2 => .inr (cmpT o w v, q2)) : Res Tst) = .inr x → x.1 = cmpT o w (vU 0 (pNum b E 0 10000 (tN b E (tN b E p)))) := by
    intro o _
    cases pNum b E 0 10000 (tN b E (tN b E p)) with
    | inl e => exact ⟨rfl, fun x h => by cases h⟩
    | inr y => exact ⟨rfl, fun x h => by cases h; rfl⟩
  have eR : ∀ c, rS b E (rN b E (.inr ((), p))) c = isS b E (tN b E p) c := fun _ => rfl
  by_cases h1 : isS b E (tN b E p) 60 = true
  · have eO : cO b E (.inr ((), p)) = 0 := if_pos h1
    have eB : ¬ cBad b E (.inr ((), p)) = true := fun w => by have := (cBad_iff.mp w).1; omega
    have e2 : cR2 b E (.inr ((), p)) = .inr ((), tN b E p) := if_neg eB
    have eP : pCmp b E w p = (pNum b E 0 10000 (tN b E (tN b E p))).bd (fun v q2 => .inr (cmpT 0 w v, q2)) := by unfold pCmp pRel; rw [if_pos h1]; rfl
    rw [eO, e2, eP]
    exact hk 0 rfl
  · by_cases h2 : isS b E (tN b E p) 62 = true
    · have eO : cO b E (.inr ((), p)) = 1 := (if_neg h1).trans (if_pos h2)
      have eB : ¬ cBad b E (.inr ((), p)) = true := fun w => by have := (cBad_iff.mp w).1; omega
      have e2 : cR2 b E (.inr ((), p)) = .inr ((), tN b E p) := if_neg eB
      have eP : pCmp b E w p = (pNum b E 0 10000 (tN b E (tN b E p))).bd (fun v q2 => .inr (cmpT 1 w v, q2)) := by unfold pCmp pRel; rw [if_neg h1, if_pos h2]; rfl
      rw [eO, e2, eP]
      exact hk 1 rfl
    · have eO : cO b E (.inr ((), p)) = 2 := (if_neg h1).trans (if_neg h2)
      by_cases h3 : isS b E (tN b E p) 61 = true
      · have eB : ¬ cBad b E (.inr ((), p)) = true := fun w => (cBad_iff.mp w).2 h3
        have e2 : cR2 b E (.inr ((), p)) = .inr ((), tN b E p) := if_neg eB
        have eP : pCmp b E w p = (pNum b E 0 10000 (tN b E (tN b E p))).bd (fun v q2 => .inr (cmpT 2 w v, q2)) := by unfold pCmp pRel; rw [if_neg h1, if_neg h2, if_pos h3]; rfl
        rw [eO, e2, eP]
        exact hk 2 rfl
      · have eB : cBad b E (.inr ((), p)) = true := cBad_iff.mpr ⟨eO, h3⟩
        have e2 : cR2 b E (.inr ((), p)) = .inl (1, tS b E (tN b E p)) := if_pos eB
        have eP : pCmp b E w p = .inl (1, tS b E (tN b E p)) := by unfold pCmp pRel; rw [if_neg h1, if_neg h2, if_neg h3]; rfl
        rw [e2, eP]
        exact ⟨rfl, fun x h => by cases h⟩
section M82
variable {Γ : Gam} {d : Nat} {T : JT} {R S : JR} {I A : JI} {L : JL} {D : JD} {z : Option Nat} {mo E : Nat} {G N X : JV} {b : Nat → Nat} {r : Res Unit}
theorem tl_cmp (hm : hMo T S mo) (hb : mB_ A b E) (hs : mSt b E r G) {kq bq : Nat} (h25 : G 25 = nI bq) (hbq : bq ≤ 1) (h26 : G 26 = nI kq) (hk : kq < 700) {l2 v : Int32} : JJ Γ (jj_E Y_X9_comparison) (jj_Z Γ (rI (nI (nIx bq kq)) (T, R, S, blk 18 I mo (st (nodA A (nIx bq kq) l2 v (nI (cVl b E r))) 0 (w1 (cG4 b E r G) 26 (nI (kq + 1)))), L, D, z)) 0 0) (jj_rm (d + 3) 0 0) 0 0 51 [some (.ref mo), some (.int v), some (.int l2)] [] (T, R, S, blk 18 I mo (st A 0 G), L, D, z) := by
  refine jj_aload_n (q := 52) dX9_comparison_51 rfl rfl rfl ?_
  refine jj_cV0v (q := 55) dX9_comparison_52 yk_X9_nextToken ml_X9_134 hm.t0 (exM_next hm hb hs) rfl rfl rfl ⟨Nat.zero_le _, Nat.zero_le _⟩ ?_
  refine jj_aload_n (q := 56) dX9_comparison_55 rfl rfl rfl ?_
  refine jj_iload_n (q := 57) dX9_comparison_56 rfl rfl rfl ?_
  refine jj_iload_n (q := 58) dX9_comparison_57 rfl rfl rfl ?_
  refine jj_aload_n (q := 59) dX9_comparison_58 rfl rfl rfl ?_
  refine jj_iconst (v := 0) (q := 60) dX9_comparison_59 rfl rfl ?_
  refine jj_sipush (v := 9999) (q := 63) dX9_comparison_60 rfl rfl ?_
  refine jj_cV2i (q := 66) dX9_comparison_63 yk_X9_number ml_X9_151 hm.t0 (exM_number (lo := 0) (hx := 10000) hm hb hs.n rfl (by decide) (by decide)) rfl rfl rfl ⟨Nat.zero_le _, Nat.zero_le _⟩ ?_
  refine jj_cV3i (q := 69) dX9_comparison_66 yk_X9_node ml_X9_185 hm.t0 (exM_node hm ((cG4_o (by omega)).trans h25) hbq ((cG4_o (by omega)).trans h26) hk) rfl rfl rfl ⟨Nat.zero_le _, Nat.zero_le _⟩ ?_
  refine jj_iret dX9_comparison_69 rfl (Nat.zero_le _) (Nat.zero_le _) ?_
  exact ⟨rfl, rfl⟩
theorem exM_cmp (hm : hMo T S mo) (hb : mB_ A b E) (hs : mSt b E r G) {kq bq : Nat} (h25 : G 25 = nI bq) (hbq : bq ≤ 1) (h26 : G 26 = nI kq) (hk : kq < 700) {v : Int32} : Ex Γ (d + 3) Y_X9_comparison [.ref mo, .int v] (T, R, S, blk 18 I mo (st A 0 G), L, D, z) 0 0 (rI (nI (nIx bq kq)) (T, R, S, blk 18 I mo (st (nodA A (nIx bq kq) (nI (3 + cO b E r)) v (nI (cVl b E (cR2 b E r)))) 0 (w1 (cG4 b E (cR2 b E r) (cG2 b E r G)) 26 (nI (kq + 1)))), L, D, z)) := by
  have htl := fun l2 => tl_cmp (Γ := Γ) (d := d) (T := T) (R := R) (S := S) (I := I) (A := A) (L := L) (D := D) (z := z) (l2 := l2) (v := v) hm hb hs.c2 ((cG2_o (by omega)).trans h25) hbq ((cG2_o (by omega)).trans h26) hk
  by_cases h1 : rS b E (rN b E r) 60 = true
  · skip
    have eO : cO b E r = 0 := if_pos h1
    have eG : cG2 b E r G = gN b E r G := if_neg (fun w => by have := (cBad_iff.mp w).1; omega)
    have hz := htl (nI (3 + cO b E r))
    rw [eG] at hz
    rw [eG]
    rw [eO] at hz ⊢
    refine Ex.of (by decide) (by simp [Value.category]) (Nat.le_of_ble_eq_true rfl) rfl ?_
    refine jj_aload_n (q := 1) dX9_comparison_0 rfl rfl rfl ?_
    refine jj_cV0v (q := 4) dX9_comparison_1 yk_X9_nextToken ml_X9_134 hm.t0 (exM_next hm hb hs) rfl rfl rfl ⟨Nat.zero_le _, Nat.zero_le _⟩ ?_
    refine jj_aload_n (q := 5) dX9_comparison_4 rfl rfl rfl ?_
    refine jj_bipush (v := 60) (q := 7) dX9_comparison_5 rfl rfl ?_
    refine jj_cV1i (q := 10) dX9_comparison_7 yk_X9_isSignHere ml_X9_194 hm.t0 (exM_sign (c := 60) hm hb hs.n (by decide)) rfl rfl rfl ⟨Nat.zero_le _, Nat.zero_le _⟩ ?_
    refine jj_if_eq (q := 13) (tgt := 17) dX9_comparison_10 rfl rfl (fun h10 => by exfalso; rw [if_pos h1] at h10; exact absurd h10 (by decide)) (fun h10 => ?_)
    refine jj_iconst (v := 3) (q := 14) dX9_comparison_13 rfl rfl ?_
    refine jj_goto (tgt := 31) dX9_comparison_14 rfl ?_
    refine jj_istore_n (q := 32) dX9_comparison_31 rfl (by decide) rfl ?_
    refine jj_iload_n (q := 33) dX9_comparison_32 rfl rfl rfl ?_
    refine jj_iconst (v := 5) (q := 34) dX9_comparison_33 rfl rfl ?_
    refine jj_icmp_ne (q := 37) (tgt := 51) dX9_comparison_34 rfl rfl (fun h34 => ?_) (fun h34 => by exfalso; exact absurd h34 (by decide))
    exact hz
  · by_cases h2 : rS b E (rN b E r) 62 = true
    · skip
      have eO : cO b E r = 1 := (if_neg h1).trans (if_pos h2)
      have eG : cG2 b E r G = gN b E r G := if_neg (fun w => by have := (cBad_iff.mp w).1; omega)
      have hz := htl (nI (3 + cO b E r))
      rw [eG] at hz
      rw [eG]
      rw [eO] at hz ⊢
      refine Ex.of (by decide) (by simp [Value.category]) (Nat.le_of_ble_eq_true rfl) rfl ?_
      refine jj_aload_n (q := 1) dX9_comparison_0 rfl rfl rfl ?_
      refine jj_cV0v (q := 4) dX9_comparison_1 yk_X9_nextToken ml_X9_134 hm.t0 (exM_next hm hb hs) rfl rfl rfl ⟨Nat.zero_le _, Nat.zero_le _⟩ ?_
      refine jj_aload_n (q := 5) dX9_comparison_4 rfl rfl rfl ?_
      refine jj_bipush (v := 60) (q := 7) dX9_comparison_5 rfl rfl ?_
      refine jj_cV1i (q := 10) dX9_comparison_7 yk_X9_isSignHere ml_X9_194 hm.t0 (exM_sign (c := 60) hm hb hs.n (by decide)) rfl rfl rfl ⟨Nat.zero_le _, Nat.zero_le _⟩ ?_
      refine jj_if_eq (q := 13) (tgt := 17) dX9_comparison_10 rfl rfl (fun h10 => ?_) (fun h10 => absurd (if_neg h1) h10)
      refine jj_aload_n (q := 18) dX9_comparison_17 rfl rfl rfl ?_
      refine jj_bipush (v := 62) (q := 20) dX9_comparison_18 rfl rfl ?_
      refine jj_cV1i (q := 23) dX9_comparison_20 yk_X9_isSignHere ml_X9_194 hm.t0 (exM_sign (c := 62) hm hb hs.n (by decide)) rfl rfl rfl ⟨Nat.zero_le _, Nat.zero_le _⟩ ?_
      refine jj_if_eq (q := 26) (tgt := 30) dX9_comparison_23 rfl rfl (fun h23 => by exfalso; rw [if_pos h2] at h23; exact absurd h23 (by decide)) (fun h23 => ?_)
      refine jj_iconst (v := 4) (q := 27) dX9_comparison_26 rfl rfl ?_
      refine jj_goto (tgt := 31) dX9_comparison_27 rfl ?_
      refine jj_istore_n (q := 32) dX9_comparison_31 rfl (by decide) rfl ?_
      refine jj_iload_n (q := 33) dX9_comparison_32 rfl rfl rfl ?_
      refine jj_iconst (v := 5) (q := 34) dX9_comparison_33 rfl rfl ?_
      refine jj_icmp_ne (q := 37) (tgt := 51) dX9_comparison_34 rfl rfl (fun h34 => ?_) (fun h34 => by exfalso; exact absurd h34 (by decide))
      exact hz
    · by_cases h3 : rS b E (rN b E r) 61 = true
      · skip
        have eO : cO b E r = 2 := (if_neg h1).trans (if_neg h2)
        have eG : cG2 b E r G = gN b E r G := if_neg (fun w => (cBad_iff.mp w).2 h3)
        have hz := htl (nI (3 + cO b E r))
        rw [eG] at hz
        rw [eG]
        rw [eO] at hz ⊢
        refine Ex.of (by decide) (by simp [Value.category]) (Nat.le_of_ble_eq_true rfl) rfl ?_
        refine jj_aload_n (q := 1) dX9_comparison_0 rfl rfl rfl ?_
        refine jj_cV0v (q := 4) dX9_comparison_1 yk_X9_nextToken ml_X9_134 hm.t0 (exM_next hm hb hs) rfl rfl rfl ⟨Nat.zero_le _, Nat.zero_le _⟩ ?_
        refine jj_aload_n (q := 5) dX9_comparison_4 rfl rfl rfl ?_
        refine jj_bipush (v := 60) (q := 7) dX9_comparison_5 rfl rfl ?_
        refine jj_cV1i (q := 10) dX9_comparison_7 yk_X9_isSignHere ml_X9_194 hm.t0 (exM_sign (c := 60) hm hb hs.n (by decide)) rfl rfl rfl ⟨Nat.zero_le _, Nat.zero_le _⟩ ?_
        refine jj_if_eq (q := 13) (tgt := 17) dX9_comparison_10 rfl rfl (fun h10 => ?_) (fun h10 => absurd (if_neg h1) h10)
        refine jj_aload_n (q := 18) dX9_comparison_17 rfl rfl rfl ?_
        refine jj_bipush (v := 62) (q := 20) dX9_comparison_18 rfl rfl ?_
        refine jj_cV1i (q := 23) dX9_comparison_20 yk_X9_isSignHere ml_X9_194 hm.t0 (exM_sign (c := 62) hm hb hs.n (by decide)) rfl rfl rfl ⟨Nat.zero_le _, Nat.zero_le _⟩ ?_
        refine jj_if_eq (q := 26) (tgt := 30) dX9_comparison_23 rfl rfl (fun h23 => ?_) (fun h23 => absurd (if_neg h2) h23)
        refine jj_iconst (v := 5) (q := 31) dX9_comparison_30 rfl rfl ?_
        refine jj_istore_n (q := 32) dX9_comparison_31 rfl (by decide) rfl ?_
        refine jj_iload_n (q := 33) dX9_comparison_32 rfl rfl rfl ?_
        refine jj_iconst (v := 5) (q := 34) dX9_comparison_33 rfl rfl ?_
        refine jj_icmp_ne (q := 37) (tgt := 51) dX9_comparison_34 rfl rfl (fun h34 => by exfalso; exact h34 rfl) (fun h34 => ?_)
        refine jj_aload_n (q := 38) dX9_comparison_37 rfl rfl rfl ?_
        refine jj_bipush (v := 61) (q := 40) dX9_comparison_38 rfl rfl ?_
        refine jj_cV1i (q := 43) dX9_comparison_40 yk_X9_isSignHere ml_X9_194 hm.t0 (exM_sign (c := 61) hm hb hs.n (by decide)) rfl rfl rfl ⟨Nat.zero_le _, Nat.zero_le _⟩ ?_
        refine jj_if_ne (q := 46) (tgt := 51) dX9_comparison_43 rfl rfl (fun h43 => ?_) (fun h43 => by exfalso; rw [if_pos h3] at h43; exact absurd h43 (by decide))
        exact hz
      · skip
        have eO : cO b E r = 2 := (if_neg h1).trans (if_neg h2)
        have eG : cG2 b E r G = gF b E 1 (rN b E r) (gN b E r G) := if_pos (cBad_iff.mpr ⟨eO, h3⟩)
        have hz := htl (nI (3 + cO b E r))
        rw [eG] at hz
        rw [eG]
        rw [eO] at hz ⊢
        refine Ex.of (by decide) (by simp [Value.category]) (Nat.le_of_ble_eq_true rfl) rfl ?_
        refine jj_aload_n (q := 1) dX9_comparison_0 rfl rfl rfl ?_
        refine jj_cV0v (q := 4) dX9_comparison_1 yk_X9_nextToken ml_X9_134 hm.t0 (exM_next hm hb hs) rfl rfl rfl ⟨Nat.zero_le _, Nat.zero_le _⟩ ?_
        refine jj_aload_n (q := 5) dX9_comparison_4 rfl rfl rfl ?_
        refine jj_bipush (v := 60) (q := 7) dX9_comparison_5 rfl rfl ?_
        refine jj_cV1i (q := 10) dX9_comparison_7 yk_X9_isSignHere ml_X9_194 hm.t0 (exM_sign (c := 60) hm hb hs.n (by decide)) rfl rfl rfl ⟨Nat.zero_le _, Nat.zero_le _⟩ ?_
        refine jj_if_eq (q := 13) (tgt := 17) dX9_comparison_10 rfl rfl (fun h10 => ?_) (fun h10 => absurd (if_neg h1) h10)
        refine jj_aload_n (q := 18) dX9_comparison_17 rfl rfl rfl ?_
        refine jj_bipush (v := 62) (q := 20) dX9_comparison_18 rfl rfl ?_
        refine jj_cV1i (q := 23) dX9_comparison_20 yk_X9_isSignHere ml_X9_194 hm.t0 (exM_sign (c := 62) hm hb hs.n (by decide)) rfl rfl rfl ⟨Nat.zero_le _, Nat.zero_le _⟩ ?_
        refine jj_if_eq (q := 26) (tgt := 30) dX9_comparison_23 rfl rfl (fun h23 => ?_) (fun h23 => absurd (if_neg h2) h23)
        refine jj_iconst (v := 5) (q := 31) dX9_comparison_30 rfl rfl ?_
        refine jj_istore_n (q := 32) dX9_comparison_31 rfl (by decide) rfl ?_
        refine jj_iload_n (q := 33) dX9_comparison_32 rfl rfl rfl ?_
        refine jj_iconst (v := 5) (q := 34) dX9_comparison_33 rfl rfl ?_
        refine jj_icmp_ne (q := 37) (tgt := 51) dX9_comparison_34 rfl rfl (fun h34 => by exfalso; exact h34 rfl) (fun h34 => ?_)
        refine jj_aload_n (q := 38) dX9_comparison_37 rfl rfl rfl ?_
        refine jj_bipush (v := 61) (q := 40) dX9_comparison_38 rfl rfl ?_
        refine jj_cV1i (q := 43) dX9_comparison_40 yk_X9_isSignHere ml_X9_194 hm.t0 (exM_sign (c := 61) hm hb hs.n (by decide)) rfl rfl rfl ⟨Nat.zero_le _, Nat.zero_le _⟩ ?_
        refine jj_if_ne (q := 46) (tgt := 51) dX9_comparison_43 rfl rfl (fun h43 => by exfalso; exact h43 (if_neg h3)) (fun h43 => ?_)
        refine jj_aload_n (q := 47) dX9_comparison_46 rfl rfl rfl ?_
        refine jj_iconst (v := 1) (q := 48) dX9_comparison_47 rfl rfl ?_
        refine jj_cV1v (q := 51) dX9_comparison_48 yk_X9_faults ml_X9_140 hm.t0 (exM_faults (c := 1) hm hb hs.n) rfl rfl rfl ⟨Nat.zero_le _, Nat.zero_le _⟩ ?_
        exact hz
end M82
