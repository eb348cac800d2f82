/-! MORE QUESTIONS, BOTH SIDES -/
theorem gd_r {I : JI} {xo mo c lo hi : Nat} {vl vh : Int32} (el : vl = nI lo) (eh : vh = nI hi) (h : hAir I xo mo) (hc : c < 2 ^ 31) (hl : lo ≤ hi) (hh : hi + 1 < 2 ^ 31) (b s : Int32) : (∃ n t, (n = 1 ∧ t = 1 ∨ n = 2 ∧ t = 2 ∨ n = 3 ∧ t = 3) ∧ orE (orE (eAir (I xo)) (orE (eIdx b (nI c)) 0)) (orE (eRng s vl vh) 0) = n ∧ tF3 (sK I mo) (inI b 0 (nI c - 1)) (inI s vl vh) = t) ∨ ∃ j m, j < c ∧ b = nI j ∧ lo ≤ m ∧ m ≤ hi ∧ s = nI m ∧ orE (orE (eAir (I xo)) (orE (eIdx b (nI c)) 0)) (orE (eRng s vl vh) 0) = 0 ∧ tF3 (sK I mo) (inI b 0 (nI c - 1)) (inI s vl vh) = 0 ∧ mOk (sK I mo) (inI b 0 (nI c - 1)) = 1 ∧ inI s vl vh = 1 ∧ I xo 1 = 1 := by
  subst el
  subst eh
  exact gd_ir h hc hl hh b s
theorem WA.n {k : Nat} {I : JI} {L : JL} {xo mo p a u nx nf : Nat} (h : WA k I L xo mo p a u nx) (hn : nf ≤ 8) (h12 : I (mo + 2) 12 = nI nf) : ∃ H, AirP nf H (sK I p) (sK I mo) ∧ SR k nf (I (mo + 2)) (sK I a) (L a 1) (I (mo + 4)) := by
  obtain ⟨_, nf', H, hP, hS, _⟩ := h
  have e : nf' = nf := nI_inj' (by have := hP.1.2.2.2.2.2.2; omega) (by omega) (hP.2.2.2.2.2.2.2.1.symm.trans h12)
  subst e
  exact ⟨H, hP, hS⟩
theorem BSt.q0 {Γ : Gam} {k xo mo ol dc dm : Nat} {yc ym : JY} {args : List Value} {T : JT} {R S : JR} {I : JI} {L : JL} {v w : Int32} (hw : Wd Γ k xo mo T R S I L) (hol : mo + 18 ≤ ol) (hC : ∀ D, Ex Γ dc yc (.ref xo :: args) (T, R, S, I, L, D, none) 0 0 (rI v (T, R, S, I, L, D, none))) (hM : ∀ L' D', Ex Γ dm ym (.ref mo :: args) (T, R, S, I, L', D', none) 0 0 (rI w (T, R, S, u2 I mo 0 0, L', D', none))) (hv : w = v) : BSt Γ k xo mo ol dc dm yc ym args [(0, 0)] T R S I L := BSt.q (n := 0) (t := 0) (v := v) (w := w) hw hol (fun D => (hC D).mono fun o M' h => ⟨_, h.1, rfl, h.2⟩) hM (by decide) (fun _ => hv)
section Q9
variable {Γ : Gam} {k xo mo ol : Nat} {T : JT} {R S : JR} {I : JI} {L : JL}
theorem st_isHot (hw : Wd Γ k xo mo T R S I L) (hk : k ≤ 600) (hol : mo + 18 ≤ ol) {b : Int32} : BSt Γ k xo mo ol 100 100 Y_X8_isHot Y_X9_isHot [.int b] [(0, 0), (1, 1), (2, 2)] T R S I L := by
  have hw0 := hw
  obtain ⟨p, p2, a, a2, u, nx, hl, hb, ha⟩ := hw
  obtain ⟨c, nf, nl, ln, hc⟩ := Wc ha
  obtain ⟨hair, hX, ⟨c1, c2, c3, c4⟩, ⟨f1, f2, f3⟩, ⟨l1, l2, l3⟩, ⟨n1, n2, n3⟩, mm, lw⟩ := hc
  refine BSt.q hw0 hol (fun D => by
    have h := ex_isHot (Γ := Γ) (d := 92) (K := sK I a) (L := L) (D := D) (hl.1.cx I)  (b := b)
    rw [blk_sK, show sK I a 1 0 = nI c from c2, orE_0] at h
    exact h) (fun L' D' => by
    have h := ex_misHot (Γ := Γ) (d := 98) (R := R) (I := I) (A := sK I mo) (X := sK I mo 4) (L := L') (D := D') (z := none) hl.2.1 hX (b := b)
    rw [mB_self, mB_t, show sK I mo 4 2 = nI c from c3] at h
    exact h) ?_ ?_
  · rcases gd_i hair (c := c) (by omega) b with ⟨g1, g2, _⟩ | ⟨g1, g2, _⟩ | ⟨j, _, _, g1, g2, _⟩ <;> (rw [g1, g2]; decide)
  · intro h0
    rcases gd_i hair (c := c) (by omega) b with ⟨g1, _⟩ | ⟨g1, _⟩ | ⟨j, gj, rfl, g1, g2, g3, g5⟩
    · rw [g1] at h0; cases h0
    · rw [g1] at h0; cases h0
    · obtain ⟨H, hP, hS⟩ := (WA.of ha g5).n f1 f3
      rw [if_neg (by rw [g3]; decide), nN_nI (show j < 2 ^ 31 by omega)]
      have gj' : j < mC (I (mo + 4)) := by rw [c4]; exact gj
      exact (vl_hot hS f3 f1 gj').symm
theorem st_ticksTo (hw : Wd Γ k xo mo T R S I L) (hk : k ≤ 600) (hol : mo + 18 ≤ ol) {b : Int32} : BSt Γ k xo mo ol 100 100 Y_X8_ticksTo Y_X9_ticksTo [.int b] [(0, 0), (1, 1), (2, 2)] T R S I L := by
  have hw0 := hw
  obtain ⟨p, p2, a, a2, u, nx, hl, hb, ha⟩ := hw
  obtain ⟨c, nf, nl, ln, hc⟩ := Wc ha
  obtain ⟨hair, hX, ⟨c1, c2, c3, c4⟩, ⟨f1, f2, f3⟩, ⟨l1, l2, l3⟩, ⟨n1, n2, n3⟩, mm, lw⟩ := hc
  have h0 : ¬ sK I mo 0 19 = 0 → ¬ sK I mo 2 0 = 0 := fun g e => by
    have h1 : I xo 1 = 1 := hair.elim (fun h => absurd h.2 g) (fun h => h.1)
    obtain ⟨H, hP, hS⟩ := (WA.of ha h1).n f1 f3
    have h2 := hP.2.1.1.2
    rw [e] at h2
    exact absurd h2 (by decide)
  refine BSt.q hw0 hol (fun D => by
    have h := ex_ticksTo (Γ := Γ) (d := 92) (K := sK I a) (L := L) (D := D) (hl.1.cx I)  (b := b)
    rw [blk_sK, show sK I a 1 0 = nI c from c2, orE_0] at h
    exact h) (fun L' D' => by
    have h := ex_mticksTo (Γ := Γ) (d := 98) (R := R) (I := I) (A := sK I mo) (X := sK I mo 4) (L := L') (D := D') (z := none) hl.2.1 hX h0 (b := b)
    rw [mB_self, mB_t, show sK I mo 4 2 = nI c from c3] at h
    exact h) ?_ ?_
  · rcases gd_i hair (c := c) (by omega) b with ⟨g1, g2, _⟩ | ⟨g1, g2, _⟩ | ⟨j, _, _, g1, g2, _⟩ <;> (rw [g1, g2]; decide)
  · intro h0
    rcases gd_i hair (c := c) (by omega) b with ⟨g1, _⟩ | ⟨g1, _⟩ | ⟨j, gj, rfl, g1, g2, g3, g5⟩
    · rw [g1] at h0; cases h0
    · rw [g1] at h0; cases h0
    · obtain ⟨H, hP, hS⟩ := (WA.of ha g5).n f1 f3
      rw [if_neg (by rw [g3]; decide), nN_nI (show j < 2 ^ 31 by omega)]
      have gj' : j < mC (I (mo + 4)) := by rw [c4]; exact gj
      exact (vl_to (A := sK I mo) hS f3 f1 hP.1 hP.2.1 hP.2.2.2.2.2.2.2.2.1 rfl gj').symm
theorem st_bagAt (hw : Wd Γ k xo mo T R S I L) (hk : k ≤ 600) (hol : mo + 18 ≤ ol) {b : Int32} : BSt Γ k xo mo ol 100 100 Y_X8_bagAt Y_X9_bagAt [.int b] [(0, 0), (1, 1), (2, 2)] T R S I L := by
  have hw0 := hw
  obtain ⟨p, p2, a, a2, u, nx, hl, hb, ha⟩ := hw
  obtain ⟨c, nf, nl, ln, hc⟩ := Wc ha
  obtain ⟨hair, hX, ⟨c1, c2, c3, c4⟩, ⟨f1, f2, f3⟩, ⟨l1, l2, l3⟩, ⟨n1, n2, n3⟩, mm, lw⟩ := hc
  refine BSt.q hw0 hol (fun D => by
    have h := ex_bagAt (Γ := Γ) (d := 92) (K := sK I a) (L := L) (D := D) (hl.1.cx I)  (x := b)
    rw [blk_sK, show sK I p 0 0 = nI ln from n2] at h
    exact h) (fun L' D' => by
    have h := ex_mbagAt (Γ := Γ) (d := 98) (R := R) (I := I) (A := sK I mo) (X := sK I mo 4) (L := L') (D := D') (z := none) hl.2.1 n3 n1 (b := b)
    rw [mB_self, mB_t, show sK I mo 2 0 = nI ln from n3] at h
    exact h) ?_ ?_
  · rcases gd_i hair (c := ln) (by omega) b with ⟨g1, g2, _⟩ | ⟨g1, g2, _⟩ | ⟨j, _, _, g1, g2, _⟩ <;> (rw [g1, g2]; decide)
  · intro h0
    rcases gd_i hair (c := ln) (by omega) b with ⟨g1, _⟩ | ⟨g1, _⟩ | ⟨j, gj, rfl, g1, g2, g3, g5⟩
    · rw [g1] at h0; cases h0
    · rw [g1] at h0; cases h0
    · obtain ⟨H, hP, hS⟩ := (WA.of ha g5).n f1 f3
      rw [if_neg (by rw [g3]; decide), nN_nI (show j < 2 ^ 31 by omega)]
      show I (mo + 4) (133 + j) = atV 40 (I (a + 14)) (nI j)
      rw [atV_nI (by omega) (by omega)]
      exact (hS.1.lo (by omega)).symm
theorem st_flightState (hw : Wd Γ k xo mo T R S I L) (hk : k ≤ 600) (hol : mo + 18 ≤ ol) {b : Int32} : BSt Γ k xo mo ol 100 100 Y_X8_flightState Y_X9_flightState [.int b] [(0, 0), (1, 1), (2, 2)] T R S I L := by
  have hw0 := hw
  obtain ⟨p, p2, a, a2, u, nx, hl, hb, ha⟩ := hw
  obtain ⟨c, nf, nl, ln, hc⟩ := Wc ha
  obtain ⟨hair, hX, ⟨c1, c2, c3, c4⟩, ⟨f1, f2, f3⟩, ⟨l1, l2, l3⟩, ⟨n1, n2, n3⟩, mm, lw⟩ := hc
  refine BSt.q hw0 hol (fun D => by
    have h := ex_flightState (Γ := Γ) (d := 92) (K := sK I a) (L := L) (D := D) (hl.1.cx I)  (f := b)
    rw [blk_sK, show sK I p 0 6 = nI nf from f2, orE_0] at h
    exact h) (fun L' D' => by
    have h := ex_mflightState (Γ := Γ) (d := 98) (R := R) (I := I) (A := sK I mo) (X := sK I mo 4) (L := L') (D := D') (z := none) hl.2.1 f3 f1 (b := b)
    rw [mB_self, mB_t, show sK I mo 2 12 = nI nf from f3] at h
    exact h) ?_ ?_
  · rcases gd_i hair (c := nf) (by omega) b with ⟨g1, g2, _⟩ | ⟨g1, g2, _⟩ | ⟨j, _, _, g1, g2, _⟩ <;> (rw [g1, g2]; decide)
  · intro h0
    rcases gd_i hair (c := nf) (by omega) b with ⟨g1, _⟩ | ⟨g1, _⟩ | ⟨j, gj, rfl, g1, g2, g3, g5⟩
    · rw [g1] at h0; cases h0
    · rw [g1] at h0; cases h0
    · obtain ⟨H, hP, hS⟩ := (WA.of ha g5).n f1 f3
      rw [if_neg (by rw [g3]; decide), nN_nI (show j < 2 ^ 31 by omega)]
      exact (ph_same hS.1 f1 gj).symm
theorem st_openOf (hw : Wd Γ k xo mo T R S I L) (hk : k ≤ 600) (hol : mo + 18 ≤ ol) {b : Int32} : BSt Γ k xo mo ol 100 100 Y_X8_openOf Y_X9_openOf [.int b] [(0, 0), (1, 1), (2, 2)] T R S I L := by
  have hw0 := hw
  obtain ⟨p, p2, a, a2, u, nx, hl, hb, ha⟩ := hw
  obtain ⟨c, nf, nl, ln, hc⟩ := Wc ha
  obtain ⟨hair, hX, ⟨c1, c2, c3, c4⟩, ⟨f1, f2, f3⟩, ⟨l1, l2, l3⟩, ⟨n1, n2, n3⟩, mm, lw⟩ := hc
  refine BSt.q hw0 hol (fun D => by
    have h := ex_openOf (Γ := Γ) (d := 92) (K := sK I a) (L := L) (D := D) (hl.1.cx I)  (f := b)
    rw [blk_sK, show sK I p 0 6 = nI nf from f2, orE_0] at h
    exact h) (fun L' D' => by
    have h := ex_mopenOf (Γ := Γ) (d := 98) (R := R) (I := I) (A := sK I mo) (X := sK I mo 4) (L := L') (D := D') (z := none) hl.2.1 f3 f1 (b := b)
    rw [mB_self, mB_t, show sK I mo 2 12 = nI nf from f3] at h
    exact h) ?_ ?_
  · rcases gd_i hair (c := nf) (by omega) b with ⟨g1, g2, _⟩ | ⟨g1, g2, _⟩ | ⟨j, _, _, g1, g2, _⟩ <;> (rw [g1, g2]; decide)
  · intro h0
    rcases gd_i hair (c := nf) (by omega) b with ⟨g1, _⟩ | ⟨g1, _⟩ | ⟨j, gj, rfl, g1, g2, g3, g5⟩
    · rw [g1] at h0; cases h0
    · rw [g1] at h0; cases h0
    · obtain ⟨H, hP, hS⟩ := (WA.of ha g5).n f1 f3
      rw [if_neg (by rw [g3]; decide), nN_nI (show j < 2 ^ 31 by omega)]
      show I (mo + 4) (5 + j) = atV 8 (I (a + 9)) (nI j)
      rw [atV_nI (by omega) (by omega)]
      exact (hS.1.op f1 gj).1.symm
theorem st_closeOf (hw : Wd Γ k xo mo T R S I L) (hk : k ≤ 600) (hol : mo + 18 ≤ ol) {b : Int32} : BSt Γ k xo mo ol 100 100 Y_X8_closeOf Y_X9_closeOf [.int b] [(0, 0), (1, 1), (2, 2)] T R S I L := by
  have hw0 := hw
  obtain ⟨p, p2, a, a2, u, nx, hl, hb, ha⟩ := hw
  obtain ⟨c, nf, nl, ln, hc⟩ := Wc ha
  obtain ⟨hair, hX, ⟨c1, c2, c3, c4⟩, ⟨f1, f2, f3⟩, ⟨l1, l2, l3⟩, ⟨n1, n2, n3⟩, mm, lw⟩ := hc
  refine BSt.q hw0 hol (fun D => by
    have h := ex_closeOf (Γ := Γ) (d := 92) (K := sK I a) (L := L) (D := D) (hl.1.cx I)  (f := b)
    rw [blk_sK, show sK I p 0 6 = nI nf from f2, orE_0] at h
    exact h) (fun L' D' => by
    have h := ex_mcloseOf (Γ := Γ) (d := 98) (R := R) (I := I) (A := sK I mo) (X := sK I mo 4) (L := L') (D := D') (z := none) hl.2.1 f3 f1 (b := b)
    rw [mB_self, mB_t, show sK I mo 2 12 = nI nf from f3] at h
    exact h) ?_ ?_
  · rcases gd_i hair (c := nf) (by omega) b with ⟨g1, g2, _⟩ | ⟨g1, g2, _⟩ | ⟨j, _, _, g1, g2, _⟩ <;> (rw [g1, g2]; decide)
  · intro h0
    rcases gd_i hair (c := nf) (by omega) b with ⟨g1, _⟩ | ⟨g1, _⟩ | ⟨j, gj, rfl, g1, g2, g3, g5⟩
    · rw [g1] at h0; cases h0
    · rw [g1] at h0; cases h0
    · obtain ⟨H, hP, hS⟩ := (WA.of ha g5).n f1 f3
      rw [if_neg (by rw [g3]; decide), nN_nI (show j < 2 ^ 31 by omega)]
      show I (mo + 4) (13 + j) = atV 8 (I (a + 10)) (nI j)
      rw [atV_nI (by omega) (by omega)]
      exact (hS.1.op f1 gj).2.symm
theorem st_missing (hw : Wd Γ k xo mo T R S I L) (hk : k ≤ 600) (hol : mo + 18 ≤ ol) {b : Int32} : BSt Γ k xo mo ol 100 100 Y_X8_missing Y_X9_missing [.int b] [(0, 0), (1, 1), (2, 2)] T R S I L := by
  have hw0 := hw
  obtain ⟨p, p2, a, a2, u, nx, hl, hb, ha⟩ := hw
  obtain ⟨c, nf, nl, ln, hc⟩ := Wc ha
  obtain ⟨hair, hX, ⟨c1, c2, c3, c4⟩, ⟨f1, f2, f3⟩, ⟨l1, l2, l3⟩, ⟨n1, n2, n3⟩, mm, lw⟩ := hc
  refine BSt.q hw0 hol (fun D => by
    have h := ex_missing (Γ := Γ) (d := 92) (K := sK I a) (L := L) (D := D) (hl.1.cx I) c2 c1 (f := b)
    rw [blk_sK, show sK I p 0 6 = nI nf from f2, orE_0] at h
    exact h) (fun L' D' => by
    have h := ex_mmissing (Γ := Γ) (d := 97) (R := R) (I := I) (A := sK I mo) (X := sK I mo 4) (L := L') (D := D') (z := none) hl.2.1 hX c4 (b := b)
    rw [mB_self, mB_t, show sK I mo 2 12 = nI nf from f3] at h
    exact h) ?_ ?_
  · rcases gd_i hair (c := nf) (by omega) b with ⟨g1, g2, _⟩ | ⟨g1, g2, _⟩ | ⟨j, _, _, g1, g2, _⟩ <;> (rw [g1, g2]; decide)
  · intro h0
    rcases gd_i hair (c := nf) (by omega) b with ⟨g1, _⟩ | ⟨g1, _⟩ | ⟨j, gj, rfl, g1, g2, g3, g5⟩
    · rw [g1] at h0; cases h0
    · rw [g1] at h0; cases h0
    · obtain ⟨H, hP, hS⟩ := (WA.of ha g5).n f1 f3
      rw [if_neg (by rw [g3]; decide)]
      have e := vl_of hS (nI j) 0 9
      rw [c4] at e
      exact congrArg nI e.symm
theorem st_worstFlight (hw : Wd Γ k xo mo T R S I L) (hk : k ≤ 600) (hol : mo + 18 ≤ ol) {b : Int32} : BSt Γ k xo mo ol 100 100 Y_X8_worstFlight Y_X9_worstFlight [.int b] [(0, 0), (1, 1), (2, 2)] T R S I L := by
  have hw0 := hw
  obtain ⟨p, p2, a, a2, u, nx, hl, hb, ha⟩ := hw
  obtain ⟨c, nf, nl, ln, hc⟩ := Wc ha
  obtain ⟨hair, hX, ⟨c1, c2, c3, c4⟩, ⟨f1, f2, f3⟩, ⟨l1, l2, l3⟩, ⟨n1, n2, n3⟩, mm, lw⟩ := hc
  refine BSt.q hw0 hol (fun D => by
    have h := ex_worstFlight (Γ := Γ) (d := 92) (K := sK I a) (L := L) (D := D) (hl.1.cx I) c2 c1 f2 f1 (b := b)
    rw [blk_sK, show sK I p 0 6 = nI nf from f2, orE_0] at h
    exact h) (fun L' D' => by
    have h := ex_mworstFlight (Γ := Γ) (d := 97) (R := R) (I := I) (A := sK I mo) (X := sK I mo 4) (L := L') (D := D') (z := none) hl.2.1 hX c4 f3 f1 (b := b)
    rw [mB_self, mB_t, show sK I mo 2 12 = nI nf from f3] at h
    exact h) ?_ ?_
  · rcases gd_i hair (c := nf) (by omega) b with ⟨g1, g2, _⟩ | ⟨g1, g2, _⟩ | ⟨j, _, _, g1, g2, _⟩ <;> (rw [g1, g2]; decide)
  · intro h0
    rcases gd_i hair (c := nf) (by omega) b with ⟨g1, _⟩ | ⟨g1, _⟩ | ⟨j, gj, rfl, g1, g2, g3, g5⟩
    · rw [g1] at h0; cases h0
    · rw [g1] at h0; cases h0
    · obtain ⟨H, hP, hS⟩ := (WA.of ha g5).n f1 f3
      rw [if_neg (by rw [g3]; decide)]
      have e := vl_worst hS (n := nf) (nI j)
      rw [c4] at e
      exact e.symm
theorem st_laneSize (hw : Wd Γ k xo mo T R S I L) (hk : k ≤ 600) (hol : mo + 18 ≤ ol) {b : Int32} : BSt Γ k xo mo ol 100 100 Y_X8_laneSize Y_X9_laneSize [.int b] [(0, 0), (1, 1), (2, 2)] T R S I L := by
  have hw0 := hw
  obtain ⟨p, p2, a, a2, u, nx, hl, hb, ha⟩ := hw
  obtain ⟨c, nf, nl, ln, hc⟩ := Wc ha
  obtain ⟨hair, hX, ⟨c1, c2, c3, c4⟩, ⟨f1, f2, f3⟩, ⟨l1, l2, l3⟩, ⟨n1, n2, n3⟩, mm, lw⟩ := hc
  refine BSt.q hw0 hol (fun D => by
    have h := ex_laneSize (Γ := Γ) (d := 92) (K := sK I a) (L := L) (D := D) (hl.1.cx I)  (l := b)
    rw [blk_sK, show sK I p 0 8 = nI nl from l2, orE_0] at h
    exact h) (fun L' D' => by
    have h := ex_mlaneSize (Γ := Γ) (d := 98) (R := R) (I := I) (A := sK I mo) (X := sK I mo 4) (L := L') (D := D') (z := none) hl.2.1 l3 l1 (b := b)
    rw [mB_self, mB_t, show sK I mo 2 13 = nI nl from l3] at h
    exact h) ?_ ?_
  · rcases gd_i hair (c := nl) (by omega) b with ⟨g1, g2, _⟩ | ⟨g1, g2, _⟩ | ⟨j, _, _, g1, g2, _⟩ <;> (rw [g1, g2]; decide)
  · intro h0
    rcases gd_i hair (c := nl) (by omega) b with ⟨g1, _⟩ | ⟨g1, _⟩ | ⟨j, gj, rfl, g1, g2, g3, g5⟩
    · rw [g1] at h0; cases h0
    · rw [g1] at h0; cases h0
    · obtain ⟨H, hP, hS⟩ := (WA.of ha g5).n f1 f3
      rw [if_neg (by rw [g3]; decide), nN_nI (show j < 2 ^ 31 by omega)]
      show I (mo + 4) (21 + j) = atV 4 (I (a + 12)) (nI j)
      rw [atV_nI (by omega) (by omega)]
      exact (hS.1.bl (by omega)).2.symm
theorem st_countOf (hw : Wd Γ k xo mo T R S I L) (hk : k ≤ 600) (hol : mo + 18 ≤ ol) {b s : Int32} : BSt Γ k xo mo ol 100 100 Y_X8_countOf Y_X9_countOf [.int b, .int s] [(0, 0), (1, 1), (2, 2), (3, 3)] T R S I L := by
  have hw0 := hw
  obtain ⟨p, p2, a, a2, u, nx, hl, hb, ha⟩ := hw
  obtain ⟨c, nf, nl, ln, hc⟩ := Wc ha
  obtain ⟨hair, hX, ⟨c1, c2, c3, c4⟩, ⟨f1, f2, f3⟩, ⟨l1, l2, l3⟩, ⟨n1, n2, n3⟩, mm, lw⟩ := hc
  refine BSt.q hw0 hol (fun D => by
    have h := ex_countOf (Γ := Γ) (d := 92) (K := sK I a) (L := L) (D := D) (hl.1.cx I) (f := b) (s := s) c2 c1 
    rw [blk_sK, show sK I p 0 6 = nI nf from f2] at h
    exact h) (fun L' D' => by
    have h := ex_mcountOf (Γ := Γ) (d := 97) (R := R) (I := I) (A := sK I mo) (X := sK I mo 4) (L := L') (D := D') (z := none) hl.2.1 hX c4 (b := b) (s := s)
    rw [mB_self, mB_t, show sK I mo 2 12 = nI nf from f3] at h
    exact h) ?_ ?_
  · rcases gd_r (vl := 0) (vh := 13) (lo := 0) (hi := 13) rfl rfl hair (c := nf) (by omega) (by omega) (by omega) b s with ⟨n, t, g0, g1, g2⟩ | ⟨j, m, _, _, _, _, _, g1, g2, _⟩
    · rw [g1, g2]
      rcases g0 with ⟨rfl, rfl⟩ | ⟨rfl, rfl⟩ | ⟨rfl, rfl⟩ <;> decide
    · rw [g1, g2]
      decide
  · intro h0
    rcases gd_r (vl := 0) (vh := 13) (lo := 0) (hi := 13) rfl rfl hair (c := nf) (by omega) (by omega) (by omega) b s with ⟨n, t, g0, g1, g2⟩ | ⟨j, m, gj, rfl, gm1, gm2, rfl, g1, g2, g3, g4, g5⟩
    · rw [g1] at h0
      omega
    · obtain ⟨H, hP, hS⟩ := (WA.of ha g5).n f1 f3
      rw [if_neg (by rw [g3]; decide), if_neg (by rw [g4]; decide)]
      have e := vl_of hS (nI j) (nI m) (nI m)
      rw [c4] at e
      exact congrArg nI e.symm
theorem st_percentile (hw : Wd Γ k xo mo T R S I L) (hk : k ≤ 600) (hol : mo + 18 ≤ ol) {b x : Int32} : BSt Γ k xo mo ol 100 100 Y_X8_percentile Y_X9_percentile [.int b, .int x] [(0, 0), (1, 1), (2, 2), (3, 3)] T R S I L := by
  have hw0 := hw
  obtain ⟨p, p2, a, a2, u, nx, hl, hb, ha⟩ := hw
  obtain ⟨c, nf, nl, ln, hc⟩ := Wc ha
  obtain ⟨hair, hX, ⟨c1, c2, c3, c4⟩, ⟨f1, f2, f3⟩, ⟨l1, l2, l3⟩, ⟨n1, n2, n3⟩, mm, lw⟩ := hc
  refine BSt.q hw0 hol (fun D => by
    have h := ex_percentile (Γ := Γ) (d := 92) (K := sK I a) (L := L) (D := D) (hl.1.cx I) (f := b) (x := x) c2 c1 
    rw [blk_sK, show sK I p 0 6 = nI nf from f2] at h
    exact h) (fun L' D' => by
    have h := ex_mpercentile (Γ := Γ) (d := 97) (R := R) (I := I) (A := sK I mo) (X := sK I mo 4) (L := L') (D := D') (z := none) hl.2.1 hX c4 (b := b) (x := x)
    rw [mB_self, mB_t, show sK I mo 2 12 = nI nf from f3] at h
    exact h) ?_ ?_
  · rcases gd_r (vl := 1) (vh := 100) (lo := 1) (hi := 100) rfl rfl hair (c := nf) (by omega) (by omega) (by omega) b x with ⟨n, t, g0, g1, g2⟩ | ⟨j, m, _, _, _, _, _, g1, g2, _⟩
    · rw [g1, g2]
      rcases g0 with ⟨rfl, rfl⟩ | ⟨rfl, rfl⟩ | ⟨rfl, rfl⟩ <;> decide
    · rw [g1, g2]
      decide
  · intro h0
    rcases gd_r (vl := 1) (vh := 100) (lo := 1) (hi := 100) rfl rfl hair (c := nf) (by omega) (by omega) (by omega) b x with ⟨n, t, g0, g1, g2⟩ | ⟨j, m, gj, rfl, gm1, gm2, rfl, g1, g2, g3, g4, g5⟩
    · rw [g1] at h0
      omega
    · obtain ⟨H, hP, hS⟩ := (WA.of ha g5).n f1 f3
      rw [if_neg (by rw [g3]; decide), if_neg (by rw [g4]; decide)]
      have e := vl_of hS (nI j) 10 10
      have e2 := vl_pct hS (nI j) (wnt (I (mo + 4)) (nI j) (nI m) (mC (I (mo + 4))))
      rw [c4] at e e2
      rw [show sK I mo 4 = I (mo + 4) from rfl]
      unfold wnt at e2 ⊢
      rw [← e] at e2 ⊢
      exact e2.symm
end Q9
