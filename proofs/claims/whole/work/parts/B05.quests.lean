/-! QUESTIONS, BOTH SIDES -/
theorem Wc {k : Nat} {I : JI} {L : JL} {xo mo p a u nx : Nat} (h : WN I xo mo p a u ∨ WA k I L xo mo p a u nx) : ∃ c nf nl ln, WC I xo mo p a c nf nl ln := h.elim (fun h => ⟨0, 0, 0, 0, h.c⟩) (fun h => h.c)
abbrev hAir (I : JI) (xo mo : Nat) : Prop := (I xo 1 = 0 ∧ I mo 19 = 0) ∨ (I xo 1 = 1 ∧ I mo 19 = 1)
theorem WA.of {k : Nat} {I : JI} {L : JL} {xo mo p a u nx : Nat} (h : WN I xo mo p a u ∨ WA k I L xo mo p a u nx) (h1 : I xo 1 = 1) : WA k I L xo mo p a u nx := h.resolve_left fun g => by
  rw [g.1.1] at h1
  exact absurd h1 (by decide)
theorem gd_a {I : JI} {xo mo : Nat} (h : hAir I xo mo) : (eAir (I xo) = 1 ∧ (∀ w, tI (sK I mo) w = 1 ∧ mOk (sK I mo) w = 0)) ∨ (eAir (I xo) = 0 ∧ I xo 1 = 1 ∧ (∀ w, tI (sK I mo) w = (if w = 0 then 2 else 0) ∧ mOk (sK I mo) w = (if w = 0 then 0 else 1))) := by
  rcases h with ⟨h1, h2⟩ | ⟨h1, h2⟩
  · refine Or.inl ⟨if_pos h1, fun w => ⟨if_pos h2, if_pos h2⟩⟩
  · have h3 : ¬ sK I mo 0 19 = 0 := by
      rw [show sK I mo 0 19 = 1 from h2]
      decide
    exact Or.inr ⟨if_neg (by rw [h1]; decide), h1, fun w => ⟨if_neg h3, if_neg h3⟩⟩
/-- a number that must be under c -/
theorem gd_i {I : JI} {xo mo c : Nat} (h : hAir I xo mo) (hc : c < 2 ^ 31) (b : Int32) : (orE (eAir (I xo)) (orE (eIdx b (nI c)) 0) = 1 ∧ tI (sK I mo) (inI b 0 (nI c - 1)) = 1 ∧ mOk (sK I mo) (inI b 0 (nI c - 1)) = 0) ∨ (orE (eAir (I xo)) (orE (eIdx b (nI c)) 0) = 2 ∧ tI (sK I mo) (inI b 0 (nI c - 1)) = 2 ∧ mOk (sK I mo) (inI b 0 (nI c - 1)) = 0) ∨ ∃ j, j < c ∧ b = nI j ∧ orE (eAir (I xo)) (orE (eIdx b (nI c)) 0) = 0 ∧ tI (sK I mo) (inI b 0 (nI c - 1)) = 0 ∧ mOk (sK I mo) (inI b 0 (nI c - 1)) = 1 ∧ I xo 1 = 1 := by
  rcases gd_a h with ⟨h1, h2⟩ | ⟨h1, h3, h2⟩
  · exact Or.inl ⟨by rw [h1]; rfl, (h2 _).1, (h2 _).2⟩
  · rcases in_n hc b with ⟨j, g1, g2, g3, g4⟩ | ⟨g3, g4⟩
    · exact Or.inr (Or.inr ⟨j, g1, g2, by rw [h1, g4]; rfl, by rw [(h2 _).1, g3]; rfl, by rw [(h2 _).2, g3]; rfl, h3⟩)
    · exact Or.inr (Or.inl ⟨by rw [h1, g4]; rfl, by rw [(h2 _).1, g3]; rfl, by rw [(h2 _).2, g3]; rfl⟩)
/-- the same, then a number that must be from lo to hi -/
theorem gd_ir {I : JI} {xo mo c lo hi : Nat} (h : hAir I xo mo) (hc : c < 2 ^ 31) (hl : lo ≤ hi) (hh : hi + 1 < 2 ^ 31) (b s : Int32) : (∃ n t, (n = 1 ∧ t = 1 ∨ n = 2 ∧ t = 2 ∨ n = 3 ∧ t = 3) ∧ orE (orE (eAir (I xo)) (orE (eIdx b (nI c)) 0)) (orE (eRng s (nI lo) (nI hi)) 0) = n ∧ tF3 (sK I mo) (inI b 0 (nI c - 1)) (inI s (nI lo) (nI hi)) = t) ∨ ∃ j m, j < c ∧ b = nI j ∧ lo ≤ m ∧ m ≤ hi ∧ s = nI m ∧ orE (orE (eAir (I xo)) (orE (eIdx b (nI c)) 0)) (orE (eRng s (nI lo) (nI hi)) 0) = 0 ∧ tF3 (sK I mo) (inI b 0 (nI c - 1)) (inI s (nI lo) (nI hi)) = 0 ∧ mOk (sK I mo) (inI b 0 (nI c - 1)) = 1 ∧ inI s (nI lo) (nI hi) = 1 ∧ I xo 1 = 1 := by
  unfold tF3
  rcases gd_i h hc b with ⟨g1, g2, g3⟩ | ⟨g1, g2, g3⟩ | ⟨j, g0, g4, g1, g2, g3, g5⟩
  · exact Or.inl ⟨1, 1, Or.inl ⟨rfl, rfl⟩, by rw [g1]; rfl, by rw [if_pos g3, g2]⟩
  · exact Or.inl ⟨2, 2, Or.inr (Or.inl ⟨rfl, rfl⟩), by rw [g1]; rfl, by rw [if_pos g3, g2]⟩
  · rcases in_lh hl hh s with ⟨m, m1, m2, m3, m4, m5⟩ | ⟨m4, m5⟩
    · exact Or.inr ⟨j, m, g0, g4, m1, m2, m3, by rw [g1, m5]; rfl, by rw [if_neg (by rw [g3]; decide), if_neg (by rw [m4]; decide), g2], g3, m4, g5⟩
    · exact Or.inl ⟨3, 3, Or.inr (Or.inr ⟨rfl, rfl⟩), by rw [g1, m5]; rfl, by rw [if_neg (by rw [g3]; decide), if_pos m4]⟩
section Q5
variable {Γ : Gam} {k xo mo ol : Nat} {T : JT} {R S : JR} {I : JI} {L : JL}
theorem st_stateOf (hw : Wd Γ k xo mo T R S I L) (hk : k ≤ 600) (hol : mo + 18 ≤ ol) {b : Int32} : BSt Γ k xo mo ol 100 100 Y_X8_stateOf Y_X9_stateOf [.int b] [(0, 0), (1, 1), (2, 2)] T R S I L := by
  have hw0 := hw
  obtain ⟨p, p2, a, a2, u, nx, hl, hb, ha⟩ := hw
  obtain ⟨c, nf, nl, ln, hc⟩ := Wc ha
  obtain ⟨hair, hX, ⟨c1, c2, c3, c4⟩, ⟨f1, f2, f3⟩, ⟨l1, l2, l3⟩, ⟨n1, n2, n3⟩, mm, lw⟩ := hc
  refine BSt.q hw0 hol (fun D => by
    have h := ex_stateOf (Γ := Γ) (d := 92) (K := sK I a) (L := L) (D := D) (hl.1.cx I)  (b := b)
    rw [blk_sK, show sK I a 1 0 = nI c from c2, orE_0] at h
    exact h) (fun L' D' => by
    have h := ex_mstateOf (Γ := Γ) (d := 97) (R := R) (I := I) (A := sK I mo) (X := sK I mo 4) (L := L') (D := D') (z := none) hl.2.1 hX (b := b)
    rw [mB_self, mB_t, show sK I mo 4 2 = nI c from c3] at h
    exact h) ?_ ?_
  · rcases gd_i hair (c := c) (by omega) b with ⟨g1, g2, _⟩ | ⟨g1, g2, _⟩ | ⟨j, _, _, g1, g2, _⟩ <;> (rw [g1, g2]; decide)
  · intro h0
    rcases gd_i hair (c := c) (by omega) b with ⟨g1, _⟩ | ⟨g1, _⟩ | ⟨j, gj, rfl, g1, g2, g3, g5⟩
    · rw [g1] at h0; cases h0
    · rw [g1] at h0; cases h0
    · obtain ⟨_, nf', H, hP, hS, _⟩ := WA.of ha g5
      rw [if_neg (by rw [g3]; decide), nN_nI (show j < 2 ^ 31 by omega)]
      have gj' : j < mC (I (mo + 4)) := by rw [c4]; exact gj
      exact (vl_st hS gj').symm
theorem st_flightOf (hw : Wd Γ k xo mo T R S I L) (hk : k ≤ 600) (hol : mo + 18 ≤ ol) {b : Int32} : BSt Γ k xo mo ol 100 100 Y_X8_flightOf Y_X9_flightOf [.int b] [(0, 0), (1, 1), (2, 2)] T R S I L := by
  have hw0 := hw
  obtain ⟨p, p2, a, a2, u, nx, hl, hb, ha⟩ := hw
  obtain ⟨c, nf, nl, ln, hc⟩ := Wc ha
  obtain ⟨hair, hX, ⟨c1, c2, c3, c4⟩, ⟨f1, f2, f3⟩, ⟨l1, l2, l3⟩, ⟨n1, n2, n3⟩, mm, lw⟩ := hc
  refine BSt.q hw0 hol (fun D => by
    have h := ex_flightOf (Γ := Γ) (d := 92) (K := sK I a) (L := L) (D := D) (hl.1.cx I)  (b := b)
    rw [blk_sK, show sK I a 1 0 = nI c from c2, orE_0] at h
    exact h) (fun L' D' => by
    have h := ex_mflightOf (Γ := Γ) (d := 97) (R := R) (I := I) (A := sK I mo) (X := sK I mo 4) (L := L') (D := D') (z := none) hl.2.1 hX (b := b)
    rw [mB_self, mB_t, show sK I mo 4 2 = nI c from c3] at h
    exact h) ?_ ?_
  · rcases gd_i hair (c := c) (by omega) b with ⟨g1, g2, _⟩ | ⟨g1, g2, _⟩ | ⟨j, _, _, g1, g2, _⟩ <;> (rw [g1, g2]; decide)
  · intro h0
    rcases gd_i hair (c := c) (by omega) b with ⟨g1, _⟩ | ⟨g1, _⟩ | ⟨j, gj, rfl, g1, g2, g3, g5⟩
    · rw [g1] at h0; cases h0
    · rw [g1] at h0; cases h0
    · obtain ⟨_, nf', H, hP, hS, _⟩ := WA.of ha g5
      rw [if_neg (by rw [g3]; decide), nN_nI (show j < 2 ^ 31 by omega)]
      have gj' : j < mC (I (mo + 4)) := by rw [c4]; exact gj
      exact (vl_fl hS gj').symm
theorem st_arrivalOf (hw : Wd Γ k xo mo T R S I L) (hk : k ≤ 600) (hol : mo + 18 ≤ ol) {b : Int32} : BSt Γ k xo mo ol 100 100 Y_X8_arrivalOf Y_X9_arrivalOf [.int b] [(0, 0), (1, 1), (2, 2)] T R S I L := by
  have hw0 := hw
  obtain ⟨p, p2, a, a2, u, nx, hl, hb, ha⟩ := hw
  obtain ⟨c, nf, nl, ln, hc⟩ := Wc ha
  obtain ⟨hair, hX, ⟨c1, c2, c3, c4⟩, ⟨f1, f2, f3⟩, ⟨l1, l2, l3⟩, ⟨n1, n2, n3⟩, mm, lw⟩ := hc
  refine BSt.q hw0 hol (fun D => by
    have h := ex_arrivalOf (Γ := Γ) (d := 92) (K := sK I a) (L := L) (D := D) (hl.1.cx I)  (b := b)
    rw [blk_sK, show sK I a 1 0 = nI c from c2, orE_0] at h
    exact h) (fun L' D' => by
    have h := ex_marrivalOf (Γ := Γ) (d := 97) (R := R) (I := I) (A := sK I mo) (X := sK I mo 4) (L := L') (D := D') (z := none) hl.2.1 hX (b := b)
    rw [mB_self, mB_t, show sK I mo 4 2 = nI c from c3] at h
    exact h) ?_ ?_
  · rcases gd_i hair (c := c) (by omega) b with ⟨g1, g2, _⟩ | ⟨g1, g2, _⟩ | ⟨j, _, _, g1, g2, _⟩ <;> (rw [g1, g2]; decide)
  · intro h0
    rcases gd_i hair (c := c) (by omega) b with ⟨g1, _⟩ | ⟨g1, _⟩ | ⟨j, gj, rfl, g1, g2, g3, g5⟩
    · rw [g1] at h0; cases h0
    · rw [g1] at h0; cases h0
    · obtain ⟨_, nf', H, hP, hS, _⟩ := WA.of ha g5
      rw [if_neg (by rw [g3]; decide), nN_nI (show j < 2 ^ 31 by omega)]
      have gj' : j < mC (I (mo + 4)) := by rw [c4]; exact gj
      exact (vl_ar hS gj').symm
theorem st_lapsOf (hw : Wd Γ k xo mo T R S I L) (hk : k ≤ 600) (hol : mo + 18 ≤ ol) {b : Int32} : BSt Γ k xo mo ol 100 100 Y_X8_lapsOf Y_X9_lapsOf [.int b] [(0, 0), (1, 1), (2, 2)] T R S I L := by
  have hw0 := hw
  obtain ⟨p, p2, a, a2, u, nx, hl, hb, ha⟩ := hw
  obtain ⟨c, nf, nl, ln, hc⟩ := Wc ha
  obtain ⟨hair, hX, ⟨c1, c2, c3, c4⟩, ⟨f1, f2, f3⟩, ⟨l1, l2, l3⟩, ⟨n1, n2, n3⟩, mm, lw⟩ := hc
  refine BSt.q hw0 hol (fun D => by
    have h := ex_lapsOf (Γ := Γ) (d := 92) (K := sK I a) (L := L) (D := D) (hl.1.cx I)  (b := b)
    rw [blk_sK, show sK I a 1 0 = nI c from c2, orE_0] at h
    exact h) (fun L' D' => by
    have h := ex_mlapsOf (Γ := Γ) (d := 97) (R := R) (I := I) (A := sK I mo) (X := sK I mo 4) (L := L') (D := D') (z := none) hl.2.1 hX (b := b)
    rw [mB_self, mB_t, show sK I mo 4 2 = nI c from c3] at h
    exact h) ?_ ?_
  · rcases gd_i hair (c := c) (by omega) b with ⟨g1, g2, _⟩ | ⟨g1, g2, _⟩ | ⟨j, _, _, g1, g2, _⟩ <;> (rw [g1, g2]; decide)
  · intro h0
    rcases gd_i hair (c := c) (by omega) b with ⟨g1, _⟩ | ⟨g1, _⟩ | ⟨j, gj, rfl, g1, g2, g3, g5⟩
    · rw [g1] at h0; cases h0
    · rw [g1] at h0; cases h0
    · obtain ⟨_, nf', H, hP, hS, _⟩ := WA.of ha g5
      rw [if_neg (by rw [g3]; decide), nN_nI (show j < 2 ^ 31 by omega)]
      have gj' : j < mC (I (mo + 4)) := by rw [c4]; exact gj
      exact (vl_la hS gj').symm
theorem st_levelOf (hw : Wd Γ k xo mo T R S I L) (hk : k ≤ 600) (hol : mo + 18 ≤ ol) {b : Int32} : BSt Γ k xo mo ol 100 100 Y_X8_levelOf Y_X9_levelOf [.int b] [(0, 0), (1, 1), (2, 2)] T R S I L := by
  have hw0 := hw
  obtain ⟨p, p2, a, a2, u, nx, hl, hb, ha⟩ := hw
  obtain ⟨c, nf, nl, ln, hc⟩ := Wc ha
  obtain ⟨hair, hX, ⟨c1, c2, c3, c4⟩, ⟨f1, f2, f3⟩, ⟨l1, l2, l3⟩, ⟨n1, n2, n3⟩, mm, lw⟩ := hc
  refine BSt.q hw0 hol (fun D => by
    have h := ex_levelOf (Γ := Γ) (d := 92) (K := sK I a) (L := L) (D := D) (hl.1.cx I)  (b := b)
    rw [blk_sK, show sK I a 1 0 = nI c from c2, orE_0] at h
    exact h) (fun L' D' => by
    have h := ex_mlevelOf (Γ := Γ) (d := 97) (R := R) (I := I) (A := sK I mo) (X := sK I mo 4) (L := L') (D := D') (z := none) hl.2.1 hX (b := b)
    rw [mB_self, mB_t, show sK I mo 4 2 = nI c from c3] at h
    exact h) ?_ ?_
  · rcases gd_i hair (c := c) (by omega) b with ⟨g1, g2, _⟩ | ⟨g1, g2, _⟩ | ⟨j, _, _, g1, g2, _⟩ <;> (rw [g1, g2]; decide)
  · intro h0
    rcases gd_i hair (c := c) (by omega) b with ⟨g1, _⟩ | ⟨g1, _⟩ | ⟨j, gj, rfl, g1, g2, g3, g5⟩
    · rw [g1] at h0; cases h0
    · rw [g1] at h0; cases h0
    · obtain ⟨_, nf', H, hP, hS, _⟩ := WA.of ha g5
      rw [if_neg (by rw [g3]; decide), nN_nI (show j < 2 ^ 31 by omega)]
      have gj' : j < mC (I (mo + 4)) := by rw [c4]; exact gj
      exact (vl_lv hS gj').symm
theorem st_finishedAt (hw : Wd Γ k xo mo T R S I L) (hk : k ≤ 600) (hol : mo + 18 ≤ ol) {b : Int32} : BSt Γ k xo mo ol 100 100 Y_X8_finishedAt Y_X9_finishedAt [.int b] [(0, 0), (1, 1), (2, 2)] T R S I L := by
  have hw0 := hw
  obtain ⟨p, p2, a, a2, u, nx, hl, hb, ha⟩ := hw
  obtain ⟨c, nf, nl, ln, hc⟩ := Wc ha
  obtain ⟨hair, hX, ⟨c1, c2, c3, c4⟩, ⟨f1, f2, f3⟩, ⟨l1, l2, l3⟩, ⟨n1, n2, n3⟩, mm, lw⟩ := hc
  refine BSt.q hw0 hol (fun D => by
    have h := ex_finishedAt (Γ := Γ) (d := 92) (K := sK I a) (L := L) (D := D) (hl.1.cx I)  (b := b)
    rw [blk_sK, show sK I a 1 0 = nI c from c2, orE_0] at h
    exact h) (fun L' D' => by
    have h := ex_mfinishedAt (Γ := Γ) (d := 97) (R := R) (I := I) (A := sK I mo) (X := sK I mo 4) (L := L') (D := D') (z := none) hl.2.1 hX (b := b)
    rw [mB_self, mB_t, show sK I mo 4 2 = nI c from c3] at h
    exact h) ?_ ?_
  · rcases gd_i hair (c := c) (by omega) b with ⟨g1, g2, _⟩ | ⟨g1, g2, _⟩ | ⟨j, _, _, g1, g2, _⟩ <;> (rw [g1, g2]; decide)
  · intro h0
    rcases gd_i hair (c := c) (by omega) b with ⟨g1, _⟩ | ⟨g1, _⟩ | ⟨j, gj, rfl, g1, g2, g3, g5⟩
    · rw [g1] at h0; cases h0
    · rw [g1] at h0; cases h0
    · obtain ⟨_, nf', H, hP, hS, _⟩ := WA.of ha g5
      rw [if_neg (by rw [g3]; decide), nN_nI (show j < 2 ^ 31 by omega)]
      have gj' : j < mC (I (mo + 4)) := by rw [c4]; exact gj
      exact (vl_fin hS gj').symm
theorem st_positionOf (hw : Wd Γ k xo mo T R S I L) (hk : k ≤ 600) (hol : mo + 18 ≤ ol) {b : Int32} : BSt Γ k xo mo ol 100 100 Y_X8_positionOf Y_X9_positionOf [.int b] [(0, 0), (1, 1), (2, 2)] T R S I L := by
  have hw0 := hw
  obtain ⟨p, p2, a, a2, u, nx, hl, hb, ha⟩ := hw
  obtain ⟨c, nf, nl, ln, hc⟩ := Wc ha
  obtain ⟨hair, hX, ⟨c1, c2, c3, c4⟩, ⟨f1, f2, f3⟩, ⟨l1, l2, l3⟩, ⟨n1, n2, n3⟩, mm, lw⟩ := hc
  refine BSt.q hw0 hol (fun D => by
    have h := ex_positionOf (Γ := Γ) (d := 92) (K := sK I a) (L := L) (D := D) (hl.1.cx I)  (b := b)
    rw [blk_sK, show sK I a 1 0 = nI c from c2, orE_0] at h
    exact h) (fun L' D' => by
    have h := ex_mpositionOf (Γ := Γ) (d := 97) (R := R) (I := I) (A := sK I mo) (X := sK I mo 4) (L := L') (D := D') (z := none) hl.2.1 hX (b := b)
    rw [mB_self, mB_t, show sK I mo 4 2 = nI c from c3] at h
    exact h) ?_ ?_
  · rcases gd_i hair (c := c) (by omega) b with ⟨g1, g2, _⟩ | ⟨g1, g2, _⟩ | ⟨j, _, _, g1, g2, _⟩ <;> (rw [g1, g2]; decide)
  · intro h0
    rcases gd_i hair (c := c) (by omega) b with ⟨g1, _⟩ | ⟨g1, _⟩ | ⟨j, gj, rfl, g1, g2, g3, g5⟩
    · rw [g1] at h0; cases h0
    · rw [g1] at h0; cases h0
    · obtain ⟨_, nf', H, hP, hS, _⟩ := WA.of ha g5
      rw [if_neg (by rw [g3]; decide), nN_nI (show j < 2 ^ 31 by omega)]
      have gj' : j < mC (I (mo + 4)) := by rw [c4]; exact gj
      exact (vl_pos hS gj').symm
theorem st_laneOf (hw : Wd Γ k xo mo T R S I L) (hk : k ≤ 600) (hol : mo + 18 ≤ ol) {b : Int32} : BSt Γ k xo mo ol 100 100 Y_X8_laneOf Y_X9_laneOf [.int b] [(0, 0), (1, 1), (2, 2)] T R S I L := by
  have hw0 := hw
  obtain ⟨p, p2, a, a2, u, nx, hl, hb, ha⟩ := hw
  obtain ⟨c, nf, nl, ln, hc⟩ := Wc ha
  obtain ⟨hair, hX, ⟨c1, c2, c3, c4⟩, ⟨f1, f2, f3⟩, ⟨l1, l2, l3⟩, ⟨n1, n2, n3⟩, mm, lw⟩ := hc
  have lw' : ∀ l, l < 4 → sK I a 12 l = nI (nN (I (a + 12) l)) ∧ nN (I (a + 12) l) ≤ 20 := fun l hl => by
    obtain ⟨m, m1, m2⟩ := lw l hl
    rw [m2, nN_nI (by omega)]
    exact ⟨m2, m1⟩
  refine BSt.q hw0 hol (fun D => by
    have h := ex_laneOf (Γ := Γ) (d := 92) (K := sK I a) (L := L) (D := D) (hl.1.cx I)  (b := b) (ls := fun l => nN (I (a + 12) l)) lw'
    rw [blk_sK, show sK I a 1 0 = nI c from c2, orE_0] at h
    exact h) (fun L' D' => by
    have h := ex_mlaneOf (Γ := Γ) (d := 97) (R := R) (I := I) (A := sK I mo) (X := sK I mo 4) (L := L') (D := D') (z := none) hl.2.1 hX (b := b)
    rw [mB_self, mB_t, show sK I mo 4 2 = nI c from c3] at h
    exact h) ?_ ?_
  · rcases gd_i hair (c := c) (by omega) b with ⟨g1, g2, _⟩ | ⟨g1, g2, _⟩ | ⟨j, _, _, g1, g2, _⟩ <;> (rw [g1, g2]; decide)
  · intro h0
    rcases gd_i hair (c := c) (by omega) b with ⟨g1, _⟩ | ⟨g1, _⟩ | ⟨j, gj, rfl, g1, g2, g3, g5⟩
    · rw [g1] at h0; cases h0
    · rw [g1] at h0; cases h0
    · obtain ⟨_, nf', H, hP, hS, _⟩ := WA.of ha g5
      rw [if_neg (by rw [g3]; decide), nN_nI (show j < 2 ^ 31 by omega)]
      have gj' : j < mC (I (mo + 4)) := by rw [c4]; exact gj
      exact (vl_lane hS gj' (fun l hl => by
        have h1 := lw' l hl
        have h2 := (hS.1.bl hl).2
        have h3 := hS.i.he hl
        exact nI_inj' (by omega) (by have := h3.2; omega) (h1.1.symm.trans (h2.trans h3.1)))).symm
end Q5
