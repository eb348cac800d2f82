/-! MORE CHANGES, BOTH SIDES -/
theorem er_in (v lo hi : Int32) : (eRng v lo hi = 0 ∧ inI v lo hi = 1) ∨ (eRng v lo hi = 3 ∧ inI v lo hi = 0) := by
  unfold eRng inI
  by_cases h1 : v < lo
  · rw [if_pos h1, if_pos h1]
    exact Or.inr ⟨rfl, rfl⟩
  · rw [if_neg h1, if_neg h1]
    by_cases h2 : hi < v
    · rw [if_pos h2, if_pos h2]
      exact Or.inr ⟨rfl, rfl⟩
    · rw [if_neg h2, if_neg h2]
      exact Or.inl ⟨rfl, rfl⟩
section Q19
variable {Γ : Gam} {k xo mo ol : Nat} {T : JT} {R S : JR} {I : JI} {L : JL}
theorem st_delay (hw : Wd Γ k xo mo T R S I L) (hk : k ≤ 599) (hol : mo + 18 ≤ ol) {f y : Int32} : BSt Γ k xo mo ol 100 100 Y_X8_delay Y_X9_delay [.int f, .int y] [(0, 0), (1, 1), (2, 2), (3, 3)] T R S I L := by
  have hw0 := hw
  obtain ⟨p, p2, a, a2, u, nx, hl, hb, ha⟩ := hw
  obtain ⟨c, nf, nl, ln, hc⟩ := Wc ha
  obtain ⟨hair, hX, ⟨c1, c2, c3, c4⟩, ⟨f1, f2, f3⟩, ⟨l1, l2, l3⟩, ⟨n1, n2, n3⟩, mm, lw⟩ := hc
  have htk : ∀ (h5 : I xo 1 = 1), ∃ t H, t ≤ 9999 ∧ sK I a 0 0 = nI t ∧ I (mo + 4) 0 = nI t ∧ AirP nf H (sK I p) (sK I mo) ∧ SR k nf (I (mo + 2)) (sK I a) (L a 1) (I (mo + 4)) := fun h5 => by
    obtain ⟨H, hP, hS⟩ := (WA.of ha h5).n f1 f3
    obtain ⟨t, t0, t1⟩ := hS.2.2.1
    exact ⟨t, H, t1, hS.1.clk.trans t0, t0, hP, hS⟩
  have hh := hb.2.2.2.2.2
  have hC : ∀ D, _ := fun D => ex_delay (Γ := Γ) (d := 92) (T := T) (R := R) (S := S) (I := I) (K := sK I a) (L := L) (D := D) hl.1 hh.2.2.2.1 hh.2.2.1 hh.2.1 hh.1 (f := f) (y := y)
  rcases gd_a hair with ⟨g1, g2⟩ | ⟨g1, g5, g2⟩
  · refine BSt.q (n := 1) (t := 1) (v := 0) (w := 0) hw0 hol (fun D => by
      have h := hC D
      rw [g1, blk_sK] at h
      exact h) (fun L' D' => by
      have h := ex_mdelay_no (Γ := Γ) (d := 97) (T := T) (R := R) (S := S) (I := I) (A := sK I mo) (X := sK I mo 4) (L := L') (D := D') (z := none) hl.2.1 (b := f) (y := y) (g2 _).2
      rw [mB_self, mB_t, (g2 _).1] at h
      exact h) (by decide) (fun h => by cases h)
  · obtain ⟨t, H, t1, t2, t3, hP, hS⟩ := htk g5
    have e1 : mOk (sK I mo) 1 = 1 := (g2 1).2
    rcases in_n (c := nf) (by omega) f with ⟨j, j1, rfl, j3, j4⟩ | ⟨j3, j4⟩
    · have hph := ph_same hS.1 f1 j1
      rcases in_lh (lo := 1) (hi := 999) (by omega) (by omega) y with ⟨m, m1, m2, rfl, m4, m5⟩ | ⟨m4, m5⟩
      · by_cases hcl : mPh (I (mo + 4)) j = 2
        · refine BSt.q (n := 3) (t := 3) (v := 0) (w := 0) hw0 hol (fun D => by
            have h := hC D
            rw [g1, show sK I p 0 6 = nI nf from f2, j4, show eRng (nI m) 1 999 = 0 from m5, show eNcl (sK I a) (nI j) = 3 from if_pos (hph.trans hcl), blk_sK] at h
            exact h) (fun L' D' => by
            have h := ex_mdelay_b2 (Γ := Γ) (d := 97) (T := T) (R := R) (S := S) (I := I) (A := sK I mo) (X := sK I mo 4) (L := L') (D := D') (z := none) hl.2.1 (n := j) (by omega) (by rw [(g2 _).2, show sK I mo 2 12 = nI nf from f3, j3]; decide) (y := nI m) (by rw [show inI (nI m) 1 999 = 1 from m4]; decide) hcl
            rw [mB_self, mB_t] at h
            exact h) (by decide) (fun h => by cases h)
        · have hS2 := hS.dly f1 j1 m2 (by omega)
          refine BSt.ch hl hb (WA.of ha g5) hol f1 f3 (fun D => by
              have h := hC D
              rw [g1, show sK I p 0 6 = nI nf from f2, j4, show eRng (nI m) 1 999 = 0 from m5, show eNcl (sK I a) (nI j) = 0 from if_neg (fun e => hcl (hph.symm.trans e)), blk_sK] at h
              exact h) (fun I1 L' D' eA => by
              have h := ex_mdelay_ok (Γ := Γ) (d := 97) (T := T) (R := R) (S := S) (I := I1) (A := sK I1 mo) (X := sK I1 mo 4) (L := L') (D := D') (z := none) hl.2.1 (by rw [eA]; exact hh.2.2.2.2) hh.1 (n := j) (by omega) (by rw [eA, (g2 _).2, show sK I mo 2 12 = nI nf from f3, j3]; decide) (y := nI m) (by rw [show inI (nI m) 1 999 = 1 from m4]; decide) (by rw [eA]; exact hcl)
              rw [mB_self, eA, (g2 _).1, show sK I mo 2 12 = nI nf from f3, j3, if_neg (show ¬ (1 : Int32) = 0 by decide)] at h
              exact h) (hS2) (by decide) (show mDl (I (mo + 4)) j (nI m) (13 + j) = atV 8 (kDly (sK I a) (nI j) (nI m) 10) (nI j) by rw [atV_nI (by omega) (by omega)]; exact (hS2.1.op f1 j1).2.symm)
      · refine BSt.q (n := 3) (t := 3) (v := 0) (w := 0) hw0 hol (fun D => by
          have h := hC D
          rw [g1, show sK I p 0 6 = nI nf from f2, j4, show eRng y 1 999 = 3 from m5, blk_sK] at h
          exact h) (fun L' D' => by
          have h := ex_mdelay_b1 (Γ := Γ) (d := 97) (T := T) (R := R) (S := S) (I := I) (A := sK I mo) (X := sK I mo 4) (L := L') (D := D') (z := none) hl.2.1 (n := j) (by omega) (by rw [(g2 _).2, show sK I mo 2 12 = nI nf from f3, j3]; decide) (y := y) m4
          rw [mB_self, mB_t] at h
          exact h) (by decide) (fun h => by cases h)
    · refine BSt.q (n := 2) (t := 2) (v := 0) (w := 0) hw0 hol (fun D => by
        have h := hC D
        rw [g1, show sK I p 0 6 = nI nf from f2, j4, blk_sK] at h
        exact h) (fun L' D' => by
        have h := ex_mdelay_no (Γ := Γ) (d := 97) (T := T) (R := R) (S := S) (I := I) (A := sK I mo) (X := sK I mo 4) (L := L') (D := D') (z := none) hl.2.1 (b := f) (y := y) (by rw [(g2 _).2, show sK I mo 2 12 = nI nf from f3, j3]; rfl)
        rw [mB_self, mB_t, (g2 _).1, show sK I mo 2 12 = nI nf from f3, j3] at h
        exact h) (by decide) (fun h => by cases h)
theorem st_offload (hw : Wd Γ k xo mo T R S I L) (hk : k ≤ 599) (hol : mo + 18 ≤ ol) {b : Int32} : BSt Γ k xo mo ol 100 100 Y_X8_offload Y_X9_offload [.int b] [(0, 0), (1, 1), (2, 2), (3, 3)] T R S I L := by
  have hw0 := hw
  obtain ⟨p, p2, a, a2, u, nx, hl, hb, ha⟩ := hw
  obtain ⟨c, nf, nl, ln, hc⟩ := Wc ha
  obtain ⟨hair, hX, ⟨c1, c2, c3, c4⟩, ⟨f1, f2, f3⟩, ⟨l1, l2, l3⟩, ⟨n1, n2, n3⟩, mm, lw⟩ := hc
  have htk : ∀ (h5 : I xo 1 = 1), ∃ t H, t ≤ 9999 ∧ sK I a 0 0 = nI t ∧ I (mo + 4) 0 = nI t ∧ AirP nf H (sK I p) (sK I mo) ∧ SR k nf (I (mo + 2)) (sK I a) (L a 1) (I (mo + 4)) := fun h5 => by
    obtain ⟨H, hP, hS⟩ := (WA.of ha h5).n f1 f3
    obtain ⟨t, t0, t1⟩ := hS.2.2.1
    exact ⟨t, H, t1, hS.1.clk.trans t0, t0, hP, hS⟩
  have hh := hb.2.2.2.2.2
  have hC : ∀ D, _ := fun D => ex_offload (Γ := Γ) (d := 92) (T := T) (R := R) (S := S) (I := I) (K := sK I a) (L := L) (D := D) hl.1 hh.2.2.2.1 hh.2.2.1 hh.2.1 hh.1 c2 c1 (b := b)
  rcases gd_a hair with ⟨g1, g2⟩ | ⟨g1, g5, g2⟩
  · refine BSt.q (n := 1) (t := 1) (v := 0) (w := 0) hw0 hol (fun D => by
      have h := hC D
      rw [g1, blk_sK] at h
      exact h) (fun L' D' => by
      have h := ex_moffload_no (Γ := Γ) (d := 97) (T := T) (R := R) (S := S) (I := I) (A := sK I mo) (X := sK I mo 4) (L := L') (D := D') (z := none) hl.2.1 (b := b) (g2 _).2
      rw [mB_self, mB_t, (g2 _).1] at h
      exact h) (by decide) (fun h => by cases h)
  · obtain ⟨t, H, t1, t2, t3, hP, hS⟩ := htk g5
    have e1 : mOk (sK I mo) 1 = 1 := (g2 1).2
    rcases in_n (c := c) (by omega) b with ⟨j, j1, rfl, j3, j4⟩ | ⟨j3, j4⟩
    · have j1' : j < mC (I (mo + 4)) := by rw [c4]; exact j1
      have hst := vl_st hS j1'
      by_cases hs : I (mo + 4) (373 + j) = 10
      · have hS2 := hS.off j1' hs f1
        have ec2 : mC (mBe (I (mo + 4)) j 13) = c := by unfold mC at c4 ⊢; rw [be_same (by omega)]; exact c4
        have q1 := vl_of hS2 (mBe (I (mo + 4)) j 13 (173 + j)) 10 10
        have q2 := vl_fl hS2 (j := j) (by rw [ec2]; exact j1)
        rw [ec2] at q1
        refine BSt.ch hl hb (WA.of ha g5) hol f1 f3 (fun D => by
            have h := hC D
            rw [g1, show sK I a 1 0 = nI c from c2, j4, if_pos (hst.trans hs), blk_sK] at h
            exact h) (fun I1 L' D' eA => by
            have h := ex_moffload_ok (Γ := Γ) (d := 97) (T := T) (R := R) (S := S) (I := I1) (A := sK I1 mo) (X := sK I1 mo 4) (L := L') (D := D') (z := none) hl.2.1 (by rw [eA]; exact hh.2.2.2.2) hh.1 (by rw [eA]; exact hX) (n := j) (by omega) (by rw [eA, (g2 _).2, show sK I mo 4 2 = nI c from c3, j3]; decide) (by rw [eA]; exact hs) (c := c) (by rw [eA]; exact hS2.i) (by rw [eA]; exact ec2)
            rw [mB_self, eA, (g2 _).1, show sK I mo 4 2 = nI c from c3, j3, if_neg (show ¬ (1 : Int32) = 0 by decide)] at h
            exact h) (hS2.up (Nat.le_succ k)) (by decide) (show nI (fb_ct (pB (mBe (I (mo + 4)) j 13) (mBe (I (mo + 4)) j 13 (173 + j)) 10 10) c) = nI (fb_ct (pOf (kEn (sK I a) (nI j) 13) (atV 100 (kEn (sK I a) (nI j) 13 3) (nI j)) 10 10) c) by rw [q2, q1])
      · refine BSt.q (n := 3) (t := 3) (v := 0) (w := 0) hw0 hol (fun D => by
          have h := hC D
          rw [g1, show sK I a 1 0 = nI c from c2, j4, if_neg (fun e => hs (hst.symm.trans e)), blk_sK] at h
          exact h) (fun L' D' => by
          have h := ex_moffload_bad (Γ := Γ) (d := 97) (T := T) (R := R) (S := S) (I := I) (A := sK I mo) (X := sK I mo 4) (L := L') (D := D') (z := none) hl.2.1 hX (n := j) (by omega) (by rw [(g2 _).2, show sK I mo 4 2 = nI c from c3, j3]; decide) hs
          rw [mB_self, mB_t] at h
          exact h) (by decide) (fun h => by cases h)
    · refine BSt.q (n := 2) (t := 2) (v := 0) (w := 0) hw0 hol (fun D => by
        have h := hC D
        rw [g1, show sK I a 1 0 = nI c from c2, j4, blk_sK] at h
        exact h) (fun L' D' => by
        have h := ex_moffload_no (Γ := Γ) (d := 97) (T := T) (R := R) (S := S) (I := I) (A := sK I mo) (X := sK I mo 4) (L := L') (D := D') (z := none) hl.2.1 (b := b) (by rw [(g2 _).2, show sK I mo 4 2 = nI c from c3, j3]; rfl)
        rw [mB_self, mB_t, (g2 _).1, show sK I mo 4 2 = nI c from c3, j3] at h
        exact h) (by decide) (fun h => by cases h)
theorem st_breakMachine (hw : Wd Γ k xo mo T R S I L) (hk : k ≤ 599) (hol : mo + 18 ≤ ol) {lv m y : Int32} : BSt Γ k xo mo ol 100 100 Y_X8_breakMachine Y_X9_breakMachine [.int lv, .int m, .int y] [(0, 0), (1, 1), (2, 2), (3, 3)] T R S I L := by
  have hw0 := hw
  obtain ⟨p, p2, a, a2, u, nx, hl, hb, ha⟩ := hw
  obtain ⟨c, nf, nl, ln, hc⟩ := Wc ha
  obtain ⟨hair, hX, ⟨c1, c2, c3, c4⟩, ⟨f1, f2, f3⟩, ⟨l1, l2, l3⟩, ⟨n1, n2, n3⟩, mm, lw⟩ := hc
  have htk : ∀ (h5 : I xo 1 = 1), ∃ t H, t ≤ 9999 ∧ sK I a 0 0 = nI t ∧ I (mo + 4) 0 = nI t ∧ AirP nf H (sK I p) (sK I mo) ∧ SR k nf (I (mo + 2)) (sK I a) (L a 1) (I (mo + 4)) := fun h5 => by
    obtain ⟨H, hP, hS⟩ := (WA.of ha h5).n f1 f3
    obtain ⟨t, t0, t1⟩ := hS.2.2.1
    exact ⟨t, H, t1, hS.1.clk.trans t0, t0, hP, hS⟩
  have hh := hb.2.2.2.2.2
  have hC : ∀ D, _ := fun D => ex_breakMachine (Γ := Γ) (d := 92) (T := T) (R := R) (S := S) (I := I) (K := sK I a) (L := L) (D := D) hl.1 hh.2.2.2.1 hh.2.2.1 hh.2.1 hh.1 (lv := lv) (m := m) (y := y)
  rcases gd_a hair with ⟨g1, g2⟩ | ⟨g1, g5, g2⟩
  · refine BSt.q (n := 1) (t := 1) (v := 0) (w := 0) hw0 hol (fun D => by
      have h := hC D
      rw [g1, blk_sK] at h
      exact h) (fun L' D' => by
      have h := ex_mbreak_no (Γ := Γ) (d := 97) (T := T) (R := R) (S := S) (I := I) (A := sK I mo) (X := sK I mo 4) (L := L') (D := D') (z := none) hl.2.1 (lv := lv) (m := m) (y := y) (g2 _).2
      rw [mB_self, mB_t, (g2 _).1] at h
      exact h) (by decide) (fun h => by cases h)
  · obtain ⟨t, H, t1, t2, t3, hP, hS⟩ := htk g5
    have e1 : mOk (sK I mo) 1 = 1 := (g2 1).2
    rcases gd_m (p := p) hair mm lv m with ⟨q1, _⟩ | ⟨q1, q2, q3⟩ | ⟨q, j, hq, hj, rfl, rfl, q1, q2, q3, _⟩
    · exfalso
      rw [g1] at q1
      revert q1
      show orE (eIdx (lv - 1) 3) _ = 1 → False
      unfold eIdx
      repeat' split
      all_goals (intro h; cases h)
    · refine BSt.q (n := 2) (t := 2) (v := 0) (w := 0) hw0 hol (fun D => by
        have h := hC D
        rw [q1, blk_sK] at h
        exact h) (fun L' D' => by
        have h := ex_mbreak_no (Γ := Γ) (d := 97) (T := T) (R := R) (S := S) (I := I) (A := sK I mo) (X := sK I mo 4) (L := L') (D := D') (z := none) hl.2.1 (lv := lv) (m := m) (y := y) q3
        rw [mB_self, mB_t, q2] at h
        exact h) (by decide) (fun h => by cases h)
    · rcases in_lh (lo := 1) (hi := 999) (by omega) (by omega) y with ⟨n, n1', n2', rfl, n4, n5⟩ | ⟨n4, n5⟩
      · have hbr : atV 12 (sK I a 17) (nI (4 * q + j)) = I (mo + 4) (2073 + 4 * q + j) := by
          rw [atV_nI (by omega) (by omega), show 2073 + 4 * q + j = 2073 + (4 * q + j) by omega]
          exact hS.1.br (by omega)
        have ht0 : sK I a 0 0 = I (mo + 4) 0 := t2.trans t3.symm
        have hM : ∀ I1 L' D', sK I1 mo = sK I mo → _ := fun I1 L' D' eA => ex_mbreak_ok (Γ := Γ) (d := 97) (T := T) (R := R) (S := S) (I := I1) (A := sK I1 mo) (X := sK I1 mo 4) (L := L') (D := D') (z := none) hl.2.1 (by rw [eA]; exact hh.2.2.2.2) hh.1 (q := q) (n := j) hq hj (y := nI n) (by rw [eA, q3]; decide) (by rw [show inI (nI n) 1 999 = 1 from n4]; decide)
        by_cases hu : I (mo + 4) 0 + nI n ≤ I (mo + 4) (2073 + 4 * q + j)
        · have eU : mUn (I (mo + 4)) (2073 + 4 * q + j) (nI n) = I (mo + 4) (2073 + 4 * q + j) := if_neg (Int32.not_lt.mpr hu)
          refine BSt.ch hl hb (WA.of ha g5) hol f1 f3 (K' := sK I a) (X' := I (mo + 4)) (v := 0) (w := 0) (fun D => by
            have h := hC D
            rw [q1, show eRng (nI n) 1 999 = 0 from n5, blk_sK, mi_n] at h
            unfold vBr kBr at h
            rw [hbr, ht0, if_pos hu, if_pos hu] at h
            exact h) (fun I1 L' D' eA => by
            have h := hM I1 L' D' eA
            rw [mB_self, eA, q2, show sK I mo 4 = I (mo + 4) from rfl, eU, if_pos (Int32.le_refl _), w1_self rfl] at h
            exact h) (hS.up (Nat.le_succ k)) (by decide) rfl
        · have eU : mUn (I (mo + 4)) (2073 + 4 * q + j) (nI n) = I (mo + 4) 0 + nI n := if_pos (Int32.not_le.mp hu)
          refine BSt.ch hl hb (WA.of ha g5) hol f1 f3 (K' := u2 (sK I a) 17 (4 * q + j) (I (mo + 4) 0 + nI n)) (X' := w1 (I (mo + 4)) (2073 + (4 * q + j)) (I (mo + 4) 0 + nI n)) (v := 1) (w := 1) (fun D => by
            have h := hC D
            rw [q1, show eRng (nI n) 1 999 = 0 from n5, blk_sK, mi_n] at h
            unfold vBr kBr at h
            rw [hbr, ht0, if_neg hu, if_neg hu, putI_n (show 4 * q + j < 12 by omega) (by omega)] at h
            exact h) (fun I1 L' D' eA => by
            have h := hM I1 L' D' eA
            rw [mB_self, eA, q2, show sK I mo 4 = I (mo + 4) from rfl, eU, if_neg hu, show 2073 + 4 * q + j = 2073 + (4 * q + j) by omega] at h
            exact h) ((hS.set (mt17 (by omega)) (by omega) (by unfold fre; omega) (rg_free (by omega)) (by omega) f1).up (Nat.le_succ k)) (by decide) rfl
      · refine BSt.q (n := 3) (t := 3) (v := 0) (w := 0) hw0 hol (fun D => by
          have h := hC D
          rw [q1, show eRng y 1 999 = 3 from n5, blk_sK] at h
          exact h) (fun L' D' => by
          have h := ex_mbreak_bad (Γ := Γ) (d := 97) (T := T) (R := R) (S := S) (I := I) (A := sK I mo) (X := sK I mo 4) (L := L') (D := D') (z := none) hl.2.1 (lv := nI (q + 1)) (m := nI j) (y := y) (by rw [q3]; decide) n4
          rw [mB_self, mB_t] at h
          exact h) (by decide) (fun h => by cases h)
theorem st_addBags (hw : Wd Γ k xo mo T R S I L) (hk : k ≤ 599) (hol : mo + 18 ≤ ol) {y kk f : Int32} : BSt Γ k xo mo ol 100 100 Y_X8_addBags Y_X9_addBags [.int y, .int kk, .int f] [(0, 0), (1, 1), (2, 2), (3, 3)] T R S I L := by
  have hw0 := hw
  obtain ⟨p, p2, a, a2, u, nx, hl, hb, ha⟩ := hw
  obtain ⟨c, nf, nl, ln, hc⟩ := Wc ha
  obtain ⟨hair, hX, ⟨c1, c2, c3, c4⟩, ⟨f1, f2, f3⟩, ⟨l1, l2, l3⟩, ⟨n1, n2, n3⟩, mm, lw⟩ := hc
  have htk : ∀ (h5 : I xo 1 = 1), ∃ t H, t ≤ 9999 ∧ sK I a 0 0 = nI t ∧ I (mo + 4) 0 = nI t ∧ AirP nf H (sK I p) (sK I mo) ∧ SR k nf (I (mo + 2)) (sK I a) (L a 1) (I (mo + 4)) := fun h5 => by
    obtain ⟨H, hP, hS⟩ := (WA.of ha h5).n f1 f3
    obtain ⟨t, t0, t1⟩ := hS.2.2.1
    exact ⟨t, H, t1, hS.1.clk.trans t0, t0, hP, hS⟩
  have hh := hb.2.2.2.2.2
  have hC : ∀ D, _ := fun D => ex_addBags (Γ := Γ) (d := 92) (T := T) (R := R) (S := S) (I := I) (K := sK I a) (L := L) (D := D) hl.1 hh.2.2.2.1 hh.2.2.1 hh.2.1 hh.1 c2 c1 (y := y) (k := kk) (f := f)
  rcases gd_a hair with ⟨g1, g2⟩ | ⟨g1, g5, g2⟩
  · refine BSt.q (n := 1) (t := 1) (v := 0) (w := 0) hw0 hol (fun D => by
      have h := hC D
      rw [g1, blk_sK] at h
      exact h) (fun L' D' => by
      have h := ex_maddBags_no (Γ := Γ) (d := 97) (T := T) (R := R) (S := S) (I := I) (A := sK I mo) (X := sK I mo 4) (L := L') (D := D') (z := none) hl.2.1 (y := y) (k := kk) (b := f) (g2 _).2
      rw [mB_self, mB_t, (g2 _).1] at h
      exact h) (by decide) (fun h => by cases h)
  · obtain ⟨t, H, t1, t2, t3, hP, hS⟩ := htk g5
    have e1 : mOk (sK I mo) 1 = 1 := (g2 1).2
    rcases in_n (c := nf) (by omega) f with ⟨j, j1, rfl, j3, j4⟩ | ⟨j3, j4⟩
    · rcases in_lh (lo := 1) (hi := 999) (by omega) (by omega) y with ⟨m, m1, m2, rfl, m4, m5⟩ | ⟨m4, m5⟩
      · rcases er_in kk 1 (100 - nI c) with ⟨k4, k5⟩ | ⟨k4, k5⟩
        · obtain ⟨N, N1, N2, rfl⟩ := eRng_n c1 k4
          have et : nI t + nI m = nI (t + m) := nI_add t m
          have hS2 := (SR.adds (ta := t + m) (fv := j) (by omega) j1 f1 f3 N c _ _ hS c4 N2 (by rw [t3]; exact nI_ltN (by omega) (by omega)))
          refine BSt.ch hl hb (WA.of ha g5) hol f1 f3 (fun D => by
              have h := hC D
              rw [g1, show sK I p 0 6 = nI nf from f2, j4, show eRng (nI m) 1 999 = 0 from m5, show sK I a 1 0 = nI c from c2, k4, blk_sK, t2, et, nN_nI (show N < 2 ^ 31 by omega)] at h
              exact h) (fun I1 L' D' eA => by
              have h := ex_maddBags_ok (Γ := Γ) (d := 97) (T := T) (R := R) (S := S) (I := I1) (A := sK I1 mo) (X := sK I1 mo 4) (L := L') (D := D') (z := none) hl.2.1 (by rw [eA]; exact hh.2.2.2.2) hh.1 (y := nI m) (b := nI j) (c := c) (N := N) (by rw [eA, (g2 _).2, show sK I mo 2 12 = nI nf from f3, j3]; decide) (by rw [show inI (nI m) 1 999 = 1 from m4]; decide) (by rw [eA, show sK I mo 4 2 = nI c from c3, k5]; decide) (by rw [eA]; exact c3) N2
              rw [mB_self, eA, (g2 _).1, show sK I mo 2 12 = nI nf from f3, j3, if_neg (show ¬ (1 : Int32) = 0 by decide), show sK I mo 4 0 = nI t from t3, et] at h
              exact h) (hS2.up (Nat.le_succ k)) (by decide) (c3)
        · refine BSt.q (n := 3) (t := 3) (v := 0) (w := 0) hw0 hol (fun D => by
            have h := hC D
            rw [g1, show sK I p 0 6 = nI nf from f2, j4, show eRng (nI m) 1 999 = 0 from m5, show sK I a 1 0 = nI c from c2, k4, blk_sK] at h
            exact h) (fun L' D' => by
            have h := ex_maddBags_b2 (Γ := Γ) (d := 97) (T := T) (R := R) (S := S) (I := I) (A := sK I mo) (X := sK I mo 4) (L := L') (D := D') (z := none) hl.2.1 (y := nI m) (k := kk) (b := nI j) (by rw [(g2 _).2, show sK I mo 2 12 = nI nf from f3, j3]; decide) (by rw [show inI (nI m) 1 999 = 1 from m4]; decide) (by rw [show sK I mo 4 2 = nI c from c3]; exact k5)
            rw [mB_self, mB_t] at h
            exact h) (by decide) (fun h => by cases h)
      · refine BSt.q (n := 3) (t := 3) (v := 0) (w := 0) hw0 hol (fun D => by
          have h := hC D
          rw [g1, show sK I p 0 6 = nI nf from f2, j4, show eRng y 1 999 = 3 from m5, blk_sK] at h
          exact h) (fun L' D' => by
          have h := ex_maddBags_b1 (Γ := Γ) (d := 97) (T := T) (R := R) (S := S) (I := I) (A := sK I mo) (X := sK I mo 4) (L := L') (D := D') (z := none) hl.2.1 (y := y) (k := kk) (b := nI j) (by rw [(g2 _).2, show sK I mo 2 12 = nI nf from f3, j3]; decide) m4
          rw [mB_self, mB_t] at h
          exact h) (by decide) (fun h => by cases h)
    · refine BSt.q (n := 2) (t := 2) (v := 0) (w := 0) hw0 hol (fun D => by
        have h := hC D
        rw [g1, show sK I p 0 6 = nI nf from f2, j4, blk_sK] at h
        exact h) (fun L' D' => by
        have h := ex_maddBags_no (Γ := Γ) (d := 97) (T := T) (R := R) (S := S) (I := I) (A := sK I mo) (X := sK I mo 4) (L := L') (D := D') (z := none) hl.2.1 (y := y) (k := kk) (b := f) (by rw [(g2 _).2, show sK I mo 2 12 = nI nf from f3, j3]; rfl)
        rw [mB_self, mB_t, (g2 _).1, show sK I mo 2 12 = nI nf from f3, j3] at h
        exact h) (by decide) (fun h => by cases h)
theorem st_advance (hw : Wd Γ k xo mo T R S I L) (hk : k ≤ 599) (hol : mo + 18 ≤ ol) {n : Int32} : BSt Γ k xo mo ol 100 100 Y_X8_advance Y_X9_advance [.int n] [(0, 0), (1, 1), (3, 2)] T R S I L := by
  have hw0 := hw
  obtain ⟨p, p2, a, a2, u, nx, hl, hb, ha⟩ := hw
  obtain ⟨c, nf, nl, ln, hc⟩ := Wc ha
  obtain ⟨hair, hX, ⟨c1, c2, c3, c4⟩, ⟨f1, f2, f3⟩, ⟨l1, l2, l3⟩, ⟨n1, n2, n3⟩, mm, lw⟩ := hc
  have htk : ∀ (h5 : I xo 1 = 1), ∃ t H, t ≤ 9999 ∧ sK I a 0 0 = nI t ∧ I (mo + 4) 0 = nI t ∧ AirP nf H (sK I p) (sK I mo) ∧ SR k nf (I (mo + 2)) (sK I a) (L a 1) (I (mo + 4)) := fun h5 => by
    obtain ⟨H, hP, hS⟩ := (WA.of ha h5).n f1 f3
    obtain ⟨t, t0, t1⟩ := hS.2.2.1
    exact ⟨t, H, t1, hS.1.clk.trans t0, t0, hP, hS⟩
  rcases gd_a hair with ⟨g1, g2⟩ | ⟨g1, g5, g2⟩
  all_goals have hh := hb.2.2.2.2.2
  · refine BSt.q (n := 1) (t := 1) (v := 0) (w := 0) hw0 hol (fun D => by
      have h := ex_advance_no (Γ := Γ) (d := 92) (K := sK I a) (L := L) (D := D) (hl.1.cx I) (by
        unfold eAir at g1
        exact Decidable.byContradiction fun g => by rw [if_neg g] at g1; cases g1) (n := n)
      rw [blk_sK] at h
      exact h) (fun L' D' => by
      have h := ex_madvance_no (Γ := Γ) (d := 70) (R := R) (I := I) (A := sK I mo) (X := sK I mo 4) (L := L') (D := D') (z := none) hl.2.1 (n := n) (g2 _).2
      rw [mB_self, mB_t, (g2 _).1] at h
      exact h) (by decide) (fun h => by cases h)
  · obtain ⟨t, H, t1, t2, t3, hP, hS⟩ := htk g5
    have hC : ∀ D, _ := fun D => ex_advance (Γ := Γ) (d := 92) (T := T) (R := R) (S := S) (I := I) (K := sK I a) (L := L) (D := D) hl.1 hh.2.2.2.1 hh.2.2.1 hh.2.1 hh.1 hP.2.2.2.1 c2 c1 hS.lw (n := n)
    have e1 : mOk (sK I mo) 1 = 1 := (g2 1).2
    rcases gd_t (vm := 500) (ms := 500) rfl (K := sK I a) (X := sK I mo 4) t2 t3 t1 (by omega) (by omega) n with ⟨N, m1, m2, rfl, m3, m4, m5⟩ | ⟨m4, m5⟩
    · have hlt := hl.2.2.2
      have hr := SR.run (c := c) (by omega) hP rfl N (sK I a, L a 1) (sK I mo 4) t hS c4 t3 m3
      have v1 := vl_cnt hr.1 (s := 10) (by omega)
      have v2 := vl_cnt hS (s := 10) (by omega)
      rw [hr.2.1] at v1
      rw [c4] at v2
      intro D
      refine ⟨0, 0, nI (mIn (mRun H (sK I mo 2) N (sK I mo 4)) 10 c) - nI (mIn (sK I mo 4) 10 c), fun S1 I1 L1 => S1 = S ∧ ∃ V, I1 = blk 19 (vv (remB I (sK I a) (xo + 73) nx u) p V) a (kRun (sK I p) c N (sK I a, L a 1)).1 ∧ L1 = u2 (u2 L (xo + 73 + 2 + 19 * nx) 1 (L a 1)) a 1 (kRun (sK I p) c N (sK I a, L a 1)).2, by decide, ?_, fun S1 I1 L1 L' D' h hL => ?_⟩
      · have h := hC D
        rw [g1, m4, blk_sK, nN_nI (show N < 2 ^ 31 by omega)] at h
        refine h.mono fun o M1 h9 => ?_
        obtain ⟨w, h1, V, h2, h3⟩ := h9
        exact ⟨by rw [h1, h2]; exact congrArg (fun x => Sum.inl (some (Value.int x))) (show atV 14 _ (nI 10) - atV 14 _ (nI 10) = nI _ - nI _ by rw [v1, show atV 14 (sK I a 8) (nI 10) = _ from v2]; rfl), S, _, _, h3, rfl, V, rfl, rfl⟩
      · obtain ⟨rfl, V, h1, h2⟩ := h
        have m5' := (ch_mem hl hh.2.1 h1).2.2.2.2
        have eA : sK I1 mo = sK I mo := funext fun c => m5' _ (by omega)
        have h := ex_madvance_ok (Γ := Γ) (d := 70) (T := T) (R := R) (S := S1) (I := I1) (A := sK I1 mo) (X := sK I1 mo 4) (L := L') (D := D') (z := none) (H := H) (Q := sK I mo 2) (c := c) hl.2.1 (by rw [eA]; exact hh.2.2.2.2) hh.1 (N := N) (by omega) hP.2.1 (by rw [eA]) (by rw [eA]; exact hP.2.2.2.2.2.1) (by rw [eA]; exact hS.2.1.1) (by rw [eA]; exact c4) (by rw [eA]; exact ⟨hr.1.i, hr.2.1⟩) (by rw [eA, e1]; decide) (by rw [eA, m5]; decide)
        rw [mB_self, eA] at h
        refine h.mono fun o M2 h9 => ?_
        obtain ⟨V2, h4, h5⟩ := h9
        obtain ⟨q1, q2⟩ := Wd.rem2 (V2 := V2) (A' := st (av (remA (tA (sK I mo) 0) (sK I mo 4) u) V2) 4 (mRun H (sK I mo 2) N (sK I mo 4))) hl hb (WA.of ha g5) f1 f3 h1 h2 (fun b hb => hL b (by omega)) rfl (hr.1.up (Nat.le_succ k))
        exact ⟨_, _, _, ⟨h4, fun _ => rfl⟩, h5, q1, q2⟩
    · refine BSt.q (n := 3) (t := 2) (v := 0) (w := 0) hw0 hol (fun D => by
        have h := hC D
        rw [g1, m4, blk_sK] at h
        exact h) (fun L' D' => by
        have h := ex_madvance_bad (Γ := Γ) (d := 70) (T := T) (R := R) (S := S) (I := I) (A := sK I mo) (X := sK I mo 4) (L := L') (D := D') (z := none) hl.2.1 (n := n) (by rw [e1]; decide) m5
        rw [mB_self, mB_t] at h
        exact h) (by decide) (fun h => by cases h)
end Q19
