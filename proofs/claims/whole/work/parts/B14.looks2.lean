/-! MORE LOOKS AHEAD, BOTH SIDES -/
theorem mHB_01 (H : Nat → JV → Nat → Bool) (Q X : JV) (b : Nat) : mHB H Q X b = 0 ∨ mHB H Q X b = 1 := by
  unfold mHB srch
  split
  · exact Or.inr rfl
  · exact Or.inl rfl
theorem kHB_01 (P K : JI) (b : Int32) : kHB P K b = 0 ∨ kHB P K b = 1 := by
  unfold kHB srch
  split
  · exact Or.inl rfl
  · split
    · exact Or.inr rfl
    · exact Or.inl rfl
theorem bk_bd {sv sm : Nat → Int32} {s0 : Nat} {m : Nat → Nat} (hs : s0 ≤ 100) (hm : ∀ i, i ≤ 10 → m i ≤ 100 ∧ sm i = nI (m i) ∧ sv i = nI (m i) - nI s0) : ∀ (k i : Nat) (b : Int32) (f : Nat), i + k = 11 → f ≤ 100 → b ≠ -1 → bkL sv k i b (nI f - nI s0) = bdL sm k i b (nI f)
  | 0, _, _, _, _, _, _ => rfl
  | k + 1, i, b, f, hi, hf, hb => by
    obtain ⟨h1, h2, h3⟩ := hm i (by omega)
    have e1 := nI_ti (n := f) (by omega)
    have e2 := nI_ti (n := s0) (by omega)
    have e3 := nI_ti (n := m i) (by omega)
    show (if nI f - nI s0 ≤ sv i then bkL sv k (i + 1) b (nI f - nI s0) else bkL sv k (i + 1) (nI (5 * i)) (sv i)) = if b = -1 then bdL sm k (i + 1) (nI (5 * i)) (sm i) else if sm i < nI f then bdL sm k (i + 1) (nI (5 * i)) (sm i) else bdL sm k (i + 1) b (nI f)
    rw [if_neg hb, h2, h3]
    have e4 : nI f - nI s0 ≤ nI (m i) - nI s0 ↔ ¬ nI (m i) < nI f := by
      rw [fa_le, fa_lt, sub_ti (by omega) (by omega), sub_ti (by omega) (by omega)]
      omega
    by_cases g : nI (m i) < nI f
    · rw [if_neg (fun g2 => e4.mp g2 g), if_pos g]
      exact bk_bd hs hm k (i + 1) _ (m i) (by omega) h1 (nI_ne1 (by omega))
    · rw [if_pos (e4.mpr g), if_neg g]
      exact bk_bd hs hm k (i + 1) b f (by omega) hf hb
theorem bk_bd0 {sv sm : Nat → Int32} {s0 : Nat} {m : Nat → Nat} (hs : s0 ≤ 100) (hm : ∀ i, i ≤ 10 → m i ≤ 100 ∧ sm i = nI (m i) ∧ sv i = nI (m i) - nI s0) : bkL sv 11 0 0 101 = bdL sm 11 0 (-1) 0 := by
  obtain ⟨h1, h2, h3⟩ := hm 0 (by omega)
  have e2 := nI_ti (n := s0) (by omega)
  have e3 := nI_ti (n := m 0) (by omega)
  show (if (101 : Int32) ≤ sv 0 then bkL sv 10 1 0 101 else bkL sv 10 1 (nI 0) (sv 0)) = if (-1 : Int32) = -1 then bdL sm 10 1 (nI 0) (sm 0) else _
  rw [if_pos rfl, if_neg ?_, h2, h3]
  · exact bk_bd hs hm 10 1 _ (m 0) (by omega) h1 (nI_ne1 (by omega))
  · rw [h3, fa_le, sub_ti (by omega) (by omega), show (101 : Int32).toInt = 101 from rfl]
    omega
section Q14
variable {Γ : Gam} {k xo mo ol : Nat} {T : JT} {R S : JR} {I : JI} {L : JL}
theorem st_isKept (hw : Wd Γ k xo mo T R S I L) (hk : k ≤ 599) (hol : mo + 18 ≤ ol) {b : Int32} : BSt Γ k xo mo ol 100 100 Y_X8_isKept Y_X9_isKept [.int b] [(0, 0), (1, 1), (2, 2)] T R S I L := by
  have hw0 := hw
  obtain ⟨p, p2, a, a2, u, nx, hl, hb, ha⟩ := hw
  obtain ⟨c, nf, nl, ln, hc⟩ := Wc ha
  obtain ⟨hair, hX, ⟨c1, c2, c3, c4⟩, ⟨f1, f2, f3⟩, ⟨l1, l2, l3⟩, ⟨n1, n2, n3⟩, mm, lw⟩ := hc
  have htk : ∀ (h5 : I xo 1 = 1), ∃ t H, t ≤ 9999 ∧ sK I a 0 0 = nI t ∧ I (mo + 4) 0 = nI t ∧ AirP nf H (sK I p) (sK I mo) ∧ SR k nf (I (mo + 2)) (sK I a) (L a 1) (I (mo + 4)) := fun h5 => by
    obtain ⟨H, hP, hS⟩ := (WA.of ha h5).n f1 f3
    obtain ⟨t, t0, t1⟩ := hS.2.2.1
    exact ⟨t, H, t1, hS.1.clk.trans t0, t0, hP, hS⟩
  rcases gd_a hair with ⟨g1, g2⟩ | ⟨g1, g5, g2⟩
  · refine BSt.q (n := 1) (t := 1) (v := 0) (w := 0) hw0 hol (fun D => by
      have h := ex_isKept_no (Γ := Γ) (d := 92) (K := sK I a) (L := L) (D := D) (hl.1.cx I) (by
        unfold eAir at g1
        exact Decidable.byContradiction fun g => by rw [if_neg g] at g1; cases g1) (b := b)
      rw [blk_sK] at h
      exact h) (fun L' D' => by
      have h := ex_misKept_no (Γ := Γ) (d := 74) (R := R) (I := I) (A := sK I mo) (X := sK I mo 4) (L := L') (D := D') (z := none) hl.2.1 (b := b) (g2 _).2
      rw [mB_self, mB_t, (g2 _).1] at h
      exact h) (by decide) (fun h => by cases h)
  · obtain ⟨t, H, t1, t2, t3, hP, hS⟩ := htk g5
    have hC : ∀ D, _ := fun D => ex_isKept (Γ := Γ) (d := 92) (T := T) (R := R) (S := S) (I := I) (K := sK I a) (L := L) (D := D) (hl.1.cx I) hP.2.2.2.1 (V := I (p + 15)) (b := b)
    rcases in_n (c := c) (by omega) b with ⟨j, j1, rfl, j3, j4⟩ | ⟨j3, j4⟩
    · refine BSt.la (n := 0) (t := 0) hl hb ha hol (fun D => by
        have h := hC D
        rw [orE_0, g1, show sK I a 1 0 = nI c from c2, j4, vv_self, blk_sK] at h
        refine h.mono fun o M1 h9 => ?_
        obtain ⟨w, h1, V, h2, h3⟩ := h9
        have hps := hl.ps
        refine ⟨by rw [h1, h2]; rfl, _, _, h3, fun b q1 q2 q3 q4 => ?_, fun b q1 q2 q3 => rfl, fun b hb => ?_⟩
        · by_cases e : b < a ∨ a + 19 ≤ b
          · rw [blk_out e]
            funext i
            exact if_neg q4
          · rw [show b = a + (b - a) by omega, blk_k (by omega)]
            rfl
        · rw [blk_out (by omega)]
          funext i
          exact if_neg (by omega)) (fun I1 L' D' eA => by
        have h := ex_misKept_ok (Γ := Γ) (d := 74) (T := T) (R := R) (S := S) (I := I1) (A := sK I1 mo) (X := sK I1 mo 4) (L := L') (D := D') (z := none) (H := H) (Q := sK I mo 2) hl.2.1 (n := j) (by omega) hP.2.1 (by rw [eA]) (by rw [eA]; exact hP.2.2.2.2.2.1) (by rw [eA]; exact hX) (by rw [eA, (g2 _).2, show sK I mo 4 2 = nI c from c3, j3]; decide)
        rw [mB_self, eA, (g2 _).1, show sK I mo 4 2 = nI c from c3, j3] at h
        refine h.mono fun o M2 h9 => ?_
        obtain ⟨V, h1, h2⟩ := h9
        exact ⟨_, h1, h2, mA_av rfl⟩) (by decide) (fun _ => by
        have hh := hP.2.2.2.2.1 (sK I a) (L a 1) (sK I mo 4) hS.1 hS.2.1 (hS.2.2.n (by omega)) j (by rw [show mC (sK I mo 4) = c from c4]; exact j1)
        rcases mHB_01 H (sK I mo 2) (sK I mo 4) j with e1 | e1 <;> rcases kHB_01 (sK I p) (sK I a) (nI j) with e2 | e2
        · rw [e1, e2]
        · rw [hh.mpr e1] at e2; cases e2
        · rw [hh.mp e2] at e1; cases e1
        · rw [e1, e2])
    · refine BSt.q (n := 2) (t := 2) (v := 0) (w := 0) hw0 hol (fun D => by
        have h := hC D
        rw [orE_0, g1, show sK I a 1 0 = nI c from c2, j4, vv_self, blk_sK] at h
        exact h) (fun L' D' => by
        have h := ex_misKept_no (Γ := Γ) (d := 74) (R := R) (I := I) (A := sK I mo) (X := sK I mo 4) (L := L') (D := D') (z := none) hl.2.1 (b := b) (by rw [(g2 _).2, show sK I mo 4 2 = nI c from c3, j3]; rfl)
        rw [mB_self, mB_t, (g2 _).1, show sK I mo 4 2 = nI c from c3, j3] at h
        exact h) (by decide) (fun h => by cases h)
theorem st_timeToClear (hw : Wd Γ k xo mo T R S I L) (hk : k ≤ 599) (hol : mo + 18 ≤ ol) {n : Int32} : BSt Γ k xo mo ol 100 100 Y_X8_timeToClear Y_X9_timeToClear [.int n] [(0, 0), (1, 1), (3, 2)] T R S I L := by
  have hw0 := hw
  obtain ⟨p, p2, a, a2, u, nx, hl, hb, ha⟩ := hw
  obtain ⟨c, nf, nl, ln, hc⟩ := Wc ha
  obtain ⟨hair, hX, ⟨c1, c2, c3, c4⟩, ⟨f1, f2, f3⟩, ⟨l1, l2, l3⟩, ⟨n1, n2, n3⟩, mm, lw⟩ := hc
  have htk : ∀ (h5 : I xo 1 = 1), ∃ t H, t ≤ 9999 ∧ sK I a 0 0 = nI t ∧ I (mo + 4) 0 = nI t ∧ AirP nf H (sK I p) (sK I mo) ∧ SR k nf (I (mo + 2)) (sK I a) (L a 1) (I (mo + 4)) := fun h5 => by
    obtain ⟨H, hP, hS⟩ := (WA.of ha h5).n f1 f3
    obtain ⟨t, t0, t1⟩ := hS.2.2.1
    exact ⟨t, H, t1, hS.1.clk.trans t0, t0, hP, hS⟩
  rcases gd_a hair with ⟨g1, g2⟩ | ⟨g1, g5, g2⟩
  · refine BSt.q (n := 1) (t := 1) (v := 0) (w := 0) hw0 hol (fun D => by
      have h := ex_timeToClear_no (Γ := Γ) (d := 92) (K := sK I a) (L := L) (D := D) (hl.1.cx I) (by
        unfold eAir at g1
        exact Decidable.byContradiction fun g => by rw [if_neg g] at g1; cases g1) (n := n)
      rw [blk_sK] at h
      exact h) (fun L' D' => by
      have h := ex_mtimeToClear_no (Γ := Γ) (d := 70) (R := R) (I := I) (A := sK I mo) (X := sK I mo 4) (L := L') (D := D') (z := none) hl.2.1 (n := n) (g2 _).2
      rw [mB_self, mB_t, (g2 _).1] at h
      exact h) (by decide) (fun h => by cases h)
  · obtain ⟨t, H, t1, t2, t3, hP, hS⟩ := htk g5
    have hC : ∀ D, _ := fun D => ex_timeToClear (Γ := Γ) (d := 92) (T := T) (R := R) (S := S) (I := I) (K := sK I a) (L := L) (D := D) hl.1 hP.2.2.2.1 c2 c1 hS.lw (n := n)
    have e1 : mOk (sK I mo) 1 = 1 := (g2 1).2
    rcases gd_t (vm := 500) (ms := 500) rfl (K := sK I a) (X := sK I mo 4) t2 t3 t1 (by omega) (by omega) n with ⟨N, m1, m2, rfl, m3, m4, m5⟩ | ⟨m4, m5⟩
    · refine BSt.la (n := 0) (t := 0) hl hb ha hol (fun D => by
        have h := hC D
        rw [g1, m4, blk_sK, nN_nI (show N < 2 ^ 31 by omega)] at h
        refine h.mono fun o M1 h9 => ?_
        obtain ⟨w, h1, V, x, h2, h3⟩ := h9
        exact ⟨by rw [h1, h2]; rfl, _, _, h3, la_mem hl⟩) (fun I1 L' D' eA => by
        have h := ex_mtimeToClear_ok (Γ := Γ) (d := 70) (T := T) (R := R) (S := S) (I := I1) (A := sK I1 mo) (X := sK I1 mo 4) (L := L') (D := D') (z := none) (H := H) (Q := sK I mo 2) hl.2.1 (N := N) (by omega) hP.2.1 (by rw [eA]) (by rw [eA]; exact hP.2.2.2.2.2.1) (by rw [eA]; exact hS.2.1.1) (by rw [eA, e1]; decide) (by rw [eA, m5]; decide)
        rw [mB_self, eA] at h
        refine h.mono fun o M2 h9 => ?_
        obtain ⟨h1, V, Y, h2⟩ := h9
        exact ⟨_, h1, h2, mA_s46 rfl⟩) (by decide) (fun _ => by
        exact (SR.clear (c := c) (by omega) hP rfl N 0 (kCp (sK I a2) (sK I a), L a 1) (cpw (sK I mo 6) 0 2086 (sK I mo 4)) t ((hS.kag (kCp_kag _ _)).ag (cpw_ag _ _) f1) ((cpw_ag (sK I mo 6) (sK I mo 4)).c.trans c4) ((cpw_ag (sK I mo 6) (sK I mo 4) 0 (by omega)).trans t3) m3).symm)
    · refine BSt.q (n := 3) (t := 2) (v := 0) (w := 0) hw0 hol (fun D => by
        have h := hC D
        rw [g1, m4, blk_sK] at h
        exact h) (fun L' D' => by
        have h := ex_mtimeToClear_bad (Γ := Γ) (d := 70) (R := R) (I := I) (A := sK I mo) (X := sK I mo 4) (L := L') (D := D') (z := none) hl.2.1 (n := n) (by rw [e1]; decide) m5
        rw [mB_self, mB_t] at h
        exact h) (by decide) (fun h => by cases h)
theorem st_withoutLane (hw : Wd Γ k xo mo T R S I L) (hk : k ≤ 599) (hol : mo + 18 ≤ ol) {l n : Int32} : BSt Γ k xo mo ol 100 100 Y_X8_withoutLane Y_X9_withoutLane [.int l, .int n] [(0, 0), (1, 1), (2, 2), (3, 3)] T R S I L := by
  have hw0 := hw
  obtain ⟨p, p2, a, a2, u, nx, hl, hb, ha⟩ := hw
  obtain ⟨c, nf, nl, ln, hc⟩ := Wc ha
  obtain ⟨hair, hX, ⟨c1, c2, c3, c4⟩, ⟨f1, f2, f3⟩, ⟨l1, l2, l3⟩, ⟨n1, n2, n3⟩, mm, lw⟩ := hc
  have htk : ∀ (h5 : I xo 1 = 1), ∃ t H, t ≤ 9999 ∧ sK I a 0 0 = nI t ∧ I (mo + 4) 0 = nI t ∧ AirP nf H (sK I p) (sK I mo) ∧ SR k nf (I (mo + 2)) (sK I a) (L a 1) (I (mo + 4)) := fun h5 => by
    obtain ⟨H, hP, hS⟩ := (WA.of ha h5).n f1 f3
    obtain ⟨t, t0, t1⟩ := hS.2.2.1
    exact ⟨t, H, t1, hS.1.clk.trans t0, t0, hP, hS⟩
  rcases gd_a hair with ⟨g1, g2⟩ | ⟨g1, g5, g2⟩
  · refine BSt.q (n := 1) (t := 1) (v := 0) (w := 0) hw0 hol (fun D => by
      have h := ex_withoutLane_no (Γ := Γ) (d := 92) (K := sK I a) (L := L) (D := D) (hl.1.cx I) (by
        unfold eAir at g1
        exact Decidable.byContradiction fun g => by rw [if_neg g] at g1; cases g1) (l := l) (n := n)
      rw [blk_sK] at h
      exact h) (fun L' D' => by
      have h := ex_mwithoutLane_no (Γ := Γ) (d := 69) (R := R) (I := I) (A := sK I mo) (X := sK I mo 4) (L := L') (D := D') (z := none) hl.2.1 (b := l) (y := n) (g2 _).2
      rw [mB_self, mB_t, (g2 _).1] at h
      exact h) (by decide) (fun h => by cases h)
  · obtain ⟨t, H, t1, t2, t3, hP, hS⟩ := htk g5
    have hC : ∀ D, _ := fun D => ex_withoutLane (Γ := Γ) (d := 92) (T := T) (R := R) (S := S) (I := I) (K := sK I a) (L := L) (D := D) hl.1 hP.2.2.2.1 c2 c1 hS.lw (l := l) (n := n)
    rcases in_n (c := nl) (by omega) l with ⟨j, j1, rfl, j3, j4⟩ | ⟨j3, j4⟩
    · rcases gd_t (vm := 500) (ms := 500) rfl (K := sK I a) (X := sK I mo 4) t2 t3 t1 (by omega) (by omega) n with ⟨N, m1, m2, rfl, m3, m4, m5⟩ | ⟨m4, m5⟩
      · have hset : ∀ G, SR k nf (I (mo + 2)) (u2 (kCp (sK I a2) (sK I a)) 11 j 1) (L a 1) (w1 (cpw G 0 2086 (sK I mo 4)) (25 + j) 1) := fun G => ((hS.kag (kCp_kag _ _)).ag (cpw_ag _ _) f1).set (mt11 (by omega)) (by omega) (by unfold fre; omega) (rg_free (by omega)) (by omega) f1
        have hmc : ∀ G, mC (w1 (cpw G 0 2086 (sK I mo 4)) (25 + j) 1) = c := fun G => (mC_w (by omega)).trans ((cpw_ag G (sK I mo 4)).c.trans c4)
        have hmt : ∀ G, w1 (cpw G 0 2086 (sK I mo 4)) (25 + j) 1 0 = nI t := fun G => (w1_ne (by omega)).trans ((cpw_ag G (sK I mo 4) 0 (by omega)).trans t3)
        have hr := fun G => SR.run (c := c) (by omega) hP rfl N (u2 (kCp (sK I a2) (sK I a)) 11 j 1, L a 1) _ t (hset G) (hmc G) (hmt G) m3
        refine BSt.la (n := 0) (t := 0) hl hb ha hol (fun D => by
          have h := hC D
          rw [g1, show sK I p 0 8 = nI nl from l2, j4, m4, blk_sK, nN_nI (show N < 2 ^ 31 by omega), putI_n (show j < 4 by omega) (by omega)] at h
          refine h.mono fun o M1 h9 => ?_
          obtain ⟨w, h1, V, h2, h3⟩ := h9
          exact ⟨by rw [h1, h2]; rfl, _, _, h3, la_mem hl⟩) (fun I1 L' D' eA => by
          have h := ex_mwithoutLane_ok (Γ := Γ) (d := 69) (T := T) (R := R) (S := S) (I := I1) (A := sK I1 mo) (X := sK I1 mo 4) (L := L') (D := D') (z := none) (H := H) (Q := sK I mo 2) (c := c) hl.2.1 (N := N) (n := j) (by omega) (by omega) hP.2.1 (by rw [eA]) (by rw [eA]; exact hP.2.2.2.2.2.1) (by rw [eA]; exact hS.2.1.1) (by rw [eA]; exact c4) (by rw [eA]; exact fun G => ⟨(hr G).1.i, (hr G).2.1⟩) (by rw [eA, (g2 _).2, show sK I mo 2 13 = nI nl from l3, j3]; decide) (by rw [eA, m5]; decide)
          rw [mB_self, eA, (g2 _).1, show sK I mo 2 13 = nI nl from l3, j3] at h
          refine h.mono fun o M2 h9 => ?_
          obtain ⟨V, h1, h2⟩ := h9
          exact ⟨_, h1, h2, mA_s46 rfl⟩) (by decide) (fun _ => by
          have v1 := vl_cnt (hr (sK I mo 6)).1 (s := 10) (by omega)
          have v2 := vl_cnt (hset (sK I mo 6)) (s := 10) (by omega)
          rw [(hr (sK I mo 6)).2.1] at v1
          have v3 := vl_cnt hS (s := 10) (by omega)
          rw [c4] at v3
          have v4 := vl_cnt (hS.kag (kCp_kag (sK I a2) _)) (s := 10) (by omega)
          rw [c4] at v4
          exact (show nI _ - nI _ = atV 14 _ (nI 10) - atV 14 ((u2 (kCp (sK I a2) (sK I a)) 11 j 1) 8) (nI 10) by rw [v1, u2_ne (show 8 ≠ 11 by omega), v4]; rfl))
      · refine BSt.q (n := 3) (t := 3) (v := 0) (w := 0) hw0 hol (fun D => by
        have h := hC D
        rw [g1, show sK I p 0 8 = nI nl from l2, j4, m4, blk_sK] at h
        exact h) (fun L' D' => by
        have h := ex_mwithoutLane_bad (Γ := Γ) (d := 69) (R := R) (I := I) (A := sK I mo) (X := sK I mo 4) (L := L') (D := D') (z := none) hl.2.1 (b := nI j) (y := n) (by rw [(g2 _).2, show sK I mo 2 13 = nI nl from l3, j3]; decide) m5
        rw [mB_self, mB_t] at h
        exact h) (by decide) (fun h => by cases h)
    · refine BSt.q (n := 2) (t := 2) (v := 0) (w := 0) hw0 hol (fun D => by
        have h := hC D
        rw [g1, show sK I p 0 8 = nI nl from l2, j4, blk_sK] at h
        exact h) (fun L' D' => by
        have h := ex_mwithoutLane_no (Γ := Γ) (d := 69) (R := R) (I := I) (A := sK I mo) (X := sK I mo 4) (L := L') (D := D') (z := none) hl.2.1 (b := l) (y := n) (by rw [(g2 _).2, show sK I mo 2 13 = nI nl from l3, j3]; rfl)
        rw [mB_self, mB_t, (g2 _).1, show sK I mo 2 13 = nI nl from l3, j3] at h
        exact h) (by decide) (fun h => by cases h)
end Q14
