/-! THE BEST DELAY, SHARES: BOTH SIDES -/
theorem mDl_o {X : JV} {f i : Nat} {y : Int32} (hi : i < 5 ∨ 21 ≤ i) (hf : f < 8) : mDl X f y i = X i := by
  unfold mDl
  split
  · rw [w1_ne (by omega), w1_ne (by omega)]
  · rw [w1_ne (by omega)]
/-- as BSt, for a float -/
def BSf (Γ : Gam) (k xo mo ol dc dm : Nat) (yc ym : JY) (args : List Value) (al : List (Nat × Int32)) (T : JT) (R S : JR) (I : JI) (L : JL) : Prop := ∀ D : JD, ∃ (n : Nat) (t : Int32) (v : UInt32) (w : UInt32), (n, t) ∈ al ∧ Ex Γ dc yc (.ref xo :: args) (T, R, S, I, L, D, none) (ec n) (es n) (fun o M1 => o = eO n (.float v) ∧ M1 = (T, R, S, I, L, D, none)) ∧ (n = 0 → w = v ∧ ∃ l a9 : Nat, l ≤ 100 ∧ a9 ≤ 100 ∧ v = shF l a9) ∧ ∀ L' D', (∀ b, b < ol → L' b = L b) → Ex Γ dm ym (.ref mo :: args) (T, R, S, I, L', D', none) 0 0 (fun o M2 => ∃ I2, o = .inl (some (.float w)) ∧ M2 = (T, R, S, I2, L', D', none) ∧ Wd Γ (k + 1) xo mo T R S I2 L' ∧ I2 mo 0 = t)
section C15
variable {Γ : Gam} {d xo a p : Nat} {T : JT} {R S : JR} {I K P : JI} {L : JL} {D : JD} {O : Nat → Int32}
theorem ex_bestDelay_x (hx : cX T R S I xo a p O P) {f n : Int32} {m : Nat} (h : orE (eAir O) (orE (eIdx f (P 0 6)) 0) = m + 1) : Ex Γ (d + 8) Y_X8_bestDelay [.ref xo, .int f, .int n] (T, R, S, blk 19 I a K, L, D, none) (ec (m + 1)) (es (m + 1)) (cE (m + 1) (T, R, S, blk 19 I a K, L, D, none) (fun _ _ => False)) := by
  rw [show m + 1 = orE (orE (eAir O) (orE (eIdx f (P 0 6)) 0)) 0 by rw [orE_0, h]]
  refine Ex.of (by decide) (by simp [Value.category]) (Nat.le_of_ble_eq_true rfl) rfl ?_
  refine jj_aload_n (q := 1) dX8_bestDelay_0 rfl rfl rfl ?_
  refine jj_iload_n (q := 2) dX8_bestDelay_1 rfl rfl rfl ?_
  refine jj_nV1 (n2 := 0) (q := 5) dX8_bestDelay_2 yk_X8_needFlight ml_X8_229 hx.t (ex_needFlight (d := d) hx) rfl rfl rfl rfl (fun g => ?_)
  rw [h] at g
  cases g
theorem ex_bestDelay_t (hx : cX T R S I xo a p O P) {f n : Int32} {m : Nat} (h1 : orE (eAir O) (orE (eIdx f (P 0 6)) 0) = 0) (h : eTik K n 200 = m + 1) : Ex Γ (d + 8) Y_X8_bestDelay [.ref xo, .int f, .int n] (T, R, S, blk 19 I a K, L, D, none) (ec (m + 1)) (es (m + 1)) (cE (m + 1) (T, R, S, blk 19 I a K, L, D, none) (fun _ _ => False)) := by
  rw [show m + 1 = orE (orE (eAir O) (orE (eIdx f (P 0 6)) 0)) (orE (eTik K n 200) 0) by rw [h1, h]; rfl]
  refine Ex.of (by decide) (by simp [Value.category]) (Nat.le_of_ble_eq_true rfl) rfl ?_
  refine jj_aload_n (q := 1) dX8_bestDelay_0 rfl rfl rfl ?_
  refine jj_iload_n (q := 2) dX8_bestDelay_1 rfl rfl rfl ?_
  refine jj_nV1 (n2 := orE (eTik K n 200) 0) (q := 5) dX8_bestDelay_2 yk_X8_needFlight ml_X8_229 hx.t (ex_needFlight (d := d) hx) rfl rfl rfl rfl (fun _ => ?_)
  refine jj_aload_n (q := 6) dX8_bestDelay_5 rfl rfl rfl ?_
  refine jj_iload_n (q := 7) dX8_bestDelay_6 rfl rfl rfl ?_
  refine jj_sipush (v := 200) (q := 10) dX8_bestDelay_7 rfl rfl ?_
  refine jj_nV2 (n2 := 0) (q := 13) dX8_bestDelay_10 yk_X8_needTicks ml_X8_282 hx.t (ex_needTicks (d := d) hx) rfl rfl rfl rfl (fun g => ?_)
  rw [h] at g
  cases g
end C15
section Q15
variable {Γ : Gam} {k xo mo ol : Nat} {T : JT} {R S : JR} {I : JI} {L : JL}
theorem st_bestDelay (hw : Wd Γ k xo mo T R S I L) (hk : k ≤ 599) (hol : mo + 18 ≤ ol) {f n : Int32} : BSt Γ k xo mo ol 100 100 Y_X8_bestDelay Y_X9_bestDelay [.int f, .int n] [(0, 0), (1, 1), (2, 2), (3, 3)] T R S I L := by
  have hw0 := hw
  obtain ⟨p, p2, a, a2, u, nx, hl, hb, ha⟩ := hw
  obtain ⟨c, nf, nl, ln, hc⟩ := Wc ha
  obtain ⟨hair, hX, ⟨c1, c2, c3, c4⟩, ⟨f1, f2, f3⟩, ⟨l1, l2, l3⟩, ⟨n1, n2, n3⟩, mm, lw⟩ := hc
  have htk : ∀ (h5 : I xo 1 = 1), ∃ t H, t ≤ 9999 ∧ sK I a 0 0 = nI t ∧ I (mo + 4) 0 = nI t ∧ AirP nf H (sK I p) (sK I mo) ∧ SR k nf (I (mo + 2)) (sK I a) (L a 1) (I (mo + 4)) := fun h5 => by
    obtain ⟨H, hP, hS⟩ := (WA.of ha h5).n f1 f3
    obtain ⟨t, t0, t1⟩ := hS.2.2.1
    exact ⟨t, H, t1, hS.1.clk.trans t0, t0, hP, hS⟩
  rcases gd_a hair with ⟨g1, g2⟩ | ⟨g1, g5, g2⟩
  · refine BSt.q (n := 1) (t := 1) (v := 0) (w := 0) hw0 hol (fun D => by
      have h := ex_bestDelay_no (Γ := Γ) (d := 92) (K := sK I a) (L := L) (D := D) (hl.1.cx I) (by
        unfold eAir at g1
        exact Decidable.byContradiction fun g => by rw [if_neg g] at g1; cases g1) (f := f) (n := n)
      rw [blk_sK] at h
      exact h) (fun L' D' => by
      have h := ex_mbestDelay_no (Γ := Γ) (d := 69) (R := R) (I := I) (A := sK I mo) (X := sK I mo 4) (L := L') (D := D') (z := none) hl.2.1 (b := f) (y := n) (g2 _).2
      rw [mB_self, mB_t, (g2 _).1] at h
      exact h) (by decide) (fun h => by cases h)
  · obtain ⟨t, H, t1, t2, t3, hP, hS⟩ := htk g5
    rcases in_n (c := nf) (by omega) f with ⟨j, j1, rfl, j3, j4⟩ | ⟨j3, j4⟩
    · rcases gd_t (vm := 200) (ms := 200) rfl (K := sK I a) (X := sK I mo 4) t2 t3 t1 (by omega) (by omega) n with ⟨N, m1, m2, rfl, m3, m4, m5⟩ | ⟨m4, m5⟩
      · have hph := ph_same hS.1 f1 j1
        have hC : ∀ (sv : Nat → Int32) (hsv : ∀ G i, i ≤ 10 → atV 14 ((kRun (sK I p) c (nN (nI N)) (kBd G (sK I a) (nI j) i, (L a 1))).1 8) 11 - atV 14 (kBd G (sK I a) (nI j) i 8) 11 = sv i) D, _ := fun sv hsv D => ex_bestDelay (Γ := Γ) (d := 92) (T := T) (R := R) (S := S) (I := I) (K := sK I a) (L := L) (D := D) hl.1 hP.2.2.2.1 c2 c1 hS.lw (f := nI j) (n := nI N) hsv
        have hd0 : ∀ G G' i, i ≤ 10 → SR (k + 1) nf (I (mo + 2)) (kBd G (sK I a) (nI j) i) (L a 1) (mDl (cpw G' 0 2086 (sK I mo 4)) j (nI (5 * i))) := fun G G' i hi => ((hS.kag (kCp_kag G _)).ag (cpw_ag G' _) f1).dly f1 j1 (by omega) (by omega)
        have hmc : ∀ G' i, mC (mDl (cpw G' 0 2086 (sK I mo 4)) j (nI (5 * i))) = c := fun G' i => by
          have e := (cpw_ag G' (sK I mo 4)).c.trans c4
          unfold mC at e ⊢
          rw [mDl_o (by omega) (by omega)]
          exact e
        have hmt : ∀ G' i, mDl (cpw G' 0 2086 (sK I mo 4)) j (nI (5 * i)) 0 = nI t := fun G' i => by
          rw [mDl_o (by omega) (by omega)]
          exact (cpw_ag G' (sK I mo 4) 0 (by omega)).trans t3
        have hr := fun G G' i (hi : i ≤ 10) => SR.run (c := c) (by omega) hP rfl N (kBd G (sK I a) (nI j) i, L a 1) _ t (hd0 G G' i hi) (hmc G' i) (hmt G' i) m3
        have hcnt := fun G G' i (hi : i ≤ 10) => vl_cnt (hr G G' i hi).1 (s := 11) (by omega)
        have hsame : ∀ G' i, i ≤ 10 → nI (mIn (mRun H (I (mo + 2)) N (mDl (cpw G' 0 2086 (sK I mo 4)) j (nI (5 * i)))) 11 c) = nI (mIn (mRun H (I (mo + 2)) N (mDl (cpw (sK I mo 6) 0 2086 (sK I mo 4)) j (nI (5 * i)))) 11 c) := fun G' i hi => by
          have q1 := hcnt (sK I a2) G' i hi
          have q2 := hcnt (sK I a2) (sK I mo 6) i hi
          rw [(hr (sK I a2) G' i hi).2.1] at q1
          rw [(hr (sK I a2) (sK I mo 6) i hi).2.1] at q2
          exact q1.symm.trans q2
        have hs0 : ∀ G i, i ≤ 10 → atV 14 (kBd G (sK I a) (nI j) i 8) 11 = nI (mIn (sK I mo 4) 11 c) := fun G i hi => by
          have q := vl_cnt (hd0 G (sK I mo 6) i hi) (s := 11) (by omega)
          have q2 := vl_cnt hS (s := 11) (by omega)
          rw [c4] at q2
          have q3 : kBd G (sK I a) (nI j) i 8 = kCp G (sK I a) 8 := by
            unfold kBd kDly
            split
            · rw [putI_ne (by omega), putI_ne (by omega)]
            · rw [putI_ne (by omega)]
          have q4 := vl_cnt (hS.kag (kCp_kag G _)) (s := 11) (by omega)
          rw [c4] at q4
          rw [q3]
          exact q4
        have hle : ∀ (Z : JV) (s : Nat), mIn Z (nI s) c ≤ 100 := fun Z s => by
          rw [mIn_ct]
          exact Nat.le_trans (fb_ct_le _ _) c1
        by_cases hcl : mPh (I (mo + 4)) j = 2
        · refine BSt.q (n := 3) (t := 3) (v := 0) (w := 0) hw0 hol (fun D => by
            have h := hC (fun i => nI (mIn (mRun H (I (mo + 2)) N (mDl (cpw (sK I mo 6) 0 2086 (sK I mo 4)) j (nI (5 * i)))) 11 c) - nI (mIn (sK I mo 4) 11 c)) (fun G i hi => by
              rw [nN_nI (show N < 2 ^ 31 by omega), hs0 G i hi]
              have q := hcnt G (sK I mo 6) i hi
              rw [(hr G (sK I mo 6) i hi).2.1] at q
              exact (show atV 14 _ (nI 11) - _ = _ by rw [q]; rfl)) D
            rw [g1, show sK I p 0 6 = nI nf from f2, j4, m4, show eNcl (sK I a) (nI j) = 3 from if_pos (hph.trans hcl), blk_sK] at h
            exact h) (fun L' D' => by
            have h := ex_mbestDelay_b2 (Γ := Γ) (d := 69) (R := R) (I := I) (A := sK I mo) (X := sK I mo 4) (L := L') (D := D') (z := none) hl.2.1 (n := j) (by omega) (y := nI N) (by rw [(g2 _).2, show sK I mo 2 12 = nI nf from f3, j3]; decide) (by rw [m5]; decide) hcl
            rw [mB_self, mB_t] at h
            exact h) (by decide) (fun h => by cases h)
        · refine BSt.la (n := 0) (t := 0) hl hb ha hol (fun D => by
            have h := hC (fun i => nI (mIn (mRun H (I (mo + 2)) N (mDl (cpw (sK I mo 6) 0 2086 (sK I mo 4)) j (nI (5 * i)))) 11 c) - nI (mIn (sK I mo 4) 11 c)) (fun G i hi => by
              rw [nN_nI (show N < 2 ^ 31 by omega), hs0 G i hi]
              have q := hcnt G (sK I mo 6) i hi
              rw [(hr G (sK I mo 6) i hi).2.1] at q
              exact (show atV 14 _ (nI 11) - _ = _ by rw [q]; rfl)) D
            rw [g1, show sK I p 0 6 = nI nf from f2, j4, m4, show eNcl (sK I a) (nI j) = 0 from if_neg (fun e => hcl (hph.symm.trans e)), blk_sK] at h
            refine h.mono fun o M1 h9 => ?_
            obtain ⟨w, h1, J, M, q1, q2, h2, h3⟩ := h9
            have hps := hl.ps
            refine ⟨by rw [h1, h2]; rfl, _, _, h3, fun b r1 r2 r3 r4 => ?_, fun b r1 r2 r3 => q2 b (by omega), fun b hb => ?_⟩
            · by_cases e : b < a ∨ a + 19 ≤ b
              · rw [blk_out e]
                exact q1 b r3 r4
              · rw [show b = a + (b - a) by omega, blk_k (by omega)]
                rfl
            · rw [blk_out (by omega)]
              exact q1 b (by omega) (by omega)) (fun I1 L' D' eA => by
            have h := ex_mbestDelay_ok (Γ := Γ) (d := 69) (T := T) (R := R) (S := S) (I := I1) (A := sK I1 mo) (X := sK I1 mo 4) (L := L') (D := D') (z := none) (H := H) (Q := sK I mo 2) (c := c) hl.2.1 (N := N) (n := j) (by omega) (by omega) hP.2.1 (by rw [eA]) (by rw [eA]; exact hP.2.2.2.2.2.1) (by rw [eA]; exact hS.2.1.1) (sv := fun i => nI (mIn (mRun H (I (mo + 2)) N (mDl (cpw (sK I mo 6) 0 2086 (sK I mo 4)) j (nI (5 * i)))) 11 c)) (by rw [eA]; exact fun G i hi => ⟨(hr (sK I a2) G i hi).1.i, (hr (sK I a2) G i hi).2.1, hsame G i hi⟩) (by rw [eA, (g2 _).2, show sK I mo 2 12 = nI nf from f3, j3]; decide) (by rw [eA, m5]; decide) (by rw [eA]; exact hcl)
            rw [mB_self, eA, (g2 _).1, show sK I mo 2 12 = nI nf from f3, j3] at h
            refine h.mono fun o M2 h9 => ?_
            obtain ⟨h1, V, Y, h2⟩ := h9
            rw [st_comm (show 6 ≠ 4 by omega)] at h2
            exact ⟨_, h1, h2, mA_s46 rfl⟩) (by decide) (fun _ => (bk_bd0 (s0 := mIn (sK I mo 4) 11 c) (hle _ 11) (fun i hi => ⟨hle _ 11, rfl, rfl⟩)).symm)
      · refine BSt.q (n := 3) (t := 3) (v := 0) (w := 0) hw0 hol (fun D => by
          have h := ex_bestDelay_t (Γ := Γ) (d := 92) (K := sK I a) (L := L) (D := D) (hl.1.cx I) (f := nI j) (n := n) (by rw [g1, show sK I p 0 6 = nI nf from f2, j4]; rfl) m4
          rw [blk_sK] at h
          exact h) (fun L' D' => by
          have h := ex_mbestDelay_b1 (Γ := Γ) (d := 69) (R := R) (I := I) (A := sK I mo) (X := sK I mo 4) (L := L') (D := D') (z := none) hl.2.1 (b := nI j) (y := n) (by rw [(g2 _).2, show sK I mo 2 12 = nI nf from f3, j3]; decide) m5
          rw [mB_self, mB_t] at h
          exact h) (by decide) (fun h => by cases h)
    · refine BSt.q (n := 2) (t := 2) (v := 0) (w := 0) hw0 hol (fun D => by
        have h := ex_bestDelay_x (Γ := Γ) (d := 92) (K := sK I a) (L := L) (D := D) (hl.1.cx I) (f := f) (n := n) (m := 1) (by rw [g1, show sK I p 0 6 = nI nf from f2, j4]; rfl)
        rw [blk_sK] at h
        exact h) (fun L' D' => by
        have h := ex_mbestDelay_no (Γ := Γ) (d := 69) (R := R) (I := I) (A := sK I mo) (X := sK I mo 4) (L := L') (D := D') (z := none) hl.2.1 (b := f) (y := n) (by rw [(g2 _).2, show sK I mo 2 12 = nI nf from f3, j3]; rfl)
        rw [mB_self, mB_t, (g2 _).1, show sK I mo 2 12 = nI nf from f3, j3] at h
        exact h) (by decide) (fun h => by cases h)
theorem st_loadedShare (hw : Wd Γ k xo mo T R S I L) (hk : k ≤ 600) (hol : mo + 18 ≤ ol) {f : Int32} : BSf Γ k xo mo ol 100 100 Y_X8_loadedShare Y_X9_loadedShare [.int f] [(0, 0), (1, 1), (2, 2)] T R S I L := by
  have hw0 := hw
  obtain ⟨p, p2, a, a2, u, nx, hl, hb, ha⟩ := hw
  obtain ⟨c, nf, nl, ln, hc⟩ := Wc ha
  obtain ⟨hair, hX, ⟨c1, c2, c3, c4⟩, ⟨f1, f2, f3⟩, ⟨l1, l2, l3⟩, ⟨n1, n2, n3⟩, mm, lw⟩ := hc
  intro D
  have hlt := hl.2.2.2
  have hC := ex_loadedShare (Γ := Γ) (d := 92) (T := T) (R := R) (S := S) (I := I) (K := sK I a) (L := L) (D := D) (hl.1.cx I) c2 c1 (f := f)
  rw [blk_sK, show sK I p 0 6 = nI nf from f2, orE_0] at hC
  have hle : ∀ q, fb_ct q c ≤ 100 := fun q => Nat.le_trans (fb_ct_le _ _) c1
  have hX8 : ∀ n, orE (eAir (I xo)) (orE (eIdx f (nI nf)) 0) = n → Ex Γ 100 Y_X8_loadedShare [.ref xo, .int f] (T, R, S, I, L, D, none) (ec n) (es n) (fun o M1 => o = eO n (.float (shF (fb_ct (pOf (sK I a) f 10 10) c) (fb_ct (pOf (sK I a) f 0 13) c))) ∧ M1 = (T, R, S, I, L, D, none)) := fun n e => by
    rw [e] at hC
    exact hC.mono fun o M1 h => cA_eO h
  rcases gd_i hair (c := nf) (by omega) f with ⟨g1, g2, g3⟩ | ⟨g1, g2, g3⟩ | ⟨j, gj, rfl, g1, g2, g3, g5⟩
  · refine ⟨1, 1, _, FP.fconst0, by decide, hX8 1 g1, (fun h => by cases h), fun L' D' hL => ?_⟩
    have h := ex_mloadedShare_no (Γ := Γ) (d := 97) (R := R) (I := I) (A := sK I mo) (X := sK I mo 4) (L := L') (D := D') (z := none) hl.2.1 (b := f) (by rw [show sK I mo 2 12 = nI nf from f3]; exact g3)
    rw [mB_self, mB_t, show sK I mo 2 12 = nI nf from f3, g2] at h
    exact h.mono fun o M2 h2 => ⟨_, h2.1, h2.2, hw0.thr (fun b hb => hL b (by omega)), by rw [u2_ap, if_pos rfl, if_pos rfl]⟩
  · refine ⟨2, 2, _, FP.fconst0, by decide, hX8 2 g1, (fun h => by cases h), fun L' D' hL => ?_⟩
    have h := ex_mloadedShare_no (Γ := Γ) (d := 97) (R := R) (I := I) (A := sK I mo) (X := sK I mo 4) (L := L') (D := D') (z := none) hl.2.1 (b := f) (by rw [show sK I mo 2 12 = nI nf from f3]; exact g3)
    rw [mB_self, mB_t, show sK I mo 2 12 = nI nf from f3, g2] at h
    exact h.mono fun o M2 h2 => ⟨_, h2.1, h2.2, hw0.thr (fun b hb => hL b (by omega)), by rw [u2_ap, if_pos rfl, if_pos rfl]⟩
  · obtain ⟨H, hP, hS⟩ := (WA.of ha g5).n f1 f3
    have e1 := vl_of hS (nI j) 10 10
    have e2 := vl_of hS (nI j) 0 13
    rw [c4] at e1 e2
    refine ⟨0, 0, _, _, by decide, hX8 0 g1, fun _ => ⟨rfl, _, _, hle _, hle _, rfl⟩, fun L' D' hL => ?_⟩
    have h := ex_mloadedShare_ok (Γ := Γ) (d := 97) (R := R) (I := I) (A := sK I mo) (X := sK I mo 4) (L := L') (D := D') (z := none) hl.2.1 hX c4 (b := nI j) (by rw [show sK I mo 2 12 = nI nf from f3, g3]; decide)
    rw [mB_self, mB_t, show sK I mo 2 12 = nI nf from f3, g2, show sK I mo 4 = I (mo + 4) from rfl, ← e1, ← e2] at h
    exact h.mono fun o M2 h2 => ⟨_, h2.1, h2.2, hw0.thr (fun b hb => hL b (by omega)), by rw [u2_ap, if_pos rfl, if_pos rfl]⟩
end Q15
