/-! CHANGES, BOTH SIDES -/
section W18
variable {Γ : Gam} {k xo mo ol dc dm : Nat} {T : JT} {R S : JR} {I : JI} {L : JL} {p p2 a a2 u nx nf : Nat} {yc ym : JY} {args : List Value} {al : List (Nat × Int32)} {v w : Int32} {K' : JI} {X' : JV}
/-- the component's memory behind a change: V is what the tests' values hold -/
theorem ch_mem (hl : WL Γ xo mo T R S p p2 a a2) (hnx : nx < 6) {V : Nat → Int32} {I1 : JI} (e : I1 = blk 19 (vv (remB I (sK I a) (xo + 73) nx u) p V) a K') : (∀ b, xo ≤ b → b < xo + 233 → (b < xo + 73 + 2 + 19 * nx ∨ xo + 73 + 2 + 19 * nx + 19 ≤ b) → (b < a ∨ a + 19 ≤ b) → b ≠ xo + 73 → b ≠ p + 15 → I1 b = I b) ∧ (∀ c, c < 19 → I1 (xo + 73 + 2 + 19 * nx + c) = kCp (sK I (xo + 73 + 2 + 19 * nx)) (sK I a) c) ∧ (I1 (xo + 73) 0 = nI (szN u) ∧ I1 (xo + 73) 1 = nI (nxN nx)) ∧ (∀ c, c < 19 → I1 (a + c) = K' c) ∧ ∀ b, xo + 233 ≤ b → I1 b = I b := by
  have hps := hl.ps
  have hv : ∀ b, b ≠ p + 15 → ∀ J : JI, vv J p V b = J b := fun b hb J => funext fun j => if_neg hb
  subst e
  refine ⟨fun b h1 h2 h3 h4 h5 h6 => ?_, fun c hc => ?_, ?_, fun c hc => blk_k hc, fun b hb => ?_⟩
  · rw [blk_out h4, hv b h6]
    unfold remB
    rw [u2_ne h5, u2_ne h5, blk_out h3]
  · rw [blk_out (by omega), hv _ (by omega)]
    unfold remB
    rw [u2_ne (by omega), u2_ne (by omega), blk_k hc]
  · rw [blk_out (by omega), hv _ (by omega)]
    unfold remB
    rw [u2_eq]
    exact ⟨if_pos rfl, by dsimp only; rw [if_neg (by omega), u2_eq]; exact if_pos rfl⟩
  · rw [blk_out (by omega), hv _ (by omega)]
    unfold remB
    rw [u2_ne (by omega), u2_ne (by omega), blk_out (by omega)]
theorem Wd.rem2 (hl : WL Γ xo mo T R S p p2 a a2) (hb : WB I xo mo p p2 u nx) (ha : WA k I L xo mo p a u nx) (hn : nf ≤ 8) (h12 : I (mo + 2) 12 = nI nf) {V V2 : Nat → Int32} {I1 : JI} {L1 L' : JL} {r' : Int64} {A' : JI} (e : I1 = blk 19 (vv (remB I (sK I a) (xo + 73) nx u) p V) a K') (eL : L1 = u2 (u2 L (xo + 73 + 2 + 19 * nx) 1 (L a 1)) a 1 r') (hL : ∀ b, b < xo + 233 → L' b = L1 b) (eA : A' = st (av (remA (tA (sK I mo) 0) (sK I mo 4) u) V2) 4 X') (hS : SR (k + 1) nf (I (mo + 2)) K' r' X') : Wd Γ (k + 1) xo mo T R S (blk 18 I1 mo A') L' ∧ blk 18 I1 mo A' mo 0 = 0 := by
  have hps := hl.ps
  have hlt := hl.2.2.2
  have hnx : nx < 6 := hb.2.2.2.2.2.2.1
  obtain ⟨m1, m2, m3, m4, m5⟩ := ch_mem (I1 := I1) hl hnx e
  have o : ∀ b, b < xo + 233 → blk 18 I1 mo A' b = I1 b := fun b hb => blk_out (by omega)
  subst eA
  have A0 : ∀ j, j ≠ 28 → j ≠ 18 → j ≠ 0 → (st (av (remA (tA (sK I mo) 0) (sK I mo 4) u) V2) 4 X') 0 j = I mo j := fun j h1 h2 h3 => by
    rw [st_ne (by omega)]
    unfold av
    rw [st_eq, w1_ne h1]
    unfold remA
    rw [u2_ap, if_pos rfl, if_neg h2, st_ne (by omega)]
    show u2 (sK I mo) 0 0 0 0 j = _
    rw [u2_ap, if_pos rfl, if_neg h3]
    rfl
  have Ac : ∀ c, c ≠ 0 → c ≠ 4 → c ≠ 7 → (st (av (remA (tA (sK I mo) 0) (sK I mo 4) u) V2) 4 X') c = I (mo + c) := fun c h0 h4 h7 => by
    rw [st_ne h4]
    unfold av
    rw [st_ne h0]
    unfold remA
    rw [u2_ne h0, st_ne h7]
    show u2 (sK I mo) 0 0 0 c = _
    rw [u2_ne h0]
    rfl
  refine ⟨Wd.rem hl hb ha hn h12 (fun b h1 h2 h3 h4 h5 h6 => (o b h2).trans (m1 b h1 h2 h3 h4 h5 h6)) (fun c hc => (o _ (by omega)).trans (m2 c hc)) (by rw [o _ (by omega)]; exact m3) (fun c hc => (o _ (by omega)).trans (m4 c hc)) ?_ ?_ (fun b h1 h2 h3 h4 => ?_) (fun j hj => ?_) ?_ ?_ ?_ (fun c h0 h1 h3 h4 h5 h6 h7 => ?_) hS, ?_⟩
  · rw [hL _ (by omega), eL, u2_ne (by omega), u2_eq]
    exact if_pos rfl
  · rw [hL _ (by omega), eL, u2_eq]
    exact if_pos rfl
  · rw [hL _ (by omega), eL, u2_ne h3, u2_ne h4]
  · rw [blk_0 (by decide)]
    exact A0 j (by omega) (by omega) (by omega)
  · rw [blk_0 (by decide), st_ne (by omega)]
    unfold av
    rw [st_eq, w1_ne (by omega)]
    unfold remA
    rw [u2_ap, if_pos rfl, if_pos rfl]
  · rw [blk_k (by decide), st_ne (by omega)]
    unfold av
    rw [st_ne (by omega)]
    unfold remA
    rw [u2_ne (by omega), st_eq]
    rfl
  · rw [blk_k (by decide), st_eq]
  · rw [blk_k h1]
    exact Ac c (by omega) h4 h7
  · rw [blk_0 (by decide), st_ne (by omega)]
    unfold av
    rw [st_eq, w1_ne (by omega)]
    unfold remA
    rw [u2_ap, if_pos rfl, if_neg (by omega), st_ne (by omega)]
    show u2 (sK I mo) 0 0 0 0 0 = _
    rw [u2_ap, if_pos rfl, if_pos rfl]
theorem av_id (A : JI) : av A (fun _ => A 0 28) = A := by
  unfold av
  have e : w1 (A 0) 28 (A 0 28) = A 0 := by
    funext j
    by_cases h : j = 28
    · subst h; exact w1_eq
    · exact w1_ne h
  rw [e, st_self]
theorem BSt.ch (hl : WL Γ xo mo T R S p p2 a a2) (hb : WB I xo mo p p2 u nx) (ha : WA k I L xo mo p a u nx) (hol : mo + 18 ≤ ol) (hn : nf ≤ 8) (h12 : I (mo + 2) 12 = nI nf)
    (hC : ∀ D, Ex Γ dc yc (.ref xo :: args) (T, R, S, I, L, D, none) 0 0 (cE 0 (T, R, S, I, L, D, none) (fun w' M' => w' = some (.int v) ∧ M' = (T, R, S, blk 19 (remB I (sK I a) (xo + 73) nx u) a K', u2 L (xo + 73 + 2 + 19 * nx) 1 (L a 1), D, none))))
    (hM : ∀ I1 L' D', sK I1 mo = sK I mo → Ex Γ dm ym (.ref mo :: args) (T, R, S, I1, L', D', none) 0 0 (rI w (T, R, S, blk 18 I1 mo (st (remA (tA (sK I mo) 0) (sK I mo 4) u) 4 X'), L', D', none))) (hS : SR (k + 1) nf (I (mo + 2)) K' (L a 1) X') (hal : (0, 0) ∈ al) (hv : w = v) : BSt Γ k xo mo ol dc dm yc ym args al T R S I L := by
  intro D
  have hps := hl.ps
  have hlt := hl.2.2.2
  have hnx : nx < 6 := hb.2.2.2.2.2.2.1
  have e1 : blk 19 (remB I (sK I a) (xo + 73) nx u) a K' = blk 19 (vv (remB I (sK I a) (xo + 73) nx u) p (I (p + 15))) a K' := by
    have e := vv_self (remB I (sK I a) (xo + 73) nx u) p
    rw [show remB I (sK I a) (xo + 73) nx u (p + 15) = I (p + 15) by unfold remB; rw [u2_ne (by omega), u2_ne (by omega), blk_out (by omega)]] at e
    rw [e]
  have e2 : u2 L (xo + 73 + 2 + 19 * nx) 1 (L a 1) = u2 (u2 L (xo + 73 + 2 + 19 * nx) 1 (L a 1)) a 1 (L a 1) := (u2_id (f := u2 L (xo + 73 + 2 + 19 * nx) 1 (L a 1)) (a := a) (k := 1) (by rw [u2_ne (by omega)])).symm
  refine ⟨0, 0, v, fun S1 I1 L1 => S1 = S ∧ I1 = blk 19 (remB I (sK I a) (xo + 73) nx u) a K' ∧ L1 = u2 L (xo + 73 + 2 + 19 * nx) 1 (L a 1), hal, (hC D).mono fun o M1 h => ?_, fun S1 I1 L1 L' D' h hL => ?_⟩
  · obtain ⟨w', h1, h2, h3⟩ := h
    exact ⟨by rw [h1, h2]; rfl, _, _, _, h3, rfl, rfl, rfl⟩
  · obtain ⟨rfl, h1, h2⟩ := h
    have m5 := (ch_mem hl hnx (h1.trans e1)).2.2.2.2
    refine (hM I1 L' D' (funext fun c => m5 _ (by omega))).mono fun o M2 h4 => ?_
    obtain ⟨g1, g2⟩ := h4
    obtain ⟨q1, q2⟩ := Wd.rem2 (V2 := fun _ => (remA (tA (sK I mo) 0) (sK I mo 4) u) 0 28) (A' := st (remA (tA (sK I mo) 0) (sK I mo 4) u) 4 X') hl hb ha hn h12 (h1.trans e1) (h2.trans e2) (fun b hb => hL b (by omega)) (by rw [av_id]) hS
    exact ⟨_, _, w, ⟨g1, fun _ => hv⟩, g2, q1, q2⟩
end W18
section Q18
variable {Γ : Gam} {k xo mo ol : Nat} {T : JT} {R S : JR} {I : JI} {L : JL}
theorem st_setHot (hw : Wd Γ k xo mo T R S I L) (hk : k ≤ 599) (hol : mo + 18 ≤ ol) {y : Int32} : BSt Γ k xo mo ol 100 100 Y_X8_setHot Y_X9_setHot [.int y] [(0, 0), (1, 1), (3, 2)] T R S I L := by
  have hw0 := hw
  obtain ⟨p, p2, a, a2, u, nx, hl, hb, ha⟩ := hw
  obtain ⟨c, nf, nl, ln, hc⟩ := Wc ha
  obtain ⟨hair, hX, ⟨c1, c2, c3, c4⟩, ⟨f1, f2, f3⟩, ⟨l1, l2, l3⟩, ⟨n1, n2, n3⟩, mm, lw⟩ := hc
  have htk : ∀ (h5 : I xo 1 = 1), ∃ t H, t ≤ 9999 ∧ sK I a 0 0 = nI t ∧ I (mo + 4) 0 = nI t ∧ AirP nf H (sK I p) (sK I mo) ∧ SR k nf (I (mo + 2)) (sK I a) (L a 1) (I (mo + 4)) := fun h5 => by
    obtain ⟨H, hP, hS⟩ := (WA.of ha h5).n f1 f3
    obtain ⟨t, t0, t1⟩ := hS.2.2.1
    exact ⟨t, H, t1, hS.1.clk.trans t0, t0, hP, hS⟩
  have hh := hb.2.2.2.2.2
  have hC : ∀ D, _ := fun D => ex_setHot (Γ := Γ) (d := 92) (T := T) (R := R) (S := S) (I := I) (K := sK I a) (L := L) (D := D) hl.1 hh.2.2.2.1 hh.2.2.1 hh.2.1 hh.1 (y := y)
  rcases gd_a hair with ⟨g1, g2⟩ | ⟨g1, g5, g2⟩
  · refine BSt.q (n := 1) (t := 1) (v := 0) (w := 0) hw0 hol (fun D => by
      have h := hC D
      rw [g1, blk_sK] at h
      exact h) (fun L' D' => by
      have h := ex_msetHot_no (Γ := Γ) (d := 97) (T := T) (R := R) (S := S) (I := I) (A := sK I mo) (X := sK I mo 4) (L := L') (D := D') (z := none) hl.2.1 (y := y) (g2 _).2
      rw [mB_self, mB_t, (g2 _).1] at h
      exact h) (by decide) (fun h => by cases h)
  · obtain ⟨t, H, t1, t2, t3, hP, hS⟩ := htk g5
    have e1 : mOk (sK I mo) 1 = 1 := (g2 1).2
    rcases in_lh (lo := 0) (hi := 999) (by omega) (by omega) y with ⟨m, m1, m2, rfl, m4, m5⟩ | ⟨m4, m5⟩
    · refine BSt.ch hl hb (WA.of ha g5) hol f1 f3 (fun D => by
        have h := hC D
        rw [g1, show eRng (nI m) 0 999 = 0 from m5, blk_sK] at h
        exact h) (fun I1 L' D' eA => by
        have h := ex_msetHot_ok (Γ := Γ) (d := 97) (T := T) (R := R) (S := S) (I := I1) (A := sK I1 mo) (X := sK I1 mo 4) (L := L') (D := D') (z := none) hl.2.1 (y := nI m) (by rw [eA]; exact hh.2.2.2.2) hh.1 (by rw [eA, e1]; decide) (by rw [show inI (nI m) 0 999 = 1 from m4]; decide)
        rw [mB_self, eA, (g2 1).1, if_neg (show ¬ (1 : Int32) = 0 by decide)] at h
        exact h) ((hS.hot m2 f1).up (Nat.le_succ k)) (by decide) ((hS.1.get mt02 ⟨fun e => by omega, fun e => by omega, fun e => by omega⟩).symm)
    · refine BSt.q (n := 3) (t := 2) (v := 0) (w := 0) hw0 hol (fun D => by
        have h := hC D
        rw [g1, show eRng y 0 999 = 3 from m5, blk_sK] at h
        exact h) (fun L' D' => by
        have h := ex_msetHot_bad (Γ := Γ) (d := 97) (T := T) (R := R) (S := S) (I := I) (A := sK I mo) (X := sK I mo 4) (L := L') (D := D') (z := none) hl.2.1 (y := y) (by rw [e1]; decide) m4
        rw [mB_self, mB_t] at h
        exact h) (by decide) (fun h => by cases h)
theorem st_stopLoop (hw : Wd Γ k xo mo T R S I L) (hk : k ≤ 599) (hol : mo + 18 ≤ ol) {y : Int32} : BSt Γ k xo mo ol 100 100 Y_X8_stopLoop Y_X9_stopLoop [.int y] [(0, 0), (1, 1), (3, 2)] T R S I L := by
  have hw0 := hw
  obtain ⟨p, p2, a, a2, u, nx, hl, hb, ha⟩ := hw
  obtain ⟨c, nf, nl, ln, hc⟩ := Wc ha
  obtain ⟨hair, hX, ⟨c1, c2, c3, c4⟩, ⟨f1, f2, f3⟩, ⟨l1, l2, l3⟩, ⟨n1, n2, n3⟩, mm, lw⟩ := hc
  have htk : ∀ (h5 : I xo 1 = 1), ∃ t H, t ≤ 9999 ∧ sK I a 0 0 = nI t ∧ I (mo + 4) 0 = nI t ∧ AirP nf H (sK I p) (sK I mo) ∧ SR k nf (I (mo + 2)) (sK I a) (L a 1) (I (mo + 4)) := fun h5 => by
    obtain ⟨H, hP, hS⟩ := (WA.of ha h5).n f1 f3
    obtain ⟨t, t0, t1⟩ := hS.2.2.1
    exact ⟨t, H, t1, hS.1.clk.trans t0, t0, hP, hS⟩
  have hh := hb.2.2.2.2.2
  have hC : ∀ D, _ := fun D => ex_stopLoop (Γ := Γ) (d := 92) (T := T) (R := R) (S := S) (I := I) (K := sK I a) (L := L) (D := D) hl.1 hh.2.2.2.1 hh.2.2.1 hh.2.1 hh.1 (y := y)
  rcases gd_a hair with ⟨g1, g2⟩ | ⟨g1, g5, g2⟩
  · refine BSt.q (n := 1) (t := 1) (v := 0) (w := 0) hw0 hol (fun D => by
      have h := hC D
      rw [g1, blk_sK] at h
      exact h) (fun L' D' => by
      have h := ex_mstopLoop_no (Γ := Γ) (d := 97) (T := T) (R := R) (S := S) (I := I) (A := sK I mo) (X := sK I mo 4) (L := L') (D := D') (z := none) hl.2.1 (y := y) (g2 _).2
      rw [mB_self, mB_t, (g2 _).1] at h
      exact h) (by decide) (fun h => by cases h)
  · obtain ⟨t, H, t1, t2, t3, hP, hS⟩ := htk g5
    have e1 : mOk (sK I mo) 1 = 1 := (g2 1).2
    rcases in_lh (lo := 0) (hi := 999) (by omega) (by omega) y with ⟨m, m1, m2, rfl, m4, m5⟩ | ⟨m4, m5⟩
    · refine BSt.ch hl hb (WA.of ha g5) hol f1 f3 (fun D => by
        have h := hC D
        rw [g1, show eRng (nI m) 0 999 = 0 from m5, blk_sK] at h
        exact h) (fun I1 L' D' eA => by
        have h := ex_mstopLoop_ok (Γ := Γ) (d := 97) (T := T) (R := R) (S := S) (I := I1) (A := sK I1 mo) (X := sK I1 mo 4) (L := L') (D := D') (z := none) hl.2.1 (y := nI m) (by rw [eA]; exact hh.2.2.2.2) hh.1 (by rw [eA, e1]; decide) (by rw [show inI (nI m) 0 999 = 1 from m4]; decide)
        rw [mB_self, eA, (g2 1).1, if_neg (show ¬ (1 : Int32) = 0 by decide)] at h
        exact h) (by
      rw [show sK I a 0 0 = sK I mo 4 0 from t2.trans t3.symm]
      exact (hS.set mt03 (by omega) (by unfold fre; omega) (rg_free (by omega)) (by omega) f1).up (Nat.le_succ k)) (by decide) (show sK I mo 4 0 + nI m = sK I a 0 0 + nI m by rw [show sK I a 0 0 = sK I mo 4 0 from t2.trans t3.symm])
    · refine BSt.q (n := 3) (t := 2) (v := 0) (w := 0) hw0 hol (fun D => by
        have h := hC D
        rw [g1, show eRng y 0 999 = 3 from m5, blk_sK] at h
        exact h) (fun L' D' => by
        have h := ex_mstopLoop_bad (Γ := Γ) (d := 97) (T := T) (R := R) (S := S) (I := I) (A := sK I mo) (X := sK I mo 4) (L := L') (D := D') (z := none) hl.2.1 (y := y) (by rw [e1]; decide) m4
        rw [mB_self, mB_t] at h
        exact h) (by decide) (fun h => by cases h)
theorem st_block (hw : Wd Γ k xo mo T R S I L) (hk : k ≤ 599) (hol : mo + 18 ≤ ol) {l v : Int32} : BSt Γ k xo mo ol 100 100 Y_X8_block Y_X9_block [.int l, .int v] [(0, 0), (1, 1), (2, 2)] T R S I L := by
  have hw0 := hw
  obtain ⟨p, p2, a, a2, u, nx, hl, hb, ha⟩ := hw
  obtain ⟨c, nf, nl, ln, hc⟩ := Wc ha
  obtain ⟨hair, hX, ⟨c1, c2, c3, c4⟩, ⟨f1, f2, f3⟩, ⟨l1, l2, l3⟩, ⟨n1, n2, n3⟩, mm, lw⟩ := hc
  have htk : ∀ (h5 : I xo 1 = 1), ∃ t H, t ≤ 9999 ∧ sK I a 0 0 = nI t ∧ I (mo + 4) 0 = nI t ∧ AirP nf H (sK I p) (sK I mo) ∧ SR k nf (I (mo + 2)) (sK I a) (L a 1) (I (mo + 4)) := fun h5 => by
    obtain ⟨H, hP, hS⟩ := (WA.of ha h5).n f1 f3
    obtain ⟨t, t0, t1⟩ := hS.2.2.1
    exact ⟨t, H, t1, hS.1.clk.trans t0, t0, hP, hS⟩
  have hh := hb.2.2.2.2.2
  have hC : ∀ D, _ := fun D => ex_block (Γ := Γ) (d := 92) (T := T) (R := R) (S := S) (I := I) (K := sK I a) (L := L) (D := D) hl.1 hh.2.2.2.1 hh.2.2.1 hh.2.1 hh.1 (l := l) (v := v)
  rcases gd_a hair with ⟨g1, g2⟩ | ⟨g1, g5, g2⟩
  · refine BSt.q (n := 1) (t := 1) (v := 0) (w := 0) hw0 hol (fun D => by
      have h := hC D
      rw [g1, blk_sK] at h
      exact h) (fun L' D' => by
      have h := ex_mblock_no (Γ := Γ) (d := 97) (T := T) (R := R) (S := S) (I := I) (A := sK I mo) (X := sK I mo 4) (L := L') (D := D') (z := none) hl.2.1 (b := l) (v := v) (g2 _).2
      rw [mB_self, mB_t, (g2 _).1] at h
      exact h) (by decide) (fun h => by cases h)
  · obtain ⟨t, H, t1, t2, t3, hP, hS⟩ := htk g5
    rcases in_n (c := nl) (by omega) l with ⟨j, j1, rfl, j3, j4⟩ | ⟨j3, j4⟩
    · refine BSt.ch hl hb (WA.of ha g5) hol f1 f3 (fun D => by
        have h := hC D
        rw [g1, show sK I p 0 8 = nI nl from l2, j4, blk_sK, putI_n (show j < 4 by omega) (by omega)] at h
        exact h) (fun I1 L' D' eA => by
        have h := ex_mblock_ok (Γ := Γ) (d := 97) (T := T) (R := R) (S := S) (I := I1) (A := sK I1 mo) (X := sK I1 mo 4) (L := L') (D := D') (z := none) hl.2.1 (by rw [eA]; exact hh.2.2.2.2) hh.1 (n := j) (by omega) (v := v) (by rw [eA, (g2 _).2, show sK I mo 2 13 = nI nl from l3, j3]; decide)
        rw [mB_self, eA, (g2 _).1, show sK I mo 2 13 = nI nl from l3, j3, if_neg (show ¬ (1 : Int32) = 0 by decide)] at h
        exact h) ((hS.set (mt11 (by omega)) (by omega) (by unfold fre; omega) (rg_free (by omega)) (by omega) f1).up (Nat.le_succ k)) (by decide) (show (if I (mo + 4) (25 + j) = 1 then (1 : Int32) else 0) = if atV 4 (sK I a 11) (nI j) = 1 then 1 else 0 by rw [atV_nI (by omega) (by omega), show sK I a 11 j = I (mo + 4) (25 + j) from (hS.1.bl (by omega)).1])
    · refine BSt.q (n := 2) (t := 2) (v := 0) (w := 0) hw0 hol (fun D => by
        have h := hC D
        rw [g1, show sK I p 0 8 = nI nl from l2, j4, blk_sK] at h
        exact h) (fun L' D' => by
        have h := ex_mblock_no (Γ := Γ) (d := 97) (T := T) (R := R) (S := S) (I := I) (A := sK I mo) (X := sK I mo 4) (L := L') (D := D') (z := none) hl.2.1 (b := l) (v := v) (by rw [(g2 _).2, show sK I mo 2 13 = nI nl from l3, j3]; rfl)
        rw [mB_self, mB_t, (g2 _).1, show sK I mo 2 13 = nI nl from l3, j3] at h
        exact h) (by decide) (fun h => by cases h)
theorem st_reroute (hw : Wd Γ k xo mo T R S I L) (hk : k ≤ 599) (hol : mo + 18 ≤ ol) {b f : Int32} : BSt Γ k xo mo ol 100 100 Y_X8_reroute Y_X9_reroute [.int b, .int f] [(0, 0), (1, 1), (2, 2), (3, 3)] T R S I L := by
  have hw0 := hw
  obtain ⟨p, p2, a, a2, u, nx, hl, hb, ha⟩ := hw
  obtain ⟨c, nf, nl, ln, hc⟩ := Wc ha
  obtain ⟨hair, hX, ⟨c1, c2, c3, c4⟩, ⟨f1, f2, f3⟩, ⟨l1, l2, l3⟩, ⟨n1, n2, n3⟩, mm, lw⟩ := hc
  have htk : ∀ (h5 : I xo 1 = 1), ∃ t H, t ≤ 9999 ∧ sK I a 0 0 = nI t ∧ I (mo + 4) 0 = nI t ∧ AirP nf H (sK I p) (sK I mo) ∧ SR k nf (I (mo + 2)) (sK I a) (L a 1) (I (mo + 4)) := fun h5 => by
    obtain ⟨H, hP, hS⟩ := (WA.of ha h5).n f1 f3
    obtain ⟨t, t0, t1⟩ := hS.2.2.1
    exact ⟨t, H, t1, hS.1.clk.trans t0, t0, hP, hS⟩
  have hh := hb.2.2.2.2.2
  have hC : ∀ D, _ := fun D => ex_reroute (Γ := Γ) (d := 92) (T := T) (R := R) (S := S) (I := I) (K := sK I a) (L := L) (D := D) hl.1 hh.2.2.2.1 hh.2.2.1 hh.2.1 hh.1 (b := b) (f := f)
  rcases gd_a hair with ⟨g1, g2⟩ | ⟨g1, g5, g2⟩
  · refine BSt.q (n := 1) (t := 1) (v := 0) (w := 0) hw0 hol (fun D => by
      have h := hC D
      rw [g1, blk_sK] at h
      exact h) (fun L' D' => by
      have h := ex_mreroute_no (Γ := Γ) (d := 97) (T := T) (R := R) (S := S) (I := I) (A := sK I mo) (X := sK I mo 4) (L := L') (D := D') (z := none) hl.2.1 (b := b) (f := f) (g2 _).2
      rw [mB_self, mB_t, (g2 _).1] at h
      exact h) (by decide) (fun h => by cases h)
  · obtain ⟨t, H, t1, t2, t3, hP, hS⟩ := htk g5
    have e1 : mOk (sK I mo) 1 = 1 := (g2 1).2
    rcases in_n (c := c) (by omega) b with ⟨j, j1, rfl, j3, j4⟩ | ⟨j3, j4⟩
    · rcases in_n (c := nf) (by omega) f with ⟨i, i1, rfl, i3, i4⟩ | ⟨i3, i4⟩
      · have hst := vl_st hS (show j < mC (I (mo + 4)) by rw [c4]; exact j1)
        by_cases hs : I (mo + 4) (373 + j) < 10
        · refine BSt.ch hl hb (WA.of ha g5) hol f1 f3 (fun D => by
            have h := hC D
            rw [g1, show sK I a 1 0 = nI c from c2, j4, show sK I p 0 6 = nI nf from f2, i4, if_pos (show atV 100 (sK I a 2) (nI j) < 10 by rw [show atV 100 (sK I a 2) (nI j) = _ from hst]; exact hs), blk_sK, putI_n (show j < 100 by omega) (by omega)] at h
            exact h) (fun I1 L' D' eA => by
            have h := ex_mreroute_ok (Γ := Γ) (d := 97) (T := T) (R := R) (S := S) (I := I1) (A := sK I1 mo) (X := sK I1 mo 4) (L := L') (D := D') (z := none) hl.2.1 (by rw [eA]; exact hh.2.2.2.2) hh.1 (by rw [eA]; exact hX) (n := j) (by omega) (f := nI i) (by rw [eA, show sK I mo 4 2 = nI c from c3, j3]; decide) (by rw [eA, show sK I mo 2 12 = nI nf from f3, i3]; decide) (by rw [eA, e1]; decide) (by rw [eA]; exact hs)
            rw [mB_self, eA, (g2 1).1, if_neg (show ¬ (1 : Int32) = 0 by decide)] at h
            exact h) ((hS.fl f3 f1 i1 (by omega)).up (Nat.le_succ k)) (by decide) ((vl_fl hS (show j < mC (I (mo + 4)) by rw [c4]; exact j1)).symm)
        · refine BSt.q (n := 3) (t := 3) (v := 0) (w := 0) hw0 hol (fun D => by
            have h := hC D
            rw [g1, show sK I a 1 0 = nI c from c2, j4, show sK I p 0 6 = nI nf from f2, i4, if_neg (show ¬ atV 100 (sK I a 2) (nI j) < 10 by rw [show atV 100 (sK I a 2) (nI j) = _ from hst]; exact hs), blk_sK] at h
            exact h) (fun L' D' => by
            have h := ex_mreroute_bad (Γ := Γ) (d := 97) (T := T) (R := R) (S := S) (I := I) (A := sK I mo) (X := sK I mo 4) (L := L') (D := D') (z := none) hl.2.1 hX (n := j) (by omega) (f := nI i) (by rw [show sK I mo 4 2 = nI c from c3, j3]; decide) (by rw [show sK I mo 2 12 = nI nf from f3, i3]; decide) (by rw [e1]; decide) hs
            rw [mB_self, mB_t] at h
            exact h) (by decide) (fun h => by cases h)
      · refine BSt.q (n := 2) (t := 2) (v := 0) (w := 0) hw0 hol (fun D => by
          have h := hC D
          rw [g1, show sK I a 1 0 = nI c from c2, j4, show sK I p 0 6 = nI nf from f2, i4, blk_sK] at h
          exact h) (fun L' D' => by
          have h := ex_mreroute_no (Γ := Γ) (d := 97) (T := T) (R := R) (S := S) (I := I) (A := sK I mo) (X := sK I mo 4) (L := L') (D := D') (z := none) hl.2.1 (b := nI j) (f := f) (by rw [(g2 _).2]; unfold aR; rw [show sK I mo 4 2 = nI c from c3, j3, if_neg (show ¬ (1 : Int32) = 0 by decide), show sK I mo 2 12 = nI nf from f3, i3]; rfl)
          rw [mB_self, mB_t, (g2 _).1, show aR (sK I mo) (sK I mo 4) (nI j) f = 0 by unfold aR; rw [show sK I mo 4 2 = nI c from c3, j3, if_neg (show ¬ (1 : Int32) = 0 by decide), show sK I mo 2 12 = nI nf from f3, i3]; rfl] at h
          exact h) (by decide) (fun h => by cases h)
    · refine BSt.q (n := 2) (t := 2) (v := 0) (w := 0) hw0 hol (fun D => by
        have h := hC D
        rw [g1, show sK I a 1 0 = nI c from c2, j4, blk_sK] at h
        exact h) (fun L' D' => by
        have h := ex_mreroute_no (Γ := Γ) (d := 97) (T := T) (R := R) (S := S) (I := I) (A := sK I mo) (X := sK I mo 4) (L := L') (D := D') (z := none) hl.2.1 (b := b) (f := f) (by rw [(g2 _).2]; unfold aR; rw [show sK I mo 4 2 = nI c from c3, j3]; rfl)
        rw [mB_self, mB_t, (g2 _).1, show aR (sK I mo) (sK I mo 4) b f = 0 by unfold aR; rw [show sK I mo 4 2 = nI c from c3, j3]; rfl] at h
        exact h) (by decide) (fun h => by cases h)
end Q18
