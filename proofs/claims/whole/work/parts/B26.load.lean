/-! LOAD, BOTH SIDES -/
section W26
variable {Γ : Gam} {k xo mo : Nat} {T : JT} {R S : JR} {I I' : JI} {L L' : JL} {p p2 a a2 u nx p' p2' u' nx' bq : Nat} {A A' C P K : JI} {F : JV} {H : Nat → JV → Nat → Bool} {Q : JV}
theorem hNl.n (h : hNl A H Q) : hN A H Q := fun X b t ht => by
  obtain ⟨_, _, _, z3⟩ := h
  obtain ⟨lo, n, e1, _, _, e4⟩ := z3 X b t ht
  exact ⟨lo, n, e1, e4⟩
theorem hNl.fl (h : hNl A H Q) (hb : bq ≤ 1) (h25 : A 0 25 = nI bq) (h25' : A' 0 25 = nI bq) (ho : ∀ c j, 11 ≤ c → j < nIx bq 0 ∨ nIx bq 700 ≤ j → A' c j = A c j) : hNl A' H Q := by
  obtain ⟨bz, z1, z2, z3⟩ := h
  have e : bz = bq := nI_inj' (by omega) (by omega) (z2.symm.trans h25)
  subst e
  refine ⟨bz, hb, h25', fun X b t ht => ?_⟩
  obtain ⟨lo, n, e1, e2, e3, e4⟩ := z3 X b t ht
  have hj : ∀ c j, 11 ≤ c → lo ≤ j → j ≤ n → A c j = A' c j := fun c j hc h1 h2 => (ho c j hc (by
    have e2' := e2
    have e3' := e3
    unfold nIx at e2' e3' ⊢
    rcases (show bz = 0 ∨ bz = 1 by omega) with g | g <;> rw [g] at e2' e3' ⊢ <;> omega)).symm
  exact ⟨lo, n, e1, e2, e3, vN_rg 11 lo n _ (fun j h1 h2 => ⟨hj 11 j (by omega) h1 h2, hj 12 j (by omega) h1 h2, hj 13 j (by omega) h1 h2⟩) (fun j h1 h2 => hj 14 j (by omega) h1 (by omega)) e4⟩
theorem WN.fl (hl : WL Γ xo mo T R S p p2 a a2) (h : WN I xo mo p a u) (hC : ∀ b, (b = xo ∨ xo + 3 ≤ b) → b < xo + 227 → (b < p2 ∨ p2 + 16 ≤ b) → (b < a2 ∨ a2 + 19 ≤ b) → I' b = I b) (h19 : I' mo 19 = I mo 19) (hm : ∀ c, c = 2 ∨ c = 4 ∨ c = 7 ∨ c = 8 ∨ c = 9 → I' (mo + c) = I (mo + c)) : WN I' xo mo p a u := by
  have hps := hl.ps
  obtain ⟨⟨h1, h2, h3⟩, ⟨h4, h5, h6, h7⟩, h8, h9, h10, h11⟩ := h
  have c0 := hC xo (Or.inl rfl) (by omega) (by omega) (by omega)
  have m9 := hm 9 (by omega)
  exact ⟨⟨by rw [c0]; exact h1, h19.trans h2, h3⟩, ⟨by rw [c0]; exact h4, by rw [c0]; exact h5, by rw [m9]; exact h6, by rw [m9]; exact h7⟩, fun c hc => by rw [hC (a + c) (by omega) (by omega) (by omega) (by omega)]; exact h8 c hc, fun c hc => by rw [hC (p + c) (by omega) (by omega) (by omega) (by omega)]; exact h9 c hc, (hm 2 (by omega)).trans h10, (hm 4 (by omega)).trans h11⟩
theorem WA.fl (hl : WL Γ xo mo T R S p p2 a a2) (h : WA k I L xo mo p a u nx) (hC : ∀ b, (b = xo ∨ xo + 3 ≤ b) → b < xo + 227 → (b < p2 ∨ p2 + 16 ≤ b) → (b < a2 ∨ a2 + 19 ≤ b) → I' b = I b) (h19 : I' mo 19 = I mo 19) (hm : ∀ c, c = 2 ∨ c = 4 ∨ c = 7 ∨ c = 8 ∨ c = 9 → I' (mo + c) = I (mo + c)) (hb : bq ≤ 1) (h25 : I mo 25 = nI bq) (h25' : I' mo 25 = nI bq) (ho : ∀ c j, 11 ≤ c → j < nIx bq 0 ∨ nIx bq 700 ≤ j → sK I' mo c j = sK I mo c j) (hL : ∀ b, xo + 3 ≤ b → b < xo + 233 → (b < a2 ∨ a2 + 19 ≤ b) → L' b = L b) : WA (k + 1) I' L' xo mo p a u nx := by
  have hps := hl.ps
  obtain ⟨⟨w1, w2⟩, nf', H, hP, hS0, hH, hs0, hs1⟩ := h
  have c0 := hC xo (Or.inl rfl) (by omega) (by omega) (by omega)
  have m2 := hm 2 (by omega)
  have m4 := hm 4 (by omega)
  have m7 := hm 7 (by omega)
  have m8 := hm 8 (by omega)
  have m9 := hm 9 (by omega)
  have hp : pSm (sK I p) (sK I' p) := fun c hc => hC (p + c) (by omega) (by omega) (by omega) (by omega)
  have hA : AirP nf' H (sK I' p) (sK I' mo) := by
    obtain ⟨z1, z2, z3, z4, z5, z6, z7, z8, z9, z10⟩ := hP
    have hnl := z10.fl (A' := sK I' mo) hb h25 h25' ho
    unfold AirP
    rw [show sK I' mo 2 = sK I mo 2 from m2]
    exact ⟨hp.rp z1, z2, z3, hp.wp z4, hp.rh z5, hnl.n, by rw [hp 11 (by omega)]; exact z7, z8, z9, hnl⟩
  refine ⟨⟨by rw [c0]; exact w1, h19.trans w2⟩, nf', H, hA, ?_, fun i hi => ?_, hs0.cg (Nat.le_succ k) (fun c hc => hC _ (by omega) (by omega) (by omega) (by omega)) (hL _ (by omega) (by omega) (by omega)) m2 m8 (by rw [c0]) (by rw [m9]), hs1.cg (Nat.le_succ k) (fun c hc => hC _ (by omega) (by omega) (by omega) (by omega)) (hL _ (by omega) (by omega) (by omega)) m2 m8 (by rw [c0]) (by rw [m9])⟩
  · rw [m2, m4, hL a (by omega) (by omega) (by omega)]
    exact (hS0.kag (eqv.kag fun c hc => (hC _ (by omega) (by omega) (by omega) (by omega)).symm)).up (Nat.le_succ k)
  · have hi6 := hx_lt nx u i
    rw [m2, m7, hL _ (by omega) (by omega) (by omega)]
    exact ((hH i hi).kag (eqv.kag fun c hc => (hC _ (by omega) (by omega) (by omega) (by omega)).symm)).up (Nat.le_succ k)
theorem WB.ld (h : WB I xo mo p p2 u nx) (hC : ∀ b, xo + 227 ≤ b → b < xo + 233 → I' b = I b) (e2 : I' (xo + 1) 2 = 0 ∧ I' mo 2 = 0) (e5 : I' (xo + 1) 0 = I' mo 5 ∧ I' (xo + 1) 1 = I' mo 6) (ye25 : ∃ bq, bq ≤ 1 ∧ I' mo 25 = nI bq) (e6 : cP6 (sK I' p') ∧ cP6 (sK I' p2')) (hm : ∀ j, j = 32 ∨ j = 33 ∨ j = 36 → I' mo j = I mo j) (hmc : ∀ c, c = 15 ∨ c = 16 ∨ c = 17 → I' (mo + c) = I (mo + c)) (hu : u' ≤ 6 ∧ nx' < 6 ∧ I' (xo + 73) 0 = nI u' ∧ I' (xo + 73) 1 = nI nx' ∧ I' mo 18 = nI u') : WB I' xo mo p' p2' u' nx' := by
  obtain ⟨_, _, _, _, ⟨x1, x2, x3⟩, _⟩ := h
  exact ⟨⟨fun _ => 0, 0, by omega, e2.1, e2.2, ⟨by omega, fun j hj => absurd hj (by omega)⟩, ⟨by omega, fun j hj => absurd hj (by omega)⟩⟩, e5, ye25, e6, ⟨x1.cg (hC _ (by omega) (by omega)) (hC _ (by omega) (by omega)) (hmc 15 (by omega)) (hm 32 (by omega)), x2.cg (hC _ (by omega) (by omega)) (hC _ (by omega) (by omega)) (hmc 17 (by omega)) (hm 36 (by omega)), x3.cg (hC _ (by omega) (by omega)) (hC _ (by omega) (by omega)) (hmc 16 (by omega)) (hm 33 (by omega))⟩, hu⟩
theorem cI_o {b : Nat} (h1 : b < xo + 1 ∨ xo + 3 ≤ b) (h2 : b < p2 ∨ p2 + 16 ≤ b) (h3 : b < a2 ∨ a2 + 19 ≤ b) : cI I C (xo + 1) p2 a2 F P K b = I b := by
  show blk 2 (blk 16 (blk 19 I a2 K) p2 P) (xo + 1) (st C 0 F) b = I b
  rw [blk_out (by omega), blk_out (by omega), blk_out (by omega)]
theorem cI_0 : cI I C (xo + 1) p2 a2 F P K (xo + 1) = F := by
  show blk 2 (blk 16 (blk 19 I a2 K) p2 P) (xo + 1) (st C 0 F) (xo + 1) = F
  rw [blk_0 (by decide), st_eq]
theorem cI_p {c : Nat} (h : xo + 3 ≤ p2) (hc : c < 16) : cI I C (xo + 1) p2 a2 F P K (p2 + c) = P c := by
  show blk 2 (blk 16 (blk 19 I a2 K) p2 P) (xo + 1) (st C 0 F) (p2 + c) = P c
  rw [blk_out (by omega), blk_k hc]
theorem cI_a {c : Nat} (h : xo + 3 ≤ a2) (h2 : p2 + 16 ≤ a2) (hc : c < 19) : cI I C (xo + 1) p2 a2 F P K (a2 + c) = K c := by
  show blk 2 (blk 16 (blk 19 I a2 K) p2 P) (xo + 1) (st C 0 F) (a2 + c) = K c
  rw [blk_out (by omega), blk_out (by omega), blk_k hc]
theorem cL_o {tk dr : Int64} {b : Nat} (h1 : b ≠ xo + 1) (h2 : b ≠ a2) : cL L (xo + 1) a2 tk dr b = L b := by
  show u2 (u2 L a2 1 dr) (xo + 1) 9 tk b = L b
  rw [u2_ne h1, u2_ne h2]
theorem cL_a {tk dr : Int64} (h1 : a2 ≠ xo + 1) : cL L (xo + 1) a2 tk dr a2 1 = dr := by
  show u2 (u2 L a2 1 dr) (xo + 1) 9 tk a2 1 = dr
  rw [u2_ne h1, u2_ap, if_pos rfl, if_pos rfl]
end W26
section Q26
variable {Γ : Gam} {k xo mo ol : Nat} {T : JT} {R S : JR} {I : JI} {L : JL}
theorem st_load_bad (hw : Wd Γ k xo mo T R S I L) (hol : mo + 18 ≤ ol) {i : Int32} {q : Nat} (b2 : I (xo + 1) 2 = nI q) (b3 : I mo 2 = nI q) (hq : q ≤ 1200) (g : inI i 0 (nI q) = 0) : BSt Γ k xo mo ol 100 100 Y_X8_load Y_X9_load [.int i] [(0, 0), (2, 1), (3, 2)] T R S I L := by
  have hw0 := hw
  obtain ⟨p, p2, a, a2, u, nx, hl, hb, ha⟩ := hw
  have hi : i < 0 ∨ nI q < i := by
    have h1 : ¬ (0 ≤ i ∧ i ≤ nI q) := fun h => inI_iff.mpr h g
    rw [fa_le, fa_le] at h1
    rw [fa_lt, fa_lt]
    omega
  refine BSt.q (n := 2) (t := 1) (v := 0) (w := 0) hw0 hol (fun D => by
    have h := ex_load_bad (Γ := Γ) (d := 92) (T := T) (R := R) (S := S) (I := I) (L := L) (D := D) hl.1 b2 hi
    exact h) (fun L' D' => by
    have h := ex_mload_bad (Γ := Γ) (d := 99) (T := T) (R := R) (S := S) (I := I) (A := sK I mo) (G := I mo) (L := L') (D := D') (z := none) hl.2.1 (n := i) (by rw [b3]; exact g)
    rw [st_sK0, blk_sKn, mB_w] at h
    exact h) (by decide) (fun h => by cases h)
theorem st_load_fl {p p2 a a2 u nx : Nat} (hl : WL Γ xo mo T R S p p2 a a2) (hb : WB I xo mo p p2 u nx) (ha : WN I xo mo p a u ∨ WA k I L xo mo p a u nx) (hol : mo + 18 ≤ ol) {n bq : Nat} (hbq : bq ≤ 1) (h25 : I mo 25 = nI bq) {b : Nat → Nat} {e : Nat × Nat} {D : JD} {H : Nat → Tst}
    (hC : Ex Γ 100 Y_X8_load [.ref xo, .int (nI n)] (T, R, S, I, L, D, none) 1 6 (rLd T R S I L D xo p p2 a a2 (.inl e)))
    (hM : ∀ I1 L' D', sK I1 mo = sK I mo → Ex Γ 100 Y_X9_load [.ref mo, .int (nI n)] (T, R, S, I1, L', D', none) 0 0 (rPi (ldP b bq (.inl e) (sK I mo) (I mo)) (fun A' G' => (T, R, S, blk 18 I1 mo (st A' 0 G'), L', D', none)))) :
    ∃ (n' : Nat) (t v : Int32) (G : JR → JI → JL → Prop), (n', t) ∈ ([(0, 0), (2, 1), (3, 2)] : List (Nat × Int32)) ∧ Ex Γ 100 Y_X8_load [.ref xo, .int (nI n)] (T, R, S, I, L, D, none) (ec n') (es n') (fun o M1 => o = eO n' (.int v) ∧ ∃ S1 I1 L1, M1 = (T, R, S1, I1, L1, D, none) ∧ G S1 I1 L1) ∧ ∀ S1 I1 L1 L' D', G S1 I1 L1 → (∀ b, b < ol → L' b = L1 b) → Ex Γ 100 Y_X9_load [.ref mo, .int (nI n)] (T, R, S1, I1, L', D', none) 0 0 (fun o M2 => ∃ S2 I2 w, (o = .inl (some (.int w)) ∧ (n' = 0 → w = v)) ∧ M2 = (T, R, S2, I2, L', D', none) ∧ Wd Γ (k + 1) xo mo T R S2 I2 L' ∧ I2 mo 0 = t) := by
  have hps := hl.ps
  have hlt := hl.2.2.2
  refine ⟨3, 2, 0, fun S1 I1 L1 => S1 = S ∧ ∃ F P K tk dr, (F 0 = nI e.1 ∧ F 1 = nI e.2 ∧ F 2 = 0 ∧ cP6 P) ∧ I1 = cI I (sK I (xo + 1)) (xo + 1) p2 a2 F P K ∧ L1 = cL L (xo + 1) a2 tk dr, by decide, hC.mono fun o M1 h => ?_, fun S1 I1 L1 L' D' h hL => ?_⟩
  · obtain ⟨h1, F, P, K, tk, dr, h2, h3⟩ := h
    exact ⟨h1, _, _, _, h3, rfl, F, P, K, tk, dr, h2, rfl, rfl⟩
  · obtain ⟨rfl, F, P, K, tk, dr, ⟨yf0, yf1, yf2, yf6⟩, h1, h2⟩ := h
    have o1 : ∀ b, (b < xo + 1 ∨ xo + 3 ≤ b) → (b < p2 ∨ p2 + 16 ≤ b) → (b < a2 ∨ a2 + 19 ≤ b) → I1 b = I b := fun b q1 q2 q3 => by rw [h1]; exact cI_o q1 q2 q3
    have eA : sK I1 mo = sK I mo := funext fun c => o1 _ (by omega) (by omega) (by omega)
    refine (hM I1 L' D' eA).mono fun o M2 h9 => ?_
    obtain ⟨n2, A', G', ⟨yd1, yd2, yd3, yd4, yd5, yd6, yd7, yd8, yd9, yd10, yd11, yd12, yd13, yd14⟩, h4, h5⟩ := h9
    have o2 : ∀ b, b < mo → blk 18 I1 mo (st A' 0 G') b = I1 b := fun b hb => blk_out (by omega)
    have m0 : ∀ j, blk 18 I1 mo (st A' 0 G') mo j = G' j := fun j => by rw [blk_0 (by decide), st_eq]
    have mc : ∀ c, 0 < c → c < 18 → blk 18 I1 mo (st A' 0 G') (mo + c) = A' c := fun c q1 q2 => by rw [blk_k q2, st_ne (by omega)]
    have hCC : ∀ b, (b = xo ∨ xo + 3 ≤ b) → b < xo + 233 → (b < p2 ∨ p2 + 16 ≤ b) → (b < a2 ∨ a2 + 19 ≤ b) → blk 18 I1 mo (st A' 0 G') b = I b := fun b q1 q2 q3 q4 => by rw [o2 _ (by omega)]; exact o1 b (by omega) q3 q4
    have pp1 : blk 18 I1 mo (st A' 0 G') (xo + 1) = F := by rw [o2 _ (by omega), h1]; exact cI_0
    have hmm : ∀ c, c = 2 ∨ c = 4 ∨ c = 7 ∨ c = 8 ∨ c = 9 → blk 18 I1 mo (st A' 0 G') (mo + c) = I (mo + c) := fun c hc => by
      rw [mc c (by omega) (by omega)]
      rcases hc with rfl | rfl | rfl | rfl | rfl
      · exact yd11
      · exact yd12
      · exact yd3 7 (by omega)
      · exact yd3 8 (by omega)
      · exact yd13
    have hg : ∀ j, 9 < j → j ≠ 26 → j ≠ 27 → blk 18 I1 mo (st A' 0 G') mo j = I mo j := fun j q1 q2 q3 => by
      rw [m0]
      by_cases e1 : j = 18
      · rw [e1]; exact yd8
      · by_cases e2 : j = 19
        · rw [e2]; exact yd9
        · by_cases e3 : j = 25
          · rw [e3]; exact yd10
          · exact yd1 j q1 e1 e2 e3 q2 q3
    have hu := hb.2.2.2.2.2
    have c73 := hCC (xo + 73) (by omega) (by omega) (by omega) (by omega)
    refine ⟨_, _, _, ⟨h4, fun h => by cases h⟩, h5, ⟨p, p2, a, a2, u, nx, hl, hb.ld (p' := p) (p2' := p2) (fun b q1 q2 => hCC b (by omega) (by omega) (by omega) (by omega)) ⟨by rw [pp1]; exact yf2, by rw [m0]; exact yd2⟩ ⟨by rw [pp1, m0, yd6]; exact yf0, by rw [pp1, m0, yd7]; exact yf1⟩ ⟨bq, hbq, by rw [hg 25 (by omega) (by omega) (by omega)]; exact h25⟩ ⟨fun l hl4 => ?_, fun l hl4 => ?_⟩ (fun j hj => hg j (by omega) (by omega) (by omega)) (fun c hc => by rw [mc c (by omega) (by omega)]; exact yd3 c (by omega)) ⟨hu.1, hu.2.1, by rw [c73]; exact hu.2.2.1, by rw [c73]; exact hu.2.2.2.1, (hg 18 (by omega) (by omega) (by omega)).trans hu.2.2.2.2⟩, ?_⟩, by rw [m0]; exact yd5⟩
    · show ∃ n, n ≤ 20 ∧ blk 18 I1 mo (st A' 0 G') (p + 6) l = nI n
      rw [hCC (p + 6) (by omega) (by omega) (by omega) (by omega)]
      exact hb.2.2.2.1.1 l hl4
    · show ∃ n, n ≤ 20 ∧ blk 18 I1 mo (st A' 0 G') (p2 + 6) l = nI n
      rw [o2 _ (by omega), h1, cI_p (by omega) (by decide)]
      exact yf6 l hl4
    · rcases ha with ha | ha
      · exact Or.inl (ha.fl hl (fun b q1 q2 q3 q4 => hCC b q1 (by omega) q3 q4) (hg 19 (by omega) (by omega) (by omega)) hmm)
      · refine Or.inr (ha.fl hl (fun b q1 q2 q3 q4 => hCC b q1 (by omega) q3 q4) (hg 19 (by omega) (by omega) (by omega)) hmm hbq h25 ((hg 25 (by omega) (by omega) (by omega)).trans h25) (fun c j q1 q2 => ?_) (fun b q1 q2 q3 => ?_))
        · by_cases g : c < 18
          · show blk 18 I1 mo (st A' 0 G') (mo + c) j = _
            rw [mc c (by omega) g]
            exact yd14 c j q1 q2
          · show blk 18 I1 mo (st A' 0 G') (mo + c) j = I (mo + c) j
            rw [blk_out (by omega), o1 _ (by omega) (by omega) (by omega)]
        · rw [hL b (by omega), h2]
          exact cL_o (by omega) (by omega)
end Q26
