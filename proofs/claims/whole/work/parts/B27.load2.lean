/-! LOAD OF AN AIRPORT, BOTH SIDES -/
section W27
variable {Γ : Gam} {k xo mo : Nat} {T : JT} {R S : JR} {I J : JI} {L : JL} {p p2 a a2 : Nat}
theorem swS_at (j : Nat) : swS S xo p p2 a a2 xo j = if j = 5 then some a else if j = 4 then some a2 else if j = 3 then some p else if j = 2 then some p2 else S xo j := by
  unfold swS
  rw [u2_ap, if_pos rfl, u2_ap, if_pos rfl, u2_ap, if_pos rfl, u2_ap, if_pos rfl]
theorem WL.sw (hl : WL Γ xo mo T R S p p2 a a2) : WL Γ xo mo T R (swS S xo p p2 a a2) p2 p a2 a := by
  have hps := hl.ps
  have hlt := hl.2.2.2
  obtain ⟨s0, s2, s3, s4, s5, s6, s7, s8, s11, s12, s13⟩ := hl.1.2.2.2.1
  refine ⟨⟨hl.1.1, by omega, by omega, ⟨(swS_at 0).trans s0, swS_at 2, swS_at 3, swS_at 4, swS_at 5, (swS_at 6).trans s6, (swS_at 7).trans s7, (swS_at 8).trans s8, (swS_at 11).trans s11, (swS_at 12).trans s12, (swS_at 13).trans s13⟩, hl.1.2.2.2.2⟩, ⟨hl.2.1.1, fun q hq => ?_⟩, hl.2.2.1, hlt⟩
  unfold swS
  rw [u2_ne (by omega), u2_ne (by omega), u2_ne (by omega), u2_ne (by omega)]
  exact hl.2.1.2 q hq
theorem swI_o {b : Nat} (h1 : b ≠ xo) (h2 : b ≠ xo + 73) : swI J xo b = J b := by
  unfold swI
  rw [u2_ne h1, u2_ne h1, u2_ne h1, u2_ne h2]
theorem swI_x : swI J xo xo 1 = 1 ∧ swI J xo xo 9 = 0 ∧ swI J xo xo 10 = 0 ∧ swI J xo (xo + 73) 0 = 0 ∧ swI J xo (xo + 73) 1 = J (xo + 73) 1 := by
  unfold swI
  refine ⟨?_, ?_, ?_, ?_, ?_⟩
  · rw [u2_ap, if_pos rfl, if_pos rfl]
  · rw [u2_ap, if_pos rfl, if_neg (by decide), u2_ap, if_pos rfl, if_neg (by decide), u2_ap, if_pos rfl, if_pos rfl]
  · rw [u2_ap, if_pos rfl, if_neg (by decide), u2_ap, if_pos rfl, if_pos rfl]
  · rw [u2_ne (by omega), u2_ne (by omega), u2_ne (by omega), u2_ap, if_pos rfl, if_pos rfl]
  · rw [u2_ne (by omega), u2_ne (by omega), u2_ne (by omega), u2_ap, if_pos rfl, if_neg (by decide)]
theorem kpT_st {bq k' kk : Nat} {H : Nat → Tst} {A : JI} {G : JV} (h : kpT bq k' kk H A (A 2)) : kpT bq k' kk H (st A 0 G) (st A 0 G 2) := fun i hi => by
  obtain ⟨n, lo, e1, e2, e3, e4⟩ := h i hi
  refine ⟨n, lo, by rw [st_ne (by omega)]; exact e1, e2, e3, fun X' c => ?_⟩
  rw [vN_cg (A := st A 0 G) (A' := A) (st_ne (by omega)) (st_ne (by omega)) (st_ne (by omega)) (st_ne (by omega))]
  exact e4 X' c
end W27
section Q27
variable {Γ : Gam} {k xo mo ol : Nat} {T : JT} {R S : JR} {I : JI} {L : JL}
theorem st_load_ok {p p2 a a2 u nx : Nat} (hl : WL Γ xo mo T R S p p2 a a2) (hb : WB I xo mo p p2 u nx) (hol : mo + 18 ≤ ol) {n bq : Nat} (hbq : bq ≤ 1) {b : Nat → Nat} {x : PSt × Nat} {D : JD}
    (hC : Ex Γ 100 Y_X8_load [.ref xo, .int (nI n)] (T, R, S, I, L, D, none) 0 0 (rLd T R S I L D xo p p2 a a2 (.inr x)))
    (hM : ∀ S1 I1 L' D', hMo T S1 mo → sK I1 mo = sK I mo → Ex Γ 100 Y_X9_load [.ref mo, .int (nI n)] (T, R, S1, I1, L', D', none) 0 0 (rPi (ldP b bq (.inr x) (sK I mo) (I mo)) (fun A' G' => (T, R, S1, blk 18 I1 mo (st A' 0 G'), L', D', none)))) :
    ∃ (n' : Nat) (t v : Int32) (G : JR → JI → JL → Prop), (n', t) ∈ ([(0, 0), (2, 1), (3, 2)] : List (Nat × Int32)) ∧ Ex Γ 100 Y_X8_load [.ref xo, .int (nI n)] (T, R, S, I, L, D, none) (ec n') (es n') (fun o M1 => o = eO n' (.int v) ∧ ∃ S1 I1 L1, M1 = (T, R, S1, I1, L1, D, none) ∧ G S1 I1 L1) ∧ ∀ S1 I1 L1 L' D', G S1 I1 L1 → (∀ b, b < ol → L' b = L1 b) → Ex Γ 100 Y_X9_load [.ref mo, .int (nI n)] (T, R, S1, I1, L', D', none) 0 0 (fun o M2 => ∃ S2 I2 w, (o = .inl (some (.int w)) ∧ (n' = 0 → w = v)) ∧ M2 = (T, R, S2, I2, L', D', none) ∧ Wd Γ (k + 1) xo mo T R S2 I2 L' ∧ I2 mo 0 = t) := by
  have hps := hl.ps
  have hlt := hl.2.2.2
  refine ⟨0, 0, x.1.2.1 2, fun S1 I1 L1 => S1 = swS S xo p p2 a a2 ∧ ∃ F P K tk dr, cEnd x.1 x.2 F P K tk dr ∧ I1 = swI (cI I (sK I (xo + 1)) (xo + 1) p2 a2 F P K) xo ∧ L1 = cL L (xo + 1) a2 tk dr, by decide, hC.mono fun o M1 h => ?_, fun S1 I1 L1 L' D' h hL => ?_⟩
  · obtain ⟨F, P, K, tk, dr, hE, h1, h2⟩ := h
    refine ⟨?_, _, _, _, h2, rfl, F, P, K, tk, dr, hE, rfl, rfl⟩
    obtain ⟨_, _, kf, kl, kc, kk, c, sz, m, K0, _, _, yx, _, _, _, ys, ek⟩ := hE
    rw [h1, ek, adA_1, ys.1.2.2.2.2.1, yx.1.1]
    rfl
  · obtain ⟨h0, F, P, K, tk, dr, ⟨⟨yf0, yf1, yf2⟩, yf6, kf, kl, kc, kk, c, sz, m, K0, k1, hy, yx, hpl, hte, hm6, ys, ek⟩, h1, h2⟩ := h
    have yk8 : kf ≤ 8 := hy.1.2.1
    have wl := hl.sw
    rw [← h0] at wl
    have o1 : ∀ b, b ≠ xo → b ≠ xo + 73 → I1 b = cI I (sK I (xo + 1)) (xo + 1) p2 a2 F P K b := fun b q1 q2 => by rw [h1]; exact swI_o q1 q2
    have o3 : ∀ b, b ≠ xo → b ≠ xo + 73 → (b < xo + 1 ∨ xo + 3 ≤ b) → (b < p2 ∨ p2 + 16 ≤ b) → (b < a2 ∨ a2 + 19 ≤ b) → I1 b = I b := fun b q1 q2 q3 q4 q5 => by rw [o1 b q1 q2]; exact cI_o q3 q4 q5
    have eA : sK I1 mo = sK I mo := funext fun c => o3 _ (by omega) (by omega) (by omega) (by omega) (by omega)
    refine (hM S1 I1 L' D' wl.2.1 eA).mono fun o M2 h9 => ?_
    obtain ⟨n2, A', G', ⟨yd1, yd2, yd3, yd4, yd5, yd6, yd7, yd8, yd9, yd10, yd11, yd12, yd13, yd14, k', kf', kl', ks', kk', kc', sz', z1, z2, z3⟩, h4, h5⟩ := h9
    have o2 : ∀ b, b < mo → blk 18 I1 mo (st A' 0 G') b = I1 b := fun b hb => blk_out (by omega)
    have m0 : ∀ j, blk 18 I1 mo (st A' 0 G') mo j = G' j := fun j => by rw [blk_0 (by decide), st_eq]
    have mk : ∀ c, c < 18 → sK (blk 18 I1 mo (st A' 0 G')) mo c = st A' 0 G' c := fun c q2 => blk_k q2
    have mc : ∀ c, 0 < c → c < 18 → blk 18 I1 mo (st A' 0 G') (mo + c) = A' c := fun c q1 q2 => by rw [blk_k q2, st_ne (by omega)]
    have ekk : kk' = kk := nI_inj' (by have := z2.2.2.2.2.2.2.2.1; omega) (by have := hy.1.2.2.2.2.2.2.2; omega) (z2.2.2.2.2.2.2.1.symm.trans hy.1.2.2.2.2.2.2.1)
    rw [ekk] at z3
    have hQ : qOf (A' 2) x.1.1 := yd12
    have q12 : A' 2 12 = nI kf := (hQ 12 (by omega) (by omega)).trans hy.1.1
    have hQs : qOf (st A' 0 G' 2) x.1.1 := by rw [st_ne (by omega)]; exact hQ
    have hAir : AirP kf (fun i X b => x.1.2.2 i (mAs X b)) (sK (blk 18 I1 mo (st A' 0 G')) p2) (sK (blk 18 I1 mo (st A' 0 G')) mo) := by
      have hp : pSm P (sK (blk 18 I1 mo (st A' 0 G')) p2) := fun c hc => by
        show blk 18 I1 mo (st A' 0 G') (p2 + c) = P c
        rw [o2 _ (by omega), o1 _ (by omega) (by omega)]
        exact cI_p (by omega) (by omega)
      refine AirP.cg (P := P) (A := st A' 0 G') ?_ (by rw [mk 0 (by omega)]) hp (mk 2 (by omega)) (mk 11 (by omega)) (mk 12 (by omega)) (mk 13 (by omega)) (mk 14 (by omega))
      have ye25 : st A' 0 G' 0 25 = nI (1 - bq) := by rw [st_eq]; exact yd10
      have hm := ld_mq hy hQs
      refine ⟨ld_rp hy hpl hQs, hm.1, hm.2, ld_wp hy hpl hte hm6 yf6, ld_rh hy hte hm6 hQs, ld_hn hy hQs (kpT_st z3), ?_, ?_, fun f hf => ?_, ld_hnl hbq ye25 z1 hy hQs (kpT_st z3)⟩
      · rw [hQs 14 (by omega) (by omega), hy.1.2.2.2.2.2.2.1]
        exact hte.1
      · rw [st_ne (by omega)]
        exact q12
      · rw [hQs 0 (by omega) (by omega), hy.2.1.1, nN_nI (by have := hy.2.1.2.2.1; omega), hQs (15 + f) (by omega) (by omega)]
        exact hy.2.2.2.2.2.1 f hf
    have hu := hb.2.2.2.2.2
    have sx := swI_x (J := cI I (sK I (xo + 1)) (xo + 1) p2 a2 F P K) (xo := xo)
    rw [← h1] at sx
    obtain ⟨sx1, sx2, sx3, sx4, sx5⟩ := sx
    have pp1 : blk 18 I1 mo (st A' 0 G') (xo + 1) = F := by rw [o2 _ (by omega), o1 _ (by omega) (by omega)]; exact cI_0
    refine ⟨_, _, _, ⟨h4, fun _ => yd4.symm⟩, h5, ⟨p2, p, a2, a, 0, nx, wl, hb.ld (p' := p2) (p2' := p) (u' := 0) (nx' := nx) (fun b q1 q2 => by rw [o2 _ (by omega)]; exact o3 b (by omega) (by omega) (by omega) (by omega) (by omega)) ⟨by rw [pp1]; exact yf2, by rw [m0]; exact yd2⟩ ⟨by rw [pp1, m0, yd6]; exact yf0, by rw [pp1, m0, yd7]; exact yf1⟩ ⟨1 - bq, by omega, by rw [m0]; exact yd10⟩ ⟨fun l hl4 => ?_, fun l hl4 => ?_⟩ (fun j hj => by rw [m0]; exact yd1 j (by omega) (by omega) (by omega) (by omega) (by omega) (by omega)) (fun c hc => by rw [mc c (by omega) (by omega)]; exact yd3 c (by omega)) ⟨by omega, hu.2.1, by rw [o2 _ (by omega)]; exact sx4, ?_, by rw [m0]; exact yd8⟩, Or.inr ⟨⟨by rw [o2 _ (by omega)]; exact sx1, by rw [m0]; exact yd9⟩, kf, _, hAir, ?_, fun i hi => absurd hi (by omega), Or.inl ⟨by rw [o2 _ (by omega)]; exact sx2, by rw [mc 9 (by omega) (by omega)]; exact yd13⟩, Or.inl ⟨by rw [o2 _ (by omega)]; exact sx3, by rw [mc 9 (by omega) (by omega)]; exact yd14⟩⟩⟩, by rw [m0]; exact yd5⟩
    · show ∃ n, n ≤ 20 ∧ blk 18 I1 mo (st A' 0 G') (p2 + 6) l = nI n
      rw [o2 _ (by omega), o1 _ (by omega) (by omega), cI_p (by omega) (by decide)]
      exact yf6 l hl4
    · show ∃ n, n ≤ 20 ∧ blk 18 I1 mo (st A' 0 G') (p + 6) l = nI n
      rw [o2 _ (by omega), o3 (p + 6) (by omega) (by omega) (by omega) (by omega) (by omega)]
      exact hb.2.2.2.1.1 l hl4
    · rw [o2 _ (by omega), sx5, cI_o (by omega) (by omega) (by omega)]
      exact hu.2.2.2.1
    · have hsr := ((ld_sr (Q := A' 2) yx yk8 ys q12).ag yd11 yk8).up (Nat.zero_le (k + 1))
      rw [← ek] at hsr
      rw [mc 2 (by omega) (by omega), mc 4 (by omega) (by omega), hL a2 (by omega), h2, cL_a (by omega)]
      refine hsr.kag (eqv.kag fun c hc => ?_)
      show K c = blk 18 I1 mo (st A' 0 G') (a2 + c)
      rw [o2 _ (by omega), o1 _ (by omega) (by omega), cI_a (by omega) (by omega) hc]
theorem st_load (hw : Wd Γ k xo mo T R S I L) (hk : k ≤ 599) (hol : mo + 18 ≤ ol) {i : Int32} : BSt Γ k xo mo ol 100 100 Y_X8_load Y_X9_load [.int i] [(0, 0), (2, 1), (3, 2)] T R S I L := by
  have hw0 := hw
  obtain ⟨p, p2, a, a2, u, nx, hl, hb, ha⟩ := hw
  obtain ⟨b, q, b1, b2, b3, b4_, b5⟩ := hb.1
  obtain ⟨bq, hbq, bq2⟩ := hb.2.2.1
  rcases in_lh (lo := 0) (hi := q) (by omega) (by omega) i with ⟨m, m1, m2, rfl, m4, m5⟩ | ⟨m4, m5⟩
  · intro D
    have hC := ex_load (Γ := Γ) (d := 67) (T := T) (R := R) (S := S) (I := I) (L := L) (D := D) (b := b) (N := sK I mo 3) (X := sK I mo 5) (H := fun _ _ => false) hl.1 b2 m2 b1 ⟨by omega, fun j hj => b4_.2 j (by omega)⟩ hb.2.2.2.1.2
    have hM : ∀ S1 I1 L' D', hMo T S1 mo → sK I1 mo = sK I mo → Ex Γ 100 Y_X9_load [.ref mo, .int (nI m)] (T, R, S1, I1, L', D', none) 0 0 (rPi (ldP b bq (pTxt b m (rgX (sK I mo 3) 0 51 0) (clX0 (sK I mo 5)) (fun _ _ => false)) (sK I mo) (I mo)) (fun A' G' => (T, R, S1, blk 18 I1 mo (st A' 0 G'), L', D', none))) := fun S1 I1 L' D' hm eA => by
      have e0 : I1 mo = I mo := congrFun eA 0
      have h := ex_mload (Γ := Γ) (d := 57) (T := T) (R := R) (S := S1) (I := I1) (A := sK I1 mo) (G := I1 mo) (L := L') (D := D') (z := none) (b := b) (bq := bq) (H := fun _ _ => false) hm hl.2.2.1 (n := m) (q := q) (by rw [e0]; exact b3) m2 b1 (by rw [eA]; exact ⟨by omega, fun j hj => b5.2 j (by omega)⟩) (by rw [e0]; exact bq2) hbq
      rw [st_sK0, blk_sKn, eA, e0] at h
      exact h
    generalize pTxt b m (rgX (sK I mo 3) 0 51 0) (clX0 (sK I mo 5)) (fun _ _ => false) = RES at hC hM
    cases RES with
    | inl e => exact st_load_fl hl hb ha hol hbq bq2 (H := fun _ _ => false) hC (fun I1 L' D' eA => hM S I1 L' D' hl.2.1 eA)
    | inr x => exact st_load_ok hl hb hol hbq hC hM
  · exact st_load_bad hw0 hol b2 b3 b1 m4
end Q27
