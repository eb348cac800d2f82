/-! THE HEADER of the component -/
def hdN (N : JV) (f : Nat → Nat) : JV := w1 (w1 (w1 (w1 (w1 (w1 (w1 (w1 (w1 (w1 (w1 (w1 N 0 (nI (f 0))) 1 (nI (f 1))) 2 (nI (f 2))) 3 (nI (f 3))) 6 (nI (f 6))) 9 (nI (f 9))) 4 (nI (f 4))) 7 (nI (f 7))) 10 (nI (f 10))) 5 (nI (f 5))) 8 (nI (f 8))) 11 (nI (f 11))
def hdP (P : JI) (f : Nat → Nat) : JI := u2 (u2 (u2 (u2 (u2 (u2 (u2 (u2 (u2 (u2 (u2 (u2 (P) 0 0 (nI (f 0))) 0 1 (nI (f 1))) 0 2 (nI (f 2))) 1 0 (nI (f 3))) 2 0 (nI (f 6))) 3 0 (nI (f 9))) 1 1 (nI (f 4))) 2 1 (nI (f 7))) 3 1 (nI (f 10))) 1 2 (nI (f 5))) 2 2 (nI (f 8))) 3 2 (nI (f 11))
theorem hdN_lt {N : JV} {f : Nat → Nat} {j : Nat} (h : j < 12) : hdN N f j = nI (f j) := by
  unfold hdN
  rcases (show j = 0 ∨ j = 1 ∨ j = 2 ∨ j = 3 ∨ j = 4 ∨ j = 5 ∨ j = 6 ∨ j = 7 ∨ j = 8 ∨ j = 9 ∨ j = 10 ∨ j = 11 by omega) with rfl | rfl | rfl | rfl | rfl | rfl | rfl | rfl | rfl | rfl | rfl | rfl <;> rfl
theorem hdN_ge {N : JV} {f : Nat → Nat} {j : Nat} (h : 12 ≤ j) : hdN N f j = N j := by
  unfold hdN
  rw [w1_ne (by omega), w1_ne (by omega), w1_ne (by omega), w1_ne (by omega), w1_ne (by omega), w1_ne (by omega), w1_ne (by omega), w1_ne (by omega), w1_ne (by omega), w1_ne (by omega), w1_ne (by omega), w1_ne (by omega)]
/-- the cleared plan -/
def plC (P : JI) : JI := u2 (u2 (u2 (u2 (u2 P 0 6 0) 0 8 0) 0 11 0) 11 0 0) 11 1 0
/-- the bounds of the header's numbers -/
def hdB (f : Nat → Nat) (hot seed : Nat) : Prop := 4 ≤ f 0 ∧ f 0 ≤ 40 ∧ f 1 < f 0 ∧ f 2 < f 0 ∧ f 2 ≠ f 1 ∧ (∀ q, q < 3 → 1 ≤ f (3 + q) ∧ f (3 + q) < 5 ∧ 1 ≤ f (6 + q) ∧ f (6 + q) < 100 ∧ f (9 + q) < 1001) ∧ hot < 1000 ∧ seed < 100000
theorem clX0_v {X : JV} {j : Nat} (h : j < 2086) : clX0 X j = dfl j := by
  unfold clX0 rgX dfl
  by_cases h1 : 133 ≤ j ∧ j < 133 + 40
  · rw [if_pos h1, if_pos (by omega)]
  · rw [if_neg h1]
    by_cases h2 : 109 ≤ j ∧ j < 109 + 12
    · rw [if_pos h2, if_pos (by omega)]
    · rw [if_neg h2, if_pos (by omega), if_neg (by omega)]
theorem hd_yN {N : JV} {f : Nat → Nat} {hot seed : Nat} (h : hdB f hot seed) : yN (hdN (rgX N 0 51 0) f) 0 0 0 0 (f 0) := by
  obtain ⟨h1, h2, h3, h4, h5, h6, h7, h8⟩ := h
  have z : ∀ j, 12 ≤ j → j < 51 → hdN (rgX N 0 51 0) f j = nI 0 := fun j a1 a2 => by
    rw [hdN_ge a1]
    unfold rgX
    rw [if_pos (by omega)]
    rfl
  refine ⟨⟨z 12 (by omega) (by omega), by omega, z 13 (by omega) (by omega), by omega, z 34 (by omega) (by omega), by omega, z 14 (by omega) (by omega), by omega⟩, ⟨hdN_lt (by omega), h1, h2, ?_, ?_⟩, fun q hq => ?_, fun q hq => ?_, fun l hl => ?_, fun q hq => absurd hq (by omega), fun q hq => absurd hq (by omega)⟩
  · rw [hdN_lt (by omega)]; exact nB_nI h3 (by omega)
  · rw [hdN_lt (by omega)]; exact nB_nI h4 (by omega)
  · obtain ⟨g1, g2, g3, g4, g5⟩ := h6 q hq
    rw [hdN_lt (by omega), hdN_lt (by omega), hdN_lt (by omega)]
    exact ⟨nB_nI g2 (by omega), ⟨_, rfl, g3, by omega⟩, nB_nI g5 (by omega)⟩
  · rw [z (15 + q) (by omega) (by omega)]; exact nB_nI (by omega) (by omega)
  · rw [z (23 + l) (by omega) (by omega), z (27 + l) (by omega) (by omega)]; exact ⟨nB_nI (by omega) (by omega), nB_nI (by omega) (by omega)⟩
theorem hd_yX {X : JV} {hot seed : Nat} (h7 : hot < 1000) (h8 : seed < 100000) : yX (w1 (w1 (clX0 X) 4 (nI hot)) 1 (nI seed)) 0 0 := by
  have e : ∀ j, j < 2086 → j ≠ 4 → j ≠ 1 → w1 (w1 (clX0 X) 4 (nI hot)) 1 (nI seed) j = dfl j := fun j a1 a2 a3 => by rw [w1_ne a3, w1_ne a2, clX0_v a1]
  refine ⟨⟨e 2 (by omega) (by omega) (by omega), by omega, ?_, ?_⟩, fun q hq => absurd hq (by omega), fun j hj h => e j hj (by omega) (by omega), fun q hq => absurd hq (by omega), fun q h1 h2 => ?_⟩
  · rw [w1_ne (by omega), w1_eq]; exact nB_nI h7 (by omega)
  · rw [w1_eq]; exact nB_nI h8 (by omega)
  · rw [e (173 + q) (by omega) (by omega) (by omega), e (473 + q) (by omega) (by omega) (by omega), e (773 + q) (by omega) (by omega) (by omega)]
    unfold dfl
    rw [if_neg (by omega), if_neg (by omega), if_neg (by omega)]
    exact ⟨rfl, rfl, rfl⟩
theorem hd_pPl {N : JV} {P : JI} {f : Nat → Nat} : pPl (hdN N f) (hdP (plC P) f) 0 0 0 := by
  refine ⟨⟨?_, ?_, ?_⟩, fun q hq => ?_, ⟨?_, ?_, ?_⟩, fun q hq => absurd hq (by omega), fun q hq => absurd hq (by omega), fun q hq => absurd hq (by omega)⟩
  · rw [hdN_lt (by omega)]; simp [hdP, u2]
  · rw [hdN_lt (by omega)]; simp [hdP, u2]
  · rw [hdN_lt (by omega)]; simp [hdP, u2]
  · rw [hdN_lt (by omega), hdN_lt (by omega), hdN_lt (by omega)]
    rcases (show q = 0 ∨ q = 1 ∨ q = 2 by omega) with rfl | rfl | rfl <;> refine ⟨?_, ?_, ?_⟩ <;> simp [hdP, u2]
  · simp [hdP, plC, u2]; rfl
  · simp [hdP, plC, u2]; rfl
  · simp [hdP, plC, u2]; rfl
theorem hd_pTe {P : JI} {f : Nat → Nat} {H : Nat → Tst} : pTe (hdP (plC P) f) H 0 0 := by
  refine ⟨?_, ?_, fun _ => rfl, fun i h => absurd h (by omega), fun i hi => absurd hi (by omega)⟩
  · simp [hdP, plC, u2]; rfl
  · simp [hdP, plC, u2]; rfl
theorem hd_pSt {X : JV} {K : JI} {hot seed : Nat} : pSt0 (w1 (w1 (clX0 X) 4 (nI hot)) 1 (nI seed)) (u2 (kClr K) 0 2 (nI hot)) (nI seed).toInt64 0 0 := by
  refine ⟨⟨?_, ?_, ?_, ?_, ?_, ?_⟩, fun b hb => absurd hb (by omega), ?_, fun j h1 h2 => ?_, fun q hq => absurd hq (by omega), fun j hj => ?_, fun j hj => ?_, fun j hj => ?_⟩
  · simp [kClr, kBC, uF, u2]
  · rw [w1_ne (by omega), w1_eq]; simp [u2]
  · simp [kClr, kBC, uF, u2]
  · simp [kClr, kBC, uF, u2]
  · simp [kClr, kBC, uF, u2]; rfl
  · rw [w1_eq]
  · simp [kClr, kBC, uF, u2]; rfl
  · simp [kClr, kBC, uF, u2, h2]
  · exact ⟨by simp [kClr, kBC, uF, u2, hj], by simp [kClr, kBC, uF, u2, hj]⟩
  · simp [kClr, kBC, uF, u2, hj]
  · exact ⟨by simp [kClr, kBC, uF, u2, hj], by simp [kClr, kBC, uF, u2, hj]⟩
theorem hd_pTk {N : JV} {f : Nat → Nat} {hot seed : Nat} (h : hdB f hot seed) : pTk (hdN N f) 0 0 (f 0) (tkP (tkP 0 (f 1)) (f 2)) := by
  intro v hv
  obtain ⟨h1, h2, h3, h4, h5, h6, h7, h8⟩ := h
  rw [tkB_P (by omega) (by omega), tkB_P (by omega) (by omega)]
  unfold tkn
  rw [hdN_lt (by omega), hdN_lt (by omega)]
  have e0 := tkB_0 (v := v) (by omega)
  constructor
  · intro w
    have w2 : (decide (nI v = nI (f 1)) || decide (nI v = nI (f 2))) = true := by simpa [anyU] using w
    rw [Bool.or_eq_true, decide_eq_true_iff, decide_eq_true_iff] at w2
    rcases w2 with w2 | w2
    · exact Or.inl (Or.inr (nI_inj' (by omega) (by omega) w2))
    · exact Or.inr (nI_inj' (by omega) (by omega) w2)
  · rintro ((w | w) | w)
    · exact absurd w e0
    · subst w; simp [anyU]
    · subst w; simp [anyU]
section B3
variable {Γ : Gam} {d : Nat} {T : JT} {R S : JR} {I C P K : JI} {L : JL} {D : JD} {tk dr : Int64} {pa pl sa E p : Nat} {F : JV} {b : Nat → Nat} {N X : JV} {H : Nat → Tst}
theorem ct_head (hp : hPa T R pa) (hb : pB_ C b E) (hs : cSt b E 0 F) (hcp : cP6 (plC P)) (hd : hDj pa pl sa) (hpl : hPl T R pl) (hsa : hSt T R sa) : Ex Γ (d + 9) Y_X2_readHeader [.ref pa, .ref pl, .ref sa] (cM T R S I L D C pa pl sa F (plC P) (kClr K) 0 dr) (ec (eN (hdC b E (rgX N 0 51 0) (clX0 X) H))) (es (eN (hdC b E (rgX N 0 51 0) (clX0 X) H))) (rC (cM T R S I L D C pa pl sa) (hdC b E (rgX N 0 51 0) (clX0 X) H) (fun _ => none) (cRl b E)) := by
  have hne : pa ≠ sa := by have := hd.2.1; omega
  generalize hR : hdC b E (rgX N 0 51 0) (clX0 X) H = RES
  unfold hdC at hR
  refine Ex.of (by decide) (by simp [Value.category]) (Nat.le_of_ble_eq_true rfl) rfl ?_
  refine jj_aload_n (q := 1) dX2_readHeader_0 rfl rfl rfl ?_
  refine jj_ldcS (q := 3) dX2_readHeader_1 ks_X2_85 rfl ?_
  refine jj_tV1v (q := 6) dX2_readHeader_3 yk_X2_takeWord ml_X2_87 hp.t0 (ct_word (d := d + 1) hp hb hs (by exact hcp.cg (fun _ => rfl)) ks_X2_85 wl_loop (by decide) (by decide)) rfl rfl rfl rfl ((fun e h => by rw [← hR, h]; rfl)) (fun x3 pp3 F3 P3 K3 t3 r3 h3 R3 => ?_)
  obtain ⟨s3, rfl, rfl, rfl, rfl⟩ := R3
  rw [h3, Res.bd_r] at hR
  dsimp only at hR
  refine jj_aload_n (q := 7) dX2_readHeader_6 rfl rfl rfl ?_
  refine jj_aload_n (q := 8) dX2_readHeader_7 rfl rfl rfl ?_
  refine jj_iconst (v := 4) (q := 9) dX2_readHeader_8 rfl rfl ?_
  refine jj_bipush (v := 40) (q := 11) dX2_readHeader_9 rfl rfl ?_
  refine jj_tV2i (q := 14) dX2_readHeader_11 yk_X2_takeNumber ml_X2_91 hp.t0 (ct_num (d := d + 1) hp hb s3 (by exact hcp.cg (fun _ => rfl)) (lo := 4) (hx := 41) rfl (by omega) (by omega)) rfl rfl rfl rfl ((fun e h => by rw [← hR, h]; rfl)) (fun x11 pp11 F11 P11 K11 t11 r11 h11 R11 => ?_)
  have g11 := pNum_g s3.2.1 h11
  obtain ⟨s11, rfl, rfl, rfl, rfl⟩ := R11
  rw [h11, Res.bd_r] at hR
  dsimp only at hR
  refine jj_putIv (q := 17) dX2_readHeader_14 fl_X2_94 hpl.t0 (c_pw0 hd) rfl rfl rfl rfl rfl ?_
  refine jj_aload_n (q := 18) dX2_readHeader_17 rfl rfl rfl ?_
  refine jj_aload_n (q := 19) dX2_readHeader_18 rfl rfl rfl ?_
  refine jj_aload_n (q := 20) dX2_readHeader_19 rfl rfl rfl ?_
  refine jj_tV1i (q := 23) dX2_readHeader_20 yk_X2_takePosition ml_X2_97 hp.t0 (by have h := ct_pos (d := d) (Γ := Γ) (T := T) (R := R) (S := S) (I := I) (C := C) (L := L) (D := D) (K := kClr K) (dr := dr) (P := u2 (plC P) 0 0 (nI x11)) hp hb s11 (hcp.cg (fun _ => rfl)) hd hpl (hx := x11) (by simp [u2]) (by omega) (tk := 0) (t := fun _ => false) (fun v hv => ⟨fun w => (by cases w), fun w => absurd w (tkB_0 (v := v) (by omega))⟩); rw [pPos_f] at h; exact h) rfl rfl rfl rfl ((fun e h => by rw [← hR, h]; rfl)) (fun x20 pp20 F20 P20 K20 t20 r20 h20 R20 => ?_)
  have g20 := pNum_g s11.2.1 h20
  obtain ⟨s20, rfl, rfl, rfl, rfl, _, _⟩ := R20
  rw [h20, Res.bd_r] at hR
  dsimp only at hR
  refine jj_putIv (q := 26) dX2_readHeader_23 fl_X2_101 hpl.t0 (c_pw0 hd) rfl rfl rfl rfl rfl ?_
  refine jj_aload_n (q := 27) dX2_readHeader_26 rfl rfl rfl ?_
  refine jj_aload_n (q := 28) dX2_readHeader_27 rfl rfl rfl ?_
  refine jj_aload_n (q := 29) dX2_readHeader_28 rfl rfl rfl ?_
  refine jj_tV1i (q := 32) dX2_readHeader_29 yk_X2_takePosition ml_X2_97 hp.t0 (by have h := ct_pos (d := d) (Γ := Γ) (T := T) (R := R) (S := S) (I := I) (C := C) (L := L) (D := D) (K := kClr K) (dr := dr) (P := u2 (u2 (plC P) 0 0 (nI x11)) 0 1 (nI x20)) hp hb s20 (hcp.cg (fun _ => rfl)) hd hpl (hx := x11) (by simp [u2]) (by omega) (tk := tkP 0 x20) (t := fun v => decide (v = x20)) (fun v hv => by rw [tkB_P (by omega) (by omega), decide_eq_true_iff]; exact ⟨fun w => Or.inr w, fun w => w.elim (fun w => absurd w (tkB_0 (v := v) (by omega))) id⟩); exact h) rfl rfl rfl rfl ((fun e h => by rw [← hR, h]; rfl)) (fun x29 pp29 F29 P29 K29 t29 r29 h29 R29 => ?_)
  have g29 := pPos_g s20.2.1 h29
  obtain ⟨s29, rfl, rfl, rfl, rfl, _, n29⟩ := R29
  rw [h29, Res.bd_r] at hR
  dsimp only at hR n29
  rw [decide_eq_false_iff_not] at n29
  refine jj_putIv (q := 35) dX2_readHeader_32 fl_X2_104 hpl.t0 (c_pw0 hd) rfl rfl rfl rfl rfl ?_
  refine jj_iconst (v := 0) (q := 36) dX2_readHeader_35 rfl rfl ?_
  refine jj_istore_n (q := 37) dX2_readHeader_36 rfl (by decide) rfl ?_
  refine jj_iload_n (q := 38) dX2_readHeader_37 rfl rfl rfl ?_
  refine jj_iconst (v := 3) (q := 39) dX2_readHeader_38 rfl rfl ?_
  refine jj_icmp_ge (q := 42) (tgt := 93) dX2_readHeader_39 rfl rfl (fun h39 => absurd h39 (by decide)) (fun h39 => ?_)
  refine jj_aload_n (q := 43) dX2_readHeader_42 rfl rfl rfl ?_
  refine jj_ldcS (q := 45) dX2_readHeader_43 ks_X2_107 rfl ?_
  refine jj_tV1v (q := 48) dX2_readHeader_45 yk_X2_takeWord ml_X2_87 hp.t0 (ct_word (d := d + 1) hp hb s29 (by exact hcp.cg (fun _ => rfl)) ks_X2_107 wl_level (by decide) (by decide)) rfl rfl rfl rfl ((fun e h => by rw [← hR, h]; rfl)) (fun x45 pp45 F45 P45 K45 t45 r45 h45 R45 => ?_)
  obtain ⟨s45, rfl, rfl, rfl, rfl⟩ := R45
  rw [h45, Res.bd_r] at hR
  dsimp only at hR
  refine jj_aload_n (q := 49) dX2_readHeader_48 rfl rfl rfl ?_
  refine jj_getR (q := 52) dX2_readHeader_49 fl_X2_109 hpl.t0 hpl.r0_3 rfl rfl rfl ?_
  refine jj_iload_n (q := 53) dX2_readHeader_52 rfl rfl rfl ?_
  refine jj_aload_n (q := 54) dX2_readHeader_53 rfl rfl rfl ?_
  refine jj_iconst (v := 1) (q := 55) dX2_readHeader_54 rfl rfl ?_
  refine jj_iconst (v := 4) (q := 56) dX2_readHeader_55 rfl rfl ?_
  refine jj_tV2i (q := 59) dX2_readHeader_56 yk_X2_takeNumber ml_X2_91 hp.t0 (ct_num (d := d + 1) hp hb s45 (by exact hcp.cg (fun _ => rfl)) (lo := 1) (hx := 5) rfl (by omega) (by omega)) rfl rfl rfl rfl ((fun e h => by rw [← hR, h]; rfl)) (fun x56 pp56 F56 P56 K56 t56 r56 h56 R56 => ?_)
  have g56 := pNum_g s45.2.1 h56
  obtain ⟨s56, rfl, rfl, rfl, rfl⟩ := R56
  rw [h56, Res.bd_r] at hR
  dsimp only at hR
  refine jj_iastN (q := 60) (j := 0) dX2_readHeader_59 hpl.t1 (c_pw hd (by decide)) rfl (by omega) rfl ?_
  refine jj_aload_n (q := 61) dX2_readHeader_60 rfl rfl rfl ?_
  refine jj_getR (q := 64) dX2_readHeader_61 fl_X2_113 hpl.t0 hpl.r0_4 rfl rfl rfl ?_
  refine jj_iload_n (q := 65) dX2_readHeader_64 rfl rfl rfl ?_
  refine jj_aload_n (q := 66) dX2_readHeader_65 rfl rfl rfl ?_
  refine jj_iconst (v := 1) (q := 67) dX2_readHeader_66 rfl rfl ?_
  refine jj_bipush (v := 99) (q := 69) dX2_readHeader_67 rfl rfl ?_
  refine jj_tV2i (q := 72) dX2_readHeader_69 yk_X2_takeNumber ml_X2_91 hp.t0 (ct_num (d := d + 1) hp hb s56 (by exact hcp.cg (fun _ => rfl)) (lo := 1) (hx := 100) rfl (by omega) (by omega)) rfl rfl rfl rfl ((fun e h => by rw [← hR, h]; rfl)) (fun x69 pp69 F69 P69 K69 t69 r69 h69 R69 => ?_)
  have g69 := pNum_g s56.2.1 h69
  obtain ⟨s69, rfl, rfl, rfl, rfl⟩ := R69
  rw [h69, Res.bd_r] at hR
  dsimp only at hR
  refine jj_iastN (q := 73) (j := 0) dX2_readHeader_72 hpl.t2 (c_pw hd (by decide)) rfl (by omega) rfl ?_
  refine jj_aload_n (q := 74) dX2_readHeader_73 rfl rfl rfl ?_
  refine jj_getR (q := 77) dX2_readHeader_74 fl_X2_116 hpl.t0 hpl.r0_5 rfl rfl rfl ?_
  refine jj_iload_n (q := 78) dX2_readHeader_77 rfl rfl rfl ?_
  refine jj_aload_n (q := 79) dX2_readHeader_78 rfl rfl rfl ?_
  refine jj_iconst (v := 0) (q := 80) dX2_readHeader_79 rfl rfl ?_
  refine jj_sipush (v := 1000) (q := 83) dX2_readHeader_80 rfl rfl ?_
  refine jj_tV2i (q := 86) dX2_readHeader_83 yk_X2_takeNumber ml_X2_91 hp.t0 (ct_num (d := d + 1) hp hb s69 (by exact hcp.cg (fun _ => rfl)) (lo := 0) (hx := 1001) rfl (by omega) (by omega)) rfl rfl rfl rfl ((fun e h => by rw [← hR, h]; rfl)) (fun x83 pp83 F83 P83 K83 t83 r83 h83 R83 => ?_)
  have g83 := pNum_g s69.2.1 h83
  obtain ⟨s83, rfl, rfl, rfl, rfl⟩ := R83
  rw [h83, Res.bd_r] at hR
  dsimp only at hR
  refine jj_iastN (q := 87) (j := 0) dX2_readHeader_86 hpl.t3 (c_pw hd (by decide)) rfl (by omega) rfl ?_
  refine jj_iinc (v := nI (0 + 1)) (q := 90) dX2_readHeader_87 rfl (nI_incn 0 1 rfl) (by decide) rfl ?_
  refine jj_goto (tgt := 37) dX2_readHeader_90 rfl ?_
  refine jj_iload_n (q := 38) dX2_readHeader_37 rfl rfl rfl ?_
  refine jj_iconst (v := 3) (q := 39) dX2_readHeader_38 rfl rfl ?_
  refine jj_icmp_ge (q := 42) (tgt := 93) dX2_readHeader_39 rfl rfl (fun h39 => absurd h39 (by decide)) (fun h39 => ?_)
  refine jj_aload_n (q := 43) dX2_readHeader_42 rfl rfl rfl ?_
  refine jj_ldcS (q := 45) dX2_readHeader_43 ks_X2_107 rfl ?_
  refine jj_tV1v (q := 48) dX2_readHeader_45 yk_X2_takeWord ml_X2_87 hp.t0 (ct_word (d := d + 1) hp hb s83 (by exact hcp.cg (fun _ => rfl)) ks_X2_107 wl_level (by decide) (by decide)) rfl rfl rfl rfl ((fun e h => by rw [← hR, h]; rfl)) (fun x45_1 pp45_1 F45_1 P45_1 K45_1 t45_1 r45_1 h45_1 R45_1 => ?_)
  obtain ⟨s45_1, rfl, rfl, rfl, rfl⟩ := R45_1
  rw [h45_1, Res.bd_r] at hR
  dsimp only at hR
  refine jj_aload_n (q := 49) dX2_readHeader_48 rfl rfl rfl ?_
  refine jj_getR (q := 52) dX2_readHeader_49 fl_X2_109 hpl.t0 hpl.r0_3 rfl rfl rfl ?_
  refine jj_iload_n (q := 53) dX2_readHeader_52 rfl rfl rfl ?_
  refine jj_aload_n (q := 54) dX2_readHeader_53 rfl rfl rfl ?_
  refine jj_iconst (v := 1) (q := 55) dX2_readHeader_54 rfl rfl ?_
  refine jj_iconst (v := 4) (q := 56) dX2_readHeader_55 rfl rfl ?_
  refine jj_tV2i (q := 59) dX2_readHeader_56 yk_X2_takeNumber ml_X2_91 hp.t0 (ct_num (d := d + 1) hp hb s45_1 (by exact hcp.cg (fun _ => rfl)) (lo := 1) (hx := 5) rfl (by omega) (by omega)) rfl rfl rfl rfl ((fun e h => by rw [← hR, h]; rfl)) (fun x56_1 pp56_1 F56_1 P56_1 K56_1 t56_1 r56_1 h56_1 R56_1 => ?_)
  have g56_1 := pNum_g s45_1.2.1 h56_1
  obtain ⟨s56_1, rfl, rfl, rfl, rfl⟩ := R56_1
  rw [h56_1, Res.bd_r] at hR
  dsimp only at hR
  refine jj_iastN (q := 60) (j := 0 + 1) dX2_readHeader_59 hpl.t1 (c_pw hd (by decide)) rfl (by omega) rfl ?_
  refine jj_aload_n (q := 61) dX2_readHeader_60 rfl rfl rfl ?_
  refine jj_getR (q := 64) dX2_readHeader_61 fl_X2_113 hpl.t0 hpl.r0_4 rfl rfl rfl ?_
  refine jj_iload_n (q := 65) dX2_readHeader_64 rfl rfl rfl ?_
  refine jj_aload_n (q := 66) dX2_readHeader_65 rfl rfl rfl ?_
  refine jj_iconst (v := 1) (q := 67) dX2_readHeader_66 rfl rfl ?_
  refine jj_bipush (v := 99) (q := 69) dX2_readHeader_67 rfl rfl ?_
  refine jj_tV2i (q := 72) dX2_readHeader_69 yk_X2_takeNumber ml_X2_91 hp.t0 (ct_num (d := d + 1) hp hb s56_1 (by exact hcp.cg (fun _ => rfl)) (lo := 1) (hx := 100) rfl (by omega) (by omega)) rfl rfl rfl rfl ((fun e h => by rw [← hR, h]; rfl)) (fun x69_1 pp69_1 F69_1 P69_1 K69_1 t69_1 r69_1 h69_1 R69_1 => ?_)
  have g69_1 := pNum_g s56_1.2.1 h69_1
  obtain ⟨s69_1, rfl, rfl, rfl, rfl⟩ := R69_1
  rw [h69_1, Res.bd_r] at hR
  dsimp only at hR
  refine jj_iastN (q := 73) (j := 0 + 1) dX2_readHeader_72 hpl.t2 (c_pw hd (by decide)) rfl (by omega) rfl ?_
  refine jj_aload_n (q := 74) dX2_readHeader_73 rfl rfl rfl ?_
  refine jj_getR (q := 77) dX2_readHeader_74 fl_X2_116 hpl.t0 hpl.r0_5 rfl rfl rfl ?_
  refine jj_iload_n (q := 78) dX2_readHeader_77 rfl rfl rfl ?_
  refine jj_aload_n (q := 79) dX2_readHeader_78 rfl rfl rfl ?_
  refine jj_iconst (v := 0) (q := 80) dX2_readHeader_79 rfl rfl ?_
  refine jj_sipush (v := 1000) (q := 83) dX2_readHeader_80 rfl rfl ?_
  refine jj_tV2i (q := 86) dX2_readHeader_83 yk_X2_takeNumber ml_X2_91 hp.t0 (ct_num (d := d + 1) hp hb s69_1 (by exact hcp.cg (fun _ => rfl)) (lo := 0) (hx := 1001) rfl (by omega) (by omega)) rfl rfl rfl rfl ((fun e h => by rw [← hR, h]; rfl)) (fun x83_1 pp83_1 F83_1 P83_1 K83_1 t83_1 r83_1 h83_1 R83_1 => ?_)
  have g83_1 := pNum_g s69_1.2.1 h83_1
  obtain ⟨s83_1, rfl, rfl, rfl, rfl⟩ := R83_1
  rw [h83_1, Res.bd_r] at hR
  dsimp only at hR
  refine jj_iastN (q := 87) (j := 0 + 1) dX2_readHeader_86 hpl.t3 (c_pw hd (by decide)) rfl (by omega) rfl ?_
  refine jj_iinc (v := nI ((0 + 1) + 1)) (q := 90) dX2_readHeader_87 rfl (nI_incn (0 + 1) 1 rfl) (by decide) rfl ?_
  refine jj_goto (tgt := 37) dX2_readHeader_90 rfl ?_
  refine jj_iload_n (q := 38) dX2_readHeader_37 rfl rfl rfl ?_
  refine jj_iconst (v := 3) (q := 39) dX2_readHeader_38 rfl rfl ?_
  refine jj_icmp_ge (q := 42) (tgt := 93) dX2_readHeader_39 rfl rfl (fun h39 => absurd h39 (by decide)) (fun h39 => ?_)
  refine jj_aload_n (q := 43) dX2_readHeader_42 rfl rfl rfl ?_
  refine jj_ldcS (q := 45) dX2_readHeader_43 ks_X2_107 rfl ?_
  refine jj_tV1v (q := 48) dX2_readHeader_45 yk_X2_takeWord ml_X2_87 hp.t0 (ct_word (d := d + 1) hp hb s83_1 (by exact hcp.cg (fun _ => rfl)) ks_X2_107 wl_level (by decide) (by decide)) rfl rfl rfl rfl ((fun e h => by rw [← hR, h]; rfl)) (fun x45_2 pp45_2 F45_2 P45_2 K45_2 t45_2 r45_2 h45_2 R45_2 => ?_)
  obtain ⟨s45_2, rfl, rfl, rfl, rfl⟩ := R45_2
  rw [h45_2, Res.bd_r] at hR
  dsimp only at hR
  refine jj_aload_n (q := 49) dX2_readHeader_48 rfl rfl rfl ?_
  refine jj_getR (q := 52) dX2_readHeader_49 fl_X2_109 hpl.t0 hpl.r0_3 rfl rfl rfl ?_
  refine jj_iload_n (q := 53) dX2_readHeader_52 rfl rfl rfl ?_
  refine jj_aload_n (q := 54) dX2_readHeader_53 rfl rfl rfl ?_
  refine jj_iconst (v := 1) (q := 55) dX2_readHeader_54 rfl rfl ?_
  refine jj_iconst (v := 4) (q := 56) dX2_readHeader_55 rfl rfl ?_
  refine jj_tV2i (q := 59) dX2_readHeader_56 yk_X2_takeNumber ml_X2_91 hp.t0 (ct_num (d := d + 1) hp hb s45_2 (by exact hcp.cg (fun _ => rfl)) (lo := 1) (hx := 5) rfl (by omega) (by omega)) rfl rfl rfl rfl ((fun e h => by rw [← hR, h]; rfl)) (fun x56_2 pp56_2 F56_2 P56_2 K56_2 t56_2 r56_2 h56_2 R56_2 => ?_)
  have g56_2 := pNum_g s45_2.2.1 h56_2
  obtain ⟨s56_2, rfl, rfl, rfl, rfl⟩ := R56_2
  rw [h56_2, Res.bd_r] at hR
  dsimp only at hR
  refine jj_iastN (q := 60) (j := (0 + 1) + 1) dX2_readHeader_59 hpl.t1 (c_pw hd (by decide)) rfl (by omega) rfl ?_
  refine jj_aload_n (q := 61) dX2_readHeader_60 rfl rfl rfl ?_
  refine jj_getR (q := 64) dX2_readHeader_61 fl_X2_113 hpl.t0 hpl.r0_4 rfl rfl rfl ?_
  refine jj_iload_n (q := 65) dX2_readHeader_64 rfl rfl rfl ?_
  refine jj_aload_n (q := 66) dX2_readHeader_65 rfl rfl rfl ?_
  refine jj_iconst (v := 1) (q := 67) dX2_readHeader_66 rfl rfl ?_
  refine jj_bipush (v := 99) (q := 69) dX2_readHeader_67 rfl rfl ?_
  refine jj_tV2i (q := 72) dX2_readHeader_69 yk_X2_takeNumber ml_X2_91 hp.t0 (ct_num (d := d + 1) hp hb s56_2 (by exact hcp.cg (fun _ => rfl)) (lo := 1) (hx := 100) rfl (by omega) (by omega)) rfl rfl rfl rfl ((fun e h => by rw [← hR, h]; rfl)) (fun x69_2 pp69_2 F69_2 P69_2 K69_2 t69_2 r69_2 h69_2 R69_2 => ?_)
  have g69_2 := pNum_g s56_2.2.1 h69_2
  obtain ⟨s69_2, rfl, rfl, rfl, rfl⟩ := R69_2
  rw [h69_2, Res.bd_r] at hR
  dsimp only at hR
  refine jj_iastN (q := 73) (j := (0 + 1) + 1) dX2_readHeader_72 hpl.t2 (c_pw hd (by decide)) rfl (by omega) rfl ?_
  refine jj_aload_n (q := 74) dX2_readHeader_73 rfl rfl rfl ?_
  refine jj_getR (q := 77) dX2_readHeader_74 fl_X2_116 hpl.t0 hpl.r0_5 rfl rfl rfl ?_
  refine jj_iload_n (q := 78) dX2_readHeader_77 rfl rfl rfl ?_
  refine jj_aload_n (q := 79) dX2_readHeader_78 rfl rfl rfl ?_
  refine jj_iconst (v := 0) (q := 80) dX2_readHeader_79 rfl rfl ?_
  refine jj_sipush (v := 1000) (q := 83) dX2_readHeader_80 rfl rfl ?_
  refine jj_tV2i (q := 86) dX2_readHeader_83 yk_X2_takeNumber ml_X2_91 hp.t0 (ct_num (d := d + 1) hp hb s69_2 (by exact hcp.cg (fun _ => rfl)) (lo := 0) (hx := 1001) rfl (by omega) (by omega)) rfl rfl rfl rfl ((fun e h => by rw [← hR, h]; rfl)) (fun x83_2 pp83_2 F83_2 P83_2 K83_2 t83_2 r83_2 h83_2 R83_2 => ?_)
  have g83_2 := pNum_g s69_2.2.1 h83_2
  obtain ⟨s83_2, rfl, rfl, rfl, rfl⟩ := R83_2
  rw [h83_2, Res.bd_r] at hR
  dsimp only at hR
  refine jj_iastN (q := 87) (j := (0 + 1) + 1) dX2_readHeader_86 hpl.t3 (c_pw hd (by decide)) rfl (by omega) rfl ?_
  refine jj_iinc (v := nI (((0 + 1) + 1) + 1)) (q := 90) dX2_readHeader_87 rfl (nI_incn ((0 + 1) + 1) 1 rfl) (by decide) rfl ?_
  refine jj_goto (tgt := 37) dX2_readHeader_90 rfl ?_
  refine jj_iload_n (q := 38) dX2_readHeader_37 rfl rfl rfl ?_
  refine jj_iconst (v := 3) (q := 39) dX2_readHeader_38 rfl rfl ?_
  refine jj_icmp_ge (q := 42) (tgt := 93) dX2_readHeader_39 rfl rfl (fun h39 => ?_) (fun h39 => absurd (by decide) h39)
  refine jj_aload_n (q := 94) dX2_readHeader_93 rfl rfl rfl ?_
  refine jj_ldcS (q := 96) dX2_readHeader_94 ks_X2_119 rfl ?_
  refine jj_tV1v (q := 99) dX2_readHeader_96 yk_X2_takeWord ml_X2_87 hp.t0 (ct_word (d := d + 1) hp hb s83_2 (by exact hcp.cg (fun _ => rfl)) ks_X2_119 wl_hot (by decide) (by decide)) rfl rfl rfl rfl ((fun e h => by rw [← hR, h]; rfl)) (fun x96 pp96 F96 P96 K96 t96 r96 h96 R96 => ?_)
  obtain ⟨s96, rfl, rfl, rfl, rfl⟩ := R96
  rw [h96, Res.bd_r] at hR
  dsimp only at hR
  refine jj_aload_n (q := 100) dX2_readHeader_99 rfl rfl rfl ?_
  refine jj_aload_n (q := 101) dX2_readHeader_100 rfl rfl rfl ?_
  refine jj_iconst (v := 0) (q := 102) dX2_readHeader_101 rfl rfl ?_
  refine jj_sipush (v := 999) (q := 105) dX2_readHeader_102 rfl rfl ?_
  refine jj_tV2i (q := 108) dX2_readHeader_105 yk_X2_takeNumber ml_X2_91 hp.t0 (ct_num (d := d + 1) hp hb s96 (by exact hcp.cg (fun _ => rfl)) (lo := 0) (hx := 1000) rfl (by omega) (by omega)) rfl rfl rfl rfl ((fun e h => by rw [← hR, h]; rfl)) (fun x105 pp105 F105 P105 K105 t105 r105 h105 R105 => ?_)
  have g105 := pNum_g s96.2.1 h105
  obtain ⟨s105, rfl, rfl, rfl, rfl⟩ := R105
  rw [h105, Res.bd_r] at hR
  dsimp only at hR
  refine jj_putIv (q := 111) dX2_readHeader_108 fl_X2_121 hsa.t0 (c_sw0 hd) rfl rfl rfl rfl rfl ?_
  refine jj_aload_n (q := 112) dX2_readHeader_111 rfl rfl rfl ?_
  refine jj_ldcS (q := 114) dX2_readHeader_112 ks_X2_123 rfl ?_
  refine jj_tV1v (q := 117) dX2_readHeader_114 yk_X2_takeWord ml_X2_87 hp.t0 (ct_word (d := d + 1) hp hb s105 (by exact hcp.cg (fun _ => rfl)) ks_X2_123 wl_seed (by decide) (by decide)) rfl rfl rfl rfl ((fun e h => by rw [← hR, h]; rfl)) (fun x114 pp114 F114 P114 K114 t114 r114 h114 R114 => ?_)
  obtain ⟨s114, rfl, rfl, rfl, rfl⟩ := R114
  rw [h114, Res.bd_r] at hR
  dsimp only at hR
  refine jj_aload_n (q := 118) dX2_readHeader_117 rfl rfl rfl ?_
  refine jj_aload_n (q := 119) dX2_readHeader_118 rfl rfl rfl ?_
  refine jj_iconst (v := 0) (q := 120) dX2_readHeader_119 rfl rfl ?_
  refine jj_ldci (q := 122) dX2_readHeader_120 kc_X2_125 rfl ?_
  refine jj_tV2i (q := 125) dX2_readHeader_122 yk_X2_takeNumber ml_X2_91 hp.t0 (ct_num (d := d + 1) hp hb s114 (by exact hcp.cg (fun _ => rfl)) (lo := 0) (hx := 100000) rfl (by omega) (by omega)) rfl rfl rfl rfl ((fun e h => by rw [← hR, h]; rfl)) (fun x122 pp122 F122 P122 K122 t122 r122 h122 R122 => ?_)
  have g122 := pNum_g s114.2.1 h122
  obtain ⟨s122, rfl, rfl, rfl, rfl⟩ := R122
  rw [h122, Res.bd_r] at hR
  dsimp only at hR
  subst hR
  refine jj_i2l (q := 126) dX2_readHeader_125 rfl ?_
  refine jj_putLv (q := 129) dX2_readHeader_126 fl_X2_126 hsa.t0 (cL_d hne) rfl rfl rfl ?_
  refine jj_vret dX2_readHeader_129 rfl (Nat.zero_le _) (Nat.zero_le _) ?_
  have hB : hdB (fun j => match j with | 0 => x11 | 1 => x20 | 2 => x29 | 3 => x56 | 4 => x56_1 | 5 => x56_2 | 6 => x69 | 7 => x69_1 | 8 => x69_2 | 9 => x83 | 10 => x83_1 | _ => x83_2) x105 x122 := by
    refine ⟨g11.2.1, by have := g11.2.2; show x11 ≤ 40; omega, g20.2.2, g29.2, n29, fun q hq => ?_, g105.2.2, g122.2.2⟩
    rcases (show q = 0 ∨ q = 1 ∨ q = 2 by omega) with rfl | rfl | rfl
    · exact ⟨g56.2.1, g56.2.2, g69.2.1, g69.2.2, g83.2.2⟩
    · exact ⟨g56_1.2.1, g56_1.2.2, g69_1.2.1, g69_1.2.2, g83_1.2.2⟩
    · exact ⟨g56_2.2.1, g56_2.2.2, g69_2.2.1, g69_2.2.2, g83_2.2.2⟩
  refine ⟨rfl, F122, hdP (plC P) (fun j => match j with | 0 => x11 | 1 => x20 | 2 => x29 | 3 => x56 | 4 => x56_1 | 5 => x56_2 | 6 => x69 | 7 => x69_1 | 8 => x69_2 | 9 => x83 | 10 => x83_1 | _ => x83_2), u2 (kClr K) 0 2 (nI x105), tkP (tkP 0 x20) x29, (nI x122).toInt64, ?_, rfl⟩
  exact ⟨s122, hcp.cg (fun _ => rfl), 0, 0, 0, 0, 0, x11, 0, hd_yN hB, hd_yX g105.2.2 g122.2.2, hd_pPl, hd_pTe, by omega, hd_pSt, hd_pTk hB⟩
end B3
