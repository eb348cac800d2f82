/-! load of the model: a number of bytes that is in the buffer -/
/-- how load ends: with a fault, or with the new airport -/
def ldP (b : Nat → Nat) (bq : Nat) (RES : Res PSt) (A : JI) (G : JV) (n : Nat) (A' : JI) (G' : JV) : Prop :=
  (∀ j, 9 < j → j ≠ 18 → j ≠ 19 → j ≠ 25 → j ≠ 26 → j ≠ 27 → G' j = G j) ∧ G' 2 = 0 ∧ (∀ c, c = 1 ∨ 6 ≤ c ∧ c ≤ 8 ∨ c = 10 ∨ 14 < c → A' c = A c) ∧ match RES with
  | .inl e => n = 0 ∧ G' 0 = 2 ∧ G' 5 = nI e.1 ∧ G' 6 = nI e.2 ∧ G' 18 = G 18 ∧ G' 19 = G 19 ∧ G' 25 = G 25 ∧ A' 2 = A 2 ∧ A' 4 = A 4 ∧ A' 9 = A 9 ∧ ∀ c j, 11 ≤ c → j < nIx bq 0 ∨ nIx bq 700 ≤ j → A' c j = A c j
  | .inr x => x.1.2.1 2 = nI n ∧ G' 0 = 0 ∧ G' 5 = 0 ∧ G' 6 = -1 ∧ G' 18 = 0 ∧ G' 19 = 1 ∧ G' 25 = nI (1 - bq) ∧ ag x.1.2.1 (A' 4) ∧ (∀ j, j < 51 → j < 31 ∨ 33 < j → A' 2 j = x.1.1 j) ∧ A' 9 0 = 0 ∧ A' 9 1 = 0 ∧ ∃ k' kf kl ksq kk kcq sz, k' ≤ 621 ∧ bdN x.1.1 x.1.2.1 kf kl ksq kk kcq sz ∧ kpT bq k' kk x.1.2.2 A' (A' 2)
def cp3 (Q N : JV) (i : Nat) : JV := fun j => if i ≤ j ∧ j < 51 then N j else Q j
theorem cp3_s {Q N : JV} {i : Nat} (h : i < 51) : cp3 (w1 Q i (N i)) N (i + 1) = cp3 Q N i := by
  funext j
  unfold cp3 w1
  by_cases e : j = i
  · subst e
    rw [if_neg (by omega), if_pos rfl, if_pos (by omega)]
  · rw [if_neg e]
    by_cases h2 : i ≤ j ∧ j < 51
    · rw [if_pos h2, if_pos (by omega)]
    · rw [if_neg h2, if_neg (by omega)]
theorem cp3_e {Q N : JV} : cp3 Q N 51 = Q := by
  funext j
  unfold cp3
  rw [if_neg (by omega)]
section M99
variable {Γ : Gam} {d : Nat} {T : JT} {R S : JR} {I A : JI} {L : JL} {D : JD} {z : Option Nat} {mo E bq : Nat} {G N X : JV} {b : Nat → Nat} {H : Nat → Tst}
theorem lp_ld (hm : hMo T S mo) {Zf : List Frame → Array Value → State → State → Prop} {v : Int32} : ∀ (k i : Nat) (Q : JV), i + k = 51 → JJ Γ (jj_E Y_X9_load) Zf (jj_rm (d + 43) 0 0) 0 0 104 [some (.ref mo), some (.int v), some (.int (nI 51))] [] (T, R, S, blk 18 I mo (st (st A 2 (cp3 Q (A 3) i)) 0 G), L, D, z) → JJ Γ (jj_E Y_X9_load) Zf (jj_rm (d + 43) 0 0) 0 0 80 [some (.ref mo), some (.int v), some (.int (nI i))] [] (T, R, S, blk 18 I mo (st (st A 2 Q) 0 G), L, D, z) := by
  intro k
  induction k with
  | zero =>
    intro i Q hi hz
    have e : i = 51 := by omega
    subst e
    rw [cp3_e] at hz
    refine jj_iload_n (q := 81) dX9_load_80 rfl rfl rfl ?_
    refine jj_bipush (v := 51) (q := 83) dX9_load_81 rfl rfl ?_
    refine jj_icmp_ge (q := 86) (tgt := 104) dX9_load_83 rfl rfl (fun h83 => ?_) (fun h83 => absurd (nI_le (a := 51) (b := 51) (Nat.le_refl _) (by omega)) h83)
    exact hz
  | succ k ih =>
    intro i Q hi hz
    rw [← cp3_s (by omega)] at hz
    refine jj_iload_n (q := 81) dX9_load_80 rfl rfl rfl ?_
    refine jj_bipush (v := 51) (q := 83) dX9_load_81 rfl rfl ?_
    refine jj_icmp_ge (q := 86) (tgt := 104) dX9_load_83 rfl rfl (fun h83 => absurd h83 (nI_ge (a := i) (b := 51) (by omega) (by omega))) (fun h83 => ?_)
    refine jj_aload_n (q := 87) dX9_load_86 rfl rfl rfl ?_
    refine jj_getS (q := 90) dX9_load_87 fl_X9_17 hm.t0 hm.r0_10 rfl rfl rfl ?_
    refine jj_iload_n (q := 91) dX9_load_90 rfl rfl rfl ?_
    refine jj_aload_n (q := 92) dX9_load_91 rfl rfl rfl ?_
    refine jj_getS (q := 95) dX9_load_92 fl_X9_20 hm.t0 hm.r0_11 rfl rfl rfl ?_
    refine jj_iload_n (q := 96) dX9_load_95 rfl rfl rfl ?_
    refine jj_ialdN (q := 97) (j := i) dX9_load_96 hm.t3 (blk_sn (by decide) (by decide)) rfl (by omega) rfl ?_
    refine jj_iastN (q := 98) (j := i) dX9_load_97 hm.t2 (u2_bsk (by decide) (by decide)) rfl (by omega) rfl ?_
    refine jj_iinc (v := nI (i + 1)) (q := 101) dX9_load_98 rfl (nI_incn i 1 rfl) (by decide) rfl ?_
    refine jj_goto (tgt := 80) dX9_load_101 rfl ?_
    rw [u2_st]
    exact ih (i + 1) _ (by omega) hz
theorem ex_mload (hm : hMo T S mo) (hv : hVs Γ R mo) {n q : Nat} (h2 : G 2 = nI q) (hn : n ≤ q) (hq : q ≤ 1200) (hb : mB_ A b n) (h25 : G 25 = nI bq) (hbq : bq ≤ 1) : Ex Γ (d + 43) Y_X9_load [.ref mo, .int (nI n)] (T, R, S, blk 18 I mo (st A 0 G), L, D, z) 0 0 (rPi (ldP b bq (pTxt b n (rgX (A 3) 0 51 0) (clX0 (A 5)) H) A G) (fun A' G' => (T, R, S, blk 18 I mo (st A' 0 G'), L, D, z))) := by
  have hT := exM_text (Γ := Γ) (d := d) (T := T) (R := R) (S := S) (I := I) (A := A) (L := L) (D := D) (z := z) (N := A 3) (X := A 5) (G := (w1 (w1 (w1 (w1 (w1 (w1 G 0 0) 3 (nI n)) 2 0) 4 0) 5 0) 6 (-1))) (b := b) (E := n) (H := H) hm (by omega) hv hb rfl rfl rfl rfl h25 hbq
  rw [qA_self rfl rfl] at hT
  have h1 : ¬ inI (nI n) 0 (nI q) = 0 := by
    unfold inI
    rw [if_neg (nI_ltz (by omega)), if_neg (nI_nlt hn (by omega))]
    decide
  have hI : ∀ (e : Nat × Nat) (A1 : JI) (Ga : JV) (w9 : Option Value), mSt b n (rU (.inl e: Res PSt)) Ga → (∀ c, c ≠ 3 → c ≠ 5 → c < 11 ∨ 14 < c → A1 c = A c) → (∀ c j, c ≠ 3 → c ≠ 5 → j < nIx bq 0 ∨ nIx bq 700 ≤ j → A1 c j = A c j) → (∀ j, 9 < j → j ≠ 26 → j ≠ 27 → Ga j = G j) → Ga 0 = 0 → Ga 2 = 0 → JJ Γ (jj_E Y_X9_load) (jj_Z Γ (rPi (ldP b bq (.inl e : Res PSt) A G) (fun A' G' => (T, R, S, blk 18 I mo (st A' 0 G'), L, D, z))) 0 0) (jj_rm (d + 43) 0 0) 0 0 52 [some (.ref mo), some (.int (nI n)), w9] [] (T, R, S, blk 18 I mo (st A1 0 Ga), L, D, z) := by
    intro e A1 Ga w9 cq5 cq6 cq7 hf hf0 hf2
    refine jj_aload_n (q := 53) dX9_load_52 rfl rfl rfl ?_
    refine jj_getIw (v := nI e.1) (q := 56) dX9_load_53 fl_X9_92 hm.t0 (by rw [g_rd]; exact cq5.2.1) rfl rfl ?_
    refine jj_if_le (q := 59) (tgt := 65) dX9_load_56 rfl rfl (fun h56 => absurd h56 (Int32.not_le.mpr (show (0 : Int32) < nI e.1 from nI_lt (a := 0) (by have := cq5.2.2.2; omega) (by have := cq5.2.2.2; omega)))) (fun h56 => ?_)
    refine jj_aload_n (q := 60) dX9_load_59 rfl rfl rfl ?_
    refine jj_iconst (v := 2) (q := 61) dX9_load_60 rfl rfl ?_
    refine jj_cV1i (q := 64) dX9_load_61 yk_X9_throwsAt ml_X9_240 hm.t0 (ex_throwsG (d := d + 42) hm) rfl rfl rfl ⟨Nat.zero_le _, Nat.zero_le _⟩ ?_
    refine jj_iret dX9_load_64 rfl (Nat.zero_le _) (Nat.zero_le _) ?_
    exact ⟨0, A1, w1 Ga 0 2, ⟨fun j h1 h2 h3 h4 h5 h6 => (w1_ne (by omega)).trans (hf j h1 h5 h6), (w1_ne (by omega)).trans hf2, fun c h => cq6 c (by omega) (by omega) (by omega), rfl, w1_eq, (w1_ne (by omega)).trans cq5.2.1, (w1_ne (by omega)).trans cq5.2.2.1, (w1_ne (by omega)).trans (hf 18 (by omega) (by omega) (by omega)), (w1_ne (by omega)).trans (hf 19 (by omega) (by omega) (by omega)), (w1_ne (by omega)).trans (hf 25 (by omega) (by omega) (by omega)), cq6 2 (by omega) (by omega) (by omega), cq6 4 (by omega) (by omega) (by omega), cq6 9 (by omega) (by omega) (by omega), fun c j h => cq7 c j (by omega) (by omega)⟩, rfl, rfl⟩
  have hO : ∀ (x : PSt × Nat) (A1 : JI) (Ga : JV) (w9 : Option Value) (k' : Nat), mSt b n (rU (.inr x: Res PSt)) Ga → (∀ c, c ≠ 3 → c ≠ 5 → c < 11 ∨ 14 < c → A1 c = A c) → (∀ c j, c ≠ 3 → c ≠ 5 → j < nIx bq 0 ∨ nIx bq 700 ≤ j → A1 c j = A c j) → (∀ j, 9 < j → j ≠ 26 → j ≠ 27 → Ga j = G j) → Ga 0 = 0 → Ga 2 = 0 → Ga 25 = nI bq → k' ≤ 621 → (0 ≤ x.2 ∧ 2 * k' ≤ x.2 ∧ A1 5 = x.1.2.1 ∧ eqN (A1 3) x.1.1 ∧ (∃ kf kl ksq kk kcq sz, bdN x.1.1 x.1.2.1 kf kl ksq kk kcq sz ∧ kpT bq k' kk x.1.2.2 A1 (A1 3))) → JJ Γ (jj_E Y_X9_load) (jj_Z Γ (rPi (ldP b bq (.inr x : Res PSt) A G) (fun A' G' => (T, R, S, blk 18 I mo (st A' 0 G'), L, D, z))) 0 0) (jj_rm (d + 43) 0 0) 0 0 52 [some (.ref mo), some (.int (nI n)), w9] [] (T, R, S, blk 18 I mo (st A1 0 Ga), L, D, z) := by
    intro x A1 Ga w9 k' cq5 cq6 cq7 hf hf0 hf2 cq25 cq2 cq8
    obtain ⟨_, _, cq9, cq10, kf, kl, ksq, kk, kcq, sz, cq11, cq12⟩ := cq8
    obtain ⟨b1, b2, b3, b4, b5, b6, b7, b8, b9, b10, b11⟩ := cq11
    have cq5' : Ga 5 = 0 := cq5.2.2.2.1
    have cq6' : Ga 6 = -1 := cq5.2.2.2.2.2.2.2.2
    have e := ex_mcopy (Γ := Γ) (d := d + 42) (T := T) (R := R) (S := S) (I := I) (A := st A1 0 Ga) (L := L) (D := D) (z := z) (cf := 5) (ct := 4) (ar := 0) (wh := 0) hm.t5 hm.t4 (by omega) (by omega) (by omega) (by omega) (by omega) (by omega)
    rw [st_comm (show 0 ≠ 4 by omega), show (fun k => st A1 0 Ga 5 (0 + k)) = A1 5 by funext k; rw [Nat.zero_add]; rfl, show st A1 0 Ga 4 = A1 4 from rfl] at e
    refine jj_aload_n (q := 53) dX9_load_52 rfl rfl rfl ?_
    refine jj_getIw (v := 0) (q := 56) dX9_load_53 fl_X9_92 hm.t0 (by rw [g_rd]; exact cq5') rfl rfl ?_
    refine jj_if_le (q := 59) (tgt := 65) dX9_load_56 rfl rfl (fun h56 => ?_) (fun h56 => absurd ((by decide : (0 : Int32) ≤ 0)) h56)
    refine jj_aload_n (q := 66) dX9_load_65 rfl rfl rfl ?_
    refine jj_getS (q := 69) dX9_load_66 fl_X9_26 hm.t0 hm.r0_13 rfl rfl rfl ?_
    refine jj_iconst (v := 0) (q := 70) dX9_load_69 rfl rfl ?_
    refine jj_aload_n (q := 71) dX9_load_70 rfl rfl rfl ?_
    refine jj_getS (q := 74) dX9_load_71 fl_X9_23 hm.t0 hm.r0_12 rfl rfl rfl ?_
    refine jj_iconst (v := 0) (q := 75) dX9_load_74 rfl rfl ?_
    refine jj_cS4v (q := 78) dX9_load_75 yk_X9_copy ml_X9_246 e rfl rfl rfl ⟨Nat.zero_le _, Nat.zero_le _⟩ ?_
    refine jj_iconst (v := 0) (q := 79) dX9_load_78 rfl rfl ?_
    refine jj_istore_n (q := 80) dX9_load_79 rfl (by decide) rfl ?_
    rw [← st_self (st A1 4 (cpw (A1 4) 0 2086 (A1 5))) 2]
    refine lp_ld hm 51 0 _ (by omega) ?_
    refine jj_aload_n (q := 105) dX9_load_104 rfl rfl rfl ?_
    refine jj_iconst (v := 1) (q := 106) dX9_load_105 rfl rfl ?_
    refine jj_aload_n (q := 107) dX9_load_106 rfl rfl rfl ?_
    refine jj_getIw (v := nI bq) (q := 110) dX9_load_107 fl_X9_172 hm.t0 (by rw [g_rd]; exact cq25) rfl rfl ?_
    refine jj_isubN (q := 111) (e := 1 - bq) (a := 1) (b := bq) dX9_load_110 rfl rfl (by omega) rfl ?_
    refine jj_putIv (q := 114) dX9_load_111 fl_X9_172 hm.t0 g_wr rfl rfl rfl rfl rfl ?_
    refine jj_aload_n (q := 115) dX9_load_114 rfl rfl rfl ?_
    refine jj_iconst (v := 1) (q := 116) dX9_load_115 rfl rfl ?_
    refine jj_putIv (q := 119) dX9_load_116 fl_X9_250 hm.t0 g_wr rfl rfl (by first | rfl | assumption) (by first | rfl | assumption) rfl ?_
    refine jj_aload_n (q := 120) dX9_load_119 rfl rfl rfl ?_
    refine jj_getS (q := 123) dX9_load_120 fl_X9_38 hm.t0 hm.r0_17 rfl rfl rfl ?_
    refine jj_iconst (v := 0) (q := 124) dX9_load_123 rfl rfl ?_
    refine jj_iconst (v := 0) (q := 125) dX9_load_124 rfl rfl ?_
    refine jj_zast (q := 126) dX9_load_125 hm.t9 (show vp_in (nI 0) 2 from nI_in (by omega) (by omega)) (by first | rfl | assumption) rfl ?_
    rw [show (0 : Int32).toNatClampNeg = 0 from rfl, u2_bsk (by decide) (by decide)]
    refine jj_aload_n (q := 127) dX9_load_126 rfl rfl rfl ?_
    refine jj_getS (q := 130) dX9_load_127 fl_X9_38 hm.t0 hm.r0_17 rfl rfl rfl ?_
    refine jj_iconst (v := 1) (q := 131) dX9_load_130 rfl rfl ?_
    refine jj_iconst (v := 0) (q := 132) dX9_load_131 rfl rfl ?_
    refine jj_zast (q := 133) dX9_load_132 hm.t9 (show vp_in (nI 1) 2 from nI_in (by omega) (by omega)) (by first | rfl | assumption) rfl ?_
    rw [show (1 : Int32).toNatClampNeg = 1 from rfl, u2_bsk (by decide) (by decide)]
    refine jj_aload_n (q := 134) dX9_load_133 rfl rfl rfl ?_
    refine jj_iconst (v := 0) (q := 135) dX9_load_134 rfl rfl ?_
    refine jj_putIv (q := 138) dX9_load_135 fl_X9_254 hm.t0 g_wr rfl rfl rfl rfl rfl ?_
    refine jj_aload_n (q := 139) dX9_load_138 rfl rfl rfl ?_
    refine jj_getS (q := 142) dX9_load_139 fl_X9_23 hm.t0 hm.r0_12 rfl rfl rfl ?_
    refine jj_iconst (v := 2) (q := 143) dX9_load_142 rfl rfl ?_
    refine jj_ialdW (q := 144) (j := 2) (v := nI kcq) dX9_load_143 hm.t4 (blk_sn (by decide) (by decide)) rfl (by omega) (show cpw (A1 4) 0 2086 (A1 5) 2 = nI kcq by unfold cpw; rw [if_pos (by omega), cq9]; exact b9) rfl ?_
    refine jj_iret dX9_load_144 rfl (Nat.zero_le _) (Nat.zero_le _) ?_
    have a4 : (u2 (u2 (st (st A1 4 (cpw (A1 4) 0 2086 (A1 5))) 2 (cp3 ((st A1 4 (cpw (A1 4) 0 2086 (A1 5))) 2) ((st A1 4 (cpw (A1 4) 0 2086 (A1 5))) 3) 0)) 9 0 0) 9 1 0) 4 = cpw (A1 4) 0 2086 (A1 5) := rfl
    have a2 : (u2 (u2 (st (st A1 4 (cpw (A1 4) 0 2086 (A1 5))) 2 (cp3 ((st A1 4 (cpw (A1 4) 0 2086 (A1 5))) 2) ((st A1 4 (cpw (A1 4) 0 2086 (A1 5))) 3) 0)) 9 0 0) 9 1 0) 2 = cp3 (A1 2) (A1 3) 0 := rfl
    have ac : ∀ c, c ≠ 2 → c ≠ 4 → c ≠ 9 → (u2 (u2 (st (st A1 4 (cpw (A1 4) 0 2086 (A1 5))) 2 (cp3 ((st A1 4 (cpw (A1 4) 0 2086 (A1 5))) 2) ((st A1 4 (cpw (A1 4) 0 2086 (A1 5))) 3) 0)) 9 0 0) 9 1 0) c = A1 c := fun c h2 h4 h9 => by rw [u2_ne h9, u2_ne h9, st_ne h2, st_ne h4]
    have gk : ∀ j, j ≠ 25 → j ≠ 19 → j ≠ 18 → (w1 (w1 (w1 Ga 25 (nI (1 - bq))) 19 1) 18 0) j = Ga j := fun j h1 h2 h3 => by rw [w1_ne h3, w1_ne h2, w1_ne h1]
    refine ⟨kcq, (u2 (u2 (st (st A1 4 (cpw (A1 4) 0 2086 (A1 5))) 2 (cp3 ((st A1 4 (cpw (A1 4) 0 2086 (A1 5))) 2) ((st A1 4 (cpw (A1 4) 0 2086 (A1 5))) 3) 0)) 9 0 0) 9 1 0), (w1 (w1 (w1 Ga 25 (nI (1 - bq))) 19 1) 18 0), ⟨fun j h1 h2 h3 h4 h5 h6 => (gk j h4 h3 h2).trans (hf j h1 h5 h6), hf2, fun c h => (ac c (by omega) (by omega) (by omega)).trans (cq6 c (by omega) (by omega) (by omega)), b9, hf0, cq5', cq6', w1_eq, rfl, rfl, ?_, ?_, rfl, rfl, k', kf, kl, ksq, kk, kcq, sz, cq2, ⟨b1, b2, b3, b4, b5, b6, b7, b8, b9, b10, b11⟩, ?_⟩, rfl, rfl⟩
    · intro j hj
      rw [a4]
      unfold cpw
      rw [if_pos (by omega), cq9]
      rfl
    · intro j hj h31
      rw [a2]
      unfold cp3
      rw [if_pos (by omega)]
      exact cq10 j h31
    · intro i hi
      obtain ⟨n9, lo, h1, h2, h3, h4⟩ := cq12 i hi
      refine ⟨n9, lo, ?_, h2, h3, fun X' c => ?_⟩
      · rw [a2]
        unfold cp3
        rw [if_pos (by omega)]
        exact h1
      · rw [← vN_cg (A := A1) (A' := (u2 (u2 (st (st A1 4 (cpw (A1 4) 0 2086 (A1 5))) 2 (cp3 ((st A1 4 (cpw (A1 4) 0 2086 (A1 5))) 2) ((st A1 4 (cpw (A1 4) 0 2086 (A1 5))) 3) 0)) 9 0 0) 9 1 0)) rfl rfl rfl rfl]
        exact h4 X' c
  refine Ex.of (by decide) (by simp [Value.category]) (Nat.le_of_ble_eq_true rfl) rfl ?_
  refine jj_aload_n (q := 1) dX9_load_0 rfl rfl rfl ?_
  refine jj_iconst (v := 0) (q := 2) dX9_load_1 rfl rfl ?_
  refine jj_putIv (q := 5) dX9_load_2 fl_X9_82 hm.t0 g_wr rfl rfl rfl rfl rfl ?_
  refine jj_iload_n (q := 6) dX9_load_5 rfl rfl rfl ?_
  refine jj_iconst (v := 0) (q := 7) dX9_load_6 rfl rfl ?_
  refine jj_aload_n (q := 8) dX9_load_7 rfl rfl rfl ?_
  refine jj_getIw (v := nI q) (q := 11) dX9_load_8 fl_X9_85 hm.t0 (by rw [g_rd, w1_ne (by omega)]; exact h2) rfl rfl ?_
  refine jj_cS3i (q := 14) dX9_load_11 yk_X9_in ml_X9_111 ex_inI rfl rfl rfl ⟨Nat.zero_le _, Nat.zero_le _⟩ ?_
  refine jj_if_ne (q := 17) (tgt := 23) dX9_load_14 rfl rfl (fun h14 => ?_) (fun h14 => by exfalso; exact h1 h14)
  refine jj_aload_n (q := 24) dX9_load_23 rfl rfl rfl ?_
  refine jj_iload_n (q := 25) dX9_load_24 rfl rfl rfl ?_
  refine jj_putIv (q := 28) dX9_load_25 fl_X9_95 hm.t0 g_wr rfl rfl rfl rfl rfl ?_
  refine jj_aload_n (q := 29) dX9_load_28 rfl rfl rfl ?_
  refine jj_iconst (v := 0) (q := 30) dX9_load_29 rfl rfl ?_
  refine jj_putIv (q := 33) dX9_load_30 fl_X9_85 hm.t0 g_wr rfl rfl rfl rfl rfl ?_
  refine jj_aload_n (q := 34) dX9_load_33 rfl rfl rfl ?_
  refine jj_iconst (v := 0) (q := 35) dX9_load_34 rfl rfl ?_
  refine jj_putIv (q := 38) dX9_load_35 fl_X9_101 hm.t0 g_wr rfl rfl rfl rfl rfl ?_
  refine jj_aload_n (q := 39) dX9_load_38 rfl rfl rfl ?_
  refine jj_iconst (v := 0) (q := 40) dX9_load_39 rfl rfl ?_
  refine jj_putIv (q := 43) dX9_load_40 fl_X9_92 hm.t0 g_wr rfl rfl rfl rfl rfl ?_
  refine jj_aload_n (q := 44) dX9_load_43 rfl rfl rfl ?_
  refine jj_iconst (v := -1) (q := 45) dX9_load_44 rfl rfl ?_
  refine jj_putIv (q := 48) dX9_load_45 fl_X9_13 hm.t0 g_wr rfl rfl rfl rfl rfl ?_
  refine jj_aload_n (q := 49) dX9_load_48 rfl rfl rfl ?_
  refine jj_pV0v (q := 52) dX9_load_49 yk_X9_readText ml_X9_243 hm.t0 hT rfl rfl rfl ⟨Nat.zero_le _, Nat.zero_le _⟩ (fun n1 A1 Ga hl => ?_)
  obtain ⟨k', cq1, cq2, cq3, cq4, cq5, cq6, cq7, cq8⟩ := hl
  have hf : ∀ j, 9 < j → j ≠ 26 → j ≠ 27 → Ga j = G j := fun j h h6 h7 => (cq4 j (Or.inr h) h6 h7).trans (by rw [w1_ne (by omega), w1_ne (by omega), w1_ne (by omega), w1_ne (by omega), w1_ne (by omega), w1_ne (by omega)])
  have hf0 : Ga 0 = 0 := cq4 0 (by omega) (by omega) (by omega)
  have hf2 : Ga 2 = 0 := cq4 2 (by omega) (by omega) (by omega)
  have cq25 : Ga 25 = nI bq := (hf 25 (by omega) (by omega) (by omega)).trans h25
  generalize (pTxt b n (rgX (A 3) 0 51 0) (clX0 (A 5)) H) = RES at cq5 cq8 ⊢
  cases RES with
  | inl e => exact hI e _ _ _ cq5 cq6 cq7 hf hf0 hf2
  | inr x => exact hO x _ _ _ _ cq5 cq6 cq7 hf hf0 hf2 cq25 cq2 (cq8 x rfl)
end M99
