/-! THE MODEL'S CHANGES, 2 -/
section M61
variable {Γ : Gam} {d : Nat} {T : JT} {R S : JR} {I A : JI} {L : JL} {D : JD} {z : Option Nat} {mo u : Nat} {X : JV}
theorem ex_delays (hm : hMo T S mo) (hu : 4 ≤ u ∧ u ≤ 6) {f : Nat} (hf : f < 8) {y : Int32} : Ex Γ (d + 1) Y_X9_delays [.ref (mo + u), .int (nI f), .int y] (T, R, S, blk 18 I mo (st A u X), L, D, z) 0 0 (rV (T, R, S, blk 18 I mo (st A u (mDl X f y)), L, D, z)) := by
  refine Ex.of (by decide) (by simp [Value.category]) (Nat.le_of_ble_eq_true rfl) rfl ?_
  refine jj_aload_n (q := 1) dX9_delays_0 rfl rfl rfl ?_
  refine jj_iload_n (q := 2) dX9_delays_1 rfl rfl rfl ?_
  refine jj_cS2i (q := 5) dX9_delays_2 yk_X9_flightIs ml_X9_257 (ex_flightIs hm hu hf) rfl rfl rfl ⟨Nat.zero_le _, Nat.zero_le _⟩ ?_
  refine jj_if_ne (q := 8) (tgt := 17) dX9_delays_5 rfl rfl (fun h5 => ?_) (fun h5 => ?_)
  · refine jj_aload_n (q := 18) dX9_delays_17 rfl rfl rfl ?_
    refine jj_bipush (v := 13) (q := 20) dX9_delays_18 rfl rfl ?_
    refine jj_iload_n (q := 21) dX9_delays_20 rfl rfl rfl ?_
    refine jj_iaddN (q := 22) (a := 13) (b := f) dX9_delays_21 rfl rfl rfl ?_
    refine jj_dup2 (q := 23) dX9_delays_22 rfl rfl rfl ?_
    refine jj_ialdN (q := 24) (j := 13 + f) dX9_delays_23 (hm.tu hu) (blk_st (show u < 18 by omega)) rfl (by omega) rfl ?_
    refine jj_iload_n (q := 25) dX9_delays_24 rfl rfl rfl ?_
    refine jj_iadd (q := 26) dX9_delays_25 rfl ?_
    refine jj_iastN (q := 27) (j := 13 + f) dX9_delays_26 (hm.tu hu) (u2_bst (show u < 18 by omega)) rfl (by omega) rfl ?_
    refine jj_vret dX9_delays_27 rfl (Nat.zero_le _) (Nat.zero_le _) ?_
    exact ⟨rfl, by unfold mDl; first | rw [if_neg h5] | rw [if_pos h5, w1_ne (by omega)]⟩
  · refine jj_aload_n (q := 9) dX9_delays_8 rfl rfl rfl ?_
    refine jj_iconst (v := 5) (q := 10) dX9_delays_9 rfl rfl ?_
    refine jj_iload_n (q := 11) dX9_delays_10 rfl rfl rfl ?_
    refine jj_iaddN (q := 12) (a := 5) (b := f) dX9_delays_11 rfl rfl rfl ?_
    refine jj_dup2 (q := 13) dX9_delays_12 rfl rfl rfl ?_
    refine jj_ialdN (q := 14) (j := 5 + f) dX9_delays_13 (hm.tu hu) (blk_st (show u < 18 by omega)) rfl (by omega) rfl ?_
    refine jj_iload_n (q := 15) dX9_delays_14 rfl rfl rfl ?_
    refine jj_iadd (q := 16) dX9_delays_15 rfl ?_
    refine jj_iastN (q := 17) (j := 5 + f) dX9_delays_16 (hm.tu hu) (u2_bst (show u < 18 by omega)) rfl (by omega) rfl ?_
    refine jj_aload_n (q := 18) dX9_delays_17 rfl rfl rfl ?_
    refine jj_bipush (v := 13) (q := 20) dX9_delays_18 rfl rfl ?_
    refine jj_iload_n (q := 21) dX9_delays_20 rfl rfl rfl ?_
    refine jj_iaddN (q := 22) (a := 13) (b := f) dX9_delays_21 rfl rfl rfl ?_
    refine jj_dup2 (q := 23) dX9_delays_22 rfl rfl rfl ?_
    refine jj_ialdN (q := 24) (j := 13 + f) dX9_delays_23 (hm.tu hu) (blk_st (show u < 18 by omega)) rfl (by omega) rfl ?_
    refine jj_iload_n (q := 25) dX9_delays_24 rfl rfl rfl ?_
    refine jj_iadd (q := 26) dX9_delays_25 rfl ?_
    refine jj_iastN (q := 27) (j := 13 + f) dX9_delays_26 (hm.tu hu) (u2_bst (show u < 18 by omega)) rfl (by omega) rfl ?_
    refine jj_vret dX9_delays_27 rfl (Nat.zero_le _) (Nat.zero_le _) ?_
    exact ⟨rfl, by unfold mDl; first | rw [if_neg h5] | rw [if_pos h5, w1_ne (by omega)]⟩
theorem lp_adds (hm : hMo T S mo) (hu : 4 ≤ u ∧ u ≤ 6) {N : Nat} (hN : N < 2 ^ 31) {t f : Int32} {X' : JV} : ∀ (k i b : Nat) (X : JV) (x5 : Option Value), i + k = N → X 2 = nI b → b + k ≤ 100 → mAd t f k b X = X' → JJ Γ (jj_E Y_X9_adds) (jj_Z Γ (rV (T, R, S, blk 18 I mo (st A u X'), L, D, z)) 0 0) (jj_rm (d) 0 0) 0 0 3 [some (.ref (mo + u)), some (.int t), some (.int (nI N)), some (.int f), some (.int (nI i)), x5] [] (T, R, S, blk 18 I mo (st A u X), L, D, z) := by
  intro k
  induction k with
  | zero =>
    intro i b X x5 hi h2 hb he
    subst he
    refine jj_iload (q := 5) dX9_adds_3 rfl rfl ?_
    refine jj_iload_n (q := 6) dX9_adds_5 rfl rfl rfl ?_
    refine jj_icmp_ge (q := 9) (tgt := 101) dX9_adds_6 rfl rfl (fun h6 => ?_) (fun h6 => absurd (nI_le (show N ≤ i by omega) (by omega)) h6)
    refine jj_vret dX9_adds_101 rfl (Nat.zero_le _) (Nat.zero_le _) ?_
    exact ⟨rfl, rfl⟩
  | succ k ih =>
    intro i b X x5 hi h2 hb he
    refine jj_iload (q := 5) dX9_adds_3 rfl rfl ?_
    refine jj_iload_n (q := 6) dX9_adds_5 rfl rfl rfl ?_
    refine jj_icmp_ge (q := 9) (tgt := 101) dX9_adds_6 rfl rfl (fun h6 => absurd h6 ((nI_ge (show i < N by omega) (by omega)))) (fun h6 => ?_)
    refine jj_aload_n (q := 10) dX9_adds_9 rfl rfl rfl ?_
    refine jj_iconst (v := 2) (q := 11) dX9_adds_10 rfl rfl ?_
    refine jj_ialdW (q := 12) (j := 2) (v := nI b) dX9_adds_11 (hm.tu hu) (blk_st (show u < 18 by omega)) rfl (by omega) h2 rfl ?_
    refine jj_istore (q := 14) dX9_adds_12 (by decide) rfl ?_
    refine jj_aload_n (q := 15) dX9_adds_14 rfl rfl rfl ?_
    refine jj_sipush (v := 173) (q := 18) dX9_adds_15 rfl rfl ?_
    refine jj_iload (q := 20) dX9_adds_18 rfl rfl ?_
    refine jj_iaddN (q := 21) (a := 173) (b := b) dX9_adds_20 rfl rfl rfl ?_
    refine jj_iload_n (q := 22) dX9_adds_21 rfl rfl rfl ?_
    refine jj_iastN (q := 23) (j := 173 + b) dX9_adds_22 (hm.tu hu) (u2_bst (show u < 18 by omega)) rfl (by omega) rfl ?_
    refine jj_aload_n (q := 24) dX9_adds_23 rfl rfl rfl ?_
    refine jj_sipush (v := 273) (q := 27) dX9_adds_24 rfl rfl ?_
    refine jj_iload (q := 29) dX9_adds_27 rfl rfl ?_
    refine jj_iaddN (q := 30) (a := 273) (b := b) dX9_adds_29 rfl rfl rfl ?_
    refine jj_iload_n (q := 31) dX9_adds_30 rfl rfl rfl ?_
    refine jj_iastN (q := 32) (j := 273 + b) dX9_adds_31 (hm.tu hu) (u2_bst (show u < 18 by omega)) rfl (by omega) rfl ?_
    refine jj_aload_n (q := 33) dX9_adds_32 rfl rfl rfl ?_
    refine jj_sipush (v := 373) (q := 36) dX9_adds_33 rfl rfl ?_
    refine jj_iload (q := 38) dX9_adds_36 rfl rfl ?_
    refine jj_iaddN (q := 39) (a := 373) (b := b) dX9_adds_38 rfl rfl rfl ?_
    refine jj_iload_n (q := 40) dX9_adds_39 rfl rfl rfl ?_
    refine jj_aload_n (q := 41) dX9_adds_40 rfl rfl rfl ?_
    refine jj_iconst (v := 0) (q := 42) dX9_adds_41 rfl rfl ?_
    refine jj_ialdW (q := 43) (j := 0) (v := X 0) dX9_adds_42 (hm.tu hu) (blk_st (show u < 18 by omega)) rfl (by omega) (by (repeat rw [w1_ne (by omega)])) rfl ?_
    refine jj_icmp_gt (q := 46) (tgt := 50) dX9_adds_43 rfl rfl (fun h43 => ?_) (fun h43 => ?_)
    · refine jj_iconst (v := 0) (q := 51) dX9_adds_50 rfl rfl ?_
      refine jj_iastN (q := 52) (j := 373 + b) dX9_adds_51 (hm.tu hu) (u2_bst (show u < 18 by omega)) rfl (by omega) rfl ?_
      refine jj_aload_n (q := 53) dX9_adds_52 rfl rfl rfl ?_
      refine jj_sipush (v := 473) (q := 56) dX9_adds_53 rfl rfl ?_
      refine jj_iload (q := 58) dX9_adds_56 rfl rfl ?_
      refine jj_iaddN (q := 59) (a := 473) (b := b) dX9_adds_58 rfl rfl rfl ?_
      refine jj_iconst (v := -1) (q := 60) dX9_adds_59 rfl rfl ?_
      refine jj_iastN (q := 61) (j := 473 + b) dX9_adds_60 (hm.tu hu) (u2_bst (show u < 18 by omega)) rfl (by omega) rfl ?_
      refine jj_aload_n (q := 62) dX9_adds_61 rfl rfl rfl ?_
      refine jj_sipush (v := 573) (q := 65) dX9_adds_62 rfl rfl ?_
      refine jj_iload (q := 67) dX9_adds_65 rfl rfl ?_
      refine jj_iaddN (q := 68) (a := 573) (b := b) dX9_adds_67 rfl rfl rfl ?_
      refine jj_iconst (v := 0) (q := 69) dX9_adds_68 rfl rfl ?_
      refine jj_iastN (q := 70) (j := 573 + b) dX9_adds_69 (hm.tu hu) (u2_bst (show u < 18 by omega)) rfl (by omega) rfl ?_
      refine jj_aload_n (q := 71) dX9_adds_70 rfl rfl rfl ?_
      refine jj_sipush (v := 673) (q := 74) dX9_adds_71 rfl rfl ?_
      refine jj_iload (q := 76) dX9_adds_74 rfl rfl ?_
      refine jj_iaddN (q := 77) (a := 673) (b := b) dX9_adds_76 rfl rfl rfl ?_
      refine jj_iconst (v := 0) (q := 78) dX9_adds_77 rfl rfl ?_
      refine jj_iastN (q := 79) (j := 673 + b) dX9_adds_78 (hm.tu hu) (u2_bst (show u < 18 by omega)) rfl (by omega) rfl ?_
      refine jj_aload_n (q := 80) dX9_adds_79 rfl rfl rfl ?_
      refine jj_sipush (v := 773) (q := 83) dX9_adds_80 rfl rfl ?_
      refine jj_iload (q := 85) dX9_adds_83 rfl rfl ?_
      refine jj_iaddN (q := 86) (a := 773) (b := b) dX9_adds_85 rfl rfl rfl ?_
      refine jj_iconst (v := -1) (q := 87) dX9_adds_86 rfl rfl ?_
      refine jj_iastN (q := 88) (j := 773 + b) dX9_adds_87 (hm.tu hu) (u2_bst (show u < 18 by omega)) rfl (by omega) rfl ?_
      refine jj_aload_n (q := 89) dX9_adds_88 rfl rfl rfl ?_
      refine jj_iconst (v := 2) (q := 90) dX9_adds_89 rfl rfl ?_
      refine jj_dup2 (q := 91) dX9_adds_90 rfl rfl rfl ?_
      refine jj_ialdW (q := 92) (j := 2) (v := nI b) dX9_adds_91 (hm.tu hu) (blk_st (show u < 18 by omega)) rfl (by omega) (by (repeat rw [w1_ne (by omega)]); exact h2) rfl ?_
      refine jj_iconst (v := 1) (q := 93) dX9_adds_92 rfl rfl ?_
      refine jj_iaddN (q := 94) (a := b) (b := 1) dX9_adds_93 rfl rfl rfl ?_
      refine jj_iastN (q := 95) (j := 2) dX9_adds_94 (hm.tu hu) (u2_bst (show u < 18 by omega)) rfl (by omega) rfl ?_
      refine jj_iinc (v := nI (i + 1)) (q := 98) dX9_adds_95 rfl (nI_incn i 1 rfl) (by decide) rfl ?_
      refine jj_goto (tgt := 3) dX9_adds_98 rfl ?_
      refine ih (i + 1) (b + 1) _ _ (by omega) w1_eq (by omega) ?_
      rw [← he, mAd, mAd1]
      first | rw [if_pos h43] | rw [if_neg h43]
    · refine jj_iconst (v := 1) (q := 47) dX9_adds_46 rfl rfl ?_
      refine jj_goto (tgt := 51) dX9_adds_47 rfl ?_
      refine jj_iastN (q := 52) (j := 373 + b) dX9_adds_51 (hm.tu hu) (u2_bst (show u < 18 by omega)) rfl (by omega) rfl ?_
      refine jj_aload_n (q := 53) dX9_adds_52 rfl rfl rfl ?_
      refine jj_sipush (v := 473) (q := 56) dX9_adds_53 rfl rfl ?_
      refine jj_iload (q := 58) dX9_adds_56 rfl rfl ?_
      refine jj_iaddN (q := 59) (a := 473) (b := b) dX9_adds_58 rfl rfl rfl ?_
      refine jj_iconst (v := -1) (q := 60) dX9_adds_59 rfl rfl ?_
      refine jj_iastN (q := 61) (j := 473 + b) dX9_adds_60 (hm.tu hu) (u2_bst (show u < 18 by omega)) rfl (by omega) rfl ?_
      refine jj_aload_n (q := 62) dX9_adds_61 rfl rfl rfl ?_
      refine jj_sipush (v := 573) (q := 65) dX9_adds_62 rfl rfl ?_
      refine jj_iload (q := 67) dX9_adds_65 rfl rfl ?_
      refine jj_iaddN (q := 68) (a := 573) (b := b) dX9_adds_67 rfl rfl rfl ?_
      refine jj_iconst (v := 0) (q := 69) dX9_adds_68 rfl rfl ?_
      refine jj_iastN (q := 70) (j := 573 + b) dX9_adds_69 (hm.tu hu) (u2_bst (show u < 18 by omega)) rfl (by omega) rfl ?_
      refine jj_aload_n (q := 71) dX9_adds_70 rfl rfl rfl ?_
      refine jj_sipush (v := 673) (q := 74) dX9_adds_71 rfl rfl ?_
      refine jj_iload (q := 76) dX9_adds_74 rfl rfl ?_
      refine jj_iaddN (q := 77) (a := 673) (b := b) dX9_adds_76 rfl rfl rfl ?_
      refine jj_iconst (v := 0) (q := 78) dX9_adds_77 rfl rfl ?_
      refine jj_iastN (q := 79) (j := 673 + b) dX9_adds_78 (hm.tu hu) (u2_bst (show u < 18 by omega)) rfl (by omega) rfl ?_
      refine jj_aload_n (q := 80) dX9_adds_79 rfl rfl rfl ?_
      refine jj_sipush (v := 773) (q := 83) dX9_adds_80 rfl rfl ?_
      refine jj_iload (q := 85) dX9_adds_83 rfl rfl ?_
      refine jj_iaddN (q := 86) (a := 773) (b := b) dX9_adds_85 rfl rfl rfl ?_
      refine jj_iconst (v := -1) (q := 87) dX9_adds_86 rfl rfl ?_
      refine jj_iastN (q := 88) (j := 773 + b) dX9_adds_87 (hm.tu hu) (u2_bst (show u < 18 by omega)) rfl (by omega) rfl ?_
      refine jj_aload_n (q := 89) dX9_adds_88 rfl rfl rfl ?_
      refine jj_iconst (v := 2) (q := 90) dX9_adds_89 rfl rfl ?_
      refine jj_dup2 (q := 91) dX9_adds_90 rfl rfl rfl ?_
      refine jj_ialdW (q := 92) (j := 2) (v := nI b) dX9_adds_91 (hm.tu hu) (blk_st (show u < 18 by omega)) rfl (by omega) (by (repeat rw [w1_ne (by omega)]); exact h2) rfl ?_
      refine jj_iconst (v := 1) (q := 93) dX9_adds_92 rfl rfl ?_
      refine jj_iaddN (q := 94) (a := b) (b := 1) dX9_adds_93 rfl rfl rfl ?_
      refine jj_iastN (q := 95) (j := 2) dX9_adds_94 (hm.tu hu) (u2_bst (show u < 18 by omega)) rfl (by omega) rfl ?_
      refine jj_iinc (v := nI (i + 1)) (q := 98) dX9_adds_95 rfl (nI_incn i 1 rfl) (by decide) rfl ?_
      refine jj_goto (tgt := 3) dX9_adds_98 rfl ?_
      refine ih (i + 1) (b + 1) _ _ (by omega) w1_eq (by omega) ?_
      rw [← he, mAd, mAd1]
      first | rw [if_pos h43] | rw [if_neg h43]
theorem ex_adds (hm : hMo T S mo) (hu : 4 ≤ u ∧ u ≤ 6) {N b : Nat} {t f : Int32} (hb : X 2 = nI b) (hN : b + N ≤ 100) : Ex Γ (d) Y_X9_adds [.ref (mo + u), .int t, .int (nI N), .int f] (T, R, S, blk 18 I mo (st A u X), L, D, z) 0 0 (rV (T, R, S, blk 18 I mo (st A u (mAd t f N b X)), L, D, z)) := by
  refine Ex.of (by decide) (by simp [Value.category]) (Nat.le_of_ble_eq_true rfl) rfl ?_
  refine jj_iconst (v := 0) (q := 1) dX9_adds_0 rfl rfl ?_
  refine jj_istore (q := 3) dX9_adds_1 (by decide) rfl ?_
  exact lp_adds hm hu (by omega) N 0 b X _ (by omega) hb hN rfl
theorem lp_isClear (hm : hMo T S mo) (hu : 4 ≤ u ∧ u ≤ 6) {c : Nat} (hX : mI X) (hc : mC X = c) : ∀ (k i : Nat), (i + k = c ∧ ∀ j, j < i → decide (X (373 + j) < 10) = false) → JJ Γ (jj_E Y_X9_isClear) (jj_Z Γ (rI (clX X c) (T, R, S, blk 18 I mo (st A u X), L, D, z)) 0 0) (jj_rm (d) 0 0) 0 0 2 [some (.ref (mo + u)), some (.int (nI i))] [] (T, R, S, blk 18 I mo (st A u X), L, D, z) := by
  have hc2 : X 2 = nI c := by rw [← hc]; exact hX.c.1
  have hc1 : c < 101 := by rw [← hc]; exact hX.c.2
  intro k
  induction k with
  | zero =>
    intro i hi
    refine jj_iload_n (q := 3) dX9_isClear_2 rfl rfl rfl ?_
    refine jj_aload_n (q := 4) dX9_isClear_3 rfl rfl rfl ?_
    refine jj_iconst (v := 2) (q := 5) dX9_isClear_4 rfl rfl ?_
    refine jj_ialdW (q := 6) (j := 2) (v := nI c) dX9_isClear_5 (hm.tu hu) (blk_st (show u < 18 by omega)) rfl (by omega) hc2 rfl ?_
    refine jj_icmp_ge (q := 9) (tgt := 29) dX9_isClear_6 rfl rfl (fun h6 => ?_) (fun h6 => absurd (nI_le (show c ≤ i by omega) (by omega)) h6)
    refine jj_iconst (v := 1) (q := 30) dX9_isClear_29 rfl rfl ?_
    refine jj_zret dX9_isClear_30 rfl (by first | rfl | assumption) (Nat.zero_le _) (Nat.zero_le _) ?_
    exact ⟨by unfold clX; rw [srch_none (fun j hj => hi.2 j (by omega))], rfl⟩
  | succ k ih =>
    intro i hi
    refine jj_iload_n (q := 3) dX9_isClear_2 rfl rfl rfl ?_
    refine jj_aload_n (q := 4) dX9_isClear_3 rfl rfl rfl ?_
    refine jj_iconst (v := 2) (q := 5) dX9_isClear_4 rfl rfl ?_
    refine jj_ialdW (q := 6) (j := 2) (v := nI c) dX9_isClear_5 (hm.tu hu) (blk_st (show u < 18 by omega)) rfl (by omega) hc2 rfl ?_
    refine jj_icmp_ge (q := 9) (tgt := 29) dX9_isClear_6 rfl rfl (fun h6 => absurd h6 ((nI_ge (show i < c by omega) (by omega)))) (fun h6 => ?_)
    refine jj_aload_n (q := 10) dX9_isClear_9 rfl rfl rfl ?_
    refine jj_sipush (v := 373) (q := 13) dX9_isClear_10 rfl rfl ?_
    refine jj_iload_n (q := 14) dX9_isClear_13 rfl rfl rfl ?_
    refine jj_iaddN (q := 15) (a := 373) (b := i) dX9_isClear_14 rfl rfl rfl ?_
    refine jj_ialdN (q := 16) (j := 373 + i) dX9_isClear_15 (hm.tu hu) (blk_st (show u < 18 by omega)) rfl (by omega) rfl ?_
    refine jj_bipush (v := 10) (q := 18) dX9_isClear_16 rfl rfl ?_
    refine jj_icmp_ge (q := 21) (tgt := 23) dX9_isClear_18 rfl rfl (fun h18 => ?_) (fun h18 => ?_)
    · refine jj_iinc (v := nI (i + 1)) (q := 26) dX9_isClear_23 rfl (nI_incn i 1 rfl) (by decide) rfl ?_
      refine jj_goto (tgt := 2) dX9_isClear_26 rfl ?_
      refine ih (i + 1) ⟨by omega, fun j hj => ?_⟩
      by_cases e : j = i
      · subst e; exact decide_eq_false (Int32.not_lt.mpr h18)
      · exact hi.2 j (by omega)
    · refine jj_iconst (v := 0) (q := 22) dX9_isClear_21 rfl rfl ?_
      refine jj_zret dX9_isClear_22 rfl (by first | rfl | assumption) (Nat.zero_le _) (Nat.zero_le _) ?_
      exact ⟨by unfold clX; rw [srch_hit hi.2 (decide_eq_true (Int32.not_le.mp h18)) (by omega)], rfl⟩
theorem ex_isClear (hm : hMo T S mo) (hu : 4 ≤ u ∧ u ≤ 6) {c : Nat} (hX : mI X) (hc : mC X = c) : Ex Γ (d) Y_X9_isClear [.ref (mo + u)] (T, R, S, blk 18 I mo (st A u X), L, D, z) 0 0 (rI (clX X c) (T, R, S, blk 18 I mo (st A u X), L, D, z)) := by
  refine Ex.of (by decide) (by simp [Value.category]) (Nat.le_of_ble_eq_true rfl) rfl ?_
  refine jj_iconst (v := 0) (q := 1) dX9_isClear_0 rfl rfl ?_
  refine jj_istore_n (q := 2) dX9_isClear_1 rfl (by decide) rfl ?_
  exact lp_isClear hm hu hX hc c 0 ⟨by omega, fun j hj => by omega⟩
def cG (X : JV) (n most : Int32) : Int32 := if inI n 1 most = 0 then 0 else if 9999 < X 0 + n then 0 else 1
theorem cG_n (X : JV) (n most : Int32) : narrow .boolean (.int (cG X n most)) = .int (cG X n most) := by
  unfold cG
  repeat' split
  all_goals rfl
theorem cG_1 {X : JV} {n most : Int32} (h : ¬ cG X n most = 0) : cG X n most = 1 := by
  unfold cG at h ⊢
  by_cases g1 : inI n 1 most = 0
  · rw [if_pos g1] at h; exact absurd rfl h
  · rw [if_neg g1] at h ⊢
    by_cases g2 : 9999 < X 0 + n
    · rw [if_pos g2] at h; exact absurd rfl h
    · rw [if_neg g2]
theorem uu_tA {A : JI} {s t : Int32} : u2 (tA A s) 0 0 t = tA A t := tA_tA
theorem ex_canGo (hm : hMo T S mo) {n most : Int32} : Ex Γ (d + 1) Y_X9_canGo [.ref mo, .int n, .int most] (T, R, S, blk 18 I mo (st A 4 X), L, D, z) 0 0 (rI (cG X n most) (T, R, S, blk 18 I mo (st A 4 X), L, D, z)) := by
  refine Ex.of (by decide) (by simp [Value.category]) (Nat.le_of_ble_eq_true rfl) rfl ?_
  refine jj_iload_n (q := 1) dX9_canGo_0 rfl rfl rfl ?_
  refine jj_iconst (v := 1) (q := 2) dX9_canGo_1 rfl rfl ?_
  refine jj_iload_n (q := 3) dX9_canGo_2 rfl rfl rfl ?_
  refine jj_cS3i (q := 6) dX9_canGo_3 yk_X9_in ml_X9_111 ex_inI rfl rfl rfl ⟨Nat.zero_le _, Nat.zero_le _⟩ ?_
  refine jj_if_eq (q := 9) (tgt := 27) dX9_canGo_6 rfl rfl (fun h6 => ?_) (fun h6 => ?_)
  · refine jj_iconst (v := 0) (q := 28) dX9_canGo_27 rfl rfl ?_
    refine jj_zret dX9_canGo_28 rfl (by first | rfl | assumption) (Nat.zero_le _) (Nat.zero_le _) ?_
    exact ⟨by unfold cG; (first | rw [if_pos h6] | rw [if_neg h6] | skip); (first | rw [if_pos h20] | rw [if_neg h20] | skip), rfl⟩
  · refine jj_aload_n (q := 10) dX9_canGo_9 rfl rfl rfl ?_
    refine jj_getS (q := 13) dX9_canGo_10 fl_X9_23 hm.t0 hm.r0_12 rfl rfl rfl ?_
    refine jj_iconst (v := 0) (q := 14) dX9_canGo_13 rfl rfl ?_
    refine jj_ialdN (q := 15) (j := 0) dX9_canGo_14 hm.t4 (blk_st (by decide)) rfl (by omega) rfl ?_
    refine jj_iload_n (q := 16) dX9_canGo_15 rfl rfl rfl ?_
    refine jj_iadd (q := 17) dX9_canGo_16 rfl ?_
    refine jj_sipush (v := 9999) (q := 20) dX9_canGo_17 rfl rfl ?_
    refine jj_icmp_gt (q := 23) (tgt := 27) dX9_canGo_20 rfl rfl (fun h20 => ?_) (fun h20 => ?_)
    · refine jj_iconst (v := 0) (q := 28) dX9_canGo_27 rfl rfl ?_
      refine jj_zret dX9_canGo_28 rfl (by first | rfl | assumption) (Nat.zero_le _) (Nat.zero_le _) ?_
      exact ⟨by unfold cG; (first | rw [if_pos h6] | rw [if_neg h6] | skip); (first | rw [if_pos h20] | rw [if_neg h20] | skip), rfl⟩
    · refine jj_iconst (v := 1) (q := 24) dX9_canGo_23 rfl rfl ?_
      refine jj_goto (tgt := 28) dX9_canGo_24 rfl ?_
      refine jj_zret dX9_canGo_28 rfl (by first | rfl | assumption) (Nat.zero_le _) (Nat.zero_le _) ?_
      exact ⟨by unfold cG; (first | rw [if_pos h6] | rw [if_neg h6] | skip); (first | rw [if_pos h20] | rw [if_neg h20] | skip), rfl⟩
theorem ex_areTicks_no (hm : hMo T S mo) {n : Int32} (hok : mOk A 1 = 0) : Ex Γ (d + 2) Y_X9_areTicks [.ref mo, .int n] (T, R, S, blk 18 I mo (st A 4 X), L, D, z) 0 0 (rI 0 (T, R, S, blk 18 I mo (st (tA A (tI A 1)) 4 X), L, D, z)) := by
  refine Ex.of (by decide) (by simp [Value.category]) (Nat.le_of_ble_eq_true rfl) rfl ?_
  refine jj_aload_n (q := 1) dX9_areTicks_0 rfl rfl rfl ?_
  refine jj_iconst (v := 1) (q := 2) dX9_areTicks_1 rfl rfl ?_
  refine jj_cV1i (q := 5) dX9_areTicks_2 yk_X9_mayAsk ml_X9_353 hm.t0 (ex_mayAsk hm) rfl rfl rfl ⟨Nat.zero_le _, Nat.zero_le _⟩ ?_
  refine jj_if_ne (q := 8) (tgt := 10) dX9_areTicks_5 rfl rfl (fun h5 => by exfalso; exact h5 hok) (fun h5 => ?_)
  refine jj_iconst (v := 0) (q := 9) dX9_areTicks_8 rfl rfl ?_
  refine jj_zret dX9_areTicks_9 rfl (by first | rfl | assumption) (Nat.zero_le _) (Nat.zero_le _) ?_
  exact ⟨rfl, rfl⟩
theorem ex_areTicks (hm : hMo T S mo) {n : Int32} (hok : ¬ mOk A 1 = 0) : Ex Γ (d + 2) Y_X9_areTicks [.ref mo, .int n] (T, R, S, blk 18 I mo (st A 4 X), L, D, z) 0 0 (rI (cG X n 500) (T, R, S, blk 18 I mo (st (tA A (if cG X n 500 = 0 then 2 else 0)) 4 X), L, D, z)) := by
  by_cases hg : cG X n 500 = 0
  · rw [hg, if_pos rfl]
    refine Ex.of (by decide) (by simp [Value.category]) (Nat.le_of_ble_eq_true rfl) rfl ?_
    refine jj_aload_n (q := 1) dX9_areTicks_0 rfl rfl rfl ?_
    refine jj_iconst (v := 1) (q := 2) dX9_areTicks_1 rfl rfl ?_
    refine jj_cV1i (q := 5) dX9_areTicks_2 yk_X9_mayAsk ml_X9_353 hm.t0 (ex_mayAsk hm) rfl rfl rfl ⟨Nat.zero_le _, Nat.zero_le _⟩ ?_
    refine jj_if_ne (q := 8) (tgt := 10) dX9_areTicks_5 rfl rfl (fun h5 => ?_) (fun h5 => by exfalso; exact hok h5)
    refine jj_aload_n (q := 11) dX9_areTicks_10 rfl rfl rfl ?_
    refine jj_aload_n (q := 12) dX9_areTicks_11 rfl rfl rfl ?_
    refine jj_iload_n (q := 13) dX9_areTicks_12 rfl rfl rfl ?_
    refine jj_sipush (v := 500) (q := 16) dX9_areTicks_13 rfl rfl ?_
    refine jj_cV2i (q := 19) dX9_areTicks_16 yk_X9_canGo ml_X9_415 hm.t0 (ex_canGo hm) rfl rfl rfl ⟨Nat.zero_le _, Nat.zero_le _⟩ ?_
    refine jj_if_eq (q := 22) (tgt := 26) dX9_areTicks_19 rfl rfl (fun h19 => ?_) (fun h19 => absurd (hg) h19)
    refine jj_iconst (v := 2) (q := 27) dX9_areTicks_26 rfl rfl ?_
    refine jj_putIv (q := 30) dX9_areTicks_27 fl_X9_82 hm.t0 (u2_bs0 (by decide) (by decide)) rfl rfl rfl rfl rfl ?_
    refine jj_aload_n (q := 31) dX9_areTicks_30 rfl rfl rfl ?_
    refine jj_getIv (q := 34) dX9_areTicks_31 fl_X9_82 hm.t0 (blk_s0 (by decide) (by decide)) rfl rfl ?_
    refine jj_if_ne (q := 37) (tgt := 41) dX9_areTicks_34 rfl rfl (fun h34 => ?_) (fun h34 => by exfalso; exact absurd (show (2 : Int32) = 0 from h34) (by decide))
    refine jj_iconst (v := 0) (q := 42) dX9_areTicks_41 rfl rfl ?_
    refine jj_zret dX9_areTicks_42 rfl (by first | rfl | assumption) (Nat.zero_le _) (Nat.zero_le _) ?_
    exact ⟨rfl, by rw [uu_tA]⟩
  · rw [if_neg hg, cG_1 hg]
    refine Ex.of (by decide) (by simp [Value.category]) (Nat.le_of_ble_eq_true rfl) rfl ?_
    refine jj_aload_n (q := 1) dX9_areTicks_0 rfl rfl rfl ?_
    refine jj_iconst (v := 1) (q := 2) dX9_areTicks_1 rfl rfl ?_
    refine jj_cV1i (q := 5) dX9_areTicks_2 yk_X9_mayAsk ml_X9_353 hm.t0 (ex_mayAsk hm) rfl rfl rfl ⟨Nat.zero_le _, Nat.zero_le _⟩ ?_
    refine jj_if_ne (q := 8) (tgt := 10) dX9_areTicks_5 rfl rfl (fun h5 => ?_) (fun h5 => by exfalso; exact hok h5)
    refine jj_aload_n (q := 11) dX9_areTicks_10 rfl rfl rfl ?_
    refine jj_aload_n (q := 12) dX9_areTicks_11 rfl rfl rfl ?_
    refine jj_iload_n (q := 13) dX9_areTicks_12 rfl rfl rfl ?_
    refine jj_sipush (v := 500) (q := 16) dX9_areTicks_13 rfl rfl ?_
    refine jj_cV2i (q := 19) dX9_areTicks_16 yk_X9_canGo ml_X9_415 hm.t0 (ex_canGo hm) rfl rfl rfl ⟨Nat.zero_le _, Nat.zero_le _⟩ ?_
    refine jj_if_eq (q := 22) (tgt := 26) dX9_areTicks_19 rfl rfl (fun h19 => absurd h19 (hg)) (fun h19 => ?_)
    refine jj_iconst (v := 0) (q := 23) dX9_areTicks_22 rfl rfl ?_
    refine jj_goto (tgt := 27) dX9_areTicks_23 rfl ?_
    refine jj_putIv (q := 30) dX9_areTicks_27 fl_X9_82 hm.t0 (u2_bs0 (by decide) (by decide)) rfl rfl rfl rfl rfl ?_
    refine jj_aload_n (q := 31) dX9_areTicks_30 rfl rfl rfl ?_
    refine jj_getIv (q := 34) dX9_areTicks_31 fl_X9_82 hm.t0 (blk_s0 (by decide) (by decide)) rfl rfl ?_
    refine jj_if_ne (q := 37) (tgt := 41) dX9_areTicks_34 rfl rfl (fun h34 => by exfalso; exact h34 rfl) (fun h34 => ?_)
    refine jj_iconst (v := 1) (q := 38) dX9_areTicks_37 rfl rfl ?_
    refine jj_goto (tgt := 42) dX9_areTicks_38 rfl ?_
    refine jj_zret dX9_areTicks_42 rfl (by first | rfl | assumption) (Nat.zero_le _) (Nat.zero_le _) ?_
    exact ⟨rfl, by rw [uu_tA]⟩
theorem ex_sets (hm : hMo T S mo) {uu : Nat} (hu : A 0 18 = nI uu) (hu6 : uu ≤ 6) {j : Nat} (hj : j < 2086) {v : Int32} : Ex Γ (d + 2) Y_X9_sets [.ref mo, .int (nI j), .int v] (T, R, S, blk 18 I mo (st A 4 X), L, D, z) 0 0 (rI (X j) (T, R, S, blk 18 I mo (st (remA A X uu) 4 (w1 X j v)), L, D, z)) := by
  refine Ex.of (by decide) (by simp [Value.category]) (Nat.le_of_ble_eq_true rfl) rfl ?_
  refine jj_aload_n (q := 1) dX9_sets_0 rfl rfl rfl ?_
  refine jj_cV0v (q := 4) dX9_sets_1 yk_X9_remember ml_X9_437 hm.t0 (ex_mremember hm hu hu6) rfl rfl rfl ⟨Nat.zero_le _, Nat.zero_le _⟩ ?_
  refine jj_aload_n (q := 5) dX9_sets_4 rfl rfl rfl ?_
  refine jj_getS (q := 8) dX9_sets_5 fl_X9_23 hm.t0 hm.r0_12 rfl rfl rfl ?_
  refine jj_iload_n (q := 9) dX9_sets_8 rfl rfl rfl ?_
  refine jj_ialdN (q := 10) (j := j) dX9_sets_9 hm.t4 (blk_st (by decide)) rfl (by omega) rfl ?_
  refine jj_istore_n (q := 11) dX9_sets_10 rfl (by decide) rfl ?_
  refine jj_aload_n (q := 12) dX9_sets_11 rfl rfl rfl ?_
  refine jj_getS (q := 15) dX9_sets_12 fl_X9_23 hm.t0 hm.r0_12 rfl rfl rfl ?_
  refine jj_iload_n (q := 16) dX9_sets_15 rfl rfl rfl ?_
  refine jj_iload_n (q := 17) dX9_sets_16 rfl rfl rfl ?_
  refine jj_iastN (q := 18) (j := j) dX9_sets_17 hm.t4 (u2_bst (by decide)) rfl (by omega) rfl ?_
  refine jj_iload_n (q := 19) dX9_sets_18 rfl rfl rfl ?_
  refine jj_iret dX9_sets_19 rfl (Nat.zero_le _) (Nat.zero_le _) ?_
  exact ⟨rfl, rfl⟩
theorem ex_msetHot_no (hm : hMo T S mo) {y : Int32} (hok : mOk A 1 = 0) : Ex Γ (d + 3) Y_X9_setHot [.ref mo, .int y] (T, R, S, blk 18 I mo (st A 4 X), L, D, z) 0 0 (rI (0) (T, R, S, blk 18 I mo (st (tA A (tI A 1)) 4 X), L, D, z)) := by
  refine Ex.of (by decide) (by simp [Value.category]) (Nat.le_of_ble_eq_true rfl) rfl ?_
  refine jj_aload_n (q := 1) dX9_setHot_0 rfl rfl rfl ?_
  refine jj_iconst (v := 1) (q := 2) dX9_setHot_1 rfl rfl ?_
  refine jj_cV1i (q := 5) dX9_setHot_2 yk_X9_mayAsk ml_X9_353 hm.t0 (ex_mayAsk hm) rfl rfl rfl ⟨Nat.zero_le _, Nat.zero_le _⟩ ?_
  refine jj_if_ne (q := 8) (tgt := 10) dX9_setHot_5 rfl rfl (fun h5 => by exfalso; exact h5 hok) (fun h5 => ?_)
  refine jj_iconst (v := 0) (q := 9) dX9_setHot_8 rfl rfl ?_
  refine jj_iret dX9_setHot_9 rfl (Nat.zero_le _) (Nat.zero_le _) ?_
  exact ⟨rfl, rfl⟩
theorem ex_msetHot_bad (hm : hMo T S mo) {y : Int32} (hok : ¬ mOk A 1 = 0) (hb : inI y 0 999 = 0) : Ex Γ (d + 3) Y_X9_setHot [.ref mo, .int y] (T, R, S, blk 18 I mo (st A 4 X), L, D, z) 0 0 (rI (0) (T, R, S, blk 18 I mo (st (tA A 2) 4 X), L, D, z)) := by
  refine Ex.of (by decide) (by simp [Value.category]) (Nat.le_of_ble_eq_true rfl) rfl ?_
  refine jj_aload_n (q := 1) dX9_setHot_0 rfl rfl rfl ?_
  refine jj_iconst (v := 1) (q := 2) dX9_setHot_1 rfl rfl ?_
  refine jj_cV1i (q := 5) dX9_setHot_2 yk_X9_mayAsk ml_X9_353 hm.t0 (ex_mayAsk hm) rfl rfl rfl ⟨Nat.zero_le _, Nat.zero_le _⟩ ?_
  refine jj_if_ne (q := 8) (tgt := 10) dX9_setHot_5 rfl rfl (fun h5 => ?_) (fun h5 => by exfalso; exact hok h5)
  refine jj_iload_n (q := 11) dX9_setHot_10 rfl rfl rfl ?_
  refine jj_iconst (v := 0) (q := 12) dX9_setHot_11 rfl rfl ?_
  refine jj_sipush (v := 999) (q := 15) dX9_setHot_12 rfl rfl ?_
  refine jj_cS3i (q := 18) dX9_setHot_15 yk_X9_in ml_X9_111 ex_inI rfl rfl rfl ⟨Nat.zero_le _, Nat.zero_le _⟩ ?_
  refine jj_if_eq (q := 21) (tgt := 30) dX9_setHot_18 rfl rfl (fun h18 => ?_) (fun h18 => absurd (hb) h18)
  refine jj_aload_n (q := 31) dX9_setHot_30 rfl rfl rfl ?_
  refine jj_iconst (v := 2) (q := 32) dX9_setHot_31 rfl rfl ?_
  refine jj_cV1i (q := 35) dX9_setHot_32 yk_X9_throwsAt ml_X9_240 hm.t0 (ex_throwsAt hm) rfl rfl rfl ⟨Nat.zero_le _, Nat.zero_le _⟩ ?_
  refine jj_iret dX9_setHot_35 rfl (Nat.zero_le _) (Nat.zero_le _) ?_
  exact ⟨rfl, by rw [tA_tA]⟩
theorem ex_msetHot_ok (hm : hMo T S mo) {y : Int32} {uu : Nat} (hu : A 0 18 = nI uu) (hu6 : uu ≤ 6) (hok : ¬ mOk A 1 = 0) (hb : ¬ inI y 0 999 = 0) : Ex Γ (d + 3) Y_X9_setHot [.ref mo, .int y] (T, R, S, blk 18 I mo (st A 4 X), L, D, z) 0 0 (rI (X 4) (T, R, S, blk 18 I mo (st (remA (tA A (tI A 1)) X uu) 4 (w1 X 4 y)), L, D, z)) := by
  refine Ex.of (by decide) (by simp [Value.category]) (Nat.le_of_ble_eq_true rfl) rfl ?_
  refine jj_aload_n (q := 1) dX9_setHot_0 rfl rfl rfl ?_
  refine jj_iconst (v := 1) (q := 2) dX9_setHot_1 rfl rfl ?_
  refine jj_cV1i (q := 5) dX9_setHot_2 yk_X9_mayAsk ml_X9_353 hm.t0 (ex_mayAsk hm) rfl rfl rfl ⟨Nat.zero_le _, Nat.zero_le _⟩ ?_
  refine jj_if_ne (q := 8) (tgt := 10) dX9_setHot_5 rfl rfl (fun h5 => ?_) (fun h5 => by exfalso; exact hok h5)
  refine jj_iload_n (q := 11) dX9_setHot_10 rfl rfl rfl ?_
  refine jj_iconst (v := 0) (q := 12) dX9_setHot_11 rfl rfl ?_
  refine jj_sipush (v := 999) (q := 15) dX9_setHot_12 rfl rfl ?_
  refine jj_cS3i (q := 18) dX9_setHot_15 yk_X9_in ml_X9_111 ex_inI rfl rfl rfl ⟨Nat.zero_le _, Nat.zero_le _⟩ ?_
  refine jj_if_eq (q := 21) (tgt := 30) dX9_setHot_18 rfl rfl (fun h18 => absurd h18 (hb)) (fun h18 => ?_)
  refine jj_aload_n (q := 22) dX9_setHot_21 rfl rfl rfl ?_
  refine jj_iconst (v := 4) (q := 23) dX9_setHot_22 rfl rfl ?_
  refine jj_iload_n (q := 24) dX9_setHot_23 rfl rfl rfl ?_
  refine jj_cV2i (q := 27) dX9_setHot_24 yk_X9_sets ml_X9_440 hm.t0 (ex_sets (j := 4) hm (show (tA A _) 0 18 = nI uu from hu) hu6 (by omega)) rfl rfl rfl ⟨Nat.zero_le _, Nat.zero_le _⟩ ?_
  refine jj_goto (tgt := 35) dX9_setHot_27 rfl ?_
  refine jj_iret dX9_setHot_35 rfl (Nat.zero_le _) (Nat.zero_le _) ?_
  exact ⟨rfl, rfl⟩
theorem ex_mstopLoop_no (hm : hMo T S mo) {y : Int32} (hok : mOk A 1 = 0) : Ex Γ (d + 3) Y_X9_stopLoop [.ref mo, .int y] (T, R, S, blk 18 I mo (st A 4 X), L, D, z) 0 0 (rI (0) (T, R, S, blk 18 I mo (st (tA A (tI A 1)) 4 X), L, D, z)) := by
  refine Ex.of (by decide) (by simp [Value.category]) (Nat.le_of_ble_eq_true rfl) rfl ?_
  refine jj_aload_n (q := 1) dX9_stopLoop_0 rfl rfl rfl ?_
  refine jj_iconst (v := 1) (q := 2) dX9_stopLoop_1 rfl rfl ?_
  refine jj_cV1i (q := 5) dX9_stopLoop_2 yk_X9_mayAsk ml_X9_353 hm.t0 (ex_mayAsk hm) rfl rfl rfl ⟨Nat.zero_le _, Nat.zero_le _⟩ ?_
  refine jj_if_ne (q := 8) (tgt := 10) dX9_stopLoop_5 rfl rfl (fun h5 => by exfalso; exact h5 hok) (fun h5 => ?_)
  refine jj_iconst (v := 0) (q := 9) dX9_stopLoop_8 rfl rfl ?_
  refine jj_iret dX9_stopLoop_9 rfl (Nat.zero_le _) (Nat.zero_le _) ?_
  exact ⟨rfl, rfl⟩
theorem ex_mstopLoop_bad (hm : hMo T S mo) {y : Int32} (hok : ¬ mOk A 1 = 0) (hb : inI y 0 999 = 0) : Ex Γ (d + 3) Y_X9_stopLoop [.ref mo, .int y] (T, R, S, blk 18 I mo (st A 4 X), L, D, z) 0 0 (rI (0) (T, R, S, blk 18 I mo (st (tA A 2) 4 X), L, D, z)) := by
  refine Ex.of (by decide) (by simp [Value.category]) (Nat.le_of_ble_eq_true rfl) rfl ?_
  refine jj_aload_n (q := 1) dX9_stopLoop_0 rfl rfl rfl ?_
  refine jj_iconst (v := 1) (q := 2) dX9_stopLoop_1 rfl rfl ?_
  refine jj_cV1i (q := 5) dX9_stopLoop_2 yk_X9_mayAsk ml_X9_353 hm.t0 (ex_mayAsk hm) rfl rfl rfl ⟨Nat.zero_le _, Nat.zero_le _⟩ ?_
  refine jj_if_ne (q := 8) (tgt := 10) dX9_stopLoop_5 rfl rfl (fun h5 => ?_) (fun h5 => by exfalso; exact hok h5)
  refine jj_iload_n (q := 11) dX9_stopLoop_10 rfl rfl rfl ?_
  refine jj_iconst (v := 0) (q := 12) dX9_stopLoop_11 rfl rfl ?_
  refine jj_sipush (v := 999) (q := 15) dX9_stopLoop_12 rfl rfl ?_
  refine jj_cS3i (q := 18) dX9_stopLoop_15 yk_X9_in ml_X9_111 ex_inI rfl rfl rfl ⟨Nat.zero_le _, Nat.zero_le _⟩ ?_
  refine jj_if_ne (q := 21) (tgt := 27) dX9_stopLoop_18 rfl rfl (fun h18 => by exfalso; exact h18 hb) (fun h18 => ?_)
  refine jj_aload_n (q := 22) dX9_stopLoop_21 rfl rfl rfl ?_
  refine jj_iconst (v := 2) (q := 23) dX9_stopLoop_22 rfl rfl ?_
  refine jj_cV1i (q := 26) dX9_stopLoop_23 yk_X9_throwsAt ml_X9_240 hm.t0 (ex_throwsAt hm) rfl rfl rfl ⟨Nat.zero_le _, Nat.zero_le _⟩ ?_
  refine jj_iret dX9_stopLoop_26 rfl (Nat.zero_le _) (Nat.zero_le _) ?_
  exact ⟨rfl, by rw [tA_tA]⟩
theorem ex_mstopLoop_ok (hm : hMo T S mo) {y : Int32} {uu : Nat} (hu : A 0 18 = nI uu) (hu6 : uu ≤ 6) (hok : ¬ mOk A 1 = 0) (hb : ¬ inI y 0 999 = 0) : Ex Γ (d + 3) Y_X9_stopLoop [.ref mo, .int y] (T, R, S, blk 18 I mo (st A 4 X), L, D, z) 0 0 (rI (X 0 + y) (T, R, S, blk 18 I mo (st (remA (tA A (tI A 1)) X uu) 4 (w1 X 2085 (X 0 + y))), L, D, z)) := by
  refine Ex.of (by decide) (by simp [Value.category]) (Nat.le_of_ble_eq_true rfl) rfl ?_
  refine jj_aload_n (q := 1) dX9_stopLoop_0 rfl rfl rfl ?_
  refine jj_iconst (v := 1) (q := 2) dX9_stopLoop_1 rfl rfl ?_
  refine jj_cV1i (q := 5) dX9_stopLoop_2 yk_X9_mayAsk ml_X9_353 hm.t0 (ex_mayAsk hm) rfl rfl rfl ⟨Nat.zero_le _, Nat.zero_le _⟩ ?_
  refine jj_if_ne (q := 8) (tgt := 10) dX9_stopLoop_5 rfl rfl (fun h5 => ?_) (fun h5 => by exfalso; exact hok h5)
  refine jj_iload_n (q := 11) dX9_stopLoop_10 rfl rfl rfl ?_
  refine jj_iconst (v := 0) (q := 12) dX9_stopLoop_11 rfl rfl ?_
  refine jj_sipush (v := 999) (q := 15) dX9_stopLoop_12 rfl rfl ?_
  refine jj_cS3i (q := 18) dX9_stopLoop_15 yk_X9_in ml_X9_111 ex_inI rfl rfl rfl ⟨Nat.zero_le _, Nat.zero_le _⟩ ?_
  refine jj_if_ne (q := 21) (tgt := 27) dX9_stopLoop_18 rfl rfl (fun h18 => ?_) (fun h18 => by exfalso; exact hb h18)
  refine jj_aload_n (q := 28) dX9_stopLoop_27 rfl rfl rfl ?_
  refine jj_sipush (v := 2085) (q := 31) dX9_stopLoop_28 rfl rfl ?_
  refine jj_aload_n (q := 32) dX9_stopLoop_31 rfl rfl rfl ?_
  refine jj_getS (q := 35) dX9_stopLoop_32 fl_X9_23 hm.t0 hm.r0_12 rfl rfl rfl ?_
  refine jj_iconst (v := 0) (q := 36) dX9_stopLoop_35 rfl rfl ?_
  refine jj_ialdN (q := 37) (j := 0) dX9_stopLoop_36 hm.t4 (blk_st (by decide)) rfl (by omega) rfl ?_
  refine jj_iload_n (q := 38) dX9_stopLoop_37 rfl rfl rfl ?_
  refine jj_iadd (q := 39) dX9_stopLoop_38 rfl ?_
  refine jj_cV2i (q := 42) dX9_stopLoop_39 yk_X9_sets ml_X9_440 hm.t0 (ex_sets (j := 2085) hm (show (tA A _) 0 18 = nI uu from hu) hu6 (by omega)) rfl rfl rfl ⟨Nat.zero_le _, Nat.zero_le _⟩ ?_
  refine jj_istore_n (q := 43) dX9_stopLoop_42 rfl (by decide) rfl ?_
  refine jj_aload_n (q := 44) dX9_stopLoop_43 rfl rfl rfl ?_
  refine jj_getS (q := 47) dX9_stopLoop_44 fl_X9_23 hm.t0 hm.r0_12 rfl rfl rfl ?_
  refine jj_sipush (v := 2085) (q := 50) dX9_stopLoop_47 rfl rfl ?_
  refine jj_ialdN (q := 51) (j := 2085) dX9_stopLoop_50 hm.t4 (blk_st (by decide)) rfl (by omega) rfl ?_
  refine jj_iret dX9_stopLoop_51 rfl (Nat.zero_le _) (Nat.zero_le _) ?_
  exact ⟨by rw [w1_eq], rfl⟩
end M61
