/-! THE MODEL'S BEST DELAY -/
theorem s46_av {A : JI} {X Y Z V0 V : JV} : s46 (av (st (av A V0) 6 Y) V) X Z = st (st (av A V) 6 Z) 4 X := by
  unfold s46
  rw [av_st (by omega), av_av, st_comm (show 4 ≠ 6 by omega), st_st]
theorem mDl_J {Q X : JV} {f : Nat} {y : Int32} (h : mJ Q X) (hf : f < 8) : mJ Q (mDl X f y) := by
  unfold mDl
  split
  · exact (h.set (rg_free (by omega)) (by omega)).set (rg_free (by omega)) (by omega)
  · exact h.set (rg_free (by omega)) (by omega)
section M65
variable {Γ : Gam} {d : Nat} {T : JT} {R S : JR} {I A : JI} {L : JL} {D : JD} {z : Option Nat} {mo u : Nat} {X Y Q V : JV} {H : Nat → JV → Nat → Bool}
theorem ex_mbestDelay_no (hm : hMo T S mo) {b y : Int32} (hok : mOk A (inI b 0 (A 2 12 - 1)) = 0) : Ex Γ (d + 31) Y_X9_bestDelay [.ref mo, .int b, .int y] (T, R, S, blk 18 I mo (st A 4 X), L, D, z) 0 0 (rI (0) (T, R, S, blk 18 I mo (st (tA A (tI A (inI b 0 (A 2 12 - 1)))) 4 X), L, D, z)) := by
  refine Ex.of (by decide) (by simp [Value.category]) (Nat.le_of_ble_eq_true rfl) rfl ?_
  refine jj_aload_n (q := 1) dX9_bestDelay_0 rfl rfl rfl ?_
  refine jj_aload_n (q := 2) dX9_bestDelay_1 rfl rfl rfl ?_
  refine jj_iload_n (q := 3) dX9_bestDelay_2 rfl rfl rfl ?_
  refine jj_cV1i (q := 6) dX9_bestDelay_3 yk_X9_isFlight ml_X9_373 hm.t0 (ex_isFlight hm) rfl rfl rfl ⟨Nat.zero_le _, Nat.zero_le _⟩ ?_
  refine jj_cV1i (q := 9) dX9_bestDelay_6 yk_X9_mayAsk ml_X9_353 hm.t0 (ex_mayAsk hm) rfl rfl rfl ⟨Nat.zero_le _, Nat.zero_le _⟩ ?_
  refine jj_if_ne (q := 12) (tgt := 14) dX9_bestDelay_9 rfl rfl (fun h9 => by exfalso; exact h9 hok) (fun h9 => ?_)
  refine jj_iconst (v := 0) (q := 13) dX9_bestDelay_12 rfl rfl ?_
  refine jj_iret dX9_bestDelay_13 rfl (Nat.zero_le _) (Nat.zero_le _) ?_
  exact ⟨rfl, rfl⟩
theorem ex_mbestDelay_b1 (hm : hMo T S mo) {b y : Int32} (hok : ¬ mOk A (inI b 0 (A 2 12 - 1)) = 0) (hg : cG X y 200 = 0) : Ex Γ (d + 31) Y_X9_bestDelay [.ref mo, .int b, .int y] (T, R, S, blk 18 I mo (st A 4 X), L, D, z) 0 0 (rI (0) (T, R, S, blk 18 I mo (st (tA A 3) 4 X), L, D, z)) := by
  refine Ex.of (by decide) (by simp [Value.category]) (Nat.le_of_ble_eq_true rfl) rfl ?_
  refine jj_aload_n (q := 1) dX9_bestDelay_0 rfl rfl rfl ?_
  refine jj_aload_n (q := 2) dX9_bestDelay_1 rfl rfl rfl ?_
  refine jj_iload_n (q := 3) dX9_bestDelay_2 rfl rfl rfl ?_
  refine jj_cV1i (q := 6) dX9_bestDelay_3 yk_X9_isFlight ml_X9_373 hm.t0 (ex_isFlight hm) rfl rfl rfl ⟨Nat.zero_le _, Nat.zero_le _⟩ ?_
  refine jj_cV1i (q := 9) dX9_bestDelay_6 yk_X9_mayAsk ml_X9_353 hm.t0 (ex_mayAsk hm) rfl rfl rfl ⟨Nat.zero_le _, Nat.zero_le _⟩ ?_
  refine jj_if_ne (q := 12) (tgt := 14) dX9_bestDelay_9 rfl rfl (fun h9 => ?_) (fun h9 => by exfalso; exact hok h9)
  refine jj_aload_n (q := 15) dX9_bestDelay_14 rfl rfl rfl ?_
  refine jj_iload_n (q := 16) dX9_bestDelay_15 rfl rfl rfl ?_
  refine jj_sipush (v := 200) (q := 19) dX9_bestDelay_16 rfl rfl ?_
  refine jj_cV2i (q := 22) dX9_bestDelay_19 yk_X9_canGo ml_X9_415 hm.t0 (ex_canGo hm) rfl rfl rfl ⟨Nat.zero_le _, Nat.zero_le _⟩ ?_
  refine jj_if_eq (q := 25) (tgt := 37) dX9_bestDelay_22 rfl rfl (fun h22 => ?_) (fun h22 => absurd (hg) h22)
  refine jj_aload_n (q := 38) dX9_bestDelay_37 rfl rfl rfl ?_
  refine jj_iconst (v := 3) (q := 39) dX9_bestDelay_38 rfl rfl ?_
  refine jj_cV1i (q := 42) dX9_bestDelay_39 yk_X9_throwsAt ml_X9_240 hm.t0 (ex_throwsAt hm) rfl rfl rfl ⟨Nat.zero_le _, Nat.zero_le _⟩ ?_
  refine jj_iret dX9_bestDelay_42 rfl (Nat.zero_le _) (Nat.zero_le _) ?_
  exact ⟨rfl, by rw [tA_tA]⟩
theorem ex_mbestDelay_b2 (hm : hMo T S mo) {n : Nat} (hn8 : n < 8) {y : Int32} (hok : ¬ mOk A (inI (nI n) 0 (A 2 12 - 1)) = 0) (hg : ¬ cG X y 200 = 0) (hp : mPh X n = 2) : Ex Γ (d + 31) Y_X9_bestDelay [.ref mo, .int (nI n), .int y] (T, R, S, blk 18 I mo (st A 4 X), L, D, z) 0 0 (rI (0) (T, R, S, blk 18 I mo (st (tA A 3) 4 X), L, D, z)) := by
  refine Ex.of (by decide) (by simp [Value.category]) (Nat.le_of_ble_eq_true rfl) rfl ?_
  refine jj_aload_n (q := 1) dX9_bestDelay_0 rfl rfl rfl ?_
  refine jj_aload_n (q := 2) dX9_bestDelay_1 rfl rfl rfl ?_
  refine jj_iload_n (q := 3) dX9_bestDelay_2 rfl rfl rfl ?_
  refine jj_cV1i (q := 6) dX9_bestDelay_3 yk_X9_isFlight ml_X9_373 hm.t0 (ex_isFlight hm) rfl rfl rfl ⟨Nat.zero_le _, Nat.zero_le _⟩ ?_
  refine jj_cV1i (q := 9) dX9_bestDelay_6 yk_X9_mayAsk ml_X9_353 hm.t0 (ex_mayAsk hm) rfl rfl rfl ⟨Nat.zero_le _, Nat.zero_le _⟩ ?_
  refine jj_if_ne (q := 12) (tgt := 14) dX9_bestDelay_9 rfl rfl (fun h9 => ?_) (fun h9 => by exfalso; exact hok h9)
  refine jj_aload_n (q := 15) dX9_bestDelay_14 rfl rfl rfl ?_
  refine jj_iload_n (q := 16) dX9_bestDelay_15 rfl rfl rfl ?_
  refine jj_sipush (v := 200) (q := 19) dX9_bestDelay_16 rfl rfl ?_
  refine jj_cV2i (q := 22) dX9_bestDelay_19 yk_X9_canGo ml_X9_415 hm.t0 (ex_canGo hm) rfl rfl rfl ⟨Nat.zero_le _, Nat.zero_le _⟩ ?_
  refine jj_if_eq (q := 25) (tgt := 37) dX9_bestDelay_22 rfl rfl (fun h22 => absurd h22 (hg)) (fun h22 => ?_)
  refine jj_aload_n (q := 26) dX9_bestDelay_25 rfl rfl rfl ?_
  refine jj_getS (q := 29) dX9_bestDelay_26 fl_X9_23 hm.t0 hm.r0_12 rfl rfl rfl ?_
  refine jj_iload_n (q := 30) dX9_bestDelay_29 rfl rfl rfl ?_
  refine jj_cS2i (q := 33) dX9_bestDelay_30 yk_X9_flightIs ml_X9_257 (ex_flightIs hm u44 hn8) rfl rfl rfl ⟨Nat.zero_le _, Nat.zero_le _⟩ ?_
  refine jj_iconst (v := 2) (q := 34) dX9_bestDelay_33 rfl rfl ?_
  refine jj_icmp_ne (q := 37) (tgt := 43) dX9_bestDelay_34 rfl rfl (fun h34 => by exfalso; exact h34 hp) (fun h34 => ?_)
  refine jj_aload_n (q := 38) dX9_bestDelay_37 rfl rfl rfl ?_
  refine jj_iconst (v := 3) (q := 39) dX9_bestDelay_38 rfl rfl ?_
  refine jj_cV1i (q := 42) dX9_bestDelay_39 yk_X9_throwsAt ml_X9_240 hm.t0 (ex_throwsAt hm) rfl rfl rfl ⟨Nat.zero_le _, Nat.zero_le _⟩ ?_
  refine jj_iret dX9_bestDelay_42 rfl (Nat.zero_le _) (Nat.zero_le _) ?_
  exact ⟨rfl, by rw [tA_tA]⟩
theorem lp_bd (hm : hMo T S mo) {N n : Nat} (hNb : N < 2 ^ 31) (hn8 : n < 8) (hQ : mQ Q) (hA : A 2 = Q) (hn : hN A H Q) (hX : mJ Q X) {c : Nat} {sv : Nat → Int32} (hsv : ∀ G i, i ≤ 10 → mI (mRun H Q N (mDl (cpw G 0 2086 X) n (nI (5 * i)))) ∧ mC (mRun H Q N (mDl (cpw G 0 2086 X) n (nI (5 * i)))) = c ∧ nI (mIn (mRun H Q N (mDl (cpw G 0 2086 X) n (nI (5 * i)))) 11 c) = sv i) : ∀ (k i : Nat) (best few : Int32) (V Y : JV), i + k = 11 → JJ Γ (jj_E Y_X9_bestDelay) (jj_Z Γ (rIE (bdL sv k i best few) (fun M' => ∃ V Y, M' = (T, R, S, blk 18 I mo (st (st (av A V) 6 Y) 4 X), L, D, z))) 0 0) (jj_rm (d + 31) 0 0) 0 0 51 [some (.ref mo), some (.int (nI n)), some (.int (nI N)), some (.int best), some (.int few), some (.int (nI (5 * i)))] [] (T, R, S, blk 18 I mo (st (st (av A V) 6 Y) 4 X), L, D, z) := by
  intro k
  induction k with
  | zero =>
    intro i best few V Y hi
    refine jj_iload (q := 53) dX9_bestDelay_51 rfl rfl ?_
    refine jj_bipush (v := 50) (q := 55) dX9_bestDelay_53 rfl rfl ?_
    refine jj_icmp_gt (q := 58) (tgt := 124) dX9_bestDelay_55 rfl rfl (fun h55 => ?_) (fun h55 => absurd (nI_ltN (a := 50) (show 50 < 5 * i by omega) (by omega)) h55)
    refine jj_iload_n (q := 125) dX9_bestDelay_124 rfl rfl rfl ?_
    refine jj_iret dX9_bestDelay_125 rfl (Nat.zero_le _) (Nat.zero_le _) ?_
    exact ⟨rfl, V, Y, rfl⟩
  | succ k ih =>
    intro i best few V Y hi
    have hv := hsv Y i (by omega)
    rw [bdL]
    refine jj_iload (q := 53) dX9_bestDelay_51 rfl rfl ?_
    refine jj_bipush (v := 50) (q := 55) dX9_bestDelay_53 rfl rfl ?_
    refine jj_icmp_gt (q := 58) (tgt := 124) dX9_bestDelay_55 rfl rfl (fun h55 => absurd h55 (nI_nltN (b := 50) (show 5 * i ≤ 50 by omega) (by omega))) (fun h55 => ?_)
    refine jj_aload_n (q := 59) dX9_bestDelay_58 rfl rfl rfl ?_
    refine jj_iconst (v := 0) (q := 60) dX9_bestDelay_59 rfl rfl ?_
    refine jj_eV1v (q := 63) dX9_bestDelay_60 yk_X9_tries ml_X9_424 hm.t0 (ex_tries (N := 0) hm (by omega) hQ (show (st (av A V) 6 Y) 2 = Q from hA) (hn.cg rfl rfl rfl rfl) hX) rfl rfl rfl ⟨Nat.zero_le _, Nat.zero_le _⟩ (fun V2 => ?_)
    refine jj_aload_n (q := 64) dX9_bestDelay_63 rfl rfl rfl ?_
    refine jj_getS (q := 67) dX9_bestDelay_64 fl_X9_29 hm.t0 hm.r0_14 rfl rfl rfl ?_
    refine jj_iload_n (q := 68) dX9_bestDelay_67 rfl rfl rfl ?_
    refine jj_iload (q := 70) dX9_bestDelay_68 rfl rfl ?_
    refine jj_cS3v (q := 73) dX9_bestDelay_70 yk_X9_delays ml_X9_434 (ex_delays hm (show 4 ≤ 6 ∧ 6 ≤ 6 by omega) hn8) rfl rfl rfl ⟨Nat.zero_le _, Nat.zero_le _⟩ ?_
    refine jj_aload_n (q := 74) dX9_bestDelay_73 rfl rfl rfl ?_
    refine jj_aload_n (q := 75) dX9_bestDelay_74 rfl rfl rfl ?_
    refine jj_getS (q := 78) dX9_bestDelay_75 fl_X9_29 hm.t0 hm.r0_14 rfl rfl rfl ?_
    refine jj_iload_n (q := 79) dX9_bestDelay_78 rfl rfl rfl ?_
    refine jj_eV2v (q := 82) dX9_bestDelay_79 yk_X9_ticks ml_X9_418 hm.t0 (ex_work hm hNb hQ (show (av (st (av A V) 6 Y) V2) 2 = Q from hA) (hn.cg rfl rfl rfl rfl) (mDl_J ((cpw_ag _ X).j hX) hn8)) rfl rfl rfl ⟨Nat.zero_le _, Nat.zero_le _⟩ (fun V3 => ?_)
    rw [av_av]
    refine jj_iload_n (q := 83) dX9_bestDelay_82 rfl rfl rfl ?_
    refine jj_iconst (v := -1) (q := 84) dX9_bestDelay_83 rfl rfl ?_
    refine jj_icmp_eq (q := 87) (tgt := 104) dX9_bestDelay_84 rfl rfl (fun h84 => ?_) (fun h84 => ?_)
    · refine jj_iload (q := 106) dX9_bestDelay_104 rfl rfl ?_
      refine jj_istore_n (q := 107) dX9_bestDelay_106 rfl (by decide) rfl ?_
      refine jj_aload_n (q := 108) dX9_bestDelay_107 rfl rfl rfl ?_
      refine jj_getS (q := 111) dX9_bestDelay_108 fl_X9_29 hm.t0 hm.r0_14 rfl rfl rfl ?_
      refine jj_bipush (v := 11) (q := 113) dX9_bestDelay_111 rfl rfl ?_
      refine jj_cS2i (q := 116) dX9_bestDelay_113 yk_X9_inState ml_X9_276 (in6 hm (hsv Y i (by omega)).1 (hsv Y i (by omega)).2.1) rfl rfl rfl ⟨Nat.zero_le _, Nat.zero_le _⟩ ?_
      rw [hv.2.2]
      refine jj_istore (q := 118) dX9_bestDelay_116 (by decide) rfl ?_
      refine jj_iinc (v := nI ((5 * i) + 5)) (q := 121) dX9_bestDelay_118 rfl (nI_incn (5 * i) 5 rfl) (by decide) rfl ?_
      refine jj_goto (tgt := 51) dX9_bestDelay_121 rfl ?_
      rw [show 5 * i + 5 = 5 * (i + 1) by omega, s46_av]
      rw [if_pos h84]
      exact ih (i + 1) _ _ _ _ (by omega)
    · refine jj_aload_n (q := 88) dX9_bestDelay_87 rfl rfl rfl ?_
      refine jj_getS (q := 91) dX9_bestDelay_88 fl_X9_29 hm.t0 hm.r0_14 rfl rfl rfl ?_
      refine jj_bipush (v := 11) (q := 93) dX9_bestDelay_91 rfl rfl ?_
      refine jj_cS2i (q := 96) dX9_bestDelay_93 yk_X9_inState ml_X9_276 (in6 hm (hsv Y i (by omega)).1 (hsv Y i (by omega)).2.1) rfl rfl rfl ⟨Nat.zero_le _, Nat.zero_le _⟩ ?_
      rw [hv.2.2]
      refine jj_iload (q := 98) dX9_bestDelay_96 rfl rfl ?_
      refine jj_icmp_lt (q := 101) (tgt := 104) dX9_bestDelay_98 rfl rfl (fun h98 => ?_) (fun h98 => ?_)
      · refine jj_iload (q := 106) dX9_bestDelay_104 rfl rfl ?_
        refine jj_istore_n (q := 107) dX9_bestDelay_106 rfl (by decide) rfl ?_
        refine jj_aload_n (q := 108) dX9_bestDelay_107 rfl rfl rfl ?_
        refine jj_getS (q := 111) dX9_bestDelay_108 fl_X9_29 hm.t0 hm.r0_14 rfl rfl rfl ?_
        refine jj_bipush (v := 11) (q := 113) dX9_bestDelay_111 rfl rfl ?_
        refine jj_cS2i (q := 116) dX9_bestDelay_113 yk_X9_inState ml_X9_276 (in6 hm (hsv Y i (by omega)).1 (hsv Y i (by omega)).2.1) rfl rfl rfl ⟨Nat.zero_le _, Nat.zero_le _⟩ ?_
        rw [hv.2.2]
        refine jj_istore (q := 118) dX9_bestDelay_116 (by decide) rfl ?_
        refine jj_iinc (v := nI ((5 * i) + 5)) (q := 121) dX9_bestDelay_118 rfl (nI_incn (5 * i) 5 rfl) (by decide) rfl ?_
        refine jj_goto (tgt := 51) dX9_bestDelay_121 rfl ?_
        rw [show 5 * i + 5 = 5 * (i + 1) by omega, s46_av]
        rw [if_neg h84, if_pos h98]
        exact ih (i + 1) _ _ _ _ (by omega)
      · refine jj_goto (tgt := 118) dX9_bestDelay_101 rfl ?_
        refine jj_iinc (v := nI ((5 * i) + 5)) (q := 121) dX9_bestDelay_118 rfl (nI_incn (5 * i) 5 rfl) (by decide) rfl ?_
        refine jj_goto (tgt := 51) dX9_bestDelay_121 rfl ?_
        rw [show 5 * i + 5 = 5 * (i + 1) by omega, s46_av]
        rw [if_neg h84, if_neg h98]
        exact ih (i + 1) _ _ _ _ (by omega)
theorem ex_mbestDelay_ok (hm : hMo T S mo) {N n : Nat} (hNb : N < 2 ^ 31) (hn8 : n < 8) (hQ : mQ Q) (hA : A 2 = Q) (hn : hN A H Q) (hX : mJ Q X) {c : Nat} {sv : Nat → Int32} (hsv : ∀ G i, i ≤ 10 → mI (mRun H Q N (mDl (cpw G 0 2086 X) n (nI (5 * i)))) ∧ mC (mRun H Q N (mDl (cpw G 0 2086 X) n (nI (5 * i)))) = c ∧ nI (mIn (mRun H Q N (mDl (cpw G 0 2086 X) n (nI (5 * i)))) 11 c) = sv i) (hok : ¬ mOk A (inI (nI n) 0 (A 2 12 - 1)) = 0) (hg : ¬ cG X (nI N) 200 = 0) (hp : ¬ mPh X n = 2) : Ex Γ (d + 31) Y_X9_bestDelay [.ref mo, .int (nI n), .int (nI N)] (T, R, S, blk 18 I mo (st A 4 X), L, D, z) 0 0 (rIE (bdL sv 11 0 (-1) 0) (fun M' => ∃ V Y, M' = (T, R, S, blk 18 I mo (st (st (av (tA A (tI A (inI (nI n) 0 (A 2 12 - 1)))) V) 6 Y) 4 X), L, D, z))) := by
  refine Ex.of (by decide) (by simp [Value.category]) (Nat.le_of_ble_eq_true rfl) rfl ?_
  refine jj_aload_n (q := 1) dX9_bestDelay_0 rfl rfl rfl ?_
  refine jj_aload_n (q := 2) dX9_bestDelay_1 rfl rfl rfl ?_
  refine jj_iload_n (q := 3) dX9_bestDelay_2 rfl rfl rfl ?_
  refine jj_cV1i (q := 6) dX9_bestDelay_3 yk_X9_isFlight ml_X9_373 hm.t0 (ex_isFlight hm) rfl rfl rfl ⟨Nat.zero_le _, Nat.zero_le _⟩ ?_
  refine jj_cV1i (q := 9) dX9_bestDelay_6 yk_X9_mayAsk ml_X9_353 hm.t0 (ex_mayAsk hm) rfl rfl rfl ⟨Nat.zero_le _, Nat.zero_le _⟩ ?_
  refine jj_if_ne (q := 12) (tgt := 14) dX9_bestDelay_9 rfl rfl (fun h9 => ?_) (fun h9 => by exfalso; exact hok h9)
  refine jj_aload_n (q := 15) dX9_bestDelay_14 rfl rfl rfl ?_
  refine jj_iload_n (q := 16) dX9_bestDelay_15 rfl rfl rfl ?_
  refine jj_sipush (v := 200) (q := 19) dX9_bestDelay_16 rfl rfl ?_
  refine jj_cV2i (q := 22) dX9_bestDelay_19 yk_X9_canGo ml_X9_415 hm.t0 (ex_canGo hm) rfl rfl rfl ⟨Nat.zero_le _, Nat.zero_le _⟩ ?_
  refine jj_if_eq (q := 25) (tgt := 37) dX9_bestDelay_22 rfl rfl (fun h22 => absurd h22 (hg)) (fun h22 => ?_)
  refine jj_aload_n (q := 26) dX9_bestDelay_25 rfl rfl rfl ?_
  refine jj_getS (q := 29) dX9_bestDelay_26 fl_X9_23 hm.t0 hm.r0_12 rfl rfl rfl ?_
  refine jj_iload_n (q := 30) dX9_bestDelay_29 rfl rfl rfl ?_
  refine jj_cS2i (q := 33) dX9_bestDelay_30 yk_X9_flightIs ml_X9_257 (ex_flightIs hm u44 hn8) rfl rfl rfl ⟨Nat.zero_le _, Nat.zero_le _⟩ ?_
  refine jj_iconst (v := 2) (q := 34) dX9_bestDelay_33 rfl rfl ?_
  refine jj_icmp_ne (q := 37) (tgt := 43) dX9_bestDelay_34 rfl rfl (fun h34 => ?_) (fun h34 => by exfalso; exact hp h34)
  refine jj_iconst (v := -1) (q := 44) dX9_bestDelay_43 rfl rfl ?_
  refine jj_istore_n (q := 45) dX9_bestDelay_44 rfl (by decide) rfl ?_
  refine jj_iconst (v := 0) (q := 46) dX9_bestDelay_45 rfl rfl ?_
  refine jj_istore (q := 48) dX9_bestDelay_46 (by decide) rfl ?_
  refine jj_iconst (v := 0) (q := 49) dX9_bestDelay_48 rfl rfl ?_
  refine jj_istore (q := 51) dX9_bestDelay_49 (by decide) rfl ?_
  have e := lp_bd (Γ := Γ) (d := d) (T := T) (R := R) (S := S) (I := I) (A := tA A (tI A (inI (nI n) 0 (A 2 12 - 1)))) (L := L) (D := D) (z := z) hm hNb hn8 hQ (show (tA A (tI A (inI (nI n) 0 (A 2 12 - 1)))) 2 = Q from hA) (hn.cg rfl rfl rfl rfl) hX hsv 11 0 (-1) 0 (fun _ => (tA A (tI A (inI (nI n) 0 (A 2 12 - 1)))) 0 28) ((tA A (tI A (inI (nI n) 0 (A 2 12 - 1)))) 6) (by omega)
  rw [av_self, st_self] at e
  exact e
end M65
