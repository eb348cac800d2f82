/-! THE MODEL'S CHANGES, 3 -/
def aR (A : JI) (X : JV) (b f : Int32) : Int32 := if inI b 0 (X 2 - 1) = 0 then 0 else if inI f 0 (A 2 12 - 1) = 0 then 0 else 1
section M62
variable {Γ : Gam} {d : Nat} {T : JT} {R S : JR} {I A : JI} {L : JL} {D : JD} {z : Option Nat} {mo u : Nat} {X : JV}
theorem ex_mdelay_no (hm : hMo T S mo) {b y : Int32} (hok : mOk A (inI b 0 (A 2 12 - 1)) = 0) : Ex Γ (d + 3) Y_X9_delay [.ref mo, .int b, .int y] (T, R, S, blk 18 I mo (st A 4 X), L, D, z) 0 0 (rI (0) (T, R, S, blk 18 I mo (st (tA A (tI A (inI b 0 (A 2 12 - 1)))) 4 X), L, D, z)) := by
  refine Ex.of (by decide) (by simp [Value.category]) (Nat.le_of_ble_eq_true rfl) rfl ?_
  refine jj_aload_n (q := 1) dX9_delay_0 rfl rfl rfl ?_
  refine jj_aload_n (q := 2) dX9_delay_1 rfl rfl rfl ?_
  refine jj_iload_n (q := 3) dX9_delay_2 rfl rfl rfl ?_
  refine jj_cV1i (q := 6) dX9_delay_3 yk_X9_isFlight ml_X9_373 hm.t0 (ex_isFlight hm) rfl rfl rfl ⟨Nat.zero_le _, Nat.zero_le _⟩ ?_
  refine jj_cV1i (q := 9) dX9_delay_6 yk_X9_mayAsk ml_X9_353 hm.t0 (ex_mayAsk hm) rfl rfl rfl ⟨Nat.zero_le _, Nat.zero_le _⟩ ?_
  refine jj_if_ne (q := 12) (tgt := 14) dX9_delay_9 rfl rfl (fun h9 => by exfalso; exact h9 hok) (fun h9 => ?_)
  refine jj_iconst (v := 0) (q := 13) dX9_delay_12 rfl rfl ?_
  refine jj_iret dX9_delay_13 rfl (Nat.zero_le _) (Nat.zero_le _) ?_
  exact ⟨rfl, rfl⟩
theorem ex_mdelay_b1 (hm : hMo T S mo) {n : Nat} (hn : n < 8) (hok : ¬ mOk A (inI (nI n) 0 (A 2 12 - 1)) = 0) {y : Int32} (hb : inI y 1 999 = 0) : Ex Γ (d + 3) Y_X9_delay [.ref mo, .int (nI n), .int y] (T, R, S, blk 18 I mo (st A 4 X), L, D, z) 0 0 (rI (0) (T, R, S, blk 18 I mo (st (tA A 3) 4 X), L, D, z)) := by
  refine Ex.of (by decide) (by simp [Value.category]) (Nat.le_of_ble_eq_true rfl) rfl ?_
  refine jj_aload_n (q := 1) dX9_delay_0 rfl rfl rfl ?_
  refine jj_aload_n (q := 2) dX9_delay_1 rfl rfl rfl ?_
  refine jj_iload_n (q := 3) dX9_delay_2 rfl rfl rfl ?_
  refine jj_cV1i (q := 6) dX9_delay_3 yk_X9_isFlight ml_X9_373 hm.t0 (ex_isFlight hm) rfl rfl rfl ⟨Nat.zero_le _, Nat.zero_le _⟩ ?_
  refine jj_cV1i (q := 9) dX9_delay_6 yk_X9_mayAsk ml_X9_353 hm.t0 (ex_mayAsk hm) rfl rfl rfl ⟨Nat.zero_le _, Nat.zero_le _⟩ ?_
  refine jj_if_ne (q := 12) (tgt := 14) dX9_delay_9 rfl rfl (fun h9 => ?_) (fun h9 => by exfalso; exact hok h9)
  refine jj_iload_n (q := 15) dX9_delay_14 rfl rfl rfl ?_
  refine jj_iconst (v := 1) (q := 16) dX9_delay_15 rfl rfl ?_
  refine jj_sipush (v := 999) (q := 19) dX9_delay_16 rfl rfl ?_
  refine jj_cS3i (q := 22) dX9_delay_19 yk_X9_in ml_X9_111 ex_inI rfl rfl rfl ⟨Nat.zero_le _, Nat.zero_le _⟩ ?_
  refine jj_if_eq (q := 25) (tgt := 37) dX9_delay_22 rfl rfl (fun h22 => ?_) (fun h22 => absurd (hb) h22)
  refine jj_aload_n (q := 38) dX9_delay_37 rfl rfl rfl ?_
  refine jj_iconst (v := 3) (q := 39) dX9_delay_38 rfl rfl ?_
  refine jj_cV1i (q := 42) dX9_delay_39 yk_X9_throwsAt ml_X9_240 hm.t0 (ex_throwsAt hm) rfl rfl rfl ⟨Nat.zero_le _, Nat.zero_le _⟩ ?_
  refine jj_iret dX9_delay_42 rfl (Nat.zero_le _) (Nat.zero_le _) ?_
  exact ⟨rfl, by rw [tA_tA]⟩
theorem ex_mdelay_b2 (hm : hMo T S mo) {n : Nat} (hn : n < 8) (hok : ¬ mOk A (inI (nI n) 0 (A 2 12 - 1)) = 0) {y : Int32} (hb : ¬ inI y 1 999 = 0) (hp : mPh X n = 2) : Ex Γ (d + 3) Y_X9_delay [.ref mo, .int (nI n), .int y] (T, R, S, blk 18 I mo (st A 4 X), L, D, z) 0 0 (rI (0) (T, R, S, blk 18 I mo (st (tA A 3) 4 X), L, D, z)) := by
  refine Ex.of (by decide) (by simp [Value.category]) (Nat.le_of_ble_eq_true rfl) rfl ?_
  refine jj_aload_n (q := 1) dX9_delay_0 rfl rfl rfl ?_
  refine jj_aload_n (q := 2) dX9_delay_1 rfl rfl rfl ?_
  refine jj_iload_n (q := 3) dX9_delay_2 rfl rfl rfl ?_
  refine jj_cV1i (q := 6) dX9_delay_3 yk_X9_isFlight ml_X9_373 hm.t0 (ex_isFlight hm) rfl rfl rfl ⟨Nat.zero_le _, Nat.zero_le _⟩ ?_
  refine jj_cV1i (q := 9) dX9_delay_6 yk_X9_mayAsk ml_X9_353 hm.t0 (ex_mayAsk hm) rfl rfl rfl ⟨Nat.zero_le _, Nat.zero_le _⟩ ?_
  refine jj_if_ne (q := 12) (tgt := 14) dX9_delay_9 rfl rfl (fun h9 => ?_) (fun h9 => by exfalso; exact hok h9)
  refine jj_iload_n (q := 15) dX9_delay_14 rfl rfl rfl ?_
  refine jj_iconst (v := 1) (q := 16) dX9_delay_15 rfl rfl ?_
  refine jj_sipush (v := 999) (q := 19) dX9_delay_16 rfl rfl ?_
  refine jj_cS3i (q := 22) dX9_delay_19 yk_X9_in ml_X9_111 ex_inI rfl rfl rfl ⟨Nat.zero_le _, Nat.zero_le _⟩ ?_
  refine jj_if_eq (q := 25) (tgt := 37) dX9_delay_22 rfl rfl (fun h22 => absurd h22 (hb)) (fun h22 => ?_)
  refine jj_aload_n (q := 26) dX9_delay_25 rfl rfl rfl ?_
  refine jj_getS (q := 29) dX9_delay_26 fl_X9_23 hm.t0 hm.r0_12 rfl rfl rfl ?_
  refine jj_iload_n (q := 30) dX9_delay_29 rfl rfl rfl ?_
  refine jj_cS2i (q := 33) dX9_delay_30 yk_X9_flightIs ml_X9_257 (ex_flightIs hm u44 hn) rfl rfl rfl ⟨Nat.zero_le _, Nat.zero_le _⟩ ?_
  refine jj_iconst (v := 2) (q := 34) dX9_delay_33 rfl rfl ?_
  refine jj_icmp_ne (q := 37) (tgt := 43) dX9_delay_34 rfl rfl (fun h34 => by exfalso; exact h34 hp) (fun h34 => ?_)
  refine jj_aload_n (q := 38) dX9_delay_37 rfl rfl rfl ?_
  refine jj_iconst (v := 3) (q := 39) dX9_delay_38 rfl rfl ?_
  refine jj_cV1i (q := 42) dX9_delay_39 yk_X9_throwsAt ml_X9_240 hm.t0 (ex_throwsAt hm) rfl rfl rfl ⟨Nat.zero_le _, Nat.zero_le _⟩ ?_
  refine jj_iret dX9_delay_42 rfl (Nat.zero_le _) (Nat.zero_le _) ?_
  exact ⟨rfl, by rw [tA_tA]⟩
theorem ex_mdelay_ok (hm : hMo T S mo) {uu : Nat} (hu : A 0 18 = nI uu) (hu6 : uu ≤ 6) {n : Nat} (hn : n < 8) (hok : ¬ mOk A (inI (nI n) 0 (A 2 12 - 1)) = 0) {y : Int32} (hb : ¬ inI y 1 999 = 0) (hp : ¬ mPh X n = 2) : Ex Γ (d + 3) Y_X9_delay [.ref mo, .int (nI n), .int y] (T, R, S, blk 18 I mo (st A 4 X), L, D, z) 0 0 (rI (mDl X n y (13 + n)) (T, R, S, blk 18 I mo (st (remA (tA A (tI A (inI (nI n) 0 (A 2 12 - 1)))) X uu) 4 (mDl X n y)), L, D, z)) := by
  refine Ex.of (by decide) (by simp [Value.category]) (Nat.le_of_ble_eq_true rfl) rfl ?_
  refine jj_aload_n (q := 1) dX9_delay_0 rfl rfl rfl ?_
  refine jj_aload_n (q := 2) dX9_delay_1 rfl rfl rfl ?_
  refine jj_iload_n (q := 3) dX9_delay_2 rfl rfl rfl ?_
  refine jj_cV1i (q := 6) dX9_delay_3 yk_X9_isFlight ml_X9_373 hm.t0 (ex_isFlight hm) rfl rfl rfl ⟨Nat.zero_le _, Nat.zero_le _⟩ ?_
  refine jj_cV1i (q := 9) dX9_delay_6 yk_X9_mayAsk ml_X9_353 hm.t0 (ex_mayAsk hm) rfl rfl rfl ⟨Nat.zero_le _, Nat.zero_le _⟩ ?_
  refine jj_if_ne (q := 12) (tgt := 14) dX9_delay_9 rfl rfl (fun h9 => ?_) (fun h9 => by exfalso; exact hok h9)
  refine jj_iload_n (q := 15) dX9_delay_14 rfl rfl rfl ?_
  refine jj_iconst (v := 1) (q := 16) dX9_delay_15 rfl rfl ?_
  refine jj_sipush (v := 999) (q := 19) dX9_delay_16 rfl rfl ?_
  refine jj_cS3i (q := 22) dX9_delay_19 yk_X9_in ml_X9_111 ex_inI rfl rfl rfl ⟨Nat.zero_le _, Nat.zero_le _⟩ ?_
  refine jj_if_eq (q := 25) (tgt := 37) dX9_delay_22 rfl rfl (fun h22 => absurd h22 (hb)) (fun h22 => ?_)
  refine jj_aload_n (q := 26) dX9_delay_25 rfl rfl rfl ?_
  refine jj_getS (q := 29) dX9_delay_26 fl_X9_23 hm.t0 hm.r0_12 rfl rfl rfl ?_
  refine jj_iload_n (q := 30) dX9_delay_29 rfl rfl rfl ?_
  refine jj_cS2i (q := 33) dX9_delay_30 yk_X9_flightIs ml_X9_257 (ex_flightIs hm u44 hn) rfl rfl rfl ⟨Nat.zero_le _, Nat.zero_le _⟩ ?_
  refine jj_iconst (v := 2) (q := 34) dX9_delay_33 rfl rfl ?_
  refine jj_icmp_ne (q := 37) (tgt := 43) dX9_delay_34 rfl rfl (fun h34 => ?_) (fun h34 => by exfalso; exact hp h34)
  refine jj_aload_n (q := 44) dX9_delay_43 rfl rfl rfl ?_
  refine jj_cV0v (q := 47) dX9_delay_44 yk_X9_remember ml_X9_437 hm.t0 (ex_mremember hm (show (tA A _) 0 18 = nI uu from hu) hu6) rfl rfl rfl ⟨Nat.zero_le _, Nat.zero_le _⟩ ?_
  refine jj_aload_n (q := 48) dX9_delay_47 rfl rfl rfl ?_
  refine jj_getS (q := 51) dX9_delay_48 fl_X9_23 hm.t0 hm.r0_12 rfl rfl rfl ?_
  refine jj_iload_n (q := 52) dX9_delay_51 rfl rfl rfl ?_
  refine jj_iload_n (q := 53) dX9_delay_52 rfl rfl rfl ?_
  refine jj_cS3v (q := 56) dX9_delay_53 yk_X9_delays ml_X9_434 (ex_delays hm u44 hn) rfl rfl rfl ⟨Nat.zero_le _, Nat.zero_le _⟩ ?_
  refine jj_aload_n (q := 57) dX9_delay_56 rfl rfl rfl ?_
  refine jj_getS (q := 60) dX9_delay_57 fl_X9_23 hm.t0 hm.r0_12 rfl rfl rfl ?_
  refine jj_bipush (v := 13) (q := 62) dX9_delay_60 rfl rfl ?_
  refine jj_iload_n (q := 63) dX9_delay_62 rfl rfl rfl ?_
  refine jj_iaddN (q := 64) (a := 13) (b := n) dX9_delay_63 rfl rfl rfl ?_
  refine jj_ialdN (q := 65) (j := 13 + n) dX9_delay_64 hm.t4 (blk_st (by decide)) rfl (by omega) rfl ?_
  refine jj_iret dX9_delay_65 rfl (Nat.zero_le _) (Nat.zero_le _) ?_
  exact ⟨rfl, rfl⟩
theorem ex_moffload_no (hm : hMo T S mo) {b : Int32} (hok : mOk A (inI b 0 (X 2 - 1)) = 0) : Ex Γ (d + 3) Y_X9_offload [.ref mo, .int b] (T, R, S, blk 18 I mo (st A 4 X), L, D, z) 0 0 (rI (0) (T, R, S, blk 18 I mo (st (tA A (tI A (inI b 0 (X 2 - 1)))) 4 X), L, D, z)) := by
  refine Ex.of (by decide) (by simp [Value.category]) (Nat.le_of_ble_eq_true rfl) rfl ?_
  refine jj_aload_n (q := 1) dX9_offload_0 rfl rfl rfl ?_
  refine jj_aload_n (q := 2) dX9_offload_1 rfl rfl rfl ?_
  refine jj_iload_n (q := 3) dX9_offload_2 rfl rfl rfl ?_
  refine jj_cV1i (q := 6) dX9_offload_3 yk_X9_isBag ml_X9_350 hm.t0 (ex_isBag hm) rfl rfl rfl ⟨Nat.zero_le _, Nat.zero_le _⟩ ?_
  refine jj_cV1i (q := 9) dX9_offload_6 yk_X9_mayAsk ml_X9_353 hm.t0 (ex_mayAsk hm) rfl rfl rfl ⟨Nat.zero_le _, Nat.zero_le _⟩ ?_
  refine jj_if_ne (q := 12) (tgt := 14) dX9_offload_9 rfl rfl (fun h9 => by exfalso; exact h9 hok) (fun h9 => ?_)
  refine jj_iconst (v := 0) (q := 13) dX9_offload_12 rfl rfl ?_
  refine jj_iret dX9_offload_13 rfl (Nat.zero_le _) (Nat.zero_le _) ?_
  exact ⟨rfl, rfl⟩
theorem ex_moffload_bad (hm : hMo T S mo) (hX : mI X) {n : Nat} (hn : n < 100) (hok : ¬ mOk A (inI (nI n) 0 (X 2 - 1)) = 0) (hs : ¬ X (373 + n) = 10) : Ex Γ (d + 3) Y_X9_offload [.ref mo, .int (nI n)] (T, R, S, blk 18 I mo (st A 4 X), L, D, z) 0 0 (rI (0) (T, R, S, blk 18 I mo (st (tA A 3) 4 X), L, D, z)) := by
  refine Ex.of (by decide) (by simp [Value.category]) (Nat.le_of_ble_eq_true rfl) rfl ?_
  refine jj_aload_n (q := 1) dX9_offload_0 rfl rfl rfl ?_
  refine jj_aload_n (q := 2) dX9_offload_1 rfl rfl rfl ?_
  refine jj_iload_n (q := 3) dX9_offload_2 rfl rfl rfl ?_
  refine jj_cV1i (q := 6) dX9_offload_3 yk_X9_isBag ml_X9_350 hm.t0 (ex_isBag hm) rfl rfl rfl ⟨Nat.zero_le _, Nat.zero_le _⟩ ?_
  refine jj_cV1i (q := 9) dX9_offload_6 yk_X9_mayAsk ml_X9_353 hm.t0 (ex_mayAsk hm) rfl rfl rfl ⟨Nat.zero_le _, Nat.zero_le _⟩ ?_
  refine jj_if_ne (q := 12) (tgt := 14) dX9_offload_9 rfl rfl (fun h9 => ?_) (fun h9 => by exfalso; exact hok h9)
  refine jj_aload_n (q := 15) dX9_offload_14 rfl rfl rfl ?_
  refine jj_getS (q := 18) dX9_offload_15 fl_X9_23 hm.t0 hm.r0_12 rfl rfl rfl ?_
  refine jj_sipush (v := 373) (q := 21) dX9_offload_18 rfl rfl ?_
  refine jj_iload_n (q := 22) dX9_offload_21 rfl rfl rfl ?_
  refine jj_iaddN (q := 23) (a := 373) (b := n) dX9_offload_22 rfl rfl rfl ?_
  refine jj_ialdN (q := 24) (j := 373 + n) dX9_offload_23 hm.t4 (blk_st (by decide)) rfl (by omega) rfl ?_
  refine jj_bipush (v := 10) (q := 26) dX9_offload_24 rfl rfl ?_
  refine jj_icmp_eq (q := 29) (tgt := 35) dX9_offload_26 rfl rfl (fun h26 => absurd h26 (hs)) (fun h26 => ?_)
  refine jj_aload_n (q := 30) dX9_offload_29 rfl rfl rfl ?_
  refine jj_iconst (v := 3) (q := 31) dX9_offload_30 rfl rfl ?_
  refine jj_cV1i (q := 34) dX9_offload_31 yk_X9_throwsAt ml_X9_240 hm.t0 (ex_throwsAt hm) rfl rfl rfl ⟨Nat.zero_le _, Nat.zero_le _⟩ ?_
  refine jj_iret dX9_offload_34 rfl (Nat.zero_le _) (Nat.zero_le _) ?_
  exact ⟨rfl, by rw [tA_tA]⟩
theorem ex_moffload_ok (hm : hMo T S mo) {uu : Nat} (hu : A 0 18 = nI uu) (hu6 : uu ≤ 6) (hX : mI X) {n : Nat} (hn : n < 100) (hok : ¬ mOk A (inI (nI n) 0 (X 2 - 1)) = 0) (hs : X (373 + n) = 10) {c : Nat} (hX' : mI (mBe X n 13)) (hc' : mC (mBe X n 13) = c) : Ex Γ (d + 3) Y_X9_offload [.ref mo, .int (nI n)] (T, R, S, blk 18 I mo (st A 4 X), L, D, z) 0 0 (rI (nI (fb_ct (pB (mBe X n 13) (mBe X n 13 (173 + n)) 10 10) c)) (T, R, S, blk 18 I mo (st (remA (tA A (tI A (inI (nI n) 0 (X 2 - 1)))) X uu) 4 (mBe X n 13)), L, D, z)) := by
  refine Ex.of (by decide) (by simp [Value.category]) (Nat.le_of_ble_eq_true rfl) rfl ?_
  refine jj_aload_n (q := 1) dX9_offload_0 rfl rfl rfl ?_
  refine jj_aload_n (q := 2) dX9_offload_1 rfl rfl rfl ?_
  refine jj_iload_n (q := 3) dX9_offload_2 rfl rfl rfl ?_
  refine jj_cV1i (q := 6) dX9_offload_3 yk_X9_isBag ml_X9_350 hm.t0 (ex_isBag hm) rfl rfl rfl ⟨Nat.zero_le _, Nat.zero_le _⟩ ?_
  refine jj_cV1i (q := 9) dX9_offload_6 yk_X9_mayAsk ml_X9_353 hm.t0 (ex_mayAsk hm) rfl rfl rfl ⟨Nat.zero_le _, Nat.zero_le _⟩ ?_
  refine jj_if_ne (q := 12) (tgt := 14) dX9_offload_9 rfl rfl (fun h9 => ?_) (fun h9 => by exfalso; exact hok h9)
  refine jj_aload_n (q := 15) dX9_offload_14 rfl rfl rfl ?_
  refine jj_getS (q := 18) dX9_offload_15 fl_X9_23 hm.t0 hm.r0_12 rfl rfl rfl ?_
  refine jj_sipush (v := 373) (q := 21) dX9_offload_18 rfl rfl ?_
  refine jj_iload_n (q := 22) dX9_offload_21 rfl rfl rfl ?_
  refine jj_iaddN (q := 23) (a := 373) (b := n) dX9_offload_22 rfl rfl rfl ?_
  refine jj_ialdN (q := 24) (j := 373 + n) dX9_offload_23 hm.t4 (blk_st (by decide)) rfl (by omega) rfl ?_
  refine jj_bipush (v := 10) (q := 26) dX9_offload_24 rfl rfl ?_
  refine jj_icmp_eq (q := 29) (tgt := 35) dX9_offload_26 rfl rfl (fun h26 => ?_) (fun h26 => absurd (hs) h26)
  refine jj_aload_n (q := 36) dX9_offload_35 rfl rfl rfl ?_
  refine jj_cV0v (q := 39) dX9_offload_36 yk_X9_remember ml_X9_437 hm.t0 (ex_mremember hm (show (tA A _) 0 18 = nI uu from hu) hu6) rfl rfl rfl ⟨Nat.zero_le _, Nat.zero_le _⟩ ?_
  refine jj_aload_n (q := 40) dX9_offload_39 rfl rfl rfl ?_
  refine jj_getS (q := 43) dX9_offload_40 fl_X9_23 hm.t0 hm.r0_12 rfl rfl rfl ?_
  refine jj_iload_n (q := 44) dX9_offload_43 rfl rfl rfl ?_
  refine jj_bipush (v := 13) (q := 46) dX9_offload_44 rfl rfl ?_
  refine jj_cS3v (q := 49) dX9_offload_46 yk_X9_becomes ml_X9_297 (ex_becomes hm u44 hX hn) rfl rfl rfl ⟨Nat.zero_le _, Nat.zero_le _⟩ ?_
  refine jj_aload_n (q := 50) dX9_offload_49 rfl rfl rfl ?_
  refine jj_aload_n (q := 51) dX9_offload_50 rfl rfl rfl ?_
  refine jj_getS (q := 54) dX9_offload_51 fl_X9_23 hm.t0 hm.r0_12 rfl rfl rfl ?_
  refine jj_sipush (v := 173) (q := 57) dX9_offload_54 rfl rfl ?_
  refine jj_iload_n (q := 58) dX9_offload_57 rfl rfl rfl ?_
  refine jj_iaddN (q := 59) (a := 173) (b := n) dX9_offload_58 rfl rfl rfl ?_
  refine jj_ialdN (q := 60) (j := 173 + n) dX9_offload_59 hm.t4 (blk_st (by decide)) rfl (by omega) rfl ?_
  refine jj_bipush (v := 10) (q := 62) dX9_offload_60 rfl rfl ?_
  refine jj_bipush (v := 10) (q := 64) dX9_offload_62 rfl rfl ?_
  refine jj_cV3i (q := 67) dX9_offload_64 yk_X9_bagsOf ml_X9_376 hm.t0 (ex_bagsOf hm hX' hc') rfl rfl rfl ⟨Nat.zero_le _, Nat.zero_le _⟩ ?_
  refine jj_iret dX9_offload_67 rfl (Nat.zero_le _) (Nat.zero_le _) ?_
  exact ⟨rfl, rfl⟩
theorem ex_mblock_no (hm : hMo T S mo) {b v : Int32} (hok : mOk A (inI b 0 (A 2 13 - 1)) = 0) : Ex Γ (d + 3) Y_X9_block [.ref mo, .int b, .int v] (T, R, S, blk 18 I mo (st A 4 X), L, D, z) 0 0 (rI (0) (T, R, S, blk 18 I mo (st (tA A (tI A (inI b 0 (A 2 13 - 1)))) 4 X), L, D, z)) := by
  refine Ex.of (by decide) (by simp [Value.category]) (Nat.le_of_ble_eq_true rfl) rfl ?_
  refine jj_aload_n (q := 1) dX9_block_0 rfl rfl rfl ?_
  refine jj_aload_n (q := 2) dX9_block_1 rfl rfl rfl ?_
  refine jj_iload_n (q := 3) dX9_block_2 rfl rfl rfl ?_
  refine jj_cV1i (q := 6) dX9_block_3 yk_X9_isLane ml_X9_370 hm.t0 (ex_isLane hm) rfl rfl rfl ⟨Nat.zero_le _, Nat.zero_le _⟩ ?_
  refine jj_cV1i (q := 9) dX9_block_6 yk_X9_mayAsk ml_X9_353 hm.t0 (ex_mayAsk hm) rfl rfl rfl ⟨Nat.zero_le _, Nat.zero_le _⟩ ?_
  refine jj_if_eq (q := 12) (tgt := 37) dX9_block_9 rfl rfl (fun h9 => ?_) (fun h9 => absurd (hok) h9)
  refine jj_iconst (v := 0) (q := 38) dX9_block_37 rfl rfl ?_
  refine jj_zret dX9_block_38 rfl (by first | rfl | assumption) (Nat.zero_le _) (Nat.zero_le _) ?_
  exact ⟨rfl, rfl⟩
theorem ex_mblock_ok (hm : hMo T S mo) {uu : Nat} (hu : A 0 18 = nI uu) (hu6 : uu ≤ 6) {n : Nat} (hn : n < 4) {v : Int32} (hok : ¬ mOk A (inI (nI n) 0 (A 2 13 - 1)) = 0) : Ex Γ (d + 3) Y_X9_block [.ref mo, .int (nI n), .int v] (T, R, S, blk 18 I mo (st A 4 X), L, D, z) 0 0 (rI (if X (25 + n) = 1 then 1 else 0) (T, R, S, blk 18 I mo (st (remA (tA A (tI A (inI (nI n) 0 (A 2 13 - 1)))) X uu) 4 (w1 X (25 + n) (if v = 0 then 0 else 1))), L, D, z)) := by
  refine Ex.of (by decide) (by simp [Value.category]) (Nat.le_of_ble_eq_true rfl) rfl ?_
  refine jj_aload_n (q := 1) dX9_block_0 rfl rfl rfl ?_
  refine jj_aload_n (q := 2) dX9_block_1 rfl rfl rfl ?_
  refine jj_iload_n (q := 3) dX9_block_2 rfl rfl rfl ?_
  refine jj_cV1i (q := 6) dX9_block_3 yk_X9_isLane ml_X9_370 hm.t0 (ex_isLane hm) rfl rfl rfl ⟨Nat.zero_le _, Nat.zero_le _⟩ ?_
  refine jj_cV1i (q := 9) dX9_block_6 yk_X9_mayAsk ml_X9_353 hm.t0 (ex_mayAsk hm) rfl rfl rfl ⟨Nat.zero_le _, Nat.zero_le _⟩ ?_
  refine jj_if_eq (q := 12) (tgt := 37) dX9_block_9 rfl rfl (fun h9 => absurd h9 (hok)) (fun h9 => ?_)
  refine jj_aload_n (q := 13) dX9_block_12 rfl rfl rfl ?_
  refine jj_bipush (v := 25) (q := 15) dX9_block_13 rfl rfl ?_
  refine jj_iload_n (q := 16) dX9_block_15 rfl rfl rfl ?_
  refine jj_iaddN (q := 17) (a := 25) (b := n) dX9_block_16 rfl rfl rfl ?_
  refine jj_iload_n (q := 18) dX9_block_17 rfl rfl rfl ?_
  refine jj_if_eq (q := 21) (tgt := 25) dX9_block_18 rfl rfl (fun h18 => ?_) (fun h18 => ?_)
  · refine jj_iconst (v := 0) (q := 26) dX9_block_25 rfl rfl ?_
    refine jj_cV2i (q := 29) dX9_block_26 yk_X9_sets ml_X9_440 hm.t0 (ex_sets (j := 25 + n) hm (show (tA A _) 0 18 = nI uu from hu) hu6 (by omega)) rfl rfl rfl ⟨Nat.zero_le _, Nat.zero_le _⟩ ?_
    refine jj_iconst (v := 1) (q := 30) dX9_block_29 rfl rfl ?_
    refine jj_icmp_ne (q := 33) (tgt := 37) dX9_block_30 rfl rfl (fun h30 => ?_) (fun h30 => ?_)
    · refine jj_iconst (v := 0) (q := 38) dX9_block_37 rfl rfl ?_
      refine jj_zret dX9_block_38 rfl (by first | rfl | assumption) (Nat.zero_le _) (Nat.zero_le _) ?_
      exact ⟨by (first | rw [if_pos h30] | rw [if_neg h30] | skip), by (first | rw [if_pos h18] | rw [if_neg h18] | skip)⟩
    · refine jj_iconst (v := 1) (q := 34) dX9_block_33 rfl rfl ?_
      refine jj_goto (tgt := 38) dX9_block_34 rfl ?_
      refine jj_zret dX9_block_38 rfl (by first | rfl | assumption) (Nat.zero_le _) (Nat.zero_le _) ?_
      exact ⟨by (first | rw [if_pos h30] | rw [if_neg h30] | skip), by (first | rw [if_pos h18] | rw [if_neg h18] | skip)⟩
  · refine jj_iconst (v := 1) (q := 22) dX9_block_21 rfl rfl ?_
    refine jj_goto (tgt := 26) dX9_block_22 rfl ?_
    refine jj_cV2i (q := 29) dX9_block_26 yk_X9_sets ml_X9_440 hm.t0 (ex_sets (j := 25 + n) hm (show (tA A _) 0 18 = nI uu from hu) hu6 (by omega)) rfl rfl rfl ⟨Nat.zero_le _, Nat.zero_le _⟩ ?_
    refine jj_iconst (v := 1) (q := 30) dX9_block_29 rfl rfl ?_
    refine jj_icmp_ne (q := 33) (tgt := 37) dX9_block_30 rfl rfl (fun h30 => ?_) (fun h30 => ?_)
    · refine jj_iconst (v := 0) (q := 38) dX9_block_37 rfl rfl ?_
      refine jj_zret dX9_block_38 rfl (by first | rfl | assumption) (Nat.zero_le _) (Nat.zero_le _) ?_
      exact ⟨by (first | rw [if_pos h30] | rw [if_neg h30] | skip), by (first | rw [if_pos h18] | rw [if_neg h18] | skip)⟩
    · refine jj_iconst (v := 1) (q := 34) dX9_block_33 rfl rfl ?_
      refine jj_goto (tgt := 38) dX9_block_34 rfl ?_
      refine jj_zret dX9_block_38 rfl (by first | rfl | assumption) (Nat.zero_le _) (Nat.zero_le _) ?_
      exact ⟨by (first | rw [if_pos h30] | rw [if_neg h30] | skip), by (first | rw [if_pos h18] | rw [if_neg h18] | skip)⟩
theorem ex_mbreak_no (hm : hMo T S mo) {lv m y : Int32} (hok : mOk A (mac A lv m) = 0) : Ex Γ (d + 3) Y_X9_breakMachine [.ref mo, .int lv, .int m, .int y] (T, R, S, blk 18 I mo (st A 4 X), L, D, z) 0 0 (rI (0) (T, R, S, blk 18 I mo (st (tA A (tI A (mac A lv m))) 4 X), L, D, z)) := by
  refine Ex.of (by decide) (by simp [Value.category]) (Nat.le_of_ble_eq_true rfl) rfl ?_
  refine jj_aload_n (q := 1) dX9_breakMachine_0 rfl rfl rfl ?_
  refine jj_aload_n (q := 2) dX9_breakMachine_1 rfl rfl rfl ?_
  refine jj_iload_n (q := 3) dX9_breakMachine_2 rfl rfl rfl ?_
  refine jj_iload_n (q := 4) dX9_breakMachine_3 rfl rfl rfl ?_
  refine jj_cV2i (q := 7) dX9_breakMachine_4 yk_X9_isMachine ml_X9_366 hm.t0 (ex_isMachine hm) rfl rfl rfl ⟨Nat.zero_le _, Nat.zero_le _⟩ ?_
  refine jj_cV1i (q := 10) dX9_breakMachine_7 yk_X9_mayAsk ml_X9_353 hm.t0 (ex_mayAsk hm) rfl rfl rfl ⟨Nat.zero_le _, Nat.zero_le _⟩ ?_
  refine jj_if_ne (q := 13) (tgt := 15) dX9_breakMachine_10 rfl rfl (fun h10 => by exfalso; exact h10 hok) (fun h10 => ?_)
  refine jj_iconst (v := 0) (q := 14) dX9_breakMachine_13 rfl rfl ?_
  refine jj_zret dX9_breakMachine_14 rfl (by first | rfl | assumption) (Nat.zero_le _) (Nat.zero_le _) ?_
  exact ⟨rfl, rfl⟩
theorem ex_mbreak_bad (hm : hMo T S mo) {lv m y : Int32} (hok : ¬ mOk A (mac A lv m) = 0) (hb : inI y 1 999 = 0) : Ex Γ (d + 3) Y_X9_breakMachine [.ref mo, .int lv, .int m, .int y] (T, R, S, blk 18 I mo (st A 4 X), L, D, z) 0 0 (rI (0) (T, R, S, blk 18 I mo (st (tA A 3) 4 X), L, D, z)) := by
  refine Ex.of (by decide) (by simp [Value.category]) (Nat.le_of_ble_eq_true rfl) rfl ?_
  refine jj_aload_n (q := 1) dX9_breakMachine_0 rfl rfl rfl ?_
  refine jj_aload_n (q := 2) dX9_breakMachine_1 rfl rfl rfl ?_
  refine jj_iload_n (q := 3) dX9_breakMachine_2 rfl rfl rfl ?_
  refine jj_iload_n (q := 4) dX9_breakMachine_3 rfl rfl rfl ?_
  refine jj_cV2i (q := 7) dX9_breakMachine_4 yk_X9_isMachine ml_X9_366 hm.t0 (ex_isMachine hm) rfl rfl rfl ⟨Nat.zero_le _, Nat.zero_le _⟩ ?_
  refine jj_cV1i (q := 10) dX9_breakMachine_7 yk_X9_mayAsk ml_X9_353 hm.t0 (ex_mayAsk hm) rfl rfl rfl ⟨Nat.zero_le _, Nat.zero_le _⟩ ?_
  refine jj_if_ne (q := 13) (tgt := 15) dX9_breakMachine_10 rfl rfl (fun h10 => ?_) (fun h10 => by exfalso; exact hok h10)
  refine jj_iload_n (q := 16) dX9_breakMachine_15 rfl rfl rfl ?_
  refine jj_iconst (v := 1) (q := 17) dX9_breakMachine_16 rfl rfl ?_
  refine jj_sipush (v := 999) (q := 20) dX9_breakMachine_17 rfl rfl ?_
  refine jj_cS3i (q := 23) dX9_breakMachine_20 yk_X9_in ml_X9_111 ex_inI rfl rfl rfl ⟨Nat.zero_le _, Nat.zero_le _⟩ ?_
  refine jj_if_ne (q := 26) (tgt := 40) dX9_breakMachine_23 rfl rfl (fun h23 => by exfalso; exact h23 hb) (fun h23 => ?_)
  refine jj_aload_n (q := 27) dX9_breakMachine_26 rfl rfl rfl ?_
  refine jj_iconst (v := 3) (q := 28) dX9_breakMachine_27 rfl rfl ?_
  refine jj_cV1i (q := 31) dX9_breakMachine_28 yk_X9_throwsAt ml_X9_240 hm.t0 (ex_throwsAt hm) rfl rfl rfl ⟨Nat.zero_le _, Nat.zero_le _⟩ ?_
  refine jj_if_le (q := 34) (tgt := 38) dX9_breakMachine_31 rfl rfl (fun h31 => ?_) (fun h31 => absurd (by decide) h31)
  refine jj_iconst (v := 0) (q := 39) dX9_breakMachine_38 rfl rfl ?_
  refine jj_zret dX9_breakMachine_39 rfl (by first | rfl | assumption) (Nat.zero_le _) (Nat.zero_le _) ?_
  exact ⟨rfl, by rw [tA_tA]⟩
def mUn (X : JV) (j : Nat) (y : Int32) : Int32 := if X j < X 0 + y then X 0 + y else X j
theorem ex_mbreak_ok (hm : hMo T S mo) {uu : Nat} (hu : A 0 18 = nI uu) (hu6 : uu ≤ 6) {q n : Nat} (hq : q < 3) (hn : n < 4) {y : Int32} (hok : ¬ mOk A (mac A (nI (q + 1)) (nI n)) = 0) (hb : ¬ inI y 1 999 = 0) : Ex Γ (d + 3) Y_X9_breakMachine [.ref mo, .int (nI (q + 1)), .int (nI n), .int y] (T, R, S, blk 18 I mo (st A 4 X), L, D, z) 0 0 (rI (if mUn X (2073 + 4 * q + n) y ≤ X (2073 + 4 * q + n) then 0 else 1) (T, R, S, blk 18 I mo (st (remA (tA A (tI A (mac A (nI (q + 1)) (nI n)))) X uu) 4 (w1 X (2073 + 4 * q + n) (mUn X (2073 + 4 * q + n) y))), L, D, z)) := by
  refine Ex.of (by decide) (by simp [Value.category]) (Nat.le_of_ble_eq_true rfl) rfl ?_
  refine jj_aload_n (q := 1) dX9_breakMachine_0 rfl rfl rfl ?_
  refine jj_aload_n (q := 2) dX9_breakMachine_1 rfl rfl rfl ?_
  refine jj_iload_n (q := 3) dX9_breakMachine_2 rfl rfl rfl ?_
  refine jj_iload_n (q := 4) dX9_breakMachine_3 rfl rfl rfl ?_
  refine jj_cV2i (q := 7) dX9_breakMachine_4 yk_X9_isMachine ml_X9_366 hm.t0 (ex_isMachine hm) rfl rfl rfl ⟨Nat.zero_le _, Nat.zero_le _⟩ ?_
  refine jj_cV1i (q := 10) dX9_breakMachine_7 yk_X9_mayAsk ml_X9_353 hm.t0 (ex_mayAsk hm) rfl rfl rfl ⟨Nat.zero_le _, Nat.zero_le _⟩ ?_
  refine jj_if_ne (q := 13) (tgt := 15) dX9_breakMachine_10 rfl rfl (fun h10 => ?_) (fun h10 => by exfalso; exact hok h10)
  refine jj_iload_n (q := 16) dX9_breakMachine_15 rfl rfl rfl ?_
  refine jj_iconst (v := 1) (q := 17) dX9_breakMachine_16 rfl rfl ?_
  refine jj_sipush (v := 999) (q := 20) dX9_breakMachine_17 rfl rfl ?_
  refine jj_cS3i (q := 23) dX9_breakMachine_20 yk_X9_in ml_X9_111 ex_inI rfl rfl rfl ⟨Nat.zero_le _, Nat.zero_le _⟩ ?_
  refine jj_if_ne (q := 26) (tgt := 40) dX9_breakMachine_23 rfl rfl (fun h23 => ?_) (fun h23 => by exfalso; exact hb h23)
  refine jj_sipush (v := 2073) (q := 43) dX9_breakMachine_40 rfl rfl ?_
  refine jj_iconst (v := 4) (q := 44) dX9_breakMachine_43 rfl rfl ?_
  refine jj_iload_n (q := 45) dX9_breakMachine_44 rfl rfl rfl ?_
  refine jj_iconst (v := 1) (q := 46) dX9_breakMachine_45 rfl rfl ?_
  refine jj_isubN (q := 47) (e := q) (a := q + 1) (b := 1) dX9_breakMachine_46 rfl rfl rfl rfl ?_
  refine jj_imulN (q := 48) (a := 4) (b := q) dX9_breakMachine_47 rfl rfl rfl ?_
  refine jj_iaddN (q := 49) (a := 2073) (b := 4 * q) dX9_breakMachine_48 rfl rfl rfl ?_
  refine jj_iload_n (q := 50) dX9_breakMachine_49 rfl rfl rfl ?_
  refine jj_iaddN (q := 51) (a := 2073 + (4 * q)) (b := n) dX9_breakMachine_50 rfl rfl rfl ?_
  refine jj_istore (q := 53) dX9_breakMachine_51 (by decide) rfl ?_
  refine jj_aload_n (q := 54) dX9_breakMachine_53 rfl rfl rfl ?_
  refine jj_getS (q := 57) dX9_breakMachine_54 fl_X9_23 hm.t0 hm.r0_12 rfl rfl rfl ?_
  refine jj_iload (q := 59) dX9_breakMachine_57 rfl rfl ?_
  refine jj_ialdN (q := 60) (j := (2073 + (4 * q)) + n) dX9_breakMachine_59 hm.t4 (blk_st (by decide)) rfl (by omega) rfl ?_
  refine jj_aload_n (q := 61) dX9_breakMachine_60 rfl rfl rfl ?_
  refine jj_getS (q := 64) dX9_breakMachine_61 fl_X9_23 hm.t0 hm.r0_12 rfl rfl rfl ?_
  refine jj_iconst (v := 0) (q := 65) dX9_breakMachine_64 rfl rfl ?_
  refine jj_ialdN (q := 66) (j := 0) dX9_breakMachine_65 hm.t4 (blk_st (by decide)) rfl (by omega) rfl ?_
  refine jj_iload_n (q := 67) dX9_breakMachine_66 rfl rfl rfl ?_
  refine jj_iadd (q := 68) dX9_breakMachine_67 rfl ?_
  refine jj_mmax (q := 71) dX9_breakMachine_68 km_X9_271 rfl rfl ⟨Nat.zero_le _, Nat.zero_le _⟩ ?_
  refine jj_istore (q := 73) dX9_breakMachine_71 (by decide) rfl ?_
  refine jj_aload_n (q := 74) dX9_breakMachine_73 rfl rfl rfl ?_
  refine jj_iload (q := 76) dX9_breakMachine_74 rfl rfl ?_
  refine jj_iload (q := 78) dX9_breakMachine_76 rfl rfl ?_
  refine jj_cV2i (q := 81) dX9_breakMachine_78 yk_X9_sets ml_X9_440 hm.t0 (ex_sets (j := (2073 + (4 * q)) + n) hm (show (tA A _) 0 18 = nI uu from hu) hu6 (by omega)) rfl rfl rfl ⟨Nat.zero_le _, Nat.zero_le _⟩ ?_
  refine jj_iload (q := 83) dX9_breakMachine_81 rfl rfl ?_
  refine jj_icmp_ge (q := 86) (tgt := 90) dX9_breakMachine_83 rfl rfl (fun h83 => ?_) (fun h83 => ?_)
  · refine jj_iconst (v := 0) (q := 91) dX9_breakMachine_90 rfl rfl ?_
    refine jj_zret dX9_breakMachine_91 rfl (by first | rfl | assumption) (Nat.zero_le _) (Nat.zero_le _) ?_
    exact ⟨by unfold mUn; (first | rw [if_pos h83] | rw [if_neg h83] | skip), rfl⟩
  · refine jj_iconst (v := 1) (q := 87) dX9_breakMachine_86 rfl rfl ?_
    refine jj_goto (tgt := 91) dX9_breakMachine_87 rfl ?_
    refine jj_zret dX9_breakMachine_91 rfl (by first | rfl | assumption) (Nat.zero_le _) (Nat.zero_le _) ?_
    exact ⟨by unfold mUn; (first | rw [if_pos h83] | rw [if_neg h83] | skip), rfl⟩
theorem ex_mreroute_no (hm : hMo T S mo) {b f : Int32} (hok : mOk A (aR A X b f) = 0) : Ex Γ (d + 3) Y_X9_reroute [.ref mo, .int b, .int f] (T, R, S, blk 18 I mo (st A 4 X), L, D, z) 0 0 (rI (0) (T, R, S, blk 18 I mo (st (tA A (tI A (aR A X b f))) 4 X), L, D, z)) := by
  unfold aR at hok ⊢
  refine Ex.of (by decide) (by simp [Value.category]) (Nat.le_of_ble_eq_true rfl) rfl ?_
  refine jj_aload_n (q := 1) dX9_reroute_0 rfl rfl rfl ?_
  refine jj_aload_n (q := 2) dX9_reroute_1 rfl rfl rfl ?_
  refine jj_iload_n (q := 3) dX9_reroute_2 rfl rfl rfl ?_
  refine jj_cV1i (q := 6) dX9_reroute_3 yk_X9_isBag ml_X9_350 hm.t0 (ex_isBag hm) rfl rfl rfl ⟨Nat.zero_le _, Nat.zero_le _⟩ ?_
  refine jj_if_eq (q := 9) (tgt := 21) dX9_reroute_6 rfl rfl (fun h6 => ?_) (fun h6 => ?_)
  · (first | rw [if_pos h6] at hok ⊢ | (rw [if_neg h6] at hok ⊢; rw [if_pos h14] at hok ⊢))
    refine jj_iconst (v := 0) (q := 22) dX9_reroute_21 rfl rfl ?_
    refine jj_cV1i (q := 25) dX9_reroute_22 yk_X9_mayAsk ml_X9_353 hm.t0 (ex_mayAsk hm) rfl rfl rfl ⟨Nat.zero_le _, Nat.zero_le _⟩ ?_
    refine jj_if_ne (q := 28) (tgt := 30) dX9_reroute_25 rfl rfl (fun h25 => by exfalso; exact h25 hok) (fun h25 => ?_)
    refine jj_iconst (v := 0) (q := 29) dX9_reroute_28 rfl rfl ?_
    refine jj_iret dX9_reroute_29 rfl (Nat.zero_le _) (Nat.zero_le _) ?_
    exact ⟨rfl, rfl⟩
  · refine jj_aload_n (q := 10) dX9_reroute_9 rfl rfl rfl ?_
    refine jj_iload_n (q := 11) dX9_reroute_10 rfl rfl rfl ?_
    refine jj_cV1i (q := 14) dX9_reroute_11 yk_X9_isFlight ml_X9_373 hm.t0 (ex_isFlight hm) rfl rfl rfl ⟨Nat.zero_le _, Nat.zero_le _⟩ ?_
    refine jj_if_eq (q := 17) (tgt := 21) dX9_reroute_14 rfl rfl (fun h14 => ?_) (fun h14 => ?_)
    · (first | rw [if_pos h6] at hok ⊢ | (rw [if_neg h6] at hok ⊢; rw [if_pos h14] at hok ⊢))
      refine jj_iconst (v := 0) (q := 22) dX9_reroute_21 rfl rfl ?_
      refine jj_cV1i (q := 25) dX9_reroute_22 yk_X9_mayAsk ml_X9_353 hm.t0 (ex_mayAsk hm) rfl rfl rfl ⟨Nat.zero_le _, Nat.zero_le _⟩ ?_
      refine jj_if_ne (q := 28) (tgt := 30) dX9_reroute_25 rfl rfl (fun h25 => by exfalso; exact h25 hok) (fun h25 => ?_)
      refine jj_iconst (v := 0) (q := 29) dX9_reroute_28 rfl rfl ?_
      refine jj_iret dX9_reroute_29 rfl (Nat.zero_le _) (Nat.zero_le _) ?_
      exact ⟨rfl, rfl⟩
    · rw [if_neg h6] at hok ⊢
      rw [if_neg h14] at hok ⊢
      refine jj_iconst (v := 1) (q := 18) dX9_reroute_17 rfl rfl ?_
      refine jj_goto (tgt := 22) dX9_reroute_18 rfl ?_
      refine jj_cV1i (q := 25) dX9_reroute_22 yk_X9_mayAsk ml_X9_353 hm.t0 (ex_mayAsk hm) rfl rfl rfl ⟨Nat.zero_le _, Nat.zero_le _⟩ ?_
      refine jj_if_ne (q := 28) (tgt := 30) dX9_reroute_25 rfl rfl (fun h25 => by exfalso; exact h25 hok) (fun h25 => ?_)
      refine jj_iconst (v := 0) (q := 29) dX9_reroute_28 rfl rfl ?_
      refine jj_iret dX9_reroute_29 rfl (Nat.zero_le _) (Nat.zero_le _) ?_
      exact ⟨rfl, rfl⟩
theorem ex_mreroute_bad (hm : hMo T S mo) (hX : mI X) {n : Nat} (hn : n < 100) {f : Int32} (hb : ¬ inI (nI n) 0 (X 2 - 1) = 0) (hf : ¬ inI f 0 (A 2 12 - 1) = 0) (hok : ¬ mOk A 1 = 0) (hs : ¬ X (373 + n) < 10) : Ex Γ (d + 3) Y_X9_reroute [.ref mo, .int (nI n), .int f] (T, R, S, blk 18 I mo (st A 4 X), L, D, z) 0 0 (rI (0) (T, R, S, blk 18 I mo (st (tA A 3) 4 X), L, D, z)) := by
  refine Ex.of (by decide) (by simp [Value.category]) (Nat.le_of_ble_eq_true rfl) rfl ?_
  refine jj_aload_n (q := 1) dX9_reroute_0 rfl rfl rfl ?_
  refine jj_aload_n (q := 2) dX9_reroute_1 rfl rfl rfl ?_
  refine jj_iload_n (q := 3) dX9_reroute_2 rfl rfl rfl ?_
  refine jj_cV1i (q := 6) dX9_reroute_3 yk_X9_isBag ml_X9_350 hm.t0 (ex_isBag hm) rfl rfl rfl ⟨Nat.zero_le _, Nat.zero_le _⟩ ?_
  refine jj_if_eq (q := 9) (tgt := 21) dX9_reroute_6 rfl rfl (fun h6 => absurd h6 (hb)) (fun h6 => ?_)
  refine jj_aload_n (q := 10) dX9_reroute_9 rfl rfl rfl ?_
  refine jj_iload_n (q := 11) dX9_reroute_10 rfl rfl rfl ?_
  refine jj_cV1i (q := 14) dX9_reroute_11 yk_X9_isFlight ml_X9_373 hm.t0 (ex_isFlight hm) rfl rfl rfl ⟨Nat.zero_le _, Nat.zero_le _⟩ ?_
  refine jj_if_eq (q := 17) (tgt := 21) dX9_reroute_14 rfl rfl (fun h14 => absurd h14 (hf)) (fun h14 => ?_)
  refine jj_iconst (v := 1) (q := 18) dX9_reroute_17 rfl rfl ?_
  refine jj_goto (tgt := 22) dX9_reroute_18 rfl ?_
  refine jj_cV1i (q := 25) dX9_reroute_22 yk_X9_mayAsk ml_X9_353 hm.t0 (ex_mayAsk hm) rfl rfl rfl ⟨Nat.zero_le _, Nat.zero_le _⟩ ?_
  refine jj_if_ne (q := 28) (tgt := 30) dX9_reroute_25 rfl rfl (fun h25 => ?_) (fun h25 => by exfalso; exact hok h25)
  refine jj_aload_n (q := 31) dX9_reroute_30 rfl rfl rfl ?_
  refine jj_getS (q := 34) dX9_reroute_31 fl_X9_23 hm.t0 hm.r0_12 rfl rfl rfl ?_
  refine jj_sipush (v := 373) (q := 37) dX9_reroute_34 rfl rfl ?_
  refine jj_iload_n (q := 38) dX9_reroute_37 rfl rfl rfl ?_
  refine jj_iaddN (q := 39) (a := 373) (b := n) dX9_reroute_38 rfl rfl rfl ?_
  refine jj_ialdN (q := 40) (j := 373 + n) dX9_reroute_39 hm.t4 (blk_st (by decide)) rfl (by omega) rfl ?_
  refine jj_bipush (v := 10) (q := 42) dX9_reroute_40 rfl rfl ?_
  refine jj_icmp_ge (q := 45) (tgt := 58) dX9_reroute_42 rfl rfl (fun h42 => ?_) (fun h42 => absurd (Int32.not_lt.mp hs) h42)
  refine jj_aload_n (q := 59) dX9_reroute_58 rfl rfl rfl ?_
  refine jj_iconst (v := 3) (q := 60) dX9_reroute_59 rfl rfl ?_
  refine jj_cV1i (q := 63) dX9_reroute_60 yk_X9_throwsAt ml_X9_240 hm.t0 (ex_throwsAt hm) rfl rfl rfl ⟨Nat.zero_le _, Nat.zero_le _⟩ ?_
  refine jj_iret dX9_reroute_63 rfl (Nat.zero_le _) (Nat.zero_le _) ?_
  exact ⟨rfl, by rw [tA_tA]⟩
theorem ex_mreroute_ok (hm : hMo T S mo) {uu : Nat} (hu : A 0 18 = nI uu) (hu6 : uu ≤ 6) (hX : mI X) {n : Nat} (hn : n < 100) {f : Int32} (hb : ¬ inI (nI n) 0 (X 2 - 1) = 0) (hf : ¬ inI f 0 (A 2 12 - 1) = 0) (hok : ¬ mOk A 1 = 0) (hs : X (373 + n) < 10) : Ex Γ (d + 3) Y_X9_reroute [.ref mo, .int (nI n), .int f] (T, R, S, blk 18 I mo (st A 4 X), L, D, z) 0 0 (rI (X (173 + n)) (T, R, S, blk 18 I mo (st (remA (tA A (tI A 1)) X uu) 4 (w1 X (173 + n) f)), L, D, z)) := by
  refine Ex.of (by decide) (by simp [Value.category]) (Nat.le_of_ble_eq_true rfl) rfl ?_
  refine jj_aload_n (q := 1) dX9_reroute_0 rfl rfl rfl ?_
  refine jj_aload_n (q := 2) dX9_reroute_1 rfl rfl rfl ?_
  refine jj_iload_n (q := 3) dX9_reroute_2 rfl rfl rfl ?_
  refine jj_cV1i (q := 6) dX9_reroute_3 yk_X9_isBag ml_X9_350 hm.t0 (ex_isBag hm) rfl rfl rfl ⟨Nat.zero_le _, Nat.zero_le _⟩ ?_
  refine jj_if_eq (q := 9) (tgt := 21) dX9_reroute_6 rfl rfl (fun h6 => absurd h6 (hb)) (fun h6 => ?_)
  refine jj_aload_n (q := 10) dX9_reroute_9 rfl rfl rfl ?_
  refine jj_iload_n (q := 11) dX9_reroute_10 rfl rfl rfl ?_
  refine jj_cV1i (q := 14) dX9_reroute_11 yk_X9_isFlight ml_X9_373 hm.t0 (ex_isFlight hm) rfl rfl rfl ⟨Nat.zero_le _, Nat.zero_le _⟩ ?_
  refine jj_if_eq (q := 17) (tgt := 21) dX9_reroute_14 rfl rfl (fun h14 => absurd h14 (hf)) (fun h14 => ?_)
  refine jj_iconst (v := 1) (q := 18) dX9_reroute_17 rfl rfl ?_
  refine jj_goto (tgt := 22) dX9_reroute_18 rfl ?_
  refine jj_cV1i (q := 25) dX9_reroute_22 yk_X9_mayAsk ml_X9_353 hm.t0 (ex_mayAsk hm) rfl rfl rfl ⟨Nat.zero_le _, Nat.zero_le _⟩ ?_
  refine jj_if_ne (q := 28) (tgt := 30) dX9_reroute_25 rfl rfl (fun h25 => ?_) (fun h25 => by exfalso; exact hok h25)
  refine jj_aload_n (q := 31) dX9_reroute_30 rfl rfl rfl ?_
  refine jj_getS (q := 34) dX9_reroute_31 fl_X9_23 hm.t0 hm.r0_12 rfl rfl rfl ?_
  refine jj_sipush (v := 373) (q := 37) dX9_reroute_34 rfl rfl ?_
  refine jj_iload_n (q := 38) dX9_reroute_37 rfl rfl rfl ?_
  refine jj_iaddN (q := 39) (a := 373) (b := n) dX9_reroute_38 rfl rfl rfl ?_
  refine jj_ialdN (q := 40) (j := 373 + n) dX9_reroute_39 hm.t4 (blk_st (by decide)) rfl (by omega) rfl ?_
  refine jj_bipush (v := 10) (q := 42) dX9_reroute_40 rfl rfl ?_
  refine jj_icmp_ge (q := 45) (tgt := 58) dX9_reroute_42 rfl rfl (fun h42 => absurd h42 ((Int32.not_le.mpr hs))) (fun h42 => ?_)
  refine jj_aload_n (q := 46) dX9_reroute_45 rfl rfl rfl ?_
  refine jj_sipush (v := 173) (q := 49) dX9_reroute_46 rfl rfl ?_
  refine jj_iload_n (q := 50) dX9_reroute_49 rfl rfl rfl ?_
  refine jj_iaddN (q := 51) (a := 173) (b := n) dX9_reroute_50 rfl rfl rfl ?_
  refine jj_iload_n (q := 52) dX9_reroute_51 rfl rfl rfl ?_
  refine jj_cV2i (q := 55) dX9_reroute_52 yk_X9_sets ml_X9_440 hm.t0 (ex_sets (j := 173 + n) hm (show (tA A _) 0 18 = nI uu from hu) hu6 (by omega)) rfl rfl rfl ⟨Nat.zero_le _, Nat.zero_le _⟩ ?_
  refine jj_goto (tgt := 63) dX9_reroute_55 rfl ?_
  refine jj_iret dX9_reroute_63 rfl (Nat.zero_le _) (Nat.zero_le _) ?_
  exact ⟨rfl, rfl⟩
theorem ex_maddBags_no (hm : hMo T S mo) {y k b : Int32} (hok : mOk A (inI b 0 (A 2 12 - 1)) = 0) : Ex Γ (d + 3) Y_X9_addBags [.ref mo, .int y, .int k, .int b] (T, R, S, blk 18 I mo (st A 4 X), L, D, z) 0 0 (rI (0) (T, R, S, blk 18 I mo (st (tA A (tI A (inI b 0 (A 2 12 - 1)))) 4 X), L, D, z)) := by
  refine Ex.of (by decide) (by simp [Value.category]) (Nat.le_of_ble_eq_true rfl) rfl ?_
  refine jj_aload_n (q := 1) dX9_addBags_0 rfl rfl rfl ?_
  refine jj_aload_n (q := 2) dX9_addBags_1 rfl rfl rfl ?_
  refine jj_iload_n (q := 3) dX9_addBags_2 rfl rfl rfl ?_
  refine jj_cV1i (q := 6) dX9_addBags_3 yk_X9_isFlight ml_X9_373 hm.t0 (ex_isFlight hm) rfl rfl rfl ⟨Nat.zero_le _, Nat.zero_le _⟩ ?_
  refine jj_cV1i (q := 9) dX9_addBags_6 yk_X9_mayAsk ml_X9_353 hm.t0 (ex_mayAsk hm) rfl rfl rfl ⟨Nat.zero_le _, Nat.zero_le _⟩ ?_
  refine jj_if_ne (q := 12) (tgt := 14) dX9_addBags_9 rfl rfl (fun h9 => by exfalso; exact h9 hok) (fun h9 => ?_)
  refine jj_iconst (v := 0) (q := 13) dX9_addBags_12 rfl rfl ?_
  refine jj_iret dX9_addBags_13 rfl (Nat.zero_le _) (Nat.zero_le _) ?_
  exact ⟨rfl, rfl⟩
theorem ex_maddBags_b1 (hm : hMo T S mo) {y k b : Int32} (hok : ¬ mOk A (inI b 0 (A 2 12 - 1)) = 0) (hb : inI y 1 999 = 0) : Ex Γ (d + 3) Y_X9_addBags [.ref mo, .int y, .int k, .int b] (T, R, S, blk 18 I mo (st A 4 X), L, D, z) 0 0 (rI (0) (T, R, S, blk 18 I mo (st (tA A 3) 4 X), L, D, z)) := by
  refine Ex.of (by decide) (by simp [Value.category]) (Nat.le_of_ble_eq_true rfl) rfl ?_
  refine jj_aload_n (q := 1) dX9_addBags_0 rfl rfl rfl ?_
  refine jj_aload_n (q := 2) dX9_addBags_1 rfl rfl rfl ?_
  refine jj_iload_n (q := 3) dX9_addBags_2 rfl rfl rfl ?_
  refine jj_cV1i (q := 6) dX9_addBags_3 yk_X9_isFlight ml_X9_373 hm.t0 (ex_isFlight hm) rfl rfl rfl ⟨Nat.zero_le _, Nat.zero_le _⟩ ?_
  refine jj_cV1i (q := 9) dX9_addBags_6 yk_X9_mayAsk ml_X9_353 hm.t0 (ex_mayAsk hm) rfl rfl rfl ⟨Nat.zero_le _, Nat.zero_le _⟩ ?_
  refine jj_if_ne (q := 12) (tgt := 14) dX9_addBags_9 rfl rfl (fun h9 => ?_) (fun h9 => by exfalso; exact hok h9)
  refine jj_iload_n (q := 15) dX9_addBags_14 rfl rfl rfl ?_
  refine jj_iconst (v := 1) (q := 16) dX9_addBags_15 rfl rfl ?_
  refine jj_sipush (v := 999) (q := 19) dX9_addBags_16 rfl rfl ?_
  refine jj_cS3i (q := 22) dX9_addBags_19 yk_X9_in ml_X9_111 ex_inI rfl rfl rfl ⟨Nat.zero_le _, Nat.zero_le _⟩ ?_
  refine jj_if_eq (q := 25) (tgt := 42) dX9_addBags_22 rfl rfl (fun h22 => ?_) (fun h22 => absurd (hb) h22)
  refine jj_aload_n (q := 43) dX9_addBags_42 rfl rfl rfl ?_
  refine jj_iconst (v := 3) (q := 44) dX9_addBags_43 rfl rfl ?_
  refine jj_cV1i (q := 47) dX9_addBags_44 yk_X9_throwsAt ml_X9_240 hm.t0 (ex_throwsAt hm) rfl rfl rfl ⟨Nat.zero_le _, Nat.zero_le _⟩ ?_
  refine jj_iret dX9_addBags_47 rfl (Nat.zero_le _) (Nat.zero_le _) ?_
  exact ⟨rfl, by rw [tA_tA]⟩
theorem ex_maddBags_b2 (hm : hMo T S mo) {y k b : Int32} (hok : ¬ mOk A (inI b 0 (A 2 12 - 1)) = 0) (hb : ¬ inI y 1 999 = 0) (hk : inI k 1 (100 - X 2) = 0) : Ex Γ (d + 3) Y_X9_addBags [.ref mo, .int y, .int k, .int b] (T, R, S, blk 18 I mo (st A 4 X), L, D, z) 0 0 (rI (0) (T, R, S, blk 18 I mo (st (tA A 3) 4 X), L, D, z)) := by
  refine Ex.of (by decide) (by simp [Value.category]) (Nat.le_of_ble_eq_true rfl) rfl ?_
  refine jj_aload_n (q := 1) dX9_addBags_0 rfl rfl rfl ?_
  refine jj_aload_n (q := 2) dX9_addBags_1 rfl rfl rfl ?_
  refine jj_iload_n (q := 3) dX9_addBags_2 rfl rfl rfl ?_
  refine jj_cV1i (q := 6) dX9_addBags_3 yk_X9_isFlight ml_X9_373 hm.t0 (ex_isFlight hm) rfl rfl rfl ⟨Nat.zero_le _, Nat.zero_le _⟩ ?_
  refine jj_cV1i (q := 9) dX9_addBags_6 yk_X9_mayAsk ml_X9_353 hm.t0 (ex_mayAsk hm) rfl rfl rfl ⟨Nat.zero_le _, Nat.zero_le _⟩ ?_
  refine jj_if_ne (q := 12) (tgt := 14) dX9_addBags_9 rfl rfl (fun h9 => ?_) (fun h9 => by exfalso; exact hok h9)
  refine jj_iload_n (q := 15) dX9_addBags_14 rfl rfl rfl ?_
  refine jj_iconst (v := 1) (q := 16) dX9_addBags_15 rfl rfl ?_
  refine jj_sipush (v := 999) (q := 19) dX9_addBags_16 rfl rfl ?_
  refine jj_cS3i (q := 22) dX9_addBags_19 yk_X9_in ml_X9_111 ex_inI rfl rfl rfl ⟨Nat.zero_le _, Nat.zero_le _⟩ ?_
  refine jj_if_eq (q := 25) (tgt := 42) dX9_addBags_22 rfl rfl (fun h22 => absurd h22 (hb)) (fun h22 => ?_)
  refine jj_iload_n (q := 26) dX9_addBags_25 rfl rfl rfl ?_
  refine jj_iconst (v := 1) (q := 27) dX9_addBags_26 rfl rfl ?_
  refine jj_bipush (v := 100) (q := 29) dX9_addBags_27 rfl rfl ?_
  refine jj_aload_n (q := 30) dX9_addBags_29 rfl rfl rfl ?_
  refine jj_getS (q := 33) dX9_addBags_30 fl_X9_23 hm.t0 hm.r0_12 rfl rfl rfl ?_
  refine jj_iconst (v := 2) (q := 34) dX9_addBags_33 rfl rfl ?_
  refine jj_ialdN (q := 35) (j := 2) dX9_addBags_34 hm.t4 (blk_st (by decide)) rfl (by omega) rfl ?_
  refine jj_isub (q := 36) dX9_addBags_35 rfl ?_
  refine jj_cS3i (q := 39) dX9_addBags_36 yk_X9_in ml_X9_111 ex_inI rfl rfl rfl ⟨Nat.zero_le _, Nat.zero_le _⟩ ?_
  refine jj_if_ne (q := 42) (tgt := 48) dX9_addBags_39 rfl rfl (fun h39 => by exfalso; exact h39 hk) (fun h39 => ?_)
  refine jj_aload_n (q := 43) dX9_addBags_42 rfl rfl rfl ?_
  refine jj_iconst (v := 3) (q := 44) dX9_addBags_43 rfl rfl ?_
  refine jj_cV1i (q := 47) dX9_addBags_44 yk_X9_throwsAt ml_X9_240 hm.t0 (ex_throwsAt hm) rfl rfl rfl ⟨Nat.zero_le _, Nat.zero_le _⟩ ?_
  refine jj_iret dX9_addBags_47 rfl (Nat.zero_le _) (Nat.zero_le _) ?_
  exact ⟨rfl, by rw [tA_tA]⟩
theorem ex_maddBags_ok (hm : hMo T S mo) {uu : Nat} (hu : A 0 18 = nI uu) (hu6 : uu ≤ 6) {y b : Int32} {c N : Nat} (hok : ¬ mOk A (inI b 0 (A 2 12 - 1)) = 0) (hb : ¬ inI y 1 999 = 0) (hk : ¬ inI (nI N) 1 (100 - X 2) = 0) (hc : X 2 = nI c) (hN : c + N ≤ 100) : Ex Γ (d + 3) Y_X9_addBags [.ref mo, .int y, .int (nI N), .int b] (T, R, S, blk 18 I mo (st A 4 X), L, D, z) 0 0 (rI (X 2) (T, R, S, blk 18 I mo (st (remA (tA A (tI A (inI b 0 (A 2 12 - 1)))) X uu) 4 (mAd (X 0 + y) b N c X)), L, D, z)) := by
  refine Ex.of (by decide) (by simp [Value.category]) (Nat.le_of_ble_eq_true rfl) rfl ?_
  refine jj_aload_n (q := 1) dX9_addBags_0 rfl rfl rfl ?_
  refine jj_aload_n (q := 2) dX9_addBags_1 rfl rfl rfl ?_
  refine jj_iload_n (q := 3) dX9_addBags_2 rfl rfl rfl ?_
  refine jj_cV1i (q := 6) dX9_addBags_3 yk_X9_isFlight ml_X9_373 hm.t0 (ex_isFlight hm) rfl rfl rfl ⟨Nat.zero_le _, Nat.zero_le _⟩ ?_
  refine jj_cV1i (q := 9) dX9_addBags_6 yk_X9_mayAsk ml_X9_353 hm.t0 (ex_mayAsk hm) rfl rfl rfl ⟨Nat.zero_le _, Nat.zero_le _⟩ ?_
  refine jj_if_ne (q := 12) (tgt := 14) dX9_addBags_9 rfl rfl (fun h9 => ?_) (fun h9 => by exfalso; exact hok h9)
  refine jj_iload_n (q := 15) dX9_addBags_14 rfl rfl rfl ?_
  refine jj_iconst (v := 1) (q := 16) dX9_addBags_15 rfl rfl ?_
  refine jj_sipush (v := 999) (q := 19) dX9_addBags_16 rfl rfl ?_
  refine jj_cS3i (q := 22) dX9_addBags_19 yk_X9_in ml_X9_111 ex_inI rfl rfl rfl ⟨Nat.zero_le _, Nat.zero_le _⟩ ?_
  refine jj_if_eq (q := 25) (tgt := 42) dX9_addBags_22 rfl rfl (fun h22 => absurd h22 (hb)) (fun h22 => ?_)
  refine jj_iload_n (q := 26) dX9_addBags_25 rfl rfl rfl ?_
  refine jj_iconst (v := 1) (q := 27) dX9_addBags_26 rfl rfl ?_
  refine jj_bipush (v := 100) (q := 29) dX9_addBags_27 rfl rfl ?_
  refine jj_aload_n (q := 30) dX9_addBags_29 rfl rfl rfl ?_
  refine jj_getS (q := 33) dX9_addBags_30 fl_X9_23 hm.t0 hm.r0_12 rfl rfl rfl ?_
  refine jj_iconst (v := 2) (q := 34) dX9_addBags_33 rfl rfl ?_
  refine jj_ialdN (q := 35) (j := 2) dX9_addBags_34 hm.t4 (blk_st (by decide)) rfl (by omega) rfl ?_
  refine jj_isub (q := 36) dX9_addBags_35 rfl ?_
  refine jj_cS3i (q := 39) dX9_addBags_36 yk_X9_in ml_X9_111 ex_inI rfl rfl rfl ⟨Nat.zero_le _, Nat.zero_le _⟩ ?_
  refine jj_if_ne (q := 42) (tgt := 48) dX9_addBags_39 rfl rfl (fun h39 => ?_) (fun h39 => by exfalso; exact hk h39)
  refine jj_aload_n (q := 49) dX9_addBags_48 rfl rfl rfl ?_
  refine jj_cV0v (q := 52) dX9_addBags_49 yk_X9_remember ml_X9_437 hm.t0 (ex_mremember hm (show (tA A _) 0 18 = nI uu from hu) hu6) rfl rfl rfl ⟨Nat.zero_le _, Nat.zero_le _⟩ ?_
  refine jj_aload_n (q := 53) dX9_addBags_52 rfl rfl rfl ?_
  refine jj_getS (q := 56) dX9_addBags_53 fl_X9_23 hm.t0 hm.r0_12 rfl rfl rfl ?_
  refine jj_iconst (v := 2) (q := 57) dX9_addBags_56 rfl rfl ?_
  refine jj_ialdN (q := 58) (j := 2) dX9_addBags_57 hm.t4 (blk_st (by decide)) rfl (by omega) rfl ?_
  refine jj_istore (q := 60) dX9_addBags_58 (by decide) rfl ?_
  refine jj_aload_n (q := 61) dX9_addBags_60 rfl rfl rfl ?_
  refine jj_getS (q := 64) dX9_addBags_61 fl_X9_23 hm.t0 hm.r0_12 rfl rfl rfl ?_
  refine jj_aload_n (q := 65) dX9_addBags_64 rfl rfl rfl ?_
  refine jj_getS (q := 68) dX9_addBags_65 fl_X9_23 hm.t0 hm.r0_12 rfl rfl rfl ?_
  refine jj_iconst (v := 0) (q := 69) dX9_addBags_68 rfl rfl ?_
  refine jj_ialdN (q := 70) (j := 0) dX9_addBags_69 hm.t4 (blk_st (by decide)) rfl (by omega) rfl ?_
  refine jj_iload_n (q := 71) dX9_addBags_70 rfl rfl rfl ?_
  refine jj_iadd (q := 72) dX9_addBags_71 rfl ?_
  refine jj_iload_n (q := 73) dX9_addBags_72 rfl rfl rfl ?_
  refine jj_iload_n (q := 74) dX9_addBags_73 rfl rfl rfl ?_
  refine jj_cS4v (q := 77) dX9_addBags_74 yk_X9_adds ml_X9_168 (ex_adds hm u44 hc hN) rfl rfl rfl ⟨Nat.zero_le _, Nat.zero_le _⟩ ?_
  refine jj_iload (q := 79) dX9_addBags_77 rfl rfl ?_
  refine jj_iret dX9_addBags_79 rfl (Nat.zero_le _) (Nat.zero_le _) ?_
  exact ⟨rfl, rfl⟩
theorem ex_mundo_no (hm : hMo T S mo) (hu : A 0 18 = 0) : Ex Γ (d + 3) Y_X9_undo [.ref mo] (T, R, S, blk 18 I mo (st A 4 X), L, D, z) 0 0 (rI (0) (T, R, S, blk 18 I mo (st (tA A 1) 4 X), L, D, z)) := by
  refine Ex.of (by decide) (by simp [Value.category]) (Nat.le_of_ble_eq_true rfl) rfl ?_
  refine jj_aload_n (q := 1) dX9_undo_0 rfl rfl rfl ?_
  refine jj_aload_n (q := 2) dX9_undo_1 rfl rfl rfl ?_
  refine jj_getIv (q := 5) dX9_undo_2 fl_X9_254 hm.t0 (blk_s0 (by decide) (by decide)) rfl rfl ?_
  refine jj_if_ne (q := 8) (tgt := 12) dX9_undo_5 rfl rfl (fun h5 => by exfalso; exact h5 hu) (fun h5 => ?_)
  refine jj_iconst (v := 1) (q := 9) dX9_undo_8 rfl rfl ?_
  refine jj_goto (tgt := 13) dX9_undo_9 rfl ?_
  refine jj_putIv (q := 16) dX9_undo_13 fl_X9_82 hm.t0 (u2_bs0 (by decide) (by decide)) rfl rfl rfl rfl rfl ?_
  refine jj_aload_n (q := 17) dX9_undo_16 rfl rfl rfl ?_
  refine jj_getIv (q := 20) dX9_undo_17 fl_X9_82 hm.t0 (blk_s0 (by decide) (by decide)) rfl rfl ?_
  refine jj_if_le (q := 23) (tgt := 25) dX9_undo_20 rfl rfl (fun h20 => absurd h20 ((by decide : ¬ (1 : Int32) ≤ 0))) (fun h20 => ?_)
  refine jj_iconst (v := 0) (q := 24) dX9_undo_23 rfl rfl ?_
  refine jj_iret dX9_undo_24 rfl (Nat.zero_le _) (Nat.zero_le _) ?_
  exact ⟨rfl, rfl⟩
theorem ex_mundo_ok (hm : hMo T S mo) {v : Nat} (hu : A 0 18 = nI (v + 1)) (hv : v ≤ 5) : Ex Γ (d + 3) Y_X9_undo [.ref mo] (T, R, S, blk 18 I mo (st A 4 X), L, D, z) 0 0 (rI (nI v) (T, R, S, blk 18 I mo (st (u2 (tA A 0) 0 18 (nI v)) 4 (cpw X 0 2086 (fun k => A 7 (2086 * v + k)))), L, D, z)) := by
  have e := ex_mcopy (Γ := Γ) (d := d + 2) (T := T) (R := R) (S := S) (I := I) (A := st (u2 (tA A 0) 0 18 (nI v)) 4 X) (L := L) (D := D) (z := z) (cf := 7) (ct := 4) (ar := 2086 * v) (wh := 0) hm.t7 hm.t4 (by omega) (by omega) (by omega) (by omega) (by omega) (by omega)
  rw [st_st, st_eq, show (st (u2 (tA A 0) 0 18 (nI v)) 4 X) 7 = A 7 from rfl] at e
  refine Ex.of (by decide) (by simp [Value.category]) (Nat.le_of_ble_eq_true rfl) rfl ?_
  refine jj_aload_n (q := 1) dX9_undo_0 rfl rfl rfl ?_
  refine jj_aload_n (q := 2) dX9_undo_1 rfl rfl rfl ?_
  refine jj_getIw (v := nI (v + 1)) (q := 5) dX9_undo_2 fl_X9_254 hm.t0 (by rw [blk_s0 (by decide) (by decide)]; exact hu) rfl rfl ?_
  refine jj_if_ne (q := 8) (tgt := 12) dX9_undo_5 rfl rfl (fun h5 => ?_) (fun h5 => by exfalso; exact absurd h5 (nI_ne0 (by omega) (by omega)))
  refine jj_iconst (v := 0) (q := 13) dX9_undo_12 rfl rfl ?_
  refine jj_putIv (q := 16) dX9_undo_13 fl_X9_82 hm.t0 (u2_bs0 (by decide) (by decide)) rfl rfl rfl rfl rfl ?_
  refine jj_aload_n (q := 17) dX9_undo_16 rfl rfl rfl ?_
  refine jj_getIv (q := 20) dX9_undo_17 fl_X9_82 hm.t0 (blk_s0 (by decide) (by decide)) rfl rfl ?_
  refine jj_if_le (q := 23) (tgt := 25) dX9_undo_20 rfl rfl (fun h20 => ?_) (fun h20 => absurd ((by decide : (0 : Int32) ≤ 0)) h20)
  refine jj_aload_n (q := 26) dX9_undo_25 rfl rfl rfl ?_
  refine jj_dup (q := 27) dX9_undo_26 rfl rfl ?_
  refine jj_getIw (v := nI (v + 1)) (q := 30) dX9_undo_27 fl_X9_254 hm.t0 (by rw [blk_s0 (by decide) (by decide)]; exact hu) rfl rfl ?_
  refine jj_iconst (v := 1) (q := 31) dX9_undo_30 rfl rfl ?_
  refine jj_isubN (q := 32) (e := v) (a := v + 1) (b := 1) dX9_undo_31 rfl rfl rfl rfl ?_
  refine jj_putIv (q := 35) dX9_undo_32 fl_X9_254 hm.t0 (u2_bs0 (by decide) (by decide)) rfl rfl rfl rfl rfl ?_
  refine jj_aload_n (q := 36) dX9_undo_35 rfl rfl rfl ?_
  refine jj_getS (q := 39) dX9_undo_36 fl_X9_32 hm.t0 hm.r0_15 rfl rfl rfl ?_
  refine jj_sipush (v := 2086) (q := 42) dX9_undo_39 rfl rfl ?_
  refine jj_aload_n (q := 43) dX9_undo_42 rfl rfl rfl ?_
  refine jj_getIw (v := nI v) (q := 46) dX9_undo_43 fl_X9_254 hm.t0 (by rw [blk_s0 (by decide) (by decide)]; exact rfl) rfl rfl ?_
  refine jj_imulN (q := 47) (a := 2086) (b := v) dX9_undo_46 rfl rfl rfl ?_
  refine jj_aload_n (q := 48) dX9_undo_47 rfl rfl rfl ?_
  refine jj_getS (q := 51) dX9_undo_48 fl_X9_23 hm.t0 hm.r0_12 rfl rfl rfl ?_
  refine jj_iconst (v := 0) (q := 52) dX9_undo_51 rfl rfl ?_
  refine jj_cS4v (q := 55) dX9_undo_52 yk_X9_copy ml_X9_246 e rfl rfl rfl ⟨Nat.zero_le _, Nat.zero_le _⟩ ?_
  refine jj_aload_n (q := 56) dX9_undo_55 rfl rfl rfl ?_
  refine jj_getIw (v := nI v) (q := 59) dX9_undo_56 fl_X9_254 hm.t0 (by rw [blk_s0 (by decide) (by decide)]; exact rfl) rfl rfl ?_
  refine jj_iret dX9_undo_59 rfl (Nat.zero_le _) (Nat.zero_le _) ?_
  exact ⟨rfl, rfl⟩
theorem ex_mundoable (hm : hMo T S mo)  : Ex Γ (d) Y_X9_undoable [.ref mo] (T, R, S, blk 18 I mo (st A 4 X), L, D, z) 0 0 (rI (A 0 18) (T, R, S, blk 18 I mo (st (tA A 0) 4 X), L, D, z)) := by
  refine Ex.of (by decide) (by simp [Value.category]) (Nat.le_of_ble_eq_true rfl) rfl ?_
  refine jj_aload_n (q := 1) dX9_undoable_0 rfl rfl rfl ?_
  refine jj_iconst (v := 0) (q := 2) dX9_undoable_1 rfl rfl ?_
  refine jj_putIv (q := 5) dX9_undoable_2 fl_X9_82 hm.t0 (u2_bs0 (by decide) (by decide)) rfl rfl rfl rfl rfl ?_
  refine jj_aload_n (q := 6) dX9_undoable_5 rfl rfl rfl ?_
  refine jj_getIv (q := 9) dX9_undoable_6 fl_X9_254 hm.t0 (blk_s0 (by decide) (by decide)) rfl rfl ?_
  refine jj_iret dX9_undoable_9 rfl (Nat.zero_le _) (Nat.zero_le _) ?_
  exact ⟨rfl, rfl⟩
theorem ex_mbuffered (hm : hMo T S mo)  : Ex Γ (d) Y_X9_buffered [.ref mo] (T, R, S, blk 18 I mo (st A 4 X), L, D, z) 0 0 (rI (A 0 2) (T, R, S, blk 18 I mo (st (tA A 0) 4 X), L, D, z)) := by
  refine Ex.of (by decide) (by simp [Value.category]) (Nat.le_of_ble_eq_true rfl) rfl ?_
  refine jj_aload_n (q := 1) dX9_buffered_0 rfl rfl rfl ?_
  refine jj_iconst (v := 0) (q := 2) dX9_buffered_1 rfl rfl ?_
  refine jj_putIv (q := 5) dX9_buffered_2 fl_X9_82 hm.t0 (u2_bs0 (by decide) (by decide)) rfl rfl rfl rfl rfl ?_
  refine jj_aload_n (q := 6) dX9_buffered_5 rfl rfl rfl ?_
  refine jj_getIv (q := 9) dX9_buffered_6 fl_X9_85 hm.t0 (blk_s0 (by decide) (by decide)) rfl rfl ?_
  refine jj_iret dX9_buffered_9 rfl (Nat.zero_le _) (Nat.zero_le _) ?_
  exact ⟨rfl, rfl⟩
theorem ex_mparseError (hm : hMo T S mo)  : Ex Γ (d) Y_X9_parseError [.ref mo] (T, R, S, blk 18 I mo (st A 4 X), L, D, z) 0 0 (rI (A 0 5) (T, R, S, blk 18 I mo (st (tA A 0) 4 X), L, D, z)) := by
  refine Ex.of (by decide) (by simp [Value.category]) (Nat.le_of_ble_eq_true rfl) rfl ?_
  refine jj_aload_n (q := 1) dX9_parseError_0 rfl rfl rfl ?_
  refine jj_iconst (v := 0) (q := 2) dX9_parseError_1 rfl rfl ?_
  refine jj_putIv (q := 5) dX9_parseError_2 fl_X9_82 hm.t0 (u2_bs0 (by decide) (by decide)) rfl rfl rfl rfl rfl ?_
  refine jj_aload_n (q := 6) dX9_parseError_5 rfl rfl rfl ?_
  refine jj_getIv (q := 9) dX9_parseError_6 fl_X9_92 hm.t0 (blk_s0 (by decide) (by decide)) rfl rfl ?_
  refine jj_iret dX9_parseError_9 rfl (Nat.zero_le _) (Nat.zero_le _) ?_
  exact ⟨rfl, rfl⟩
theorem ex_merrorPosition (hm : hMo T S mo)  : Ex Γ (d) Y_X9_errorPosition [.ref mo] (T, R, S, blk 18 I mo (st A 4 X), L, D, z) 0 0 (rI (A 0 6) (T, R, S, blk 18 I mo (st (tA A 0) 4 X), L, D, z)) := by
  refine Ex.of (by decide) (by simp [Value.category]) (Nat.le_of_ble_eq_true rfl) rfl ?_
  refine jj_aload_n (q := 1) dX9_errorPosition_0 rfl rfl rfl ?_
  refine jj_iconst (v := 0) (q := 2) dX9_errorPosition_1 rfl rfl ?_
  refine jj_putIv (q := 5) dX9_errorPosition_2 fl_X9_82 hm.t0 (u2_bs0 (by decide) (by decide)) rfl rfl rfl rfl rfl ?_
  refine jj_aload_n (q := 6) dX9_errorPosition_5 rfl rfl rfl ?_
  refine jj_getIv (q := 9) dX9_errorPosition_6 fl_X9_13 hm.t0 (blk_s0 (by decide) (by decide)) rfl rfl ?_
  refine jj_iret dX9_errorPosition_9 rfl (Nat.zero_le _) (Nat.zero_le _) ?_
  exact ⟨rfl, rfl⟩
theorem ex_mthrown (hm : hMo T S mo)  : Ex Γ (d) Y_X9_thrown [.ref mo] (T, R, S, blk 18 I mo (st A 4 X), L, D, z) 0 0 (rI (A 0 0) (T, R, S, blk 18 I mo (st A 4 X), L, D, z)) := by
  refine Ex.of (by decide) (by simp [Value.category]) (Nat.le_of_ble_eq_true rfl) rfl ?_
  refine jj_aload_n (q := 1) dX9_thrown_0 rfl rfl rfl ?_
  refine jj_getIv (q := 4) dX9_thrown_1 fl_X9_82 hm.t0 (blk_s0 (by decide) (by decide)) rfl rfl ?_
  refine jj_iret dX9_thrown_4 rfl (Nat.zero_le _) (Nat.zero_le _) ?_
  exact ⟨rfl, rfl⟩
theorem ex_msave_no (hm : hMo T S mo) {b : Int32} (hok : mOk A (inI b 0 1) = 0) : Ex Γ (d + 3) Y_X9_save [.ref mo, .int b] (T, R, S, blk 18 I mo (st A 4 X), L, D, z) 0 0 (rI (0) (T, R, S, blk 18 I mo (st (tA A (tI A (inI b 0 1))) 4 X), L, D, z)) := by
  refine Ex.of (by decide) (by simp [Value.category]) (Nat.le_of_ble_eq_true rfl) rfl ?_
  refine jj_aload_n (q := 1) dX9_save_0 rfl rfl rfl ?_
  refine jj_iload_n (q := 2) dX9_save_1 rfl rfl rfl ?_
  refine jj_iconst (v := 0) (q := 3) dX9_save_2 rfl rfl ?_
  refine jj_iconst (v := 1) (q := 4) dX9_save_3 rfl rfl ?_
  refine jj_cS3i (q := 7) dX9_save_4 yk_X9_in ml_X9_111 ex_inI rfl rfl rfl ⟨Nat.zero_le _, Nat.zero_le _⟩ ?_
  refine jj_cV1i (q := 10) dX9_save_7 yk_X9_mayAsk ml_X9_353 hm.t0 (ex_mayAsk hm) rfl rfl rfl ⟨Nat.zero_le _, Nat.zero_le _⟩ ?_
  refine jj_if_ne (q := 13) (tgt := 15) dX9_save_10 rfl rfl (fun h10 => by exfalso; exact h10 hok) (fun h10 => ?_)
  refine jj_iconst (v := 0) (q := 14) dX9_save_13 rfl rfl ?_
  refine jj_iret dX9_save_14 rfl (Nat.zero_le _) (Nat.zero_le _) ?_
  exact ⟨rfl, rfl⟩
theorem ex_msave_ok (hm : hMo T S mo) {q : Nat} (hq : q < 2) (hok : ¬ mOk A (inI (nI q) 0 1) = 0) : Ex Γ (d + 3) Y_X9_save [.ref mo, .int (nI q)] (T, R, S, blk 18 I mo (st A 4 X), L, D, z) 0 0 (rI (X 0) (T, R, S, blk 18 I mo (st (u2 (st (tA A (tI A (inI (nI q) 0 1))) 8 (cpw (A 8) (2086 * q) 2086 X)) 9 q 1) 4 X), L, D, z)) := by
  have e := ex_mcopy (Γ := Γ) (d := d + 2) (T := T) (R := R) (S := S) (I := I) (A := st (tA A (tI A (inI (nI q) 0 1))) 4 X) (L := L) (D := D) (z := z) (cf := 4) (ct := 8) (ar := 0) (wh := 2086 * q) hm.t4 hm.t8 (by omega) (by omega) (by omega) (by omega) (by omega) (by omega)
  rw [st_comm (show 4 ≠ 8 by omega), show (st (tA A (tI A (inI (nI q) 0 1))) 4 X) 8 = A 8 from rfl, show (fun k => st (tA A (tI A (inI (nI q) 0 1))) 4 X 4 (0 + k)) = X by funext k; rw [Nat.zero_add]; rfl] at e
  refine Ex.of (by decide) (by simp [Value.category]) (Nat.le_of_ble_eq_true rfl) rfl ?_
  refine jj_aload_n (q := 1) dX9_save_0 rfl rfl rfl ?_
  refine jj_iload_n (q := 2) dX9_save_1 rfl rfl rfl ?_
  refine jj_iconst (v := 0) (q := 3) dX9_save_2 rfl rfl ?_
  refine jj_iconst (v := 1) (q := 4) dX9_save_3 rfl rfl ?_
  refine jj_cS3i (q := 7) dX9_save_4 yk_X9_in ml_X9_111 ex_inI rfl rfl rfl ⟨Nat.zero_le _, Nat.zero_le _⟩ ?_
  refine jj_cV1i (q := 10) dX9_save_7 yk_X9_mayAsk ml_X9_353 hm.t0 (ex_mayAsk hm) rfl rfl rfl ⟨Nat.zero_le _, Nat.zero_le _⟩ ?_
  refine jj_if_ne (q := 13) (tgt := 15) dX9_save_10 rfl rfl (fun h10 => ?_) (fun h10 => by exfalso; exact hok h10)
  refine jj_aload_n (q := 16) dX9_save_15 rfl rfl rfl ?_
  refine jj_getS (q := 19) dX9_save_16 fl_X9_23 hm.t0 hm.r0_12 rfl rfl rfl ?_
  refine jj_iconst (v := 0) (q := 20) dX9_save_19 rfl rfl ?_
  refine jj_aload_n (q := 21) dX9_save_20 rfl rfl rfl ?_
  refine jj_getS (q := 24) dX9_save_21 fl_X9_35 hm.t0 hm.r0_16 rfl rfl rfl ?_
  refine jj_sipush (v := 2086) (q := 27) dX9_save_24 rfl rfl ?_
  refine jj_iload_n (q := 28) dX9_save_27 rfl rfl rfl ?_
  refine jj_imulN (q := 29) (a := 2086) (b := q) dX9_save_28 rfl rfl rfl ?_
  refine jj_cS4v (q := 32) dX9_save_29 yk_X9_copy ml_X9_246 e rfl rfl rfl ⟨Nat.zero_le _, Nat.zero_le _⟩ ?_
  refine jj_aload_n (q := 33) dX9_save_32 rfl rfl rfl ?_
  refine jj_getS (q := 36) dX9_save_33 fl_X9_38 hm.t0 hm.r0_17 rfl rfl rfl ?_
  refine jj_iload_n (q := 37) dX9_save_36 rfl rfl rfl ?_
  refine jj_iconst (v := 1) (q := 38) dX9_save_37 rfl rfl ?_
  refine jj_zast (q := 39) dX9_save_38 hm.t9 (nI_in hq (by omega)) (by first | rfl | assumption) rfl ?_
  rw [nI_clamp (show q < 2 ^ 31 by omega), u2_bsk (by decide) (by decide)]
  refine jj_aload_n (q := 40) dX9_save_39 rfl rfl rfl ?_
  refine jj_getS (q := 43) dX9_save_40 fl_X9_23 hm.t0 hm.r0_12 rfl rfl rfl ?_
  refine jj_iconst (v := 0) (q := 44) dX9_save_43 rfl rfl ?_
  refine jj_ialdN (q := 45) (j := 0) dX9_save_44 hm.t4 (blk_st (by decide)) rfl (by omega) rfl ?_
  refine jj_iret dX9_save_45 rfl (Nat.zero_le _) (Nat.zero_le _) ?_
  exact ⟨rfl, rfl⟩
theorem ex_mrestore_no (hm : hMo T S mo) {b : Int32} (hb : (inI b 0 1) = 0) : Ex Γ (d + 3) Y_X9_restore [.ref mo, .int b] (T, R, S, blk 18 I mo (st A 4 X), L, D, z) 0 0 (rI (0) (T, R, S, blk 18 I mo (st (tA A 1) 4 X), L, D, z)) := by
  refine Ex.of (by decide) (by simp [Value.category]) (Nat.le_of_ble_eq_true rfl) rfl ?_
  refine jj_aload_n (q := 1) dX9_restore_0 rfl rfl rfl ?_
  refine jj_iload_n (q := 2) dX9_restore_1 rfl rfl rfl ?_
  refine jj_iconst (v := 0) (q := 3) dX9_restore_2 rfl rfl ?_
  refine jj_iconst (v := 1) (q := 4) dX9_restore_3 rfl rfl ?_
  refine jj_cS3i (q := 7) dX9_restore_4 yk_X9_in ml_X9_111 ex_inI rfl rfl rfl ⟨Nat.zero_le _, Nat.zero_le _⟩ ?_
  refine jj_if_ne (q := 10) (tgt := 14) dX9_restore_7 rfl rfl (fun h7 => by exfalso; exact h7 hb) (fun h7 => ?_)
  refine jj_iconst (v := 1) (q := 11) dX9_restore_10 rfl rfl ?_
  refine jj_goto (tgt := 28) dX9_restore_11 rfl ?_
  refine jj_putIv (q := 31) dX9_restore_28 fl_X9_82 hm.t0 (u2_bs0 (by decide) (by decide)) rfl rfl rfl rfl rfl ?_
  refine jj_aload_n (q := 32) dX9_restore_31 rfl rfl rfl ?_
  refine jj_getIv (q := 35) dX9_restore_32 fl_X9_82 hm.t0 (blk_s0 (by decide) (by decide)) rfl rfl ?_
  refine jj_if_le (q := 38) (tgt := 40) dX9_restore_35 rfl rfl (fun h35 => absurd h35 ((by decide : ¬ (1 : Int32) ≤ 0))) (fun h35 => ?_)
  refine jj_iconst (v := 0) (q := 39) dX9_restore_38 rfl rfl ?_
  refine jj_iret dX9_restore_39 rfl (Nat.zero_le _) (Nat.zero_le _) ?_
  exact ⟨rfl, rfl⟩
theorem ex_mrestore_bad (hm : hMo T S mo) {q : Nat} (hq : q < 2) (hb : ¬ inI (nI q) 0 1 = 0) (hs : A 9 q = 0) : Ex Γ (d + 3) Y_X9_restore [.ref mo, .int (nI q)] (T, R, S, blk 18 I mo (st A 4 X), L, D, z) 0 0 (rI 0 (T, R, S, blk 18 I mo (st (tA A 2) 4 X), L, D, z)) := by
  refine Ex.of (by decide) (by simp [Value.category]) (Nat.le_of_ble_eq_true rfl) rfl ?_
  refine jj_aload_n (q := 1) dX9_restore_0 rfl rfl rfl ?_
  refine jj_iload_n (q := 2) dX9_restore_1 rfl rfl rfl ?_
  refine jj_iconst (v := 0) (q := 3) dX9_restore_2 rfl rfl ?_
  refine jj_iconst (v := 1) (q := 4) dX9_restore_3 rfl rfl ?_
  refine jj_cS3i (q := 7) dX9_restore_4 yk_X9_in ml_X9_111 ex_inI rfl rfl rfl ⟨Nat.zero_le _, Nat.zero_le _⟩ ?_
  refine jj_if_ne (q := 10) (tgt := 14) dX9_restore_7 rfl rfl (fun h7 => ?_) (fun h7 => by exfalso; exact hb h7)
  refine jj_aload_n (q := 15) dX9_restore_14 rfl rfl rfl ?_
  refine jj_getS (q := 18) dX9_restore_15 fl_X9_38 hm.t0 hm.r0_17 rfl rfl rfl ?_
  refine jj_iload_n (q := 19) dX9_restore_18 rfl rfl rfl ?_
  refine jj_zald (q := 20) dX9_restore_19 hm.t9 (nI_in hq (by omega)) rfl rfl ?_
  rw [nI_clamp (show q < 2 ^ 31 by omega), blk_sn (by decide) (by decide)]
  refine jj_if_eq (q := 23) (tgt := 27) dX9_restore_20 rfl rfl (fun h20 => ?_) (fun h20 => absurd (hs) h20)
  refine jj_iconst (v := 2) (q := 28) dX9_restore_27 rfl rfl ?_
  refine jj_putIv (q := 31) dX9_restore_28 fl_X9_82 hm.t0 (u2_bs0 (by decide) (by decide)) rfl rfl rfl rfl rfl ?_
  refine jj_aload_n (q := 32) dX9_restore_31 rfl rfl rfl ?_
  refine jj_getIv (q := 35) dX9_restore_32 fl_X9_82 hm.t0 (blk_s0 (by decide) (by decide)) rfl rfl ?_
  refine jj_if_le (q := 38) (tgt := 40) dX9_restore_35 rfl rfl (fun h35 => absurd h35 ((by decide : ¬ (2 : Int32) ≤ 0))) (fun h35 => ?_)
  refine jj_iconst (v := 0) (q := 39) dX9_restore_38 rfl rfl ?_
  refine jj_iret dX9_restore_39 rfl (Nat.zero_le _) (Nat.zero_le _) ?_
  exact ⟨rfl, rfl⟩
theorem ex_mrestore_ok (hm : hMo T S mo) {q : Nat} (hq : q < 2) (hb : ¬ inI (nI q) 0 1 = 0) (hs : ¬ A 9 q = 0) : Ex Γ (d + 3) Y_X9_restore [.ref mo, .int (nI q)] (T, R, S, blk 18 I mo (st A 4 X), L, D, z) 0 0 (rI (A 8 (2086 * q)) (T, R, S, blk 18 I mo (st (u2 (tA A 0) 0 18 0) 4 (cpw X 0 2086 (fun k => A 8 (2086 * q + k)))), L, D, z)) := by
  have e := ex_mcopy (Γ := Γ) (d := d + 2) (T := T) (R := R) (S := S) (I := I) (A := st (tA A 0) 4 X) (L := L) (D := D) (z := z) (cf := 8) (ct := 4) (ar := 2086 * q) (wh := 0) hm.t8 hm.t4 (by omega) (by omega) (by omega) (by omega) (by omega) (by omega)
  rw [st_st, st_eq, show (st (tA A 0) 4 X) 8 = A 8 from rfl] at e
  refine Ex.of (by decide) (by simp [Value.category]) (Nat.le_of_ble_eq_true rfl) rfl ?_
  refine jj_aload_n (q := 1) dX9_restore_0 rfl rfl rfl ?_
  refine jj_iload_n (q := 2) dX9_restore_1 rfl rfl rfl ?_
  refine jj_iconst (v := 0) (q := 3) dX9_restore_2 rfl rfl ?_
  refine jj_iconst (v := 1) (q := 4) dX9_restore_3 rfl rfl ?_
  refine jj_cS3i (q := 7) dX9_restore_4 yk_X9_in ml_X9_111 ex_inI rfl rfl rfl ⟨Nat.zero_le _, Nat.zero_le _⟩ ?_
  refine jj_if_ne (q := 10) (tgt := 14) dX9_restore_7 rfl rfl (fun h7 => ?_) (fun h7 => by exfalso; exact hb h7)
  refine jj_aload_n (q := 15) dX9_restore_14 rfl rfl rfl ?_
  refine jj_getS (q := 18) dX9_restore_15 fl_X9_38 hm.t0 hm.r0_17 rfl rfl rfl ?_
  refine jj_iload_n (q := 19) dX9_restore_18 rfl rfl rfl ?_
  refine jj_zald (q := 20) dX9_restore_19 hm.t9 (nI_in hq (by omega)) rfl rfl ?_
  rw [nI_clamp (show q < 2 ^ 31 by omega), blk_sn (by decide) (by decide)]
  refine jj_if_eq (q := 23) (tgt := 27) dX9_restore_20 rfl rfl (fun h20 => absurd h20 (hs)) (fun h20 => ?_)
  refine jj_iconst (v := 0) (q := 24) dX9_restore_23 rfl rfl ?_
  refine jj_goto (tgt := 28) dX9_restore_24 rfl ?_
  refine jj_putIv (q := 31) dX9_restore_28 fl_X9_82 hm.t0 (u2_bs0 (by decide) (by decide)) rfl rfl rfl rfl rfl ?_
  refine jj_aload_n (q := 32) dX9_restore_31 rfl rfl rfl ?_
  refine jj_getIv (q := 35) dX9_restore_32 fl_X9_82 hm.t0 (blk_s0 (by decide) (by decide)) rfl rfl ?_
  refine jj_if_le (q := 38) (tgt := 40) dX9_restore_35 rfl rfl (fun h35 => ?_) (fun h35 => absurd ((by decide : (0 : Int32) ≤ 0)) h35)
  refine jj_aload_n (q := 41) dX9_restore_40 rfl rfl rfl ?_
  refine jj_getS (q := 44) dX9_restore_41 fl_X9_35 hm.t0 hm.r0_16 rfl rfl rfl ?_
  refine jj_sipush (v := 2086) (q := 47) dX9_restore_44 rfl rfl ?_
  refine jj_iload_n (q := 48) dX9_restore_47 rfl rfl rfl ?_
  refine jj_imulN (q := 49) (a := 2086) (b := q) dX9_restore_48 rfl rfl rfl ?_
  refine jj_aload_n (q := 50) dX9_restore_49 rfl rfl rfl ?_
  refine jj_getS (q := 53) dX9_restore_50 fl_X9_23 hm.t0 hm.r0_12 rfl rfl rfl ?_
  refine jj_iconst (v := 0) (q := 54) dX9_restore_53 rfl rfl ?_
  refine jj_cS4v (q := 57) dX9_restore_54 yk_X9_copy ml_X9_246 e rfl rfl rfl ⟨Nat.zero_le _, Nat.zero_le _⟩ ?_
  refine jj_aload_n (q := 58) dX9_restore_57 rfl rfl rfl ?_
  refine jj_iconst (v := 0) (q := 59) dX9_restore_58 rfl rfl ?_
  refine jj_putIv (q := 62) dX9_restore_59 fl_X9_254 hm.t0 (u2_bs0 (by decide) (by decide)) rfl rfl rfl rfl rfl ?_
  refine jj_aload_n (q := 63) dX9_restore_62 rfl rfl rfl ?_
  refine jj_getS (q := 66) dX9_restore_63 fl_X9_23 hm.t0 hm.r0_12 rfl rfl rfl ?_
  refine jj_iconst (v := 0) (q := 67) dX9_restore_66 rfl rfl ?_
  refine jj_ialdN (q := 68) (j := 0) dX9_restore_67 hm.t4 (blk_st (by decide)) rfl (by omega) rfl ?_
  refine jj_iret dX9_restore_68 rfl (Nat.zero_le _) (Nat.zero_le _) ?_
  exact ⟨by unfold cpw; rw [if_pos (by omega)]; rfl, rfl⟩
end M62
