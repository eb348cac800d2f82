/-! THE MODEL'S LOOKS AHEAD, 2 -/
def rIE (r : Int32) (G : JM → Prop) : JO → JM → Prop := fun o M' => o = .inl (some (.int r)) ∧ G M'
section M64
variable {Γ : Gam} {d : Nat} {T : JT} {R S : JR} {I A : JI} {L : JL} {D : JD} {z : Option Nat} {mo u : Nat} {X Y Q V : JV} {H : Nat → JV → Nat → Bool}
theorem ex_mtimeToClear_no (hm : hMo T S mo) {n : Int32} (hok : mOk A 1 = 0) : Ex Γ (d + 30) Y_X9_timeToClear [.ref mo, .int n] (T, R, S, blk 18 I mo (st A 4 X), L, D, z) 0 0 (rI 0 (T, R, S, blk 18 I mo (st (tA A (tI A 1)) 4 X), L, D, z)) := by
  refine Ex.of (by decide) (by simp [Value.category]) (Nat.le_of_ble_eq_true rfl) rfl ?_
  refine jj_aload_n (q := 1) dX9_timeToClear_0 rfl rfl rfl ?_
  refine jj_iload_n (q := 2) dX9_timeToClear_1 rfl rfl rfl ?_
  refine jj_cV1i (q := 5) dX9_timeToClear_2 yk_X9_areTicks ml_X9_421 hm.t0 (ex_areTicks_no hm hok) rfl rfl rfl ⟨Nat.zero_le _, Nat.zero_le _⟩ ?_
  refine jj_if_ne (q := 8) (tgt := 10) dX9_timeToClear_5 rfl rfl (fun h5 => by exfalso; exact h5 rfl) (fun h5 => ?_)
  refine jj_iconst (v := 0) (q := 9) dX9_timeToClear_8 rfl rfl ?_
  refine jj_iret dX9_timeToClear_9 rfl (Nat.zero_le _) (Nat.zero_le _) ?_
  exact ⟨rfl, rfl⟩
theorem ex_mtimeToClear_bad (hm : hMo T S mo) {n : Int32} (hok : ¬ mOk A 1 = 0) (hg : cG X n 500 = 0) : Ex Γ (d + 30) Y_X9_timeToClear [.ref mo, .int n] (T, R, S, blk 18 I mo (st A 4 X), L, D, z) 0 0 (rI 0 (T, R, S, blk 18 I mo (st (tA A 2) 4 X), L, D, z)) := by
  refine Ex.of (by decide) (by simp [Value.category]) (Nat.le_of_ble_eq_true rfl) rfl ?_
  refine jj_aload_n (q := 1) dX9_timeToClear_0 rfl rfl rfl ?_
  refine jj_iload_n (q := 2) dX9_timeToClear_1 rfl rfl rfl ?_
  refine jj_cV1i (q := 5) dX9_timeToClear_2 yk_X9_areTicks ml_X9_421 hm.t0 (ex_areTicks hm hok) rfl rfl rfl ⟨Nat.zero_le _, Nat.zero_le _⟩ ?_
  refine jj_if_ne (q := 8) (tgt := 10) dX9_timeToClear_5 rfl rfl (fun h5 => by exfalso; exact h5 hg) (fun h5 => ?_)
  refine jj_iconst (v := 0) (q := 9) dX9_timeToClear_8 rfl rfl ?_
  refine jj_iret dX9_timeToClear_9 rfl (Nat.zero_le _) (Nat.zero_le _) ?_
  exact ⟨rfl, by rw [if_pos hg]⟩
theorem lp_ttc (hm : hMo T S mo) {N : Nat} (hNb : N + 1 < 2 ^ 31) (hQ : mQ Q) (hA : A 2 = Q) (hn : hN A H Q)  : ∀ (k i : Nat) (Y V : JV), i + k = N + 1 → mJ Q Y → JJ Γ (jj_E Y_X9_timeToClear) (jj_Z Γ (rIE (tCl H Q k i Y) (fun M' => ∃ V Y', M' = (T, R, S, blk 18 I mo (s46 (av A V) X Y'), L, D, z))) 0 0) (jj_rm (d + 30) 0 0) 0 0 17 [some (.ref mo), some (.int (nI N)), some (.int (nI i))] [] (T, R, S, blk 18 I mo (s46 (av A V) X Y), L, D, z) := by
  intro k
  induction k with
  | zero =>
    intro i Y V hi hY
    refine jj_iload_n (q := 18) dX9_timeToClear_17 rfl rfl rfl ?_
    refine jj_iload_n (q := 19) dX9_timeToClear_18 rfl rfl rfl ?_
    refine jj_icmp_gt (q := 22) (tgt := 48) dX9_timeToClear_19 rfl rfl (fun h19 => ?_) (fun h19 => absurd (nI_ltN (show N < i by omega) (by omega)) h19)
    refine jj_iconst (v := -1) (q := 49) dX9_timeToClear_48 rfl rfl ?_
    refine jj_iret dX9_timeToClear_49 rfl (Nat.zero_le _) (Nat.zero_le _) ?_
    exact ⟨rfl, V, _, rfl⟩
  | succ k ih =>
    intro i Y V hi hY
    rw [tCl]
    refine jj_iload_n (q := 18) dX9_timeToClear_17 rfl rfl rfl ?_
    refine jj_iload_n (q := 19) dX9_timeToClear_18 rfl rfl rfl ?_
    refine jj_icmp_gt (q := 22) (tgt := 48) dX9_timeToClear_19 rfl rfl (fun h19 => absurd h19 (nI_nltN (show i ≤ N by omega) (by omega))) (fun h19 => ?_)
    refine jj_aload_n (q := 23) dX9_timeToClear_22 rfl rfl rfl ?_
    refine jj_getS (q := 26) dX9_timeToClear_23 fl_X9_29 hm.t0 hm.r0_14 rfl rfl rfl ?_
    refine jj_cS1i (q := 29) dX9_timeToClear_26 yk_X9_isClear ml_X9_430 (ex_isClear hm (show 4 ≤ 6 ∧ 6 ≤ 6 by omega) hY.1 rfl) rfl rfl rfl ⟨Nat.zero_le _, Nat.zero_le _⟩ ?_
    refine jj_if_eq (q := 32) (tgt := 34) dX9_timeToClear_29 rfl rfl (fun h29 => ?_) (fun h29 => ?_)
    · rw [if_pos h29]
      refine jj_aload_n (q := 35) dX9_timeToClear_34 rfl rfl rfl ?_
      refine jj_aload_n (q := 36) dX9_timeToClear_35 rfl rfl rfl ?_
      refine jj_getS (q := 39) dX9_timeToClear_36 fl_X9_29 hm.t0 hm.r0_14 rfl rfl rfl ?_
      refine jj_eV1v (q := 42) dX9_timeToClear_39 yk_X9_tick ml_X9_344 hm.t0 (ex_workT hm hQ hA (hn.cg rfl rfl rfl rfl) hY) rfl rfl rfl ⟨Nat.zero_le _, Nat.zero_le _⟩ (fun V2 => ?_)
      refine jj_iinc (v := nI (i + 1)) (q := 45) dX9_timeToClear_42 rfl (nI_incn i 1 rfl) (by decide) rfl ?_
      refine jj_goto (tgt := 17) dX9_timeToClear_45 rfl ?_
      rw [av_av]
      exact ih (i + 1) _ _ (by omega) (mTick_J hQ hY)
    · rw [if_neg h29]
      refine jj_iload_n (q := 33) dX9_timeToClear_32 rfl rfl rfl ?_
      refine jj_iret dX9_timeToClear_33 rfl (Nat.zero_le _) (Nat.zero_le _) ?_
      exact ⟨rfl, V, _, rfl⟩
theorem ex_mtimeToClear_ok (hm : hMo T S mo) {N : Nat} (hNb : N + 1 < 2 ^ 31) (hQ : mQ Q) (hA : A 2 = Q) (hn : hN A H Q) (hX : mJ Q X) (hok : ¬ mOk A 1 = 0) (hg : ¬ cG X (nI N) 500 = 0) : Ex Γ (d + 30) Y_X9_timeToClear [.ref mo, .int (nI N)] (T, R, S, blk 18 I mo (st A 4 X), L, D, z) 0 0 (rIE (tCl H Q (N + 1) 0 (cpw (A 6) 0 2086 X)) (fun M' => ∃ V Y', M' = (T, R, S, blk 18 I mo (s46 (av (tA A 0) V) X Y'), L, D, z))) := by
  refine Ex.of (by decide) (by simp [Value.category]) (Nat.le_of_ble_eq_true rfl) rfl ?_
  refine jj_aload_n (q := 1) dX9_timeToClear_0 rfl rfl rfl ?_
  refine jj_iload_n (q := 2) dX9_timeToClear_1 rfl rfl rfl ?_
  refine jj_cV1i (q := 5) dX9_timeToClear_2 yk_X9_areTicks ml_X9_421 hm.t0 (ex_areTicks hm hok) rfl rfl rfl ⟨Nat.zero_le _, Nat.zero_le _⟩ ?_
  refine jj_if_ne (q := 8) (tgt := 10) dX9_timeToClear_5 rfl rfl (fun h5 => ?_) (fun h5 => by exfalso; exact hg h5)
  refine jj_aload_n (q := 11) dX9_timeToClear_10 rfl rfl rfl ?_
  refine jj_iconst (v := 0) (q := 12) dX9_timeToClear_11 rfl rfl ?_
  refine jj_eV1v (q := 15) dX9_timeToClear_12 yk_X9_tries ml_X9_424 hm.t0 (ex_tries (N := 0) hm (by omega) hQ (show (tA A _) 2 = Q from hA) (hn.cg rfl rfl rfl rfl) hX) rfl rfl rfl ⟨Nat.zero_le _, Nat.zero_le _⟩ (fun V => ?_)
  refine jj_iconst (v := 0) (q := 16) dX9_timeToClear_15 rfl rfl ?_
  refine jj_istore_n (q := 17) dX9_timeToClear_16 rfl (by decide) rfl ?_
  rw [if_neg hg]
  exact lp_ttc hm hNb hQ (show (tA A 0) 2 = Q from hA) (hn.cg rfl rfl rfl rfl) (N + 1) 0 _ V (by omega) ((cpw_ag _ X).j hX)
theorem ex_mwithoutLane_no (hm : hMo T S mo) {b y : Int32} (hok : mOk A (inI b 0 (A 2 13 - 1)) = 0) : Ex Γ (d + 31) Y_X9_withoutLane [.ref mo, .int b, .int y] (T, R, S, blk 18 I mo (st A 4 X), L, D, z) 0 0 (rI (0) (T, R, S, blk 18 I mo (st (tA A (tI A (inI b 0 (A 2 13 - 1)))) 4 X), L, D, z)) := by
  refine Ex.of (by decide) (by simp [Value.category]) (Nat.le_of_ble_eq_true rfl) rfl ?_
  refine jj_aload_n (q := 1) dX9_withoutLane_0 rfl rfl rfl ?_
  refine jj_aload_n (q := 2) dX9_withoutLane_1 rfl rfl rfl ?_
  refine jj_iload_n (q := 3) dX9_withoutLane_2 rfl rfl rfl ?_
  refine jj_cV1i (q := 6) dX9_withoutLane_3 yk_X9_isLane ml_X9_370 hm.t0 (ex_isLane hm) rfl rfl rfl ⟨Nat.zero_le _, Nat.zero_le _⟩ ?_
  refine jj_cV1i (q := 9) dX9_withoutLane_6 yk_X9_mayAsk ml_X9_353 hm.t0 (ex_mayAsk hm) rfl rfl rfl ⟨Nat.zero_le _, Nat.zero_le _⟩ ?_
  refine jj_if_ne (q := 12) (tgt := 14) dX9_withoutLane_9 rfl rfl (fun h9 => by exfalso; exact h9 hok) (fun h9 => ?_)
  refine jj_iconst (v := 0) (q := 13) dX9_withoutLane_12 rfl rfl ?_
  refine jj_iret dX9_withoutLane_13 rfl (Nat.zero_le _) (Nat.zero_le _) ?_
  exact ⟨rfl, rfl⟩
theorem ex_mwithoutLane_bad (hm : hMo T S mo) {b y : Int32} (hok : ¬ mOk A (inI b 0 (A 2 13 - 1)) = 0) (hg : cG X y 500 = 0) : Ex Γ (d + 31) Y_X9_withoutLane [.ref mo, .int b, .int y] (T, R, S, blk 18 I mo (st A 4 X), L, D, z) 0 0 (rI (0) (T, R, S, blk 18 I mo (st (tA A 3) 4 X), L, D, z)) := by
  refine Ex.of (by decide) (by simp [Value.category]) (Nat.le_of_ble_eq_true rfl) rfl ?_
  refine jj_aload_n (q := 1) dX9_withoutLane_0 rfl rfl rfl ?_
  refine jj_aload_n (q := 2) dX9_withoutLane_1 rfl rfl rfl ?_
  refine jj_iload_n (q := 3) dX9_withoutLane_2 rfl rfl rfl ?_
  refine jj_cV1i (q := 6) dX9_withoutLane_3 yk_X9_isLane ml_X9_370 hm.t0 (ex_isLane hm) rfl rfl rfl ⟨Nat.zero_le _, Nat.zero_le _⟩ ?_
  refine jj_cV1i (q := 9) dX9_withoutLane_6 yk_X9_mayAsk ml_X9_353 hm.t0 (ex_mayAsk hm) rfl rfl rfl ⟨Nat.zero_le _, Nat.zero_le _⟩ ?_
  refine jj_if_ne (q := 12) (tgt := 14) dX9_withoutLane_9 rfl rfl (fun h9 => ?_) (fun h9 => by exfalso; exact hok h9)
  refine jj_aload_n (q := 15) dX9_withoutLane_14 rfl rfl rfl ?_
  refine jj_iload_n (q := 16) dX9_withoutLane_15 rfl rfl rfl ?_
  refine jj_sipush (v := 500) (q := 19) dX9_withoutLane_16 rfl rfl ?_
  refine jj_cV2i (q := 22) dX9_withoutLane_19 yk_X9_canGo ml_X9_415 hm.t0 (ex_canGo hm) rfl rfl rfl ⟨Nat.zero_le _, Nat.zero_le _⟩ ?_
  refine jj_if_ne (q := 25) (tgt := 31) dX9_withoutLane_22 rfl rfl (fun h22 => by exfalso; exact h22 hg) (fun h22 => ?_)
  refine jj_aload_n (q := 26) dX9_withoutLane_25 rfl rfl rfl ?_
  refine jj_iconst (v := 3) (q := 27) dX9_withoutLane_26 rfl rfl ?_
  refine jj_cV1i (q := 30) dX9_withoutLane_27 yk_X9_throwsAt ml_X9_240 hm.t0 (ex_throwsAt hm) rfl rfl rfl ⟨Nat.zero_le _, Nat.zero_le _⟩ ?_
  refine jj_iret dX9_withoutLane_30 rfl (Nat.zero_le _) (Nat.zero_le _) ?_
  exact ⟨rfl, by rw [tA_tA]⟩
theorem ex_mwithoutLane_ok (hm : hMo T S mo) {N n : Nat} (hNb : N < 2 ^ 31) (hl4 : n < 4) (hQ : mQ Q) (hA : A 2 = Q) (hn : hN A H Q) (hX : mJ Q X) {c : Nat} (hc : mC X = c) (hRJ : ∀ G, mI (mRun H Q N (w1 (cpw G 0 2086 X) (25 + n) 1)) ∧ mC (mRun H Q N (w1 (cpw G 0 2086 X) (25 + n) 1)) = c) (hok : ¬ mOk A (inI (nI n) 0 (A 2 13 - 1)) = 0) (hg : ¬ cG X (nI N) 500 = 0) : Ex Γ (d + 31) Y_X9_withoutLane [.ref mo, .int (nI n), .int (nI N)] (T, R, S, blk 18 I mo (st A 4 X), L, D, z) 0 0 (rIV (nI (mIn (mRun H Q N (w1 (cpw (A 6) 0 2086 X) (25 + n) 1)) 10 c) - nI (mIn X 10 c)) (fun V => (T, R, S, blk 18 I mo (s46 (av (tA A (tI A (inI (nI n) 0 (A 2 13 - 1)))) V) X (mRun H Q N (w1 (cpw (A 6) 0 2086 X) (25 + n) 1))), L, D, z))) := by
  refine Ex.of (by decide) (by simp [Value.category]) (Nat.le_of_ble_eq_true rfl) rfl ?_
  refine jj_aload_n (q := 1) dX9_withoutLane_0 rfl rfl rfl ?_
  refine jj_aload_n (q := 2) dX9_withoutLane_1 rfl rfl rfl ?_
  refine jj_iload_n (q := 3) dX9_withoutLane_2 rfl rfl rfl ?_
  refine jj_cV1i (q := 6) dX9_withoutLane_3 yk_X9_isLane ml_X9_370 hm.t0 (ex_isLane hm) rfl rfl rfl ⟨Nat.zero_le _, Nat.zero_le _⟩ ?_
  refine jj_cV1i (q := 9) dX9_withoutLane_6 yk_X9_mayAsk ml_X9_353 hm.t0 (ex_mayAsk hm) rfl rfl rfl ⟨Nat.zero_le _, Nat.zero_le _⟩ ?_
  refine jj_if_ne (q := 12) (tgt := 14) dX9_withoutLane_9 rfl rfl (fun h9 => ?_) (fun h9 => by exfalso; exact hok h9)
  refine jj_aload_n (q := 15) dX9_withoutLane_14 rfl rfl rfl ?_
  refine jj_iload_n (q := 16) dX9_withoutLane_15 rfl rfl rfl ?_
  refine jj_sipush (v := 500) (q := 19) dX9_withoutLane_16 rfl rfl ?_
  refine jj_cV2i (q := 22) dX9_withoutLane_19 yk_X9_canGo ml_X9_415 hm.t0 (ex_canGo hm) rfl rfl rfl ⟨Nat.zero_le _, Nat.zero_le _⟩ ?_
  refine jj_if_ne (q := 25) (tgt := 31) dX9_withoutLane_22 rfl rfl (fun h22 => ?_) (fun h22 => by exfalso; exact hg h22)
  refine jj_aload_n (q := 32) dX9_withoutLane_31 rfl rfl rfl ?_
  refine jj_iconst (v := 0) (q := 33) dX9_withoutLane_32 rfl rfl ?_
  refine jj_eV1v (q := 36) dX9_withoutLane_33 yk_X9_tries ml_X9_424 hm.t0 (ex_tries (N := 0) hm (by omega) hQ (show (tA A (tI A (inI (nI n) 0 (A 2 13 - 1)))) 2 = Q from hA) (hn.cg rfl rfl rfl rfl) hX) rfl rfl rfl ⟨Nat.zero_le _, Nat.zero_le _⟩ (fun V => ?_)
  refine jj_aload_n (q := 37) dX9_withoutLane_36 rfl rfl rfl ?_
  refine jj_getS (q := 40) dX9_withoutLane_37 fl_X9_29 hm.t0 hm.r0_14 rfl rfl rfl ?_
  refine jj_bipush (v := 25) (q := 42) dX9_withoutLane_40 rfl rfl ?_
  refine jj_iload_n (q := 43) dX9_withoutLane_42 rfl rfl rfl ?_
  refine jj_iaddN (q := 44) (a := 25) (b := n) dX9_withoutLane_43 rfl rfl rfl ?_
  refine jj_iconst (v := 1) (q := 45) dX9_withoutLane_44 rfl rfl ?_
  refine jj_iastN (q := 46) (j := 25 + n) dX9_withoutLane_45 hm.t6 wr66 rfl (by omega) rfl ?_
  refine jj_aload_n (q := 47) dX9_withoutLane_46 rfl rfl rfl ?_
  refine jj_aload_n (q := 48) dX9_withoutLane_47 rfl rfl rfl ?_
  refine jj_getS (q := 51) dX9_withoutLane_48 fl_X9_29 hm.t0 hm.r0_14 rfl rfl rfl ?_
  refine jj_iload_n (q := 52) dX9_withoutLane_51 rfl rfl rfl ?_
  refine jj_eV2v (q := 55) dX9_withoutLane_52 yk_X9_ticks ml_X9_418 hm.t0 (ex_work hm hNb hQ hA (hn.cg rfl rfl rfl rfl) (((cpw_ag _ X).j hX).set (rg_free (by omega)) (by omega))) rfl rfl rfl ⟨Nat.zero_le _, Nat.zero_le _⟩ (fun V2 => ?_)
  refine jj_aload_n (q := 56) dX9_withoutLane_55 rfl rfl rfl ?_
  refine jj_bipush (v := 10) (q := 58) dX9_withoutLane_56 rfl rfl ?_
  refine jj_cV1i (q := 61) dX9_withoutLane_58 yk_X9_grows ml_X9_427 hm.t0 (ex_grows hm hX.1 hc (hRJ _).1 (hRJ _).2) rfl rfl rfl ⟨Nat.zero_le _, Nat.zero_le _⟩ ?_
  refine jj_iret dX9_withoutLane_61 rfl (Nat.zero_le _) (Nat.zero_le _) ?_
  exact ⟨V2, rfl, by rw [av_av]; rfl⟩
theorem ex_madvance_no (hm : hMo T S mo) {n : Int32} (hok : mOk A 1 = 0) : Ex Γ (d + 30) Y_X9_advance [.ref mo, .int n] (T, R, S, blk 18 I mo (st A 4 X), L, D, z) 0 0 (rI 0 (T, R, S, blk 18 I mo (st (tA A (tI A 1)) 4 X), L, D, z)) := by
  refine Ex.of (by decide) (by simp [Value.category]) (Nat.le_of_ble_eq_true rfl) rfl ?_
  refine jj_aload_n (q := 1) dX9_advance_0 rfl rfl rfl ?_
  refine jj_iload_n (q := 2) dX9_advance_1 rfl rfl rfl ?_
  refine jj_cV1i (q := 5) dX9_advance_2 yk_X9_areTicks ml_X9_421 hm.t0 (ex_areTicks_no hm hok) rfl rfl rfl ⟨Nat.zero_le _, Nat.zero_le _⟩ ?_
  refine jj_if_ne (q := 8) (tgt := 10) dX9_advance_5 rfl rfl (fun h5 => by exfalso; exact h5 rfl) (fun h5 => ?_)
  refine jj_iconst (v := 0) (q := 9) dX9_advance_8 rfl rfl ?_
  refine jj_iret dX9_advance_9 rfl (Nat.zero_le _) (Nat.zero_le _) ?_
  exact ⟨rfl, rfl⟩
theorem ex_madvance_bad (hm : hMo T S mo) {n : Int32} (hok : ¬ mOk A 1 = 0) (hg : cG X n 500 = 0) : Ex Γ (d + 30) Y_X9_advance [.ref mo, .int n] (T, R, S, blk 18 I mo (st A 4 X), L, D, z) 0 0 (rI 0 (T, R, S, blk 18 I mo (st (tA A 2) 4 X), L, D, z)) := by
  refine Ex.of (by decide) (by simp [Value.category]) (Nat.le_of_ble_eq_true rfl) rfl ?_
  refine jj_aload_n (q := 1) dX9_advance_0 rfl rfl rfl ?_
  refine jj_iload_n (q := 2) dX9_advance_1 rfl rfl rfl ?_
  refine jj_cV1i (q := 5) dX9_advance_2 yk_X9_areTicks ml_X9_421 hm.t0 (ex_areTicks hm hok) rfl rfl rfl ⟨Nat.zero_le _, Nat.zero_le _⟩ ?_
  refine jj_if_ne (q := 8) (tgt := 10) dX9_advance_5 rfl rfl (fun h5 => by exfalso; exact h5 hg) (fun h5 => ?_)
  refine jj_iconst (v := 0) (q := 9) dX9_advance_8 rfl rfl ?_
  refine jj_iret dX9_advance_9 rfl (Nat.zero_le _) (Nat.zero_le _) ?_
  exact ⟨rfl, by rw [if_pos hg]⟩
theorem ex_madvance_ok (hm : hMo T S mo) {uu : Nat} (hu : A 0 18 = nI uu) (hu6 : uu ≤ 6) {N : Nat} (hNb : N < 2 ^ 31) (hQ : mQ Q) (hA : A 2 = Q) (hn : hN A H Q) (hX : mJ Q X) {c : Nat} (hc : mC X = c) (hRJ : mI (mRun H Q N X) ∧ mC (mRun H Q N X) = c) (hok : ¬ mOk A 1 = 0) (hg : ¬ cG X (nI N) 500 = 0) : Ex Γ (d + 30) Y_X9_advance [.ref mo, .int (nI N)] (T, R, S, blk 18 I mo (st A 4 X), L, D, z) 0 0 (rIV (nI (mIn (mRun H Q N X) 10 c) - nI (mIn X 10 c)) (fun V => (T, R, S, blk 18 I mo (st (av (remA (tA A 0) X uu) V) 4 (mRun H Q N X)), L, D, z))) := by
  have e := ex_mticks (Γ := Γ) (d := d + 1) (T := T) (R := R) (S := S) (I := I) (A := remA (tA A 0) X uu) (L := L) (D := D) (z := z) (u := 4) (X := X) (V := fun _ => (remA (tA A 0) X uu) 0 28) hm u44 hQ (show (remA (tA A 0) X uu) 2 = Q from hA) (hn.cg rfl rfl rfl rfl) hX hNb
  rw [av_self] at e
  refine Ex.of (by decide) (by simp [Value.category]) (Nat.le_of_ble_eq_true rfl) rfl ?_
  refine jj_aload_n (q := 1) dX9_advance_0 rfl rfl rfl ?_
  refine jj_iload_n (q := 2) dX9_advance_1 rfl rfl rfl ?_
  refine jj_cV1i (q := 5) dX9_advance_2 yk_X9_areTicks ml_X9_421 hm.t0 (ex_areTicks hm hok) rfl rfl rfl ⟨Nat.zero_le _, Nat.zero_le _⟩ ?_
  refine jj_if_ne (q := 8) (tgt := 10) dX9_advance_5 rfl rfl (fun h5 => ?_) (fun h5 => by exfalso; exact hg h5)
  rw [if_neg hg]
  refine jj_aload_n (q := 11) dX9_advance_10 rfl rfl rfl ?_
  refine jj_cV0v (q := 14) dX9_advance_11 yk_X9_remember ml_X9_437 hm.t0 (ex_mremember hm (show (tA A _) 0 18 = nI uu from hu) hu6) rfl rfl rfl ⟨Nat.zero_le _, Nat.zero_le _⟩ ?_
  refine jj_aload_n (q := 15) dX9_advance_14 rfl rfl rfl ?_
  refine jj_getS (q := 18) dX9_advance_15 fl_X9_23 hm.t0 hm.r0_12 rfl rfl rfl ?_
  refine jj_bipush (v := 10) (q := 20) dX9_advance_18 rfl rfl ?_
  refine jj_cS2i (q := 23) dX9_advance_20 yk_X9_inState ml_X9_276 (ex_inState hm u44 hX.1 hc) rfl rfl rfl ⟨Nat.zero_le _, Nat.zero_le _⟩ ?_
  refine jj_istore_n (q := 24) dX9_advance_23 rfl (by decide) rfl ?_
  refine jj_aload_n (q := 25) dX9_advance_24 rfl rfl rfl ?_
  refine jj_aload_n (q := 26) dX9_advance_25 rfl rfl rfl ?_
  refine jj_getS (q := 29) dX9_advance_26 fl_X9_23 hm.t0 hm.r0_12 rfl rfl rfl ?_
  refine jj_iload_n (q := 30) dX9_advance_29 rfl rfl rfl ?_
  refine jj_eV2v (q := 33) dX9_advance_30 yk_X9_ticks ml_X9_418 hm.t0 e rfl rfl rfl ⟨Nat.zero_le _, Nat.zero_le _⟩ (fun V => ?_)
  refine jj_aload_n (q := 34) dX9_advance_33 rfl rfl rfl ?_
  refine jj_getS (q := 37) dX9_advance_34 fl_X9_23 hm.t0 hm.r0_12 rfl rfl rfl ?_
  refine jj_bipush (v := 10) (q := 39) dX9_advance_37 rfl rfl ?_
  refine jj_cS2i (q := 42) dX9_advance_39 yk_X9_inState ml_X9_276 (ex_inState hm u44 hRJ.1 hRJ.2) rfl rfl rfl ⟨Nat.zero_le _, Nat.zero_le _⟩ ?_
  refine jj_iload_n (q := 43) dX9_advance_42 rfl rfl rfl ?_
  refine jj_isub (q := 44) dX9_advance_43 rfl ?_
  refine jj_iret dX9_advance_44 rfl (Nat.zero_le _) (Nat.zero_le _) ?_
  exact ⟨V, rfl, rfl⟩
end M64
