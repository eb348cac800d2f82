/-! THE MODEL'S QUESTIONS -/
def inI (v lo hi : Int32) : Int32 := if v < lo then 0 else if hi < v then 0 else 1
theorem pred_lt {c : Nat} {b : Int32} (hc : c < 2 ^ 31) (h0 : ¬ b < 0) : nI c - 1 < b ↔ nI c ≤ b := by
  have hb : (0 : Int) ≤ b.toInt := by
    have := fa_of_nlt h0
    rw [fa_le, Int32.toInt_zero] at this
    exact this
  cases c with
  | zero =>
    rw [fa_lt, fa_le, nI_toInt hc, show (nI 0 - 1 : Int32).toInt = -1 from rfl]
    omega
  | succ k =>
    rw [nI_pred, fa_lt, fa_le, nI_toInt hc, nI_toInt (by omega)]
    omega
theorem in_n {c : Nat} (hc : c < 2 ^ 31) (b : Int32) : (∃ n, n < c ∧ b = nI n ∧ inI b 0 (nI c - 1) = 1 ∧ eIdx b (nI c) = 0) ∨ (inI b 0 (nI c - 1) = 0 ∧ eIdx b (nI c) = 2) := by
  unfold inI eIdx
  by_cases h0 : b < 0
  · right
    rw [if_pos h0, if_pos h0]; exact ⟨rfl, rfl⟩
  · by_cases h1 : nI c ≤ b
    · right
      rw [if_neg h0, if_pos ((pred_lt hc h0).mpr h1), if_neg h0, if_pos h1]; exact ⟨rfl, rfl⟩
    · left
      obtain ⟨n, g1, g2, _⟩ := pk_mu h0 h1 hc
      refine ⟨n, g1, g2, ?_⟩
      rw [if_neg h0, if_neg (fun q => h1 ((pred_lt hc h0).mp q)), if_neg h0, if_neg h1]; exact ⟨rfl, rfl⟩
theorem u2_bs0 {w : Nat} {I A : JI} {a u j : Nat} {X : JV} {v : Int32} (h : 0 < w) (hn : 0 ≠ u) : u2 (blk w I a (st A u X)) a j v = blk w I a (st (u2 A 0 j v) u X) := by
  rw [u2_blk0 h]
  congr 1
  funext k i
  by_cases e : k = 0
  · subst e
    rw [u2_eq, st_ne hn, st_ne hn, u2_eq]
  · rw [u2_ne e]
    unfold st
    split
    · rfl
    · rw [u2_ne e]
/-- what mayAsk notes, and answers -/
def tI (A : JI) (b : Int32) : Int32 := if A 0 19 = 0 then 1 else if b = 0 then 2 else 0
def mOk (A : JI) (b : Int32) : Int32 := if A 0 19 = 0 then 0 else if b = 0 then 0 else 1
theorem mOk_t {A : JI} {b : Int32} : (if tI A b = 0 then (1 : Int32) else 0) = mOk A b := by
  unfold tI mOk
  repeat' split
  all_goals first | rfl | contradiction
theorem mOk_n (A : JI) (b : Int32) : narrow .boolean (.int (mOk A b)) = .int (mOk A b) := by
  unfold mOk
  repeat' split
  all_goals rfl
theorem inI_n (a b c : Int32) : narrow .boolean (.int (inI a b c)) = .int (inI a b c) := by
  unfold inI
  repeat' split
  all_goals rfl
abbrev tA (A : JI) (t : Int32) : JI := u2 A 0 0 t
section M47
variable {Γ : Gam} {d : Nat} {T : JT} {R S : JR} {I A : JI} {L : JL} {D : JD} {z : Option Nat} {mo : Nat} {X : JV}
theorem u44 : (4 : Nat) ≤ 4 ∧ 4 ≤ 6 := ⟨Nat.le_refl _, by decide⟩
theorem ex_told (hm : hMo T S mo) {v : Int32} : Ex Γ (d) Y_X9_told [.ref mo, .int v] (T, R, S, blk 18 I mo (st A 4 X), L, D, z) 0 0 (rI (if A 0 19 = 0 then 0 else v) (T, R, S, blk 18 I mo (st (tA A 0) 4 X), L, D, z)) := by
  refine Ex.of (by decide) (by simp [Value.category]) (Nat.le_of_ble_eq_true rfl) rfl ?_
  refine jj_aload_n (q := 1) dX9_told_0 rfl rfl rfl ?_
  refine jj_iconst (v := 0) (q := 2) dX9_told_1 rfl rfl ?_
  refine jj_putIv (q := 5) dX9_told_2 fl_X9_82 hm.t0 (u2_bs0 (by decide) (by decide)) rfl rfl rfl rfl rfl ?_
  refine jj_aload_n (q := 6) dX9_told_5 rfl rfl rfl ?_
  refine jj_getIv (q := 9) dX9_told_6 fl_X9_250 hm.t0 (blk_s0 (by decide) (by decide)) rfl rfl ?_
  refine jj_if_eq (q := 12) (tgt := 16) dX9_told_9 rfl rfl (fun h9 => ?_) (fun h9 => ?_)
  · refine jj_iconst (v := 0) (q := 17) dX9_told_16 rfl rfl ?_
    refine jj_iret dX9_told_17 rfl (Nat.zero_le _) (Nat.zero_le _) ?_
    exact ⟨by first | rw [if_pos (show A 0 19 = 0 from h9)] | rw [if_neg (show ¬ A 0 19 = 0 from h9)], rfl⟩
  · refine jj_iload_n (q := 13) dX9_told_12 rfl rfl rfl ?_
    refine jj_goto (tgt := 17) dX9_told_13 rfl ?_
    refine jj_iret dX9_told_17 rfl (Nat.zero_le _) (Nat.zero_le _) ?_
    exact ⟨by first | rw [if_pos (show A 0 19 = 0 from h9)] | rw [if_neg (show ¬ A 0 19 = 0 from h9)], rfl⟩
theorem ex_mayAsk (hm : hMo T S mo) {b : Int32} : Ex Γ (d) Y_X9_mayAsk [.ref mo, .int b] (T, R, S, blk 18 I mo (st A 4 X), L, D, z) 0 0 (rI (mOk A b) (T, R, S, blk 18 I mo (st (tA A (tI A b)) 4 X), L, D, z)) := by
  rw [← mOk_t]
  unfold tI
  by_cases h1 : A 0 19 = 0
  · rw [if_pos h1, if_neg (by decide)]
    refine Ex.of (by decide) (by simp [Value.category]) (Nat.le_of_ble_eq_true rfl) rfl ?_
    refine jj_aload_n (q := 1) dX9_mayAsk_0 rfl rfl rfl ?_
    refine jj_aload_n (q := 2) dX9_mayAsk_1 rfl rfl rfl ?_
    refine jj_getIv (q := 5) dX9_mayAsk_2 fl_X9_250 hm.t0 (blk_s0 (by decide) (by decide)) rfl rfl ?_
    refine jj_if_ne (q := 8) (tgt := 12) dX9_mayAsk_5 rfl rfl (fun h5 => by exfalso; exact h5 h1) (fun h5 => ?_)
    refine jj_iconst (v := 1) (q := 9) dX9_mayAsk_8 rfl rfl ?_
    refine jj_goto (tgt := 21) dX9_mayAsk_9 rfl ?_
    refine jj_putIv (q := 24) dX9_mayAsk_21 fl_X9_82 hm.t0 (u2_bs0 (by decide) (by decide)) rfl rfl rfl rfl rfl ?_
    refine jj_aload_n (q := 25) dX9_mayAsk_24 rfl rfl rfl ?_
    refine jj_getIv (q := 28) dX9_mayAsk_25 fl_X9_82 hm.t0 (blk_s0 (by decide) (by decide)) rfl rfl ?_
    refine jj_if_ne (q := 31) (tgt := 35) dX9_mayAsk_28 rfl rfl (fun h28 => ?_) (fun h28 => by exfalso; exact absurd (show (1 : Int32) = 0 from h28) (by decide))
    refine jj_iconst (v := 0) (q := 36) dX9_mayAsk_35 rfl rfl ?_
    refine jj_zret dX9_mayAsk_36 rfl rfl (Nat.zero_le _) (Nat.zero_le _) ?_
    exact ⟨rfl, rfl⟩
  · by_cases h2 : b = 0
    · rw [if_neg h1, if_pos h2, if_neg (by decide)]
      refine Ex.of (by decide) (by simp [Value.category]) (Nat.le_of_ble_eq_true rfl) rfl ?_
      refine jj_aload_n (q := 1) dX9_mayAsk_0 rfl rfl rfl ?_
      refine jj_aload_n (q := 2) dX9_mayAsk_1 rfl rfl rfl ?_
      refine jj_getIv (q := 5) dX9_mayAsk_2 fl_X9_250 hm.t0 (blk_s0 (by decide) (by decide)) rfl rfl ?_
      refine jj_if_ne (q := 8) (tgt := 12) dX9_mayAsk_5 rfl rfl (fun h5 => ?_) (fun h5 => by exfalso; exact h1 h5)
      refine jj_iload_n (q := 13) dX9_mayAsk_12 rfl rfl rfl ?_
      refine jj_if_eq (q := 16) (tgt := 20) dX9_mayAsk_13 rfl rfl (fun h13 => ?_) (fun h13 => absurd (h2) h13)
      refine jj_iconst (v := 2) (q := 21) dX9_mayAsk_20 rfl rfl ?_
      refine jj_putIv (q := 24) dX9_mayAsk_21 fl_X9_82 hm.t0 (u2_bs0 (by decide) (by decide)) rfl rfl rfl rfl rfl ?_
      refine jj_aload_n (q := 25) dX9_mayAsk_24 rfl rfl rfl ?_
      refine jj_getIv (q := 28) dX9_mayAsk_25 fl_X9_82 hm.t0 (blk_s0 (by decide) (by decide)) rfl rfl ?_
      refine jj_if_ne (q := 31) (tgt := 35) dX9_mayAsk_28 rfl rfl (fun h28 => ?_) (fun h28 => by exfalso; exact absurd (show (2 : Int32) = 0 from h28) (by decide))
      refine jj_iconst (v := 0) (q := 36) dX9_mayAsk_35 rfl rfl ?_
      refine jj_zret dX9_mayAsk_36 rfl rfl (Nat.zero_le _) (Nat.zero_le _) ?_
      exact ⟨rfl, rfl⟩
    · rw [if_neg h1, if_neg h2, if_pos rfl]
      refine Ex.of (by decide) (by simp [Value.category]) (Nat.le_of_ble_eq_true rfl) rfl ?_
      refine jj_aload_n (q := 1) dX9_mayAsk_0 rfl rfl rfl ?_
      refine jj_aload_n (q := 2) dX9_mayAsk_1 rfl rfl rfl ?_
      refine jj_getIv (q := 5) dX9_mayAsk_2 fl_X9_250 hm.t0 (blk_s0 (by decide) (by decide)) rfl rfl ?_
      refine jj_if_ne (q := 8) (tgt := 12) dX9_mayAsk_5 rfl rfl (fun h5 => ?_) (fun h5 => by exfalso; exact h1 h5)
      refine jj_iload_n (q := 13) dX9_mayAsk_12 rfl rfl rfl ?_
      refine jj_if_eq (q := 16) (tgt := 20) dX9_mayAsk_13 rfl rfl (fun h13 => absurd h13 (h2)) (fun h13 => ?_)
      refine jj_iconst (v := 0) (q := 17) dX9_mayAsk_16 rfl rfl ?_
      refine jj_goto (tgt := 21) dX9_mayAsk_17 rfl ?_
      refine jj_putIv (q := 24) dX9_mayAsk_21 fl_X9_82 hm.t0 (u2_bs0 (by decide) (by decide)) rfl rfl rfl rfl rfl ?_
      refine jj_aload_n (q := 25) dX9_mayAsk_24 rfl rfl rfl ?_
      refine jj_getIv (q := 28) dX9_mayAsk_25 fl_X9_82 hm.t0 (blk_s0 (by decide) (by decide)) rfl rfl ?_
      refine jj_if_ne (q := 31) (tgt := 35) dX9_mayAsk_28 rfl rfl (fun h28 => by exfalso; exact h28 rfl) (fun h28 => ?_)
      refine jj_iconst (v := 1) (q := 32) dX9_mayAsk_31 rfl rfl ?_
      refine jj_goto (tgt := 36) dX9_mayAsk_32 rfl ?_
      refine jj_zret dX9_mayAsk_36 rfl rfl (Nat.zero_le _) (Nat.zero_le _) ?_
      exact ⟨rfl, rfl⟩
theorem ex_throwsAt (hm : hMo T S mo) {w : Int32} : Ex Γ (d) Y_X9_throwsAt [.ref mo, .int w] (T, R, S, blk 18 I mo (st A 4 X), L, D, z) 0 0 (rI 0 (T, R, S, blk 18 I mo (st (tA A w) 4 X), L, D, z)) := by
  refine Ex.of (by decide) (by simp [Value.category]) (Nat.le_of_ble_eq_true rfl) rfl ?_
  refine jj_aload_n (q := 1) dX9_throwsAt_0 rfl rfl rfl ?_
  refine jj_iload_n (q := 2) dX9_throwsAt_1 rfl rfl rfl ?_
  refine jj_putIv (q := 5) dX9_throwsAt_2 fl_X9_82 hm.t0 (u2_bs0 (by decide) (by decide)) rfl rfl rfl rfl rfl ?_
  refine jj_iconst (v := 0) (q := 6) dX9_throwsAt_5 rfl rfl ?_
  refine jj_iret dX9_throwsAt_6 rfl (Nat.zero_le _) (Nat.zero_le _) ?_
  exact ⟨rfl, rfl⟩
theorem ex_inI {v lo hi : Int32} {M : JM} : Ex Γ (d) Y_X9_in [.int v, .int lo, .int hi] M 0 0 (rI (inI v lo hi) M) := ex_min
theorem ex_mtime (hm : hMo T S mo)  : Ex Γ (d + 1) Y_X9_time [.ref mo] (T, R, S, blk 18 I mo (st A 4 X), L, D, z) 0 0 (rI (if A 0 19 = 0 then 0 else X 0) (T, R, S, blk 18 I mo (st (tA A 0) 4 X), L, D, z)) := by
  refine Ex.of (by decide) (by simp [Value.category]) (Nat.le_of_ble_eq_true rfl) rfl ?_
  refine jj_aload_n (q := 1) dX9_time_0 rfl rfl rfl ?_
  refine jj_aload_n (q := 2) dX9_time_1 rfl rfl rfl ?_
  refine jj_getS (q := 5) dX9_time_2 fl_X9_23 hm.t0 hm.r0_12 rfl rfl rfl ?_
  refine jj_iconst (v := 0) (q := 6) dX9_time_5 rfl rfl ?_
  refine jj_ialdN (q := 7) (j := 0) dX9_time_6 hm.t4 (blk_st (by decide)) rfl (by omega) rfl ?_
  refine jj_cV1i (q := 10) dX9_time_7 yk_X9_told ml_X9_347 hm.t0 (ex_told hm) rfl rfl rfl ⟨Nat.zero_le _, Nat.zero_le _⟩ ?_
  refine jj_iret dX9_time_10 rfl (Nat.zero_le _) (Nat.zero_le _) ?_
  exact ⟨rfl, rfl⟩
theorem ex_mbags (hm : hMo T S mo)  : Ex Γ (d + 1) Y_X9_bags [.ref mo] (T, R, S, blk 18 I mo (st A 4 X), L, D, z) 0 0 (rI (if A 0 19 = 0 then 0 else X 2) (T, R, S, blk 18 I mo (st (tA A 0) 4 X), L, D, z)) := by
  refine Ex.of (by decide) (by simp [Value.category]) (Nat.le_of_ble_eq_true rfl) rfl ?_
  refine jj_aload_n (q := 1) dX9_bags_0 rfl rfl rfl ?_
  refine jj_aload_n (q := 2) dX9_bags_1 rfl rfl rfl ?_
  refine jj_getS (q := 5) dX9_bags_2 fl_X9_23 hm.t0 hm.r0_12 rfl rfl rfl ?_
  refine jj_iconst (v := 2) (q := 6) dX9_bags_5 rfl rfl ?_
  refine jj_ialdN (q := 7) (j := 2) dX9_bags_6 hm.t4 (blk_st (by decide)) rfl (by omega) rfl ?_
  refine jj_cV1i (q := 10) dX9_bags_7 yk_X9_told ml_X9_347 hm.t0 (ex_told hm) rfl rfl rfl ⟨Nat.zero_le _, Nat.zero_le _⟩ ?_
  refine jj_iret dX9_bags_10 rfl (Nat.zero_le _) (Nat.zero_le _) ?_
  exact ⟨rfl, rfl⟩
theorem ex_mstoppedUntil (hm : hMo T S mo)  : Ex Γ (d + 1) Y_X9_stoppedUntil [.ref mo] (T, R, S, blk 18 I mo (st A 4 X), L, D, z) 0 0 (rI (if A 0 19 = 0 then 0 else X 2085) (T, R, S, blk 18 I mo (st (tA A 0) 4 X), L, D, z)) := by
  refine Ex.of (by decide) (by simp [Value.category]) (Nat.le_of_ble_eq_true rfl) rfl ?_
  refine jj_aload_n (q := 1) dX9_stoppedUntil_0 rfl rfl rfl ?_
  refine jj_aload_n (q := 2) dX9_stoppedUntil_1 rfl rfl rfl ?_
  refine jj_getS (q := 5) dX9_stoppedUntil_2 fl_X9_23 hm.t0 hm.r0_12 rfl rfl rfl ?_
  refine jj_sipush (v := 2085) (q := 8) dX9_stoppedUntil_5 rfl rfl ?_
  refine jj_ialdN (q := 9) (j := 2085) dX9_stoppedUntil_8 hm.t4 (blk_st (by decide)) rfl (by omega) rfl ?_
  refine jj_cV1i (q := 12) dX9_stoppedUntil_9 yk_X9_told ml_X9_347 hm.t0 (ex_told hm) rfl rfl rfl ⟨Nat.zero_le _, Nat.zero_le _⟩ ?_
  refine jj_iret dX9_stoppedUntil_12 rfl (Nat.zero_le _) (Nat.zero_le _) ?_
  exact ⟨rfl, rfl⟩
theorem ex_mevents (hm : hMo T S mo)  : Ex Γ (d + 1) Y_X9_events [.ref mo] (T, R, S, blk 18 I mo (st A 4 X), L, D, z) 0 0 (rI (if A 0 19 = 0 then 0 else X 3) (T, R, S, blk 18 I mo (st (tA A 0) 4 X), L, D, z)) := by
  refine Ex.of (by decide) (by simp [Value.category]) (Nat.le_of_ble_eq_true rfl) rfl ?_
  refine jj_aload_n (q := 1) dX9_events_0 rfl rfl rfl ?_
  refine jj_aload_n (q := 2) dX9_events_1 rfl rfl rfl ?_
  refine jj_getS (q := 5) dX9_events_2 fl_X9_23 hm.t0 hm.r0_12 rfl rfl rfl ?_
  refine jj_iconst (v := 3) (q := 6) dX9_events_5 rfl rfl ?_
  refine jj_ialdN (q := 7) (j := 3) dX9_events_6 hm.t4 (blk_st (by decide)) rfl (by omega) rfl ?_
  refine jj_cV1i (q := 10) dX9_events_7 yk_X9_told ml_X9_347 hm.t0 (ex_told hm) rfl rfl rfl ⟨Nat.zero_le _, Nat.zero_le _⟩ ?_
  refine jj_iret dX9_events_10 rfl (Nat.zero_le _) (Nat.zero_le _) ?_
  exact ⟨rfl, rfl⟩
theorem ex_mflights (hm : hMo T S mo)  : Ex Γ (d + 1) Y_X9_flights [.ref mo] (T, R, S, blk 18 I mo (st A 4 X), L, D, z) 0 0 (rI (if A 0 19 = 0 then 0 else A 2 12) (T, R, S, blk 18 I mo (st (tA A 0) 4 X), L, D, z)) := by
  refine Ex.of (by decide) (by simp [Value.category]) (Nat.le_of_ble_eq_true rfl) rfl ?_
  refine jj_aload_n (q := 1) dX9_flights_0 rfl rfl rfl ?_
  refine jj_aload_n (q := 2) dX9_flights_1 rfl rfl rfl ?_
  refine jj_getS (q := 5) dX9_flights_2 fl_X9_17 hm.t0 hm.r0_10 rfl rfl rfl ?_
  refine jj_bipush (v := 12) (q := 7) dX9_flights_5 rfl rfl ?_
  refine jj_ialdN (q := 8) (j := 12) dX9_flights_7 hm.t2 (blk_sn (by decide) (by decide)) rfl (by omega) rfl ?_
  refine jj_cV1i (q := 11) dX9_flights_8 yk_X9_told ml_X9_347 hm.t0 (ex_told hm) rfl rfl rfl ⟨Nat.zero_le _, Nat.zero_le _⟩ ?_
  refine jj_iret dX9_flights_11 rfl (Nat.zero_le _) (Nat.zero_le _) ?_
  exact ⟨rfl, rfl⟩
theorem ex_mlanes (hm : hMo T S mo)  : Ex Γ (d + 1) Y_X9_lanes [.ref mo] (T, R, S, blk 18 I mo (st A 4 X), L, D, z) 0 0 (rI (if A 0 19 = 0 then 0 else A 2 13) (T, R, S, blk 18 I mo (st (tA A 0) 4 X), L, D, z)) := by
  refine Ex.of (by decide) (by simp [Value.category]) (Nat.le_of_ble_eq_true rfl) rfl ?_
  refine jj_aload_n (q := 1) dX9_lanes_0 rfl rfl rfl ?_
  refine jj_aload_n (q := 2) dX9_lanes_1 rfl rfl rfl ?_
  refine jj_getS (q := 5) dX9_lanes_2 fl_X9_17 hm.t0 hm.r0_10 rfl rfl rfl ?_
  refine jj_bipush (v := 13) (q := 7) dX9_lanes_5 rfl rfl ?_
  refine jj_ialdN (q := 8) (j := 13) dX9_lanes_7 hm.t2 (blk_sn (by decide) (by decide)) rfl (by omega) rfl ?_
  refine jj_cV1i (q := 11) dX9_lanes_8 yk_X9_told ml_X9_347 hm.t0 (ex_told hm) rfl rfl rfl ⟨Nat.zero_le _, Nat.zero_le _⟩ ?_
  refine jj_iret dX9_lanes_11 rfl (Nat.zero_le _) (Nat.zero_le _) ?_
  exact ⟨rfl, rfl⟩
theorem ex_mkeeps (hm : hMo T S mo)  : Ex Γ (d + 1) Y_X9_keeps [.ref mo] (T, R, S, blk 18 I mo (st A 4 X), L, D, z) 0 0 (rI (if A 0 19 = 0 then 0 else A 2 14) (T, R, S, blk 18 I mo (st (tA A 0) 4 X), L, D, z)) := by
  refine Ex.of (by decide) (by simp [Value.category]) (Nat.le_of_ble_eq_true rfl) rfl ?_
  refine jj_aload_n (q := 1) dX9_keeps_0 rfl rfl rfl ?_
  refine jj_aload_n (q := 2) dX9_keeps_1 rfl rfl rfl ?_
  refine jj_getS (q := 5) dX9_keeps_2 fl_X9_17 hm.t0 hm.r0_10 rfl rfl rfl ?_
  refine jj_bipush (v := 14) (q := 7) dX9_keeps_5 rfl rfl ?_
  refine jj_ialdN (q := 8) (j := 14) dX9_keeps_7 hm.t2 (blk_sn (by decide) (by decide)) rfl (by omega) rfl ?_
  refine jj_cV1i (q := 11) dX9_keeps_8 yk_X9_told ml_X9_347 hm.t0 (ex_told hm) rfl rfl rfl ⟨Nat.zero_le _, Nat.zero_le _⟩ ?_
  refine jj_iret dX9_keeps_11 rfl (Nat.zero_le _) (Nat.zero_le _) ?_
  exact ⟨rfl, rfl⟩
theorem ex_mloopLoad (hm : hMo T S mo) (hX : mI X) : Ex Γ (d + 1) Y_X9_loopLoad [.ref mo] (T, R, S, blk 18 I mo (st A 4 X), L, D, z) 0 0 (rI (if A 0 19 = 0 then 0 else nI (mIn X 8 (mC X))) (T, R, S, blk 18 I mo (st (tA A 0) 4 X), L, D, z)) := by
  refine Ex.of (by decide) (by simp [Value.category]) (Nat.le_of_ble_eq_true rfl) rfl ?_
  refine jj_aload_n (q := 1) dX9_loopLoad_0 rfl rfl rfl ?_
  refine jj_aload_n (q := 2) dX9_loopLoad_1 rfl rfl rfl ?_
  refine jj_getS (q := 5) dX9_loopLoad_2 fl_X9_23 hm.t0 hm.r0_12 rfl rfl rfl ?_
  refine jj_bipush (v := 8) (q := 7) dX9_loopLoad_5 rfl rfl ?_
  refine jj_cS2i (q := 10) dX9_loopLoad_7 yk_X9_inState ml_X9_276 (ex_inState hm u44 hX rfl) rfl rfl rfl ⟨Nat.zero_le _, Nat.zero_le _⟩ ?_
  refine jj_cV1i (q := 13) dX9_loopLoad_10 yk_X9_told ml_X9_347 hm.t0 (ex_told hm) rfl rfl rfl ⟨Nat.zero_le _, Nat.zero_le _⟩ ?_
  refine jj_iret dX9_loopLoad_13 rfl (Nat.zero_le _) (Nat.zero_le _) ?_
  exact ⟨rfl, rfl⟩
theorem ex_isBag (hm : hMo T S mo) {b : Int32} : Ex Γ (d + 1) Y_X9_isBag [.ref mo, .int b] (T, R, S, blk 18 I mo (st A 4 X), L, D, z) 0 0 (rI (inI b 0 (X 2 - 1)) (T, R, S, blk 18 I mo (st A 4 X), L, D, z)) := by
  refine Ex.of (by decide) (by simp [Value.category]) (Nat.le_of_ble_eq_true rfl) rfl ?_
  refine jj_iload_n (q := 1) dX9_isBag_0 rfl rfl rfl ?_
  refine jj_iconst (v := 0) (q := 2) dX9_isBag_1 rfl rfl ?_
  refine jj_aload_n (q := 3) dX9_isBag_2 rfl rfl rfl ?_
  refine jj_getS (q := 6) dX9_isBag_3 fl_X9_23 hm.t0 hm.r0_12 rfl rfl rfl ?_
  refine jj_iconst (v := 2) (q := 7) dX9_isBag_6 rfl rfl ?_
  refine jj_ialdN (q := 8) (j := 2) dX9_isBag_7 hm.t4 (blk_st (by decide)) rfl (by omega) rfl ?_
  refine jj_iconst (v := 1) (q := 9) dX9_isBag_8 rfl rfl ?_
  refine jj_isub (q := 10) dX9_isBag_9 rfl ?_
  refine jj_cS3i (q := 13) dX9_isBag_10 yk_X9_in ml_X9_111 ex_inI rfl rfl rfl ⟨Nat.zero_le _, Nat.zero_le _⟩ ?_
  refine jj_zret dX9_isBag_13 rfl (inI_n _ _ _) (Nat.zero_le _) (Nat.zero_le _) ?_
  exact ⟨rfl, rfl⟩
theorem ex_isFlight (hm : hMo T S mo) {b : Int32} : Ex Γ (d + 1) Y_X9_isFlight [.ref mo, .int b] (T, R, S, blk 18 I mo (st A 4 X), L, D, z) 0 0 (rI (inI b 0 (A 2 12 - 1)) (T, R, S, blk 18 I mo (st A 4 X), L, D, z)) := by
  refine Ex.of (by decide) (by simp [Value.category]) (Nat.le_of_ble_eq_true rfl) rfl ?_
  refine jj_iload_n (q := 1) dX9_isFlight_0 rfl rfl rfl ?_
  refine jj_iconst (v := 0) (q := 2) dX9_isFlight_1 rfl rfl ?_
  refine jj_aload_n (q := 3) dX9_isFlight_2 rfl rfl rfl ?_
  refine jj_getS (q := 6) dX9_isFlight_3 fl_X9_17 hm.t0 hm.r0_10 rfl rfl rfl ?_
  refine jj_bipush (v := 12) (q := 8) dX9_isFlight_6 rfl rfl ?_
  refine jj_ialdN (q := 9) (j := 12) dX9_isFlight_8 hm.t2 (blk_sn (by decide) (by decide)) rfl (by omega) rfl ?_
  refine jj_iconst (v := 1) (q := 10) dX9_isFlight_9 rfl rfl ?_
  refine jj_isub (q := 11) dX9_isFlight_10 rfl ?_
  refine jj_cS3i (q := 14) dX9_isFlight_11 yk_X9_in ml_X9_111 ex_inI rfl rfl rfl ⟨Nat.zero_le _, Nat.zero_le _⟩ ?_
  refine jj_zret dX9_isFlight_14 rfl (inI_n _ _ _) (Nat.zero_le _) (Nat.zero_le _) ?_
  exact ⟨rfl, rfl⟩
theorem ex_isLane (hm : hMo T S mo) {b : Int32} : Ex Γ (d + 1) Y_X9_isLane [.ref mo, .int b] (T, R, S, blk 18 I mo (st A 4 X), L, D, z) 0 0 (rI (inI b 0 (A 2 13 - 1)) (T, R, S, blk 18 I mo (st A 4 X), L, D, z)) := by
  refine Ex.of (by decide) (by simp [Value.category]) (Nat.le_of_ble_eq_true rfl) rfl ?_
  refine jj_iload_n (q := 1) dX9_isLane_0 rfl rfl rfl ?_
  refine jj_iconst (v := 0) (q := 2) dX9_isLane_1 rfl rfl ?_
  refine jj_aload_n (q := 3) dX9_isLane_2 rfl rfl rfl ?_
  refine jj_getS (q := 6) dX9_isLane_3 fl_X9_17 hm.t0 hm.r0_10 rfl rfl rfl ?_
  refine jj_bipush (v := 13) (q := 8) dX9_isLane_6 rfl rfl ?_
  refine jj_ialdN (q := 9) (j := 13) dX9_isLane_8 hm.t2 (blk_sn (by decide) (by decide)) rfl (by omega) rfl ?_
  refine jj_iconst (v := 1) (q := 10) dX9_isLane_9 rfl rfl ?_
  refine jj_isub (q := 11) dX9_isLane_10 rfl ?_
  refine jj_cS3i (q := 14) dX9_isLane_11 yk_X9_in ml_X9_111 ex_inI rfl rfl rfl ⟨Nat.zero_le _, Nat.zero_le _⟩ ?_
  refine jj_zret dX9_isLane_14 rfl (inI_n _ _ _) (Nat.zero_le _) (Nat.zero_le _) ?_
  exact ⟨rfl, rfl⟩
theorem mOk_0 {A : JI} : mOk A 0 = 0 := by unfold mOk; rw [if_pos rfl, ite_self]
theorem ex_ofBag (hm : hMo T S mo) (hX : mI X) {b : Int32} {row : Nat} (hr : row + 100 ≤ 2086) : Ex Γ (d + 2) Y_X9_ofBag [.ref mo, .int b, .int (nI row)] (T, R, S, blk 18 I mo (st A 4 X), L, D, z) 0 0 (rI (if mOk A (inI b 0 (X 2 - 1)) = 0 then 0 else X (row + nN b)) (T, R, S, blk 18 I mo (st (tA A (tI A (inI b 0 (X 2 - 1)))) 4 X), L, D, z)) := by
  have hc := hX.c
  have hcc : X 2 = nI (mC X) := hc.1
  rcases in_n (c := mC X) (by omega) b with ⟨n, hn, rfl, hi, he⟩ | ⟨hi, he⟩
  · skip
    refine Ex.of (by decide) (by simp [Value.category]) (Nat.le_of_ble_eq_true rfl) rfl ?_
    refine jj_aload_n (q := 1) dX9_ofBag_0 rfl rfl rfl ?_
    refine jj_aload_n (q := 2) dX9_ofBag_1 rfl rfl rfl ?_
    refine jj_iload_n (q := 3) dX9_ofBag_2 rfl rfl rfl ?_
    refine jj_cV1i (q := 6) dX9_ofBag_3 yk_X9_isBag ml_X9_350 hm.t0 (ex_isBag hm) rfl rfl rfl ⟨Nat.zero_le _, Nat.zero_le _⟩ ?_
    refine jj_cV1i (q := 9) dX9_ofBag_6 yk_X9_mayAsk ml_X9_353 hm.t0 (ex_mayAsk hm) rfl rfl rfl ⟨Nat.zero_le _, Nat.zero_le _⟩ ?_
    refine jj_if_eq (q := 12) (tgt := 23) dX9_ofBag_9 rfl rfl (fun h9 => ?_) (fun h9 => ?_)
    · refine jj_iconst (v := 0) (q := 24) dX9_ofBag_23 rfl rfl ?_
      refine jj_iret dX9_ofBag_24 rfl (Nat.zero_le _) (Nat.zero_le _) ?_
      exact ⟨by rw [nN_nI (by omega)]; (first | rw [if_pos h9] | rw [if_neg h9] | skip), rfl⟩
    · refine jj_aload_n (q := 13) dX9_ofBag_12 rfl rfl rfl ?_
      refine jj_getS (q := 16) dX9_ofBag_13 fl_X9_23 hm.t0 hm.r0_12 rfl rfl rfl ?_
      refine jj_iload_n (q := 17) dX9_ofBag_16 rfl rfl rfl ?_
      refine jj_iload_n (q := 18) dX9_ofBag_17 rfl rfl rfl ?_
      refine jj_iaddN (q := 19) (a := row) (b := n) dX9_ofBag_18 rfl rfl rfl ?_
      refine jj_ialdN (q := 20) (j := row + n) dX9_ofBag_19 hm.t4 (blk_st (by decide)) rfl (by omega) rfl ?_
      refine jj_goto (tgt := 24) dX9_ofBag_20 rfl ?_
      refine jj_iret dX9_ofBag_24 rfl (Nat.zero_le _) (Nat.zero_le _) ?_
      exact ⟨by rw [nN_nI (by omega)]; (first | rw [if_pos h9] | rw [if_neg h9] | skip), rfl⟩
  · have hz : mOk A (inI b 0 (X 2 - 1)) = 0 := by rw [hcc, hi]; exact mOk_0
    refine Ex.of (by decide) (by simp [Value.category]) (Nat.le_of_ble_eq_true rfl) rfl ?_
    refine jj_aload_n (q := 1) dX9_ofBag_0 rfl rfl rfl ?_
    refine jj_aload_n (q := 2) dX9_ofBag_1 rfl rfl rfl ?_
    refine jj_iload_n (q := 3) dX9_ofBag_2 rfl rfl rfl ?_
    refine jj_cV1i (q := 6) dX9_ofBag_3 yk_X9_isBag ml_X9_350 hm.t0 (ex_isBag hm) rfl rfl rfl ⟨Nat.zero_le _, Nat.zero_le _⟩ ?_
    refine jj_cV1i (q := 9) dX9_ofBag_6 yk_X9_mayAsk ml_X9_353 hm.t0 (ex_mayAsk hm) rfl rfl rfl ⟨Nat.zero_le _, Nat.zero_le _⟩ ?_
    refine jj_if_eq (q := 12) (tgt := 23) dX9_ofBag_9 rfl rfl (fun h9 => ?_) (fun h9 => absurd (hz) h9)
    refine jj_iconst (v := 0) (q := 24) dX9_ofBag_23 rfl rfl ?_
    refine jj_iret dX9_ofBag_24 rfl (Nat.zero_le _) (Nat.zero_le _) ?_
    exact ⟨by rw [if_pos hz], rfl⟩
end M47
