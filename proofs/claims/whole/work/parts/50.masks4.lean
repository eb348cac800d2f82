/-! THE MODEL'S QUESTIONS, 4 -/
theorem mac_c {A : JI} {lv m : Int32} (hq : ∀ k, k < 3 → nB 5 (A 2 (3 + k))) (h : ¬ mac A lv m = 0) : ∃ q n, lv = nI (q + 1) ∧ m = nI n ∧ q < 3 ∧ n < nN (A 2 (3 + q)) ∧ n < 4 := by
  unfold mac at h
  rcases in_lh (lo := 1) (hi := 3) (by omega) (by omega) lv with ⟨q, h1, h3, rfl, hi, he⟩ | ⟨hi, he⟩
  · rw [if_neg (by rw [show inI (nI q) 1 3 = 1 from hi]; decide), nN_nI (by omega)] at h
    have hk := hq (q - 1) (by omega)
    rw [show 3 + (q - 1) = 2 + q by omega] at hk
    rw [hk.1] at h
    rcases in_n (c := nN (A 2 (2 + q))) (by have := hk.2; omega) m with ⟨n, g1, rfl, g2, g3⟩ | ⟨g2, g3⟩
    · refine ⟨q - 1, n, by rw [show q - 1 + 1 = q by omega], rfl, by omega, ?_, by have := hk.2; omega⟩
      rw [show 3 + (q - 1) = 2 + q by omega]; exact g1
    · exact absurd g2 h
  · exact absurd (if_pos (show inI lv 1 3 = 0 from hi)) h
def aL (A : JI) (X : JV) (l x : Int32) : Int32 := if inI l 0 (A 2 13 - 1) = 0 then 0 else if inI x 0 (X (21 + nN l) - 1) = 0 then 0 else 1
def lF (X : JV) (b : Nat) (f : Int32) : Int32 := if X (173 + b) = f then (if X (373 + b) = 10 then 1 else 0) else 0
def tk_ (X : JV) (b : Nat) : Int32 := X (773 + b) - X (273 + b)
def pBe (X : JV) (f : Int32) (b : Nat) : Nat → Bool := fun o => decide (¬ lF X o f = 0 ∧ tk_ X o < tk_ X b)
def pUp (X : JV) (f : Int32) (b : Nat) : Nat → Bool := fun o => decide (¬ lF X o f = 0 ∧ tk_ X o ≤ tk_ X b)
def wnt (X : JV) (f x : Int32) (c : Nat) : Int32 := (x * nI (fb_ct (pB X f 10 10) c) + 99) / 100
def pPc (X : JV) (f w : Int32) (c : Nat) : Nat → Bool := fun b => decide (¬ lF X b f = 0 ∧ nI (fb_ct (pBe X f b) c) < w ∧ w ≤ nI (fb_ct (pUp X f b) c))
def cB (X : JV) (c : Nat) (f lo hi : Int32) : Int32 := nI (fb_ct (pB X f lo hi) c)
def wS (X : JV) (c : Nat) (a b : Int32) : Int32 := if cB X c a 11 11 - cB X c b 11 11 = 0 then (if cB X c a 0 9 - cB X c b 0 9 = 0 then (if b ≤ a then 0 else 1) else if cB X c a 0 9 - cB X c b 0 9 ≤ 0 then 0 else 1) else if cB X c a 11 11 - cB X c b 11 11 ≤ 0 then 0 else 1
def pWo (X : JV) (c f : Nat) : Nat → Bool := fun o => decide (¬ nI o = nI f ∧ ¬ wS X c (nI o) (nI f) = 0)
def vEm (X : JV) (n w : Int32) : Int32 := X (873 + 4 * nN n + nN w)
theorem ct_m {p : Nat → Bool} {i n : Nat} (h : n = fb_ct p i) (hp : p i = false) : n = fb_ct p (i + 1) := ct_n h hp
section M50
variable {Γ : Gam} {d : Nat} {T : JT} {R S : JR} {I A : JI} {L : JL} {D : JD} {z : Option Nat} {mo : Nat} {X : JV}
theorem ex_isMachine (hm : hMo T S mo) {lv m : Int32} : Ex Γ (d + 1) Y_X9_isMachine [.ref mo, .int lv, .int m] (T, R, S, blk 18 I mo (st A 4 X), L, D, z) 0 0 (rI (mac A lv m) (T, R, S, blk 18 I mo (st A 4 X), L, D, z)) := by
  unfold mac
  rcases in_lh (lo := 1) (hi := 3) (by omega) (by omega) lv with ⟨q, h1, h3, rfl, hi, he⟩ | ⟨hi, he⟩
  · have hi : inI (nI q) 1 3 = 1 := hi
    rw [if_neg (by rw [hi]; decide), nN_nI (by omega)]
    refine Ex.of (by decide) (by simp [Value.category]) (Nat.le_of_ble_eq_true rfl) rfl ?_
    refine jj_iload_n (q := 1) dX9_isMachine_0 rfl rfl rfl ?_
    refine jj_iconst (v := 1) (q := 2) dX9_isMachine_1 rfl rfl ?_
    refine jj_iconst (v := 3) (q := 3) dX9_isMachine_2 rfl rfl ?_
    refine jj_cS3i (q := 6) dX9_isMachine_3 yk_X9_in ml_X9_111 ex_inI rfl rfl rfl ⟨Nat.zero_le _, Nat.zero_le _⟩ ?_
    refine jj_if_eq (q := 9) (tgt := 33) dX9_isMachine_6 rfl rfl (fun h6 => by exfalso; rw [hi] at h6; exact absurd h6 (by decide)) (fun h6 => ?_)
    refine jj_iload_n (q := 10) dX9_isMachine_9 rfl rfl rfl ?_
    refine jj_iconst (v := 0) (q := 11) dX9_isMachine_10 rfl rfl ?_
    refine jj_aload_n (q := 12) dX9_isMachine_11 rfl rfl rfl ?_
    refine jj_getS (q := 15) dX9_isMachine_12 fl_X9_17 hm.t0 hm.r0_10 rfl rfl rfl ?_
    refine jj_iconst (v := 3) (q := 16) dX9_isMachine_15 rfl rfl ?_
    refine jj_iload_n (q := 17) dX9_isMachine_16 rfl rfl rfl ?_
    refine jj_iaddN (q := 18) (a := 3) (b := q) dX9_isMachine_17 rfl rfl rfl ?_
    refine jj_iconst (v := 1) (q := 19) dX9_isMachine_18 rfl rfl ?_
    refine jj_isubN (q := 20) (e := 2 + q) (a := 3 + q) (b := 1) dX9_isMachine_19 rfl rfl (by omega) rfl ?_
    refine jj_ialdN (q := 21) (j := 2 + q) dX9_isMachine_20 hm.t2 (blk_sn (by decide) (by decide)) rfl (by omega) rfl ?_
    refine jj_iconst (v := 1) (q := 22) dX9_isMachine_21 rfl rfl ?_
    refine jj_isub (q := 23) dX9_isMachine_22 rfl ?_
    refine jj_cS3i (q := 26) dX9_isMachine_23 yk_X9_in ml_X9_111 ex_inI rfl rfl rfl ⟨Nat.zero_le _, Nat.zero_le _⟩ ?_
    refine jj_if_eq (q := 29) (tgt := 33) dX9_isMachine_26 rfl rfl (fun h26 => ?_) (fun h26 => ?_)
    · refine jj_iconst (v := 0) (q := 34) dX9_isMachine_33 rfl rfl ?_
      refine jj_zret dX9_isMachine_34 rfl (by first | rfl | assumption) (Nat.zero_le _) (Nat.zero_le _) ?_
      exact ⟨by rw [h26], rfl⟩
    · refine jj_iconst (v := 1) (q := 30) dX9_isMachine_29 rfl rfl ?_
      refine jj_goto (tgt := 34) dX9_isMachine_30 rfl ?_
      refine jj_zret dX9_isMachine_34 rfl (by first | rfl | assumption) (Nat.zero_le _) (Nat.zero_le _) ?_
      exact ⟨by rw [inI_1 h26], rfl⟩
  · have hi : inI lv 1 3 = 0 := hi
    rw [if_pos hi]
    refine Ex.of (by decide) (by simp [Value.category]) (Nat.le_of_ble_eq_true rfl) rfl ?_
    refine jj_iload_n (q := 1) dX9_isMachine_0 rfl rfl rfl ?_
    refine jj_iconst (v := 1) (q := 2) dX9_isMachine_1 rfl rfl ?_
    refine jj_iconst (v := 3) (q := 3) dX9_isMachine_2 rfl rfl ?_
    refine jj_cS3i (q := 6) dX9_isMachine_3 yk_X9_in ml_X9_111 ex_inI rfl rfl rfl ⟨Nat.zero_le _, Nat.zero_le _⟩ ?_
    refine jj_if_eq (q := 9) (tgt := 33) dX9_isMachine_6 rfl rfl (fun h6 => ?_) (fun h6 => absurd (hi) h6)
    refine jj_iconst (v := 0) (q := 34) dX9_isMachine_33 rfl rfl ?_
    refine jj_zret dX9_isMachine_34 rfl (by first | rfl | assumption) (Nat.zero_le _) (Nat.zero_le _) ?_
    exact ⟨rfl, rfl⟩
theorem ex_mmachineAt (hm : hMo T S mo) (hq : ∀ k, k < 3 → nB 5 (A 2 (3 + k))) {lv m : Int32} : Ex Γ (d + 2) Y_X9_machineAt [.ref mo, .int lv, .int m] (T, R, S, blk 18 I mo (st A 4 X), L, D, z) 0 0 (rI (if mOk A (mac A lv m) = 0 then 0 else X (109 + 4 * (nN lv - 1) + nN m)) (T, R, S, blk 18 I mo (st (tA A (tI A (mac A lv m))) 4 X), L, D, z)) := by
  by_cases g : mac A lv m = 0
  · have hz : mOk A (mac A lv m) = 0 := by rw [g]; exact mOk_0
    rw [if_pos hz]
    refine Ex.of (by decide) (by simp [Value.category]) (Nat.le_of_ble_eq_true rfl) rfl ?_
    refine jj_aload_n (q := 1) dX9_machineAt_0 rfl rfl rfl ?_
    refine jj_aload_n (q := 2) dX9_machineAt_1 rfl rfl rfl ?_
    refine jj_iload_n (q := 3) dX9_machineAt_2 rfl rfl rfl ?_
    refine jj_iload_n (q := 4) dX9_machineAt_3 rfl rfl rfl ?_
    refine jj_cV2i (q := 7) dX9_machineAt_4 yk_X9_isMachine ml_X9_366 hm.t0 (ex_isMachine hm) rfl rfl rfl ⟨Nat.zero_le _, Nat.zero_le _⟩ ?_
    refine jj_cV1i (q := 10) dX9_machineAt_7 yk_X9_mayAsk ml_X9_353 hm.t0 (ex_mayAsk hm) rfl rfl rfl ⟨Nat.zero_le _, Nat.zero_le _⟩ ?_
    refine jj_if_eq (q := 13) (tgt := 31) dX9_machineAt_10 rfl rfl (fun h10 => ?_) (fun h10 => absurd (hz) h10)
    refine jj_iconst (v := 0) (q := 32) dX9_machineAt_31 rfl rfl ?_
    refine jj_iret dX9_machineAt_32 rfl (Nat.zero_le _) (Nat.zero_le _) ?_
    exact ⟨rfl, rfl⟩
  · obtain ⟨q, n, rfl, rfl, hq3, hn, hn4⟩ := mac_c hq g
    rw [nN_nI (by omega), nN_nI (by omega), Nat.add_sub_cancel]
    refine Ex.of (by decide) (by simp [Value.category]) (Nat.le_of_ble_eq_true rfl) rfl ?_
    refine jj_aload_n (q := 1) dX9_machineAt_0 rfl rfl rfl ?_
    refine jj_aload_n (q := 2) dX9_machineAt_1 rfl rfl rfl ?_
    refine jj_iload_n (q := 3) dX9_machineAt_2 rfl rfl rfl ?_
    refine jj_iload_n (q := 4) dX9_machineAt_3 rfl rfl rfl ?_
    refine jj_cV2i (q := 7) dX9_machineAt_4 yk_X9_isMachine ml_X9_366 hm.t0 (ex_isMachine hm) rfl rfl rfl ⟨Nat.zero_le _, Nat.zero_le _⟩ ?_
    refine jj_cV1i (q := 10) dX9_machineAt_7 yk_X9_mayAsk ml_X9_353 hm.t0 (ex_mayAsk hm) rfl rfl rfl ⟨Nat.zero_le _, Nat.zero_le _⟩ ?_
    refine jj_if_eq (q := 13) (tgt := 31) dX9_machineAt_10 rfl rfl (fun h10 => ?_) (fun h10 => ?_)
    · refine jj_iconst (v := 0) (q := 32) dX9_machineAt_31 rfl rfl ?_
      refine jj_iret dX9_machineAt_32 rfl (Nat.zero_le _) (Nat.zero_le _) ?_
      exact ⟨by (first | rw [if_pos h10] | rw [if_neg h10] | skip); try rfl, rfl⟩
    · refine jj_aload_n (q := 14) dX9_machineAt_13 rfl rfl rfl ?_
      refine jj_getS (q := 17) dX9_machineAt_14 fl_X9_23 hm.t0 hm.r0_12 rfl rfl rfl ?_
      refine jj_bipush (v := 109) (q := 19) dX9_machineAt_17 rfl rfl ?_
      refine jj_iconst (v := 4) (q := 20) dX9_machineAt_19 rfl rfl ?_
      refine jj_iload_n (q := 21) dX9_machineAt_20 rfl rfl rfl ?_
      refine jj_iconst (v := 1) (q := 22) dX9_machineAt_21 rfl rfl ?_
      refine jj_isubN (q := 23) (e := q) (a := q + 1) (b := 1) dX9_machineAt_22 rfl rfl rfl rfl ?_
      refine jj_imulN (q := 24) (a := 4) (b := q) dX9_machineAt_23 rfl rfl rfl ?_
      refine jj_iaddN (q := 25) (a := 109) (b := 4 * q) dX9_machineAt_24 rfl rfl rfl ?_
      refine jj_iload_n (q := 26) dX9_machineAt_25 rfl rfl rfl ?_
      refine jj_iaddN (q := 27) (a := 109 + (4 * q)) (b := n) dX9_machineAt_26 rfl rfl rfl ?_
      refine jj_ialdN (q := 28) (j := (109 + (4 * q)) + n) dX9_machineAt_27 hm.t4 (blk_st (by decide)) rfl (by omega) rfl ?_
      refine jj_goto (tgt := 32) dX9_machineAt_28 rfl ?_
      refine jj_iret dX9_machineAt_32 rfl (Nat.zero_le _) (Nat.zero_le _) ?_
      exact ⟨by (first | rw [if_pos h10] | rw [if_neg h10] | skip); try rfl, rfl⟩
theorem ex_mbrokenUntil (hm : hMo T S mo) (hq : ∀ k, k < 3 → nB 5 (A 2 (3 + k))) {lv m : Int32} : Ex Γ (d + 2) Y_X9_brokenUntil [.ref mo, .int lv, .int m] (T, R, S, blk 18 I mo (st A 4 X), L, D, z) 0 0 (rI (if mOk A (mac A lv m) = 0 then 0 else X (2073 + 4 * (nN lv - 1) + nN m)) (T, R, S, blk 18 I mo (st (tA A (tI A (mac A lv m))) 4 X), L, D, z)) := by
  by_cases g : mac A lv m = 0
  · have hz : mOk A (mac A lv m) = 0 := by rw [g]; exact mOk_0
    rw [if_pos hz]
    refine Ex.of (by decide) (by simp [Value.category]) (Nat.le_of_ble_eq_true rfl) rfl ?_
    refine jj_aload_n (q := 1) dX9_brokenUntil_0 rfl rfl rfl ?_
    refine jj_aload_n (q := 2) dX9_brokenUntil_1 rfl rfl rfl ?_
    refine jj_iload_n (q := 3) dX9_brokenUntil_2 rfl rfl rfl ?_
    refine jj_iload_n (q := 4) dX9_brokenUntil_3 rfl rfl rfl ?_
    refine jj_cV2i (q := 7) dX9_brokenUntil_4 yk_X9_isMachine ml_X9_366 hm.t0 (ex_isMachine hm) rfl rfl rfl ⟨Nat.zero_le _, Nat.zero_le _⟩ ?_
    refine jj_cV1i (q := 10) dX9_brokenUntil_7 yk_X9_mayAsk ml_X9_353 hm.t0 (ex_mayAsk hm) rfl rfl rfl ⟨Nat.zero_le _, Nat.zero_le _⟩ ?_
    refine jj_if_eq (q := 13) (tgt := 32) dX9_brokenUntil_10 rfl rfl (fun h10 => ?_) (fun h10 => absurd (hz) h10)
    refine jj_iconst (v := 0) (q := 33) dX9_brokenUntil_32 rfl rfl ?_
    refine jj_iret dX9_brokenUntil_33 rfl (Nat.zero_le _) (Nat.zero_le _) ?_
    exact ⟨rfl, rfl⟩
  · obtain ⟨q, n, rfl, rfl, hq3, hn, hn4⟩ := mac_c hq g
    rw [nN_nI (by omega), nN_nI (by omega), Nat.add_sub_cancel]
    refine Ex.of (by decide) (by simp [Value.category]) (Nat.le_of_ble_eq_true rfl) rfl ?_
    refine jj_aload_n (q := 1) dX9_brokenUntil_0 rfl rfl rfl ?_
    refine jj_aload_n (q := 2) dX9_brokenUntil_1 rfl rfl rfl ?_
    refine jj_iload_n (q := 3) dX9_brokenUntil_2 rfl rfl rfl ?_
    refine jj_iload_n (q := 4) dX9_brokenUntil_3 rfl rfl rfl ?_
    refine jj_cV2i (q := 7) dX9_brokenUntil_4 yk_X9_isMachine ml_X9_366 hm.t0 (ex_isMachine hm) rfl rfl rfl ⟨Nat.zero_le _, Nat.zero_le _⟩ ?_
    refine jj_cV1i (q := 10) dX9_brokenUntil_7 yk_X9_mayAsk ml_X9_353 hm.t0 (ex_mayAsk hm) rfl rfl rfl ⟨Nat.zero_le _, Nat.zero_le _⟩ ?_
    refine jj_if_eq (q := 13) (tgt := 32) dX9_brokenUntil_10 rfl rfl (fun h10 => ?_) (fun h10 => ?_)
    · refine jj_iconst (v := 0) (q := 33) dX9_brokenUntil_32 rfl rfl ?_
      refine jj_iret dX9_brokenUntil_33 rfl (Nat.zero_le _) (Nat.zero_le _) ?_
      exact ⟨by (first | rw [if_pos h10] | rw [if_neg h10] | skip); try rfl, rfl⟩
    · refine jj_aload_n (q := 14) dX9_brokenUntil_13 rfl rfl rfl ?_
      refine jj_getS (q := 17) dX9_brokenUntil_14 fl_X9_23 hm.t0 hm.r0_12 rfl rfl rfl ?_
      refine jj_sipush (v := 2073) (q := 20) dX9_brokenUntil_17 rfl rfl ?_
      refine jj_iconst (v := 4) (q := 21) dX9_brokenUntil_20 rfl rfl ?_
      refine jj_iload_n (q := 22) dX9_brokenUntil_21 rfl rfl rfl ?_
      refine jj_iconst (v := 1) (q := 23) dX9_brokenUntil_22 rfl rfl ?_
      refine jj_isubN (q := 24) (e := q) (a := q + 1) (b := 1) dX9_brokenUntil_23 rfl rfl rfl rfl ?_
      refine jj_imulN (q := 25) (a := 4) (b := q) dX9_brokenUntil_24 rfl rfl rfl ?_
      refine jj_iaddN (q := 26) (a := 2073) (b := 4 * q) dX9_brokenUntil_25 rfl rfl rfl ?_
      refine jj_iload_n (q := 27) dX9_brokenUntil_26 rfl rfl rfl ?_
      refine jj_iaddN (q := 28) (a := 2073 + (4 * q)) (b := n) dX9_brokenUntil_27 rfl rfl rfl ?_
      refine jj_ialdN (q := 29) (j := (2073 + (4 * q)) + n) dX9_brokenUntil_28 hm.t4 (blk_st (by decide)) rfl (by omega) rfl ?_
      refine jj_goto (tgt := 33) dX9_brokenUntil_29 rfl ?_
      refine jj_iret dX9_brokenUntil_33 rfl (Nat.zero_le _) (Nat.zero_le _) ?_
      exact ⟨by (first | rw [if_pos h10] | rw [if_neg h10] | skip); try rfl, rfl⟩
theorem ex_mlaneAt (hm : hMo T S mo) (hX : mI X) {ln : Nat} (hq : A 2 13 = nI ln) (hl : ln ≤ 4) {l x : Int32} : Ex Γ (d + 2) Y_X9_laneAt [.ref mo, .int l, .int x] (T, R, S, blk 18 I mo (st A 4 X), L, D, z) 0 0 (rI (if mOk A (aL A X l x) = 0 then 0 else X (29 + 20 * nN l + nN x)) (T, R, S, blk 18 I mo (st (tA A (tI A (aL A X l x))) 4 X), L, D, z)) := by
  rcases in_n (c := ln) (by omega) l with ⟨n, hn, rfl, hi, he⟩ | ⟨hi, he⟩
  · have hh := hX.he (l := n) (by omega)
    rw [← hq] at hi
    rcases in_n (c := mHe X n) (by omega) x with ⟨j, hj, rfl, hi2, he2⟩ | ⟨hi2, he2⟩
    · rw [← hh.1] at hi2
      have g : aL A X (nI n) (nI j) = 1 := by
        unfold aL
        rw [if_neg (show ¬ inI (nI n) 0 (A 2 13 - 1) = 0 by rw [hi]; decide), nN_nI (by omega), if_neg (show ¬ inI (nI j) 0 (X (21 + n) - 1) = 0 by rw [hi2]; decide)]
      rw [g, nN_nI (by omega), nN_nI (by omega)]
      refine Ex.of (by decide) (by simp [Value.category]) (Nat.le_of_ble_eq_true rfl) rfl ?_
      refine jj_aload_n (q := 1) dX9_laneAt_0 rfl rfl rfl ?_
      refine jj_aload_n (q := 2) dX9_laneAt_1 rfl rfl rfl ?_
      refine jj_iload_n (q := 3) dX9_laneAt_2 rfl rfl rfl ?_
      refine jj_cV1i (q := 6) dX9_laneAt_3 yk_X9_isLane ml_X9_370 hm.t0 (ex_isLane hm) rfl rfl rfl ⟨Nat.zero_le _, Nat.zero_le _⟩ ?_
      refine jj_if_eq (q := 9) (tgt := 32) dX9_laneAt_6 rfl rfl (fun h6 => by exfalso; rw [hi] at h6; exact absurd h6 (by decide)) (fun h6 => ?_)
      refine jj_iload_n (q := 10) dX9_laneAt_9 rfl rfl rfl ?_
      refine jj_iconst (v := 0) (q := 11) dX9_laneAt_10 rfl rfl ?_
      refine jj_aload_n (q := 12) dX9_laneAt_11 rfl rfl rfl ?_
      refine jj_getS (q := 15) dX9_laneAt_12 fl_X9_23 hm.t0 hm.r0_12 rfl rfl rfl ?_
      refine jj_bipush (v := 21) (q := 17) dX9_laneAt_15 rfl rfl ?_
      refine jj_iload_n (q := 18) dX9_laneAt_17 rfl rfl rfl ?_
      refine jj_iaddN (q := 19) (a := 21) (b := n) dX9_laneAt_18 rfl rfl rfl ?_
      refine jj_ialdN (q := 20) (j := 21 + n) dX9_laneAt_19 hm.t4 (blk_st (by decide)) rfl (by omega) rfl ?_
      refine jj_iconst (v := 1) (q := 21) dX9_laneAt_20 rfl rfl ?_
      refine jj_isub (q := 22) dX9_laneAt_21 rfl ?_
      refine jj_cS3i (q := 25) dX9_laneAt_22 yk_X9_in ml_X9_111 ex_inI rfl rfl rfl ⟨Nat.zero_le _, Nat.zero_le _⟩ ?_
      refine jj_if_eq (q := 28) (tgt := 32) dX9_laneAt_25 rfl rfl (fun h25 => by exfalso; rw [hi2] at h25; exact absurd h25 (by decide)) (fun h25 => ?_)
      refine jj_iconst (v := 1) (q := 29) dX9_laneAt_28 rfl rfl ?_
      refine jj_goto (tgt := 33) dX9_laneAt_29 rfl ?_
      refine jj_cV1i (q := 36) dX9_laneAt_33 yk_X9_mayAsk ml_X9_353 hm.t0 (ex_mayAsk hm) rfl rfl rfl ⟨Nat.zero_le _, Nat.zero_le _⟩ ?_
      refine jj_if_eq (q := 39) (tgt := 56) dX9_laneAt_36 rfl rfl (fun h36 => ?_) (fun h36 => ?_)
      · refine jj_iconst (v := 0) (q := 57) dX9_laneAt_56 rfl rfl ?_
        refine jj_iret dX9_laneAt_57 rfl (Nat.zero_le _) (Nat.zero_le _) ?_
        exact ⟨by (first | rw [if_pos h36] | rw [if_neg h36] | skip); try rfl, rfl⟩
      · refine jj_aload_n (q := 40) dX9_laneAt_39 rfl rfl rfl ?_
        refine jj_getS (q := 43) dX9_laneAt_40 fl_X9_23 hm.t0 hm.r0_12 rfl rfl rfl ?_
        refine jj_bipush (v := 29) (q := 45) dX9_laneAt_43 rfl rfl ?_
        refine jj_bipush (v := 20) (q := 47) dX9_laneAt_45 rfl rfl ?_
        refine jj_iload_n (q := 48) dX9_laneAt_47 rfl rfl rfl ?_
        refine jj_imulN (q := 49) (a := 20) (b := n) dX9_laneAt_48 rfl rfl rfl ?_
        refine jj_iaddN (q := 50) (a := 29) (b := 20 * n) dX9_laneAt_49 rfl rfl rfl ?_
        refine jj_iload_n (q := 51) dX9_laneAt_50 rfl rfl rfl ?_
        refine jj_iaddN (q := 52) (a := 29 + (20 * n)) (b := j) dX9_laneAt_51 rfl rfl rfl ?_
        refine jj_ialdN (q := 53) (j := (29 + (20 * n)) + j) dX9_laneAt_52 hm.t4 (blk_st (by decide)) rfl (by omega) rfl ?_
        refine jj_goto (tgt := 57) dX9_laneAt_53 rfl ?_
        refine jj_iret dX9_laneAt_57 rfl (Nat.zero_le _) (Nat.zero_le _) ?_
        exact ⟨by (first | rw [if_pos h36] | rw [if_neg h36] | skip); try rfl, rfl⟩
    · rw [← hh.1] at hi2
      have g : aL A X (nI n) x = 0 := by
        unfold aL
        rw [if_neg (show ¬ inI (nI n) 0 (A 2 13 - 1) = 0 by rw [hi]; decide), nN_nI (by omega), if_pos hi2]
      rw [g, if_pos mOk_0]
      refine Ex.of (by decide) (by simp [Value.category]) (Nat.le_of_ble_eq_true rfl) rfl ?_
      refine jj_aload_n (q := 1) dX9_laneAt_0 rfl rfl rfl ?_
      refine jj_aload_n (q := 2) dX9_laneAt_1 rfl rfl rfl ?_
      refine jj_iload_n (q := 3) dX9_laneAt_2 rfl rfl rfl ?_
      refine jj_cV1i (q := 6) dX9_laneAt_3 yk_X9_isLane ml_X9_370 hm.t0 (ex_isLane hm) rfl rfl rfl ⟨Nat.zero_le _, Nat.zero_le _⟩ ?_
      refine jj_if_eq (q := 9) (tgt := 32) dX9_laneAt_6 rfl rfl (fun h6 => by exfalso; rw [hi] at h6; exact absurd h6 (by decide)) (fun h6 => ?_)
      refine jj_iload_n (q := 10) dX9_laneAt_9 rfl rfl rfl ?_
      refine jj_iconst (v := 0) (q := 11) dX9_laneAt_10 rfl rfl ?_
      refine jj_aload_n (q := 12) dX9_laneAt_11 rfl rfl rfl ?_
      refine jj_getS (q := 15) dX9_laneAt_12 fl_X9_23 hm.t0 hm.r0_12 rfl rfl rfl ?_
      refine jj_bipush (v := 21) (q := 17) dX9_laneAt_15 rfl rfl ?_
      refine jj_iload_n (q := 18) dX9_laneAt_17 rfl rfl rfl ?_
      refine jj_iaddN (q := 19) (a := 21) (b := n) dX9_laneAt_18 rfl rfl rfl ?_
      refine jj_ialdN (q := 20) (j := 21 + n) dX9_laneAt_19 hm.t4 (blk_st (by decide)) rfl (by omega) rfl ?_
      refine jj_iconst (v := 1) (q := 21) dX9_laneAt_20 rfl rfl ?_
      refine jj_isub (q := 22) dX9_laneAt_21 rfl ?_
      refine jj_cS3i (q := 25) dX9_laneAt_22 yk_X9_in ml_X9_111 ex_inI rfl rfl rfl ⟨Nat.zero_le _, Nat.zero_le _⟩ ?_
      refine jj_if_eq (q := 28) (tgt := 32) dX9_laneAt_25 rfl rfl (fun h25 => ?_) (fun h25 => absurd (hi2) h25)
      refine jj_iconst (v := 0) (q := 33) dX9_laneAt_32 rfl rfl ?_
      refine jj_cV1i (q := 36) dX9_laneAt_33 yk_X9_mayAsk ml_X9_353 hm.t0 (ex_mayAsk hm) rfl rfl rfl ⟨Nat.zero_le _, Nat.zero_le _⟩ ?_
      refine jj_if_eq (q := 39) (tgt := 56) dX9_laneAt_36 rfl rfl (fun h36 => ?_) (fun h36 => absurd (mOk_0) h36)
      refine jj_iconst (v := 0) (q := 57) dX9_laneAt_56 rfl rfl ?_
      refine jj_iret dX9_laneAt_57 rfl (Nat.zero_le _) (Nat.zero_le _) ?_
      exact ⟨rfl, rfl⟩
  · rw [← hq] at hi
    have g : aL A X l x = 0 := by unfold aL; rw [if_pos hi]
    rw [g, if_pos mOk_0]
    refine Ex.of (by decide) (by simp [Value.category]) (Nat.le_of_ble_eq_true rfl) rfl ?_
    refine jj_aload_n (q := 1) dX9_laneAt_0 rfl rfl rfl ?_
    refine jj_aload_n (q := 2) dX9_laneAt_1 rfl rfl rfl ?_
    refine jj_iload_n (q := 3) dX9_laneAt_2 rfl rfl rfl ?_
    refine jj_cV1i (q := 6) dX9_laneAt_3 yk_X9_isLane ml_X9_370 hm.t0 (ex_isLane hm) rfl rfl rfl ⟨Nat.zero_le _, Nat.zero_le _⟩ ?_
    refine jj_if_eq (q := 9) (tgt := 32) dX9_laneAt_6 rfl rfl (fun h6 => ?_) (fun h6 => absurd (hi) h6)
    refine jj_iconst (v := 0) (q := 33) dX9_laneAt_32 rfl rfl ?_
    refine jj_cV1i (q := 36) dX9_laneAt_33 yk_X9_mayAsk ml_X9_353 hm.t0 (ex_mayAsk hm) rfl rfl rfl ⟨Nat.zero_le _, Nat.zero_le _⟩ ?_
    refine jj_if_eq (q := 39) (tgt := 56) dX9_laneAt_36 rfl rfl (fun h36 => ?_) (fun h36 => absurd (mOk_0) h36)
    refine jj_iconst (v := 0) (q := 57) dX9_laneAt_56 rfl rfl ?_
    refine jj_iret dX9_laneAt_57 rfl (Nat.zero_le _) (Nat.zero_le _) ?_
    exact ⟨rfl, rfl⟩
theorem ex_mevent (hm : hMo T S mo) (hX : mI X) {n w : Int32} : Ex Γ (d + 2) Y_X9_event [.ref mo, .int n, .int w] (T, R, S, blk 18 I mo (st A 4 X), L, D, z) 0 0 (rI (if mOk A (inI n 0 (X 3 - 1)) = 0 then 0 else if inI w 0 3 = 0 then 0 else vEm X n w) (T, R, S, blk 18 I mo (st (tA A (tF3 A (inI n 0 (X 3 - 1)) (inI w 0 3))) 4 X), L, D, z)) := by
  have hE := hX.e
  rcases in_n (c := mE X) (by omega) n with ⟨j, hj, rfl, hi, he⟩ | ⟨hi, he⟩
  · rw [← hE.1] at hi
    rcases in_lh (lo := 0) (hi := 3) (by omega) (by omega) w with ⟨q, h1, h3, rfl, hi2, he2⟩ | ⟨hi2, he2⟩
    · have hi2 : inI (nI q) 0 3 = 1 := hi2
      have hw : ¬ inI (nI q) 0 3 = 0 := by rw [hi2]; decide
      unfold tF3 vEm
      rw [if_neg hw, if_neg hw, ite_self, nN_nI (by omega), nN_nI (by omega)]
      refine Ex.of (by decide) (by simp [Value.category]) (Nat.le_of_ble_eq_true rfl) rfl ?_
      refine jj_aload_n (q := 1) dX9_event_0 rfl rfl rfl ?_
      refine jj_iload_n (q := 2) dX9_event_1 rfl rfl rfl ?_
      refine jj_iconst (v := 0) (q := 3) dX9_event_2 rfl rfl ?_
      refine jj_aload_n (q := 4) dX9_event_3 rfl rfl rfl ?_
      refine jj_getS (q := 7) dX9_event_4 fl_X9_23 hm.t0 hm.r0_12 rfl rfl rfl ?_
      refine jj_iconst (v := 3) (q := 8) dX9_event_7 rfl rfl ?_
      refine jj_ialdN (q := 9) (j := 3) dX9_event_8 hm.t4 (blk_st (by decide)) rfl (by omega) rfl ?_
      refine jj_iconst (v := 1) (q := 10) dX9_event_9 rfl rfl ?_
      refine jj_isub (q := 11) dX9_event_10 rfl ?_
      refine jj_cS3i (q := 14) dX9_event_11 yk_X9_in ml_X9_111 ex_inI rfl rfl rfl ⟨Nat.zero_le _, Nat.zero_le _⟩ ?_
      refine jj_cV1i (q := 17) dX9_event_14 yk_X9_mayAsk ml_X9_353 hm.t0 (ex_mayAsk hm) rfl rfl rfl ⟨Nat.zero_le _, Nat.zero_le _⟩ ?_
      refine jj_if_ne (q := 20) (tgt := 22) dX9_event_17 rfl rfl (fun h17 => ?_) (fun h17 => ?_)
      · refine jj_iload_n (q := 23) dX9_event_22 rfl rfl rfl ?_
        refine jj_iconst (v := 0) (q := 24) dX9_event_23 rfl rfl ?_
        refine jj_iconst (v := 3) (q := 25) dX9_event_24 rfl rfl ?_
        refine jj_cS3i (q := 28) dX9_event_25 yk_X9_in ml_X9_111 ex_inI rfl rfl rfl ⟨Nat.zero_le _, Nat.zero_le _⟩ ?_
        refine jj_if_eq (q := 31) (tgt := 48) dX9_event_28 rfl rfl (fun h28 => absurd h28 (hw)) (fun h28 => ?_)
        refine jj_aload_n (q := 32) dX9_event_31 rfl rfl rfl ?_
        refine jj_getS (q := 35) dX9_event_32 fl_X9_23 hm.t0 hm.r0_12 rfl rfl rfl ?_
        refine jj_sipush (v := 873) (q := 38) dX9_event_35 rfl rfl ?_
        refine jj_iconst (v := 4) (q := 39) dX9_event_38 rfl rfl ?_
        refine jj_iload_n (q := 40) dX9_event_39 rfl rfl rfl ?_
        refine jj_imulN (q := 41) (a := 4) (b := j) dX9_event_40 rfl rfl rfl ?_
        refine jj_iaddN (q := 42) (a := 873) (b := 4 * j) dX9_event_41 rfl rfl rfl ?_
        refine jj_iload_n (q := 43) dX9_event_42 rfl rfl rfl ?_
        refine jj_iaddN (q := 44) (a := 873 + (4 * j)) (b := q) dX9_event_43 rfl rfl rfl ?_
        refine jj_ialdN (q := 45) (j := (873 + (4 * j)) + q) dX9_event_44 hm.t4 (blk_st (by decide)) rfl (by omega) rfl ?_
        refine jj_goto (tgt := 53) dX9_event_45 rfl ?_
        refine jj_iret dX9_event_53 rfl (Nat.zero_le _) (Nat.zero_le _) ?_
        exact ⟨by (first | rw [if_pos h17] | rw [if_neg h17] | skip); try rfl, rfl⟩
      · refine jj_iconst (v := 0) (q := 21) dX9_event_20 rfl rfl ?_
        refine jj_iret dX9_event_21 rfl (Nat.zero_le _) (Nat.zero_le _) ?_
        exact ⟨by (first | rw [if_pos h17] | rw [if_neg h17] | skip); try rfl, rfl⟩
    · have hi2 : inI w 0 3 = 0 := hi2
      unfold tF3
      rw [if_pos hi2, if_pos hi2, ite_self]
      refine Ex.of (by decide) (by simp [Value.category]) (Nat.le_of_ble_eq_true rfl) rfl ?_
      refine jj_aload_n (q := 1) dX9_event_0 rfl rfl rfl ?_
      refine jj_iload_n (q := 2) dX9_event_1 rfl rfl rfl ?_
      refine jj_iconst (v := 0) (q := 3) dX9_event_2 rfl rfl ?_
      refine jj_aload_n (q := 4) dX9_event_3 rfl rfl rfl ?_
      refine jj_getS (q := 7) dX9_event_4 fl_X9_23 hm.t0 hm.r0_12 rfl rfl rfl ?_
      refine jj_iconst (v := 3) (q := 8) dX9_event_7 rfl rfl ?_
      refine jj_ialdN (q := 9) (j := 3) dX9_event_8 hm.t4 (blk_st (by decide)) rfl (by omega) rfl ?_
      refine jj_iconst (v := 1) (q := 10) dX9_event_9 rfl rfl ?_
      refine jj_isub (q := 11) dX9_event_10 rfl ?_
      refine jj_cS3i (q := 14) dX9_event_11 yk_X9_in ml_X9_111 ex_inI rfl rfl rfl ⟨Nat.zero_le _, Nat.zero_le _⟩ ?_
      refine jj_cV1i (q := 17) dX9_event_14 yk_X9_mayAsk ml_X9_353 hm.t0 (ex_mayAsk hm) rfl rfl rfl ⟨Nat.zero_le _, Nat.zero_le _⟩ ?_
      refine jj_if_ne (q := 20) (tgt := 22) dX9_event_17 rfl rfl (fun h17 => ?_) (fun h17 => ?_)
      · refine jj_iload_n (q := 23) dX9_event_22 rfl rfl rfl ?_
        refine jj_iconst (v := 0) (q := 24) dX9_event_23 rfl rfl ?_
        refine jj_iconst (v := 3) (q := 25) dX9_event_24 rfl rfl ?_
        refine jj_cS3i (q := 28) dX9_event_25 yk_X9_in ml_X9_111 ex_inI rfl rfl rfl ⟨Nat.zero_le _, Nat.zero_le _⟩ ?_
        refine jj_if_eq (q := 31) (tgt := 48) dX9_event_28 rfl rfl (fun h28 => ?_) (fun h28 => absurd (hi2) h28)
        refine jj_aload_n (q := 49) dX9_event_48 rfl rfl rfl ?_
        refine jj_iconst (v := 3) (q := 50) dX9_event_49 rfl rfl ?_
        refine jj_cV1i (q := 53) dX9_event_50 yk_X9_throwsAt ml_X9_240 hm.t0 (ex_throwsAt hm) rfl rfl rfl ⟨Nat.zero_le _, Nat.zero_le _⟩ ?_
        refine jj_iret dX9_event_53 rfl (Nat.zero_le _) (Nat.zero_le _) ?_
        exact ⟨rfl, by rw [if_neg h17, tA_tA]⟩
      · refine jj_iconst (v := 0) (q := 21) dX9_event_20 rfl rfl ?_
        refine jj_iret dX9_event_21 rfl (Nat.zero_le _) (Nat.zero_le _) ?_
        exact ⟨rfl, by rw [if_pos h17]⟩
  · rw [← hE.1] at hi
    have hz : mOk A (inI n 0 (X 3 - 1)) = 0 := by rw [hi]; exact mOk_0
    unfold tF3
    rw [if_pos hz, if_pos hz]
    refine Ex.of (by decide) (by simp [Value.category]) (Nat.le_of_ble_eq_true rfl) rfl ?_
    refine jj_aload_n (q := 1) dX9_event_0 rfl rfl rfl ?_
    refine jj_iload_n (q := 2) dX9_event_1 rfl rfl rfl ?_
    refine jj_iconst (v := 0) (q := 3) dX9_event_2 rfl rfl ?_
    refine jj_aload_n (q := 4) dX9_event_3 rfl rfl rfl ?_
    refine jj_getS (q := 7) dX9_event_4 fl_X9_23 hm.t0 hm.r0_12 rfl rfl rfl ?_
    refine jj_iconst (v := 3) (q := 8) dX9_event_7 rfl rfl ?_
    refine jj_ialdN (q := 9) (j := 3) dX9_event_8 hm.t4 (blk_st (by decide)) rfl (by omega) rfl ?_
    refine jj_iconst (v := 1) (q := 10) dX9_event_9 rfl rfl ?_
    refine jj_isub (q := 11) dX9_event_10 rfl ?_
    refine jj_cS3i (q := 14) dX9_event_11 yk_X9_in ml_X9_111 ex_inI rfl rfl rfl ⟨Nat.zero_le _, Nat.zero_le _⟩ ?_
    refine jj_cV1i (q := 17) dX9_event_14 yk_X9_mayAsk ml_X9_353 hm.t0 (ex_mayAsk hm) rfl rfl rfl ⟨Nat.zero_le _, Nat.zero_le _⟩ ?_
    refine jj_if_ne (q := 20) (tgt := 22) dX9_event_17 rfl rfl (fun h17 => by exfalso; exact h17 hz) (fun h17 => ?_)
    refine jj_iconst (v := 0) (q := 21) dX9_event_20 rfl rfl ?_
    refine jj_iret dX9_event_21 rfl (Nat.zero_le _) (Nat.zero_le _) ?_
    exact ⟨rfl, rfl⟩
theorem ex_isLoadedOf (hm : hMo T S mo) {b : Nat} (hb : b < 100) {f : Int32} : Ex Γ (d) Y_X9_isLoadedOf [.ref mo, .int (nI b), .int f] (T, R, S, blk 18 I mo (st A 4 X), L, D, z) 0 0 (rI (lF X b f) (T, R, S, blk 18 I mo (st A 4 X), L, D, z)) := by
  refine Ex.of (by decide) (by simp [Value.category]) (Nat.le_of_ble_eq_true rfl) rfl ?_
  refine jj_aload_n (q := 1) dX9_isLoadedOf_0 rfl rfl rfl ?_
  refine jj_getS (q := 4) dX9_isLoadedOf_1 fl_X9_23 hm.t0 hm.r0_12 rfl rfl rfl ?_
  refine jj_sipush (v := 173) (q := 7) dX9_isLoadedOf_4 rfl rfl ?_
  refine jj_iload_n (q := 8) dX9_isLoadedOf_7 rfl rfl rfl ?_
  refine jj_iaddN (q := 9) (a := 173) (b := b) dX9_isLoadedOf_8 rfl rfl rfl ?_
  refine jj_ialdN (q := 10) (j := 173 + b) dX9_isLoadedOf_9 hm.t4 (blk_st (by decide)) rfl (by omega) rfl ?_
  refine jj_iload_n (q := 11) dX9_isLoadedOf_10 rfl rfl rfl ?_
  refine jj_icmp_ne (q := 14) (tgt := 33) dX9_isLoadedOf_11 rfl rfl (fun h11 => ?_) (fun h11 => ?_)
  · refine jj_iconst (v := 0) (q := 34) dX9_isLoadedOf_33 rfl rfl ?_
    refine jj_zret dX9_isLoadedOf_34 rfl (by first | rfl | assumption) (Nat.zero_le _) (Nat.zero_le _) ?_
    exact ⟨by unfold lF; (first | rw [if_pos h11] | rw [if_neg h11] | skip); (first | rw [if_pos h26] | rw [if_neg h26] | skip), rfl⟩
  · refine jj_aload_n (q := 15) dX9_isLoadedOf_14 rfl rfl rfl ?_
    refine jj_getS (q := 18) dX9_isLoadedOf_15 fl_X9_23 hm.t0 hm.r0_12 rfl rfl rfl ?_
    refine jj_sipush (v := 373) (q := 21) dX9_isLoadedOf_18 rfl rfl ?_
    refine jj_iload_n (q := 22) dX9_isLoadedOf_21 rfl rfl rfl ?_
    refine jj_iaddN (q := 23) (a := 373) (b := b) dX9_isLoadedOf_22 rfl rfl rfl ?_
    refine jj_ialdN (q := 24) (j := 373 + b) dX9_isLoadedOf_23 hm.t4 (blk_st (by decide)) rfl (by omega) rfl ?_
    refine jj_bipush (v := 10) (q := 26) dX9_isLoadedOf_24 rfl rfl ?_
    refine jj_icmp_ne (q := 29) (tgt := 33) dX9_isLoadedOf_26 rfl rfl (fun h26 => ?_) (fun h26 => ?_)
    · refine jj_iconst (v := 0) (q := 34) dX9_isLoadedOf_33 rfl rfl ?_
      refine jj_zret dX9_isLoadedOf_34 rfl (by first | rfl | assumption) (Nat.zero_le _) (Nat.zero_le _) ?_
      exact ⟨by unfold lF; (first | rw [if_pos h11] | rw [if_neg h11] | skip); (first | rw [if_pos h26] | rw [if_neg h26] | skip), rfl⟩
    · refine jj_iconst (v := 1) (q := 30) dX9_isLoadedOf_29 rfl rfl ?_
      refine jj_goto (tgt := 34) dX9_isLoadedOf_30 rfl ?_
      refine jj_zret dX9_isLoadedOf_34 rfl (by first | rfl | assumption) (Nat.zero_le _) (Nat.zero_le _) ?_
      exact ⟨by unfold lF; (first | rw [if_pos h11] | rw [if_neg h11] | skip); (first | rw [if_pos h26] | rw [if_neg h26] | skip), rfl⟩
theorem ex_took (hm : hMo T S mo) {b : Nat} (hb : b < 100) : Ex Γ (d) Y_X9_took [.ref mo, .int (nI b)] (T, R, S, blk 18 I mo (st A 4 X), L, D, z) 0 0 (rI (tk_ X b) (T, R, S, blk 18 I mo (st A 4 X), L, D, z)) := by
  refine Ex.of (by decide) (by simp [Value.category]) (Nat.le_of_ble_eq_true rfl) rfl ?_
  refine jj_aload_n (q := 1) dX9_took_0 rfl rfl rfl ?_
  refine jj_getS (q := 4) dX9_took_1 fl_X9_23 hm.t0 hm.r0_12 rfl rfl rfl ?_
  refine jj_sipush (v := 773) (q := 7) dX9_took_4 rfl rfl ?_
  refine jj_iload_n (q := 8) dX9_took_7 rfl rfl rfl ?_
  refine jj_iaddN (q := 9) (a := 773) (b := b) dX9_took_8 rfl rfl rfl ?_
  refine jj_ialdN (q := 10) (j := 773 + b) dX9_took_9 hm.t4 (blk_st (by decide)) rfl (by omega) rfl ?_
  refine jj_aload_n (q := 11) dX9_took_10 rfl rfl rfl ?_
  refine jj_getS (q := 14) dX9_took_11 fl_X9_23 hm.t0 hm.r0_12 rfl rfl rfl ?_
  refine jj_sipush (v := 273) (q := 17) dX9_took_14 rfl rfl ?_
  refine jj_iload_n (q := 18) dX9_took_17 rfl rfl rfl ?_
  refine jj_iaddN (q := 19) (a := 273) (b := b) dX9_took_18 rfl rfl rfl ?_
  refine jj_ialdN (q := 20) (j := 273 + b) dX9_took_19 hm.t4 (blk_st (by decide)) rfl (by omega) rfl ?_
  refine jj_isub (q := 21) dX9_took_20 rfl ?_
  refine jj_iret dX9_took_21 rfl (Nat.zero_le _) (Nat.zero_le _) ?_
  exact ⟨rfl, rfl⟩
theorem lp_pI (hm : hMo T S mo) {c : Nat} (hX : mI X) (hc : mC X = c) {b : Nat} (hb : b < 100) {f x w : Int32} {Zf : List Frame → Array Value → State → State → Prop} (hz : JJ Γ (jj_E Y_X9_percentile) Zf (jj_rm (d + 1) 0 0) 0 0 164 [some (.ref mo), some (.int f), some (.int x), some (.int w), some (.int (nI b)), some (.int (nI (fb_ct (pBe X f b) c))), some (.int (nI (fb_ct (pUp X f b) c))), some (.int (nI c))] [] (T, R, S, blk 18 I mo (st A 4 X), L, D, z)) : ∀ (k i n m : Nat), (i + k = c ∧ n = fb_ct (pBe X f b) i ∧ m = fb_ct (pUp X f b) i) → JJ Γ (jj_E Y_X9_percentile) Zf (jj_rm (d + 1) 0 0) 0 0 84 [some (.ref mo), some (.int f), some (.int x), some (.int w), some (.int (nI b)), some (.int (nI n)), some (.int (nI m)), some (.int (nI i))] [] (T, R, S, blk 18 I mo (st A 4 X), L, D, z) := by
  have hc2 : X 2 = nI c := by rw [← hc]; exact hX.c.1
  have hc1 : c < 101 := by rw [← hc]; exact hX.c.2
  intro k
  induction k with
  | zero =>
    intro i n m hi
    refine jj_iload (q := 86) dX9_percentile_84 rfl rfl ?_
    refine jj_aload_n (q := 87) dX9_percentile_86 rfl rfl rfl ?_
    refine jj_getS (q := 90) dX9_percentile_87 fl_X9_23 hm.t0 hm.r0_12 rfl rfl rfl ?_
    refine jj_iconst (v := 2) (q := 91) dX9_percentile_90 rfl rfl ?_
    refine jj_ialdW (q := 92) (j := 2) (v := nI c) dX9_percentile_91 hm.t4 (blk_st (by decide)) rfl (by omega) hc2 rfl ?_
    refine jj_icmp_ge (q := 95) (tgt := 164) dX9_percentile_92 rfl rfl (fun h92 => ?_) (fun h92 => absurd (nI_le (show c ≤ i by omega) (by omega)) h92)
    obtain ⟨e1, e2, e3⟩ := hi
    have e : i = c := by omega
    subst e
    rw [e2, e3]
    exact hz
  | succ k ih =>
    intro i n m hi
    refine jj_iload (q := 86) dX9_percentile_84 rfl rfl ?_
    refine jj_aload_n (q := 87) dX9_percentile_86 rfl rfl rfl ?_
    refine jj_getS (q := 90) dX9_percentile_87 fl_X9_23 hm.t0 hm.r0_12 rfl rfl rfl ?_
    refine jj_iconst (v := 2) (q := 91) dX9_percentile_90 rfl rfl ?_
    refine jj_ialdW (q := 92) (j := 2) (v := nI c) dX9_percentile_91 hm.t4 (blk_st (by decide)) rfl (by omega) hc2 rfl ?_
    refine jj_icmp_ge (q := 95) (tgt := 164) dX9_percentile_92 rfl rfl (fun h92 => absurd h92 ((nI_ge (show i < c by omega) (by omega)))) (fun h92 => ?_)
    refine jj_aload_n (q := 96) dX9_percentile_95 rfl rfl rfl ?_
    refine jj_iload (q := 98) dX9_percentile_96 rfl rfl ?_
    refine jj_iload_n (q := 99) dX9_percentile_98 rfl rfl rfl ?_
    refine jj_cV2i (q := 102) dX9_percentile_99 yk_X9_isLoadedOf ml_X9_379 hm.t0 (ex_isLoadedOf hm (by omega)) rfl rfl rfl ⟨Nat.zero_le _, Nat.zero_le _⟩ ?_
    refine jj_if_ne (q := 105) (tgt := 108) dX9_percentile_102 rfl rfl (fun h102 => ?_) (fun h102 => ?_)
    · refine jj_iload (q := 110) dX9_percentile_108 rfl rfl ?_
      refine jj_aload_n (q := 111) dX9_percentile_110 rfl rfl rfl ?_
      refine jj_iload (q := 113) dX9_percentile_111 rfl rfl ?_
      refine jj_cV1i (q := 116) dX9_percentile_113 yk_X9_took ml_X9_382 hm.t0 (ex_took hm (by omega)) rfl rfl rfl ⟨Nat.zero_le _, Nat.zero_le _⟩ ?_
      refine jj_aload_n (q := 117) dX9_percentile_116 rfl rfl rfl ?_
      refine jj_iload (q := 119) dX9_percentile_117 rfl rfl ?_
      refine jj_cV1i (q := 122) dX9_percentile_119 yk_X9_took ml_X9_382 hm.t0 (ex_took hm (by omega)) rfl rfl rfl ⟨Nat.zero_le _, Nat.zero_le _⟩ ?_
      refine jj_icmp_ge (q := 125) (tgt := 129) dX9_percentile_122 rfl rfl (fun h122 => ?_) (fun h122 => ?_)
      · refine jj_iconst (v := 0) (q := 130) dX9_percentile_129 rfl rfl ?_
        refine jj_iaddN (q := 131) (a := n) (b := 0) dX9_percentile_130 rfl rfl rfl ?_
        refine jj_istore (q := 133) dX9_percentile_131 (by decide) rfl ?_
        refine jj_iload (q := 135) dX9_percentile_133 rfl rfl ?_
        refine jj_aload_n (q := 136) dX9_percentile_135 rfl rfl rfl ?_
        refine jj_iload (q := 138) dX9_percentile_136 rfl rfl ?_
        refine jj_cV1i (q := 141) dX9_percentile_138 yk_X9_took ml_X9_382 hm.t0 (ex_took hm (by omega)) rfl rfl rfl ⟨Nat.zero_le _, Nat.zero_le _⟩ ?_
        refine jj_aload_n (q := 142) dX9_percentile_141 rfl rfl rfl ?_
        refine jj_iload (q := 144) dX9_percentile_142 rfl rfl ?_
        refine jj_cV1i (q := 147) dX9_percentile_144 yk_X9_took ml_X9_382 hm.t0 (ex_took hm (by omega)) rfl rfl rfl ⟨Nat.zero_le _, Nat.zero_le _⟩ ?_
        refine jj_icmp_gt (q := 150) (tgt := 154) dX9_percentile_147 rfl rfl (fun h147 => ?_) (fun h147 => ?_)
        · refine jj_iconst (v := 0) (q := 155) dX9_percentile_154 rfl rfl ?_
          refine jj_iaddN (q := 156) (a := m) (b := 0) dX9_percentile_155 rfl rfl rfl ?_
          refine jj_istore (q := 158) dX9_percentile_156 (by decide) rfl ?_
          refine jj_iinc (v := nI (i + 1)) (q := 161) dX9_percentile_158 rfl (nI_incn i 1 rfl) (by decide) rfl ?_
          refine jj_goto (tgt := 84) dX9_percentile_161 rfl ?_
          exact ih (i + 1) _ _ ⟨by omega, ct_n hi.2.1 (decide_eq_false (fun w => Int32.not_lt.mpr h122 w.2)), ct_n hi.2.2 (decide_eq_false (fun w => Int32.not_le.mpr h147 w.2))⟩
        · refine jj_iconst (v := 1) (q := 151) dX9_percentile_150 rfl rfl ?_
          refine jj_goto (tgt := 155) dX9_percentile_151 rfl ?_
          refine jj_iaddN (q := 156) (a := m) (b := 1) dX9_percentile_155 rfl rfl rfl ?_
          refine jj_istore (q := 158) dX9_percentile_156 (by decide) rfl ?_
          refine jj_iinc (v := nI (i + 1)) (q := 161) dX9_percentile_158 rfl (nI_incn i 1 rfl) (by decide) rfl ?_
          refine jj_goto (tgt := 84) dX9_percentile_161 rfl ?_
          exact ih (i + 1) _ _ ⟨by omega, ct_n hi.2.1 (decide_eq_false (fun w => Int32.not_lt.mpr h122 w.2)), ct_y hi.2.2 (decide_eq_true ⟨h102, Int32.not_lt.mp h147⟩)⟩
      · refine jj_iconst (v := 1) (q := 126) dX9_percentile_125 rfl rfl ?_
        refine jj_goto (tgt := 130) dX9_percentile_126 rfl ?_
        refine jj_iaddN (q := 131) (a := n) (b := 1) dX9_percentile_130 rfl rfl rfl ?_
        refine jj_istore (q := 133) dX9_percentile_131 (by decide) rfl ?_
        refine jj_iload (q := 135) dX9_percentile_133 rfl rfl ?_
        refine jj_aload_n (q := 136) dX9_percentile_135 rfl rfl rfl ?_
        refine jj_iload (q := 138) dX9_percentile_136 rfl rfl ?_
        refine jj_cV1i (q := 141) dX9_percentile_138 yk_X9_took ml_X9_382 hm.t0 (ex_took hm (by omega)) rfl rfl rfl ⟨Nat.zero_le _, Nat.zero_le _⟩ ?_
        refine jj_aload_n (q := 142) dX9_percentile_141 rfl rfl rfl ?_
        refine jj_iload (q := 144) dX9_percentile_142 rfl rfl ?_
        refine jj_cV1i (q := 147) dX9_percentile_144 yk_X9_took ml_X9_382 hm.t0 (ex_took hm (by omega)) rfl rfl rfl ⟨Nat.zero_le _, Nat.zero_le _⟩ ?_
        refine jj_icmp_gt (q := 150) (tgt := 154) dX9_percentile_147 rfl rfl (fun h147 => ?_) (fun h147 => ?_)
        · refine jj_iconst (v := 0) (q := 155) dX9_percentile_154 rfl rfl ?_
          refine jj_iaddN (q := 156) (a := m) (b := 0) dX9_percentile_155 rfl rfl rfl ?_
          refine jj_istore (q := 158) dX9_percentile_156 (by decide) rfl ?_
          refine jj_iinc (v := nI (i + 1)) (q := 161) dX9_percentile_158 rfl (nI_incn i 1 rfl) (by decide) rfl ?_
          refine jj_goto (tgt := 84) dX9_percentile_161 rfl ?_
          exact ih (i + 1) _ _ ⟨by omega, ct_y hi.2.1 (decide_eq_true ⟨h102, Int32.not_le.mp h122⟩), ct_n hi.2.2 (decide_eq_false (fun w => Int32.not_le.mpr h147 w.2))⟩
        · refine jj_iconst (v := 1) (q := 151) dX9_percentile_150 rfl rfl ?_
          refine jj_goto (tgt := 155) dX9_percentile_151 rfl ?_
          refine jj_iaddN (q := 156) (a := m) (b := 1) dX9_percentile_155 rfl rfl rfl ?_
          refine jj_istore (q := 158) dX9_percentile_156 (by decide) rfl ?_
          refine jj_iinc (v := nI (i + 1)) (q := 161) dX9_percentile_158 rfl (nI_incn i 1 rfl) (by decide) rfl ?_
          refine jj_goto (tgt := 84) dX9_percentile_161 rfl ?_
          exact ih (i + 1) _ _ ⟨by omega, ct_y hi.2.1 (decide_eq_true ⟨h102, Int32.not_le.mp h122⟩), ct_y hi.2.2 (decide_eq_true ⟨h102, Int32.not_lt.mp h147⟩)⟩
    · refine jj_goto (tgt := 158) dX9_percentile_105 rfl ?_
      refine jj_iinc (v := nI (i + 1)) (q := 161) dX9_percentile_158 rfl (nI_incn i 1 rfl) (by decide) rfl ?_
      refine jj_goto (tgt := 84) dX9_percentile_161 rfl ?_
      exact ih (i + 1) _ _ ⟨by omega, ct_m hi.2.1 (decide_eq_false (fun w => w.1 h102)), ct_m hi.2.2 (decide_eq_false (fun w => w.1 h102))⟩
theorem lp_pO (hm : hMo T S mo) {c : Nat} (hX : mI X) (hc : mC X = c) {f x w : Int32} : ∀ (k i : Nat) (x5 x6 x7 : Option Value), (i + k = c ∧ ∀ j, j < i → pPc X f w c j = false) → JJ Γ (jj_E Y_X9_percentile) (jj_Z Γ (rI (srch (pPc X f w c) c (tk_ X) (-1)) (T, R, S, blk 18 I mo (st A 4 X), L, D, z)) 0 0) (jj_rm (d + 1) 0 0) 0 0 51 [some (.ref mo), some (.int f), some (.int x), some (.int w), some (.int (nI i)), x5, x6, x7] [] (T, R, S, blk 18 I mo (st A 4 X), L, D, z) := by
  have hc2 : X 2 = nI c := by rw [← hc]; exact hX.c.1
  have hc1 : c < 101 := by rw [← hc]; exact hX.c.2
  intro k
  induction k with
  | zero =>
    intro i x5 x6 x7 hi
    refine jj_iload (q := 53) dX9_percentile_51 rfl rfl ?_
    refine jj_aload_n (q := 54) dX9_percentile_53 rfl rfl rfl ?_
    refine jj_getS (q := 57) dX9_percentile_54 fl_X9_23 hm.t0 hm.r0_12 rfl rfl rfl ?_
    refine jj_iconst (v := 2) (q := 58) dX9_percentile_57 rfl rfl ?_
    refine jj_ialdW (q := 59) (j := 2) (v := nI c) dX9_percentile_58 hm.t4 (blk_st (by decide)) rfl (by omega) hc2 rfl ?_
    refine jj_icmp_ge (q := 62) (tgt := 189) dX9_percentile_59 rfl rfl (fun h59 => ?_) (fun h59 => absurd (nI_le (show c ≤ i by omega) (by omega)) h59)
    refine jj_iconst (v := -1) (q := 190) dX9_percentile_189 rfl rfl ?_
    refine jj_iret dX9_percentile_190 rfl (Nat.zero_le _) (Nat.zero_le _) ?_
    exact ⟨by rw [srch_none (fun j hj => hi.2 j (by omega))], rfl⟩
  | succ k ih =>
    intro i x5 x6 x7 hi
    refine jj_iload (q := 53) dX9_percentile_51 rfl rfl ?_
    refine jj_aload_n (q := 54) dX9_percentile_53 rfl rfl rfl ?_
    refine jj_getS (q := 57) dX9_percentile_54 fl_X9_23 hm.t0 hm.r0_12 rfl rfl rfl ?_
    refine jj_iconst (v := 2) (q := 58) dX9_percentile_57 rfl rfl ?_
    refine jj_ialdW (q := 59) (j := 2) (v := nI c) dX9_percentile_58 hm.t4 (blk_st (by decide)) rfl (by omega) hc2 rfl ?_
    refine jj_icmp_ge (q := 62) (tgt := 189) dX9_percentile_59 rfl rfl (fun h59 => absurd h59 ((nI_ge (show i < c by omega) (by omega)))) (fun h59 => ?_)
    refine jj_aload_n (q := 63) dX9_percentile_62 rfl rfl rfl ?_
    refine jj_iload (q := 65) dX9_percentile_63 rfl rfl ?_
    refine jj_iload_n (q := 66) dX9_percentile_65 rfl rfl rfl ?_
    refine jj_cV2i (q := 69) dX9_percentile_66 yk_X9_isLoadedOf ml_X9_379 hm.t0 (ex_isLoadedOf hm (by omega)) rfl rfl rfl ⟨Nat.zero_le _, Nat.zero_le _⟩ ?_
    refine jj_if_ne (q := 72) (tgt := 75) dX9_percentile_69 rfl rfl (fun h69 => ?_) (fun h69 => ?_)
    · refine jj_iconst (v := 0) (q := 76) dX9_percentile_75 rfl rfl ?_
      refine jj_istore (q := 78) dX9_percentile_76 (by decide) rfl ?_
      refine jj_iconst (v := 0) (q := 79) dX9_percentile_78 rfl rfl ?_
      refine jj_istore (q := 81) dX9_percentile_79 (by decide) rfl ?_
      refine jj_iconst (v := 0) (q := 82) dX9_percentile_81 rfl rfl ?_
      refine jj_istore (q := 84) dX9_percentile_82 (by decide) rfl ?_
      refine lp_pI hm hX hc (show i < 100 by omega) ?_ c 0 0 0 ⟨by omega, rfl, rfl⟩
      refine jj_iload (q := 166) dX9_percentile_164 rfl rfl ?_
      refine jj_iload_n (q := 167) dX9_percentile_166 rfl rfl rfl ?_
      refine jj_icmp_ge (q := 170) (tgt := 183) dX9_percentile_167 rfl rfl (fun h167 => ?_) (fun h167 => ?_)
      · refine jj_iinc (v := nI (i + 1)) (q := 186) dX9_percentile_183 rfl (nI_incn i 1 rfl) (by decide) rfl ?_
        refine jj_goto (tgt := 51) dX9_percentile_186 rfl ?_
        refine ih (i + 1) _ _ _ ⟨by omega, fun j hj => ?_⟩
        by_cases e : j = i
        · subst e; exact decide_eq_false (fun w => Int32.not_lt.mpr h167 w.2.1)
        · exact hi.2 j (by omega)
      · refine jj_iload_n (q := 171) dX9_percentile_170 rfl rfl rfl ?_
        refine jj_iload (q := 173) dX9_percentile_171 rfl rfl ?_
        refine jj_icmp_gt (q := 176) (tgt := 183) dX9_percentile_173 rfl rfl (fun h173 => ?_) (fun h173 => ?_)
        · refine jj_iinc (v := nI (i + 1)) (q := 186) dX9_percentile_183 rfl (nI_incn i 1 rfl) (by decide) rfl ?_
          refine jj_goto (tgt := 51) dX9_percentile_186 rfl ?_
          refine ih (i + 1) _ _ _ ⟨by omega, fun j hj => ?_⟩
          by_cases e : j = i
          · subst e; exact decide_eq_false (fun w => Int32.not_le.mpr h173 w.2.2)
          · exact hi.2 j (by omega)
        · refine jj_aload_n (q := 177) dX9_percentile_176 rfl rfl rfl ?_
          refine jj_iload (q := 179) dX9_percentile_177 rfl rfl ?_
          refine jj_cV1i (q := 182) dX9_percentile_179 yk_X9_took ml_X9_382 hm.t0 (ex_took hm (by omega)) rfl rfl rfl ⟨Nat.zero_le _, Nat.zero_le _⟩ ?_
          refine jj_iret dX9_percentile_182 rfl (Nat.zero_le _) (Nat.zero_le _) ?_
          exact ⟨by rw [srch_hit hi.2 (decide_eq_true ⟨h69, Int32.not_le.mp h167, Int32.not_lt.mp h173⟩) (by omega)], rfl⟩
    · refine jj_goto (tgt := 183) dX9_percentile_72 rfl ?_
      refine jj_iinc (v := nI (i + 1)) (q := 186) dX9_percentile_183 rfl (nI_incn i 1 rfl) (by decide) rfl ?_
      refine jj_goto (tgt := 51) dX9_percentile_186 rfl ?_
      refine ih (i + 1) _ _ _ ⟨by omega, fun j hj => ?_⟩
      by_cases e : j = i
      · subst e; exact decide_eq_false (fun w => w.1 h69)
      · exact hi.2 j (by omega)
theorem ex_mpercentile (hm : hMo T S mo) {c : Nat} (hX : mI X) (hc : mC X = c) {b x : Int32} : Ex Γ (d + 3) Y_X9_percentile [.ref mo, .int b, .int x] (T, R, S, blk 18 I mo (st A 4 X), L, D, z) 0 0 (rI (if mOk A (inI b 0 (A 2 12 - 1)) = 0 then 0 else if inI x 1 100 = 0 then 0 else srch (pPc X b (wnt X b x c) c) c (tk_ X) (-1)) (T, R, S, blk 18 I mo (st (tA A (tF3 A (inI b 0 (A 2 12 - 1)) (inI x 1 100))) 4 X), L, D, z)) := by
  refine Ex.of (by decide) (by simp [Value.category]) (Nat.le_of_ble_eq_true rfl) rfl ?_
  refine jj_aload_n (q := 1) dX9_percentile_0 rfl rfl rfl ?_
  refine jj_aload_n (q := 2) dX9_percentile_1 rfl rfl rfl ?_
  refine jj_iload_n (q := 3) dX9_percentile_2 rfl rfl rfl ?_
  refine jj_cV1i (q := 6) dX9_percentile_3 yk_X9_isFlight ml_X9_373 hm.t0 (ex_isFlight hm) rfl rfl rfl ⟨Nat.zero_le _, Nat.zero_le _⟩ ?_
  refine jj_cV1i (q := 9) dX9_percentile_6 yk_X9_mayAsk ml_X9_353 hm.t0 (ex_mayAsk hm) rfl rfl rfl ⟨Nat.zero_le _, Nat.zero_le _⟩ ?_
  refine jj_if_ne (q := 12) (tgt := 14) dX9_percentile_9 rfl rfl (fun h9 => ?_) (fun h9 => ?_)
  · refine jj_iload_n (q := 15) dX9_percentile_14 rfl rfl rfl ?_
    refine jj_iconst (v := 1) (q := 16) dX9_percentile_15 rfl rfl ?_
    refine jj_bipush (v := 100) (q := 18) dX9_percentile_16 rfl rfl ?_
    refine jj_cS3i (q := 21) dX9_percentile_18 yk_X9_in ml_X9_111 ex_inI rfl rfl rfl ⟨Nat.zero_le _, Nat.zero_le _⟩ ?_
    refine jj_if_ne (q := 24) (tgt := 30) dX9_percentile_21 rfl rfl (fun h21 => ?_) (fun h21 => ?_)
    · refine jj_iload_n (q := 31) dX9_percentile_30 rfl rfl rfl ?_
      refine jj_aload_n (q := 32) dX9_percentile_31 rfl rfl rfl ?_
      refine jj_iload_n (q := 33) dX9_percentile_32 rfl rfl rfl ?_
      refine jj_bipush (v := 10) (q := 35) dX9_percentile_33 rfl rfl ?_
      refine jj_bipush (v := 10) (q := 37) dX9_percentile_35 rfl rfl ?_
      refine jj_cV3i (q := 40) dX9_percentile_37 yk_X9_bagsOf ml_X9_376 hm.t0 (ex_bagsOf hm hX hc) rfl rfl rfl ⟨Nat.zero_le _, Nat.zero_le _⟩ ?_
      refine jj_imul (q := 41) dX9_percentile_40 rfl ?_
      refine jj_bipush (v := 99) (q := 43) dX9_percentile_41 rfl rfl ?_
      refine jj_iadd (q := 44) dX9_percentile_43 rfl ?_
      refine jj_bipush (v := 100) (q := 46) dX9_percentile_44 rfl rfl ?_
      refine jj_idiv (q := 47) dX9_percentile_46 (by decide) rfl ?_
      refine jj_istore_n (q := 48) dX9_percentile_47 rfl (by decide) rfl ?_
      refine jj_iconst (v := 0) (q := 49) dX9_percentile_48 rfl rfl ?_
      refine jj_istore (q := 51) dX9_percentile_49 (by decide) rfl ?_
      unfold tF3
      rw [if_neg h9, if_neg h21, if_neg h9, if_neg h21]
      exact lp_pO hm hX hc c 0 _ _ _ ⟨by omega, fun j hj => by omega⟩
    · refine jj_aload_n (q := 25) dX9_percentile_24 rfl rfl rfl ?_
      refine jj_iconst (v := 3) (q := 26) dX9_percentile_25 rfl rfl ?_
      refine jj_cV1i (q := 29) dX9_percentile_26 yk_X9_throwsAt ml_X9_240 hm.t0 (ex_throwsAt hm) rfl rfl rfl ⟨Nat.zero_le _, Nat.zero_le _⟩ ?_
      refine jj_iret dX9_percentile_29 rfl (Nat.zero_le _) (Nat.zero_le _) ?_
      exact ⟨by rw [if_neg h9, if_pos h21], by unfold tF3; rw [if_neg h9, if_pos h21, tA_tA]⟩
  · refine jj_iconst (v := 0) (q := 13) dX9_percentile_12 rfl rfl ?_
    refine jj_iret dX9_percentile_13 rfl (Nat.zero_le _) (Nat.zero_le _) ?_
    exact ⟨by rw [if_pos h9], by unfold tF3; rw [if_pos h9]⟩
theorem ex_isWorse (hm : hMo T S mo) {c : Nat} (hX : mI X) (hc : mC X = c) {a b : Int32} : Ex Γ (d + 2) Y_X9_isWorse [.ref mo, .int a, .int b] (T, R, S, blk 18 I mo (st A 4 X), L, D, z) 0 0 (rI (wS X c a b) (T, R, S, blk 18 I mo (st A 4 X), L, D, z)) := by
  refine Ex.of (by decide) (by simp [Value.category]) (Nat.le_of_ble_eq_true rfl) rfl ?_
  refine jj_aload_n (q := 1) dX9_isWorse_0 rfl rfl rfl ?_
  refine jj_iload_n (q := 2) dX9_isWorse_1 rfl rfl rfl ?_
  refine jj_bipush (v := 11) (q := 4) dX9_isWorse_2 rfl rfl ?_
  refine jj_bipush (v := 11) (q := 6) dX9_isWorse_4 rfl rfl ?_
  refine jj_cV3i (q := 9) dX9_isWorse_6 yk_X9_bagsOf ml_X9_376 hm.t0 (ex_bagsOf hm hX hc) rfl rfl rfl ⟨Nat.zero_le _, Nat.zero_le _⟩ ?_
  refine jj_aload_n (q := 10) dX9_isWorse_9 rfl rfl rfl ?_
  refine jj_iload_n (q := 11) dX9_isWorse_10 rfl rfl rfl ?_
  refine jj_bipush (v := 11) (q := 13) dX9_isWorse_11 rfl rfl ?_
  refine jj_bipush (v := 11) (q := 15) dX9_isWorse_13 rfl rfl ?_
  refine jj_cV3i (q := 18) dX9_isWorse_15 yk_X9_bagsOf ml_X9_376 hm.t0 (ex_bagsOf hm hX hc) rfl rfl rfl ⟨Nat.zero_le _, Nat.zero_le _⟩ ?_
  refine jj_isub (q := 19) dX9_isWorse_18 rfl ?_
  refine jj_istore_n (q := 20) dX9_isWorse_19 rfl (by decide) rfl ?_
  refine jj_iload_n (q := 21) dX9_isWorse_20 rfl rfl rfl ?_
  refine jj_if_eq (q := 24) (tgt := 34) dX9_isWorse_21 rfl rfl (fun h21 => ?_) (fun h21 => ?_)
  · refine jj_aload_n (q := 35) dX9_isWorse_34 rfl rfl rfl ?_
    refine jj_iload_n (q := 36) dX9_isWorse_35 rfl rfl rfl ?_
    refine jj_iconst (v := 0) (q := 37) dX9_isWorse_36 rfl rfl ?_
    refine jj_bipush (v := 9) (q := 39) dX9_isWorse_37 rfl rfl ?_
    refine jj_cV3i (q := 42) dX9_isWorse_39 yk_X9_bagsOf ml_X9_376 hm.t0 (ex_bagsOf hm hX hc) rfl rfl rfl ⟨Nat.zero_le _, Nat.zero_le _⟩ ?_
    refine jj_aload_n (q := 43) dX9_isWorse_42 rfl rfl rfl ?_
    refine jj_iload_n (q := 44) dX9_isWorse_43 rfl rfl rfl ?_
    refine jj_iconst (v := 0) (q := 45) dX9_isWorse_44 rfl rfl ?_
    refine jj_bipush (v := 9) (q := 47) dX9_isWorse_45 rfl rfl ?_
    refine jj_cV3i (q := 50) dX9_isWorse_47 yk_X9_bagsOf ml_X9_376 hm.t0 (ex_bagsOf hm hX hc) rfl rfl rfl ⟨Nat.zero_le _, Nat.zero_le _⟩ ?_
    refine jj_isub (q := 51) dX9_isWorse_50 rfl ?_
    refine jj_istore (q := 53) dX9_isWorse_51 (by decide) rfl ?_
    refine jj_iload (q := 55) dX9_isWorse_53 rfl rfl ?_
    refine jj_if_eq (q := 58) (tgt := 71) dX9_isWorse_55 rfl rfl (fun h55 => ?_) (fun h55 => ?_)
    · refine jj_iload_n (q := 72) dX9_isWorse_71 rfl rfl rfl ?_
      refine jj_iload_n (q := 73) dX9_isWorse_72 rfl rfl rfl ?_
      refine jj_icmp_ge (q := 76) (tgt := 80) dX9_isWorse_73 rfl rfl (fun h73 => ?_) (fun h73 => ?_)
      · refine jj_iconst (v := 0) (q := 81) dX9_isWorse_80 rfl rfl ?_
        refine jj_zret dX9_isWorse_81 rfl (by first | rfl | assumption) (Nat.zero_le _) (Nat.zero_le _) ?_
        exact ⟨by unfold wS cB; (first | rw [if_pos h21] | rw [if_neg h21] | skip); (first | rw [if_pos h25] | rw [if_neg h25] | skip); (first | rw [if_pos h55] | rw [if_neg h55] | skip); (first | rw [if_pos h60] | rw [if_neg h60] | skip); (first | rw [if_pos h73] | rw [if_neg h73] | skip), rfl⟩
      · refine jj_iconst (v := 1) (q := 77) dX9_isWorse_76 rfl rfl ?_
        refine jj_goto (tgt := 81) dX9_isWorse_77 rfl ?_
        refine jj_zret dX9_isWorse_81 rfl (by first | rfl | assumption) (Nat.zero_le _) (Nat.zero_le _) ?_
        exact ⟨by unfold wS cB; (first | rw [if_pos h21] | rw [if_neg h21] | skip); (first | rw [if_pos h25] | rw [if_neg h25] | skip); (first | rw [if_pos h55] | rw [if_neg h55] | skip); (first | rw [if_pos h60] | rw [if_neg h60] | skip); (first | rw [if_pos h73] | rw [if_neg h73] | skip), rfl⟩
    · refine jj_iload (q := 60) dX9_isWorse_58 rfl rfl ?_
      refine jj_if_le (q := 63) (tgt := 67) dX9_isWorse_60 rfl rfl (fun h60 => ?_) (fun h60 => ?_)
      · refine jj_iconst (v := 0) (q := 68) dX9_isWorse_67 rfl rfl ?_
        refine jj_goto (tgt := 81) dX9_isWorse_68 rfl ?_
        refine jj_zret dX9_isWorse_81 rfl (by first | rfl | assumption) (Nat.zero_le _) (Nat.zero_le _) ?_
        exact ⟨by unfold wS cB; (first | rw [if_pos h21] | rw [if_neg h21] | skip); (first | rw [if_pos h25] | rw [if_neg h25] | skip); (first | rw [if_pos h55] | rw [if_neg h55] | skip); (first | rw [if_pos h60] | rw [if_neg h60] | skip); (first | rw [if_pos h73] | rw [if_neg h73] | skip), rfl⟩
      · refine jj_iconst (v := 1) (q := 64) dX9_isWorse_63 rfl rfl ?_
        refine jj_goto (tgt := 81) dX9_isWorse_64 rfl ?_
        refine jj_zret dX9_isWorse_81 rfl (by first | rfl | assumption) (Nat.zero_le _) (Nat.zero_le _) ?_
        exact ⟨by unfold wS cB; (first | rw [if_pos h21] | rw [if_neg h21] | skip); (first | rw [if_pos h25] | rw [if_neg h25] | skip); (first | rw [if_pos h55] | rw [if_neg h55] | skip); (first | rw [if_pos h60] | rw [if_neg h60] | skip); (first | rw [if_pos h73] | rw [if_neg h73] | skip), rfl⟩
  · refine jj_iload_n (q := 25) dX9_isWorse_24 rfl rfl rfl ?_
    refine jj_if_le (q := 28) (tgt := 32) dX9_isWorse_25 rfl rfl (fun h25 => ?_) (fun h25 => ?_)
    · refine jj_iconst (v := 0) (q := 33) dX9_isWorse_32 rfl rfl ?_
      refine jj_zret dX9_isWorse_33 rfl (by first | rfl | assumption) (Nat.zero_le _) (Nat.zero_le _) ?_
      exact ⟨by unfold wS cB; (first | rw [if_pos h21] | rw [if_neg h21] | skip); (first | rw [if_pos h25] | rw [if_neg h25] | skip); (first | rw [if_pos h55] | rw [if_neg h55] | skip); (first | rw [if_pos h60] | rw [if_neg h60] | skip); (first | rw [if_pos h73] | rw [if_neg h73] | skip), rfl⟩
    · refine jj_iconst (v := 1) (q := 29) dX9_isWorse_28 rfl rfl ?_
      refine jj_goto (tgt := 33) dX9_isWorse_29 rfl ?_
      refine jj_zret dX9_isWorse_33 rfl (by first | rfl | assumption) (Nat.zero_le _) (Nat.zero_le _) ?_
      exact ⟨by unfold wS cB; (first | rw [if_pos h21] | rw [if_neg h21] | skip); (first | rw [if_pos h25] | rw [if_neg h25] | skip); (first | rw [if_pos h55] | rw [if_neg h55] | skip); (first | rw [if_pos h60] | rw [if_neg h60] | skip); (first | rw [if_pos h73] | rw [if_neg h73] | skip), rfl⟩
theorem lp_wI (hm : hMo T S mo) {c : Nat} (hX : mI X) (hc : mC X = c) {ln : Nat} (hq : A 2 12 = nI ln) (hl : ln ≤ 8) {f : Nat} {x : Int32} {Zf : List Frame → Array Value → State → State → Prop} (hz : JJ Γ (jj_E Y_X9_worstFlight) Zf (jj_rm (d + 3) 0 0) 0 0 74 [some (.ref mo), some (.int x), some (.int (nI f)), some (.int (nI (fb_ct (pWo X c f) ln))), some (.int (nI ln))] [] (T, R, S, blk 18 I mo (st A 4 X), L, D, z)) : ∀ (k i n : Nat), (i + k = ln ∧ n = fb_ct (pWo X c f) i) → JJ Γ (jj_E Y_X9_worstFlight) Zf (jj_rm (d + 3) 0 0) 0 0 32 [some (.ref mo), some (.int x), some (.int (nI f)), some (.int (nI n)), some (.int (nI i))] [] (T, R, S, blk 18 I mo (st A 4 X), L, D, z) := by
  intro k
  induction k with
  | zero =>
    intro i n hi
    refine jj_iload (q := 34) dX9_worstFlight_32 rfl rfl ?_
    refine jj_aload_n (q := 35) dX9_worstFlight_34 rfl rfl rfl ?_
    refine jj_getS (q := 38) dX9_worstFlight_35 fl_X9_17 hm.t0 hm.r0_10 rfl rfl rfl ?_
    refine jj_bipush (v := 12) (q := 40) dX9_worstFlight_38 rfl rfl ?_
    refine jj_ialdW (q := 41) (j := 12) (v := nI ln) dX9_worstFlight_40 hm.t2 (blk_sn (by decide) (by decide)) rfl (by omega) hq rfl ?_
    refine jj_icmp_ge (q := 44) (tgt := 74) dX9_worstFlight_41 rfl rfl (fun h41 => ?_) (fun h41 => absurd (nI_le (show ln ≤ i by omega) (by omega)) h41)
    obtain ⟨e1, e2⟩ := hi
    have e : i = ln := by omega
    subst e
    rw [e2]
    exact hz
  | succ k ih =>
    intro i n hi
    refine jj_iload (q := 34) dX9_worstFlight_32 rfl rfl ?_
    refine jj_aload_n (q := 35) dX9_worstFlight_34 rfl rfl rfl ?_
    refine jj_getS (q := 38) dX9_worstFlight_35 fl_X9_17 hm.t0 hm.r0_10 rfl rfl rfl ?_
    refine jj_bipush (v := 12) (q := 40) dX9_worstFlight_38 rfl rfl ?_
    refine jj_ialdW (q := 41) (j := 12) (v := nI ln) dX9_worstFlight_40 hm.t2 (blk_sn (by decide) (by decide)) rfl (by omega) hq rfl ?_
    refine jj_icmp_ge (q := 44) (tgt := 74) dX9_worstFlight_41 rfl rfl (fun h41 => absurd h41 ((nI_ge (show i < ln by omega) (by omega)))) (fun h41 => ?_)
    refine jj_iload_n (q := 45) dX9_worstFlight_44 rfl rfl rfl ?_
    refine jj_iload (q := 47) dX9_worstFlight_45 rfl rfl ?_
    refine jj_iload_n (q := 48) dX9_worstFlight_47 rfl rfl rfl ?_
    refine jj_icmp_eq (q := 51) (tgt := 65) dX9_worstFlight_48 rfl rfl (fun h48 => ?_) (fun h48 => ?_)
    · refine jj_iconst (v := 0) (q := 66) dX9_worstFlight_65 rfl rfl ?_
      refine jj_iaddN (q := 67) (a := n) (b := 0) dX9_worstFlight_66 rfl rfl rfl ?_
      refine jj_istore_n (q := 68) dX9_worstFlight_67 rfl (by decide) rfl ?_
      refine jj_iinc (v := nI (i + 1)) (q := 71) dX9_worstFlight_68 rfl (nI_incn i 1 rfl) (by decide) rfl ?_
      refine jj_goto (tgt := 32) dX9_worstFlight_71 rfl ?_
      exact ih (i + 1) _ ⟨by omega, ct_n hi.2 (decide_eq_false (fun w => w.1 h48))⟩
    · refine jj_aload_n (q := 52) dX9_worstFlight_51 rfl rfl rfl ?_
      refine jj_iload (q := 54) dX9_worstFlight_52 rfl rfl ?_
      refine jj_iload_n (q := 55) dX9_worstFlight_54 rfl rfl rfl ?_
      refine jj_cV2i (q := 58) dX9_worstFlight_55 yk_X9_isWorse ml_X9_385 hm.t0 (ex_isWorse hm hX hc) rfl rfl rfl ⟨Nat.zero_le _, Nat.zero_le _⟩ ?_
      refine jj_if_eq (q := 61) (tgt := 65) dX9_worstFlight_58 rfl rfl (fun h58 => ?_) (fun h58 => ?_)
      · refine jj_iconst (v := 0) (q := 66) dX9_worstFlight_65 rfl rfl ?_
        refine jj_iaddN (q := 67) (a := n) (b := 0) dX9_worstFlight_66 rfl rfl rfl ?_
        refine jj_istore_n (q := 68) dX9_worstFlight_67 rfl (by decide) rfl ?_
        refine jj_iinc (v := nI (i + 1)) (q := 71) dX9_worstFlight_68 rfl (nI_incn i 1 rfl) (by decide) rfl ?_
        refine jj_goto (tgt := 32) dX9_worstFlight_71 rfl ?_
        exact ih (i + 1) _ ⟨by omega, ct_n hi.2 (decide_eq_false (fun w => w.2 h58))⟩
      · refine jj_iconst (v := 1) (q := 62) dX9_worstFlight_61 rfl rfl ?_
        refine jj_goto (tgt := 66) dX9_worstFlight_62 rfl ?_
        refine jj_iaddN (q := 67) (a := n) (b := 1) dX9_worstFlight_66 rfl rfl rfl ?_
        refine jj_istore_n (q := 68) dX9_worstFlight_67 rfl (by decide) rfl ?_
        refine jj_iinc (v := nI (i + 1)) (q := 71) dX9_worstFlight_68 rfl (nI_incn i 1 rfl) (by decide) rfl ?_
        refine jj_goto (tgt := 32) dX9_worstFlight_71 rfl ?_
        exact ih (i + 1) _ ⟨by omega, ct_y hi.2 (decide_eq_true ⟨h48, h58⟩)⟩
theorem lp_wO (hm : hMo T S mo) {c : Nat} (hX : mI X) (hc : mC X = c) {ln : Nat} (hq : A 2 12 = nI ln) (hl : ln ≤ 8) {x : Int32} : ∀ (k i : Nat) (x3 x4 : Option Value), (i + k = ln ∧ ∀ j, j < i → decide (nI (fb_ct (pWo X c j) ln) = x) = false) → JJ Γ (jj_E Y_X9_worstFlight) (jj_Z Γ (rI (srch (fun f => decide (nI (fb_ct (pWo X c f) ln) = x)) ln nI (-1)) (T, R, S, blk 18 I mo (st A 4 X), L, D, z)) 0 0) (jj_rm (d + 3) 0 0) 0 0 16 [some (.ref mo), some (.int x), some (.int (nI i)), x3, x4] [] (T, R, S, blk 18 I mo (st A 4 X), L, D, z) := by
  intro k
  induction k with
  | zero =>
    intro i x3 x4 hi
    refine jj_iload_n (q := 17) dX9_worstFlight_16 rfl rfl rfl ?_
    refine jj_aload_n (q := 18) dX9_worstFlight_17 rfl rfl rfl ?_
    refine jj_getS (q := 21) dX9_worstFlight_18 fl_X9_17 hm.t0 hm.r0_10 rfl rfl rfl ?_
    refine jj_bipush (v := 12) (q := 23) dX9_worstFlight_21 rfl rfl ?_
    refine jj_ialdW (q := 24) (j := 12) (v := nI ln) dX9_worstFlight_23 hm.t2 (blk_sn (by decide) (by decide)) rfl (by omega) hq rfl ?_
    refine jj_icmp_ge (q := 27) (tgt := 87) dX9_worstFlight_24 rfl rfl (fun h24 => ?_) (fun h24 => absurd (nI_le (show ln ≤ i by omega) (by omega)) h24)
    refine jj_iconst (v := -1) (q := 88) dX9_worstFlight_87 rfl rfl ?_
    refine jj_iret dX9_worstFlight_88 rfl (Nat.zero_le _) (Nat.zero_le _) ?_
    exact ⟨by rw [srch_none (fun j hj => hi.2 j (by omega))], rfl⟩
  | succ k ih =>
    intro i x3 x4 hi
    refine jj_iload_n (q := 17) dX9_worstFlight_16 rfl rfl rfl ?_
    refine jj_aload_n (q := 18) dX9_worstFlight_17 rfl rfl rfl ?_
    refine jj_getS (q := 21) dX9_worstFlight_18 fl_X9_17 hm.t0 hm.r0_10 rfl rfl rfl ?_
    refine jj_bipush (v := 12) (q := 23) dX9_worstFlight_21 rfl rfl ?_
    refine jj_ialdW (q := 24) (j := 12) (v := nI ln) dX9_worstFlight_23 hm.t2 (blk_sn (by decide) (by decide)) rfl (by omega) hq rfl ?_
    refine jj_icmp_ge (q := 27) (tgt := 87) dX9_worstFlight_24 rfl rfl (fun h24 => absurd h24 ((nI_ge (show i < ln by omega) (by omega)))) (fun h24 => ?_)
    refine jj_iconst (v := 0) (q := 28) dX9_worstFlight_27 rfl rfl ?_
    refine jj_istore_n (q := 29) dX9_worstFlight_28 rfl (by decide) rfl ?_
    refine jj_iconst (v := 0) (q := 30) dX9_worstFlight_29 rfl rfl ?_
    refine jj_istore (q := 32) dX9_worstFlight_30 (by decide) rfl ?_
    refine lp_wI hm hX hc hq hl ?_ ln 0 0 ⟨by omega, rfl⟩
    refine jj_iload_n (q := 75) dX9_worstFlight_74 rfl rfl rfl ?_
    refine jj_iload_n (q := 76) dX9_worstFlight_75 rfl rfl rfl ?_
    refine jj_icmp_ne (q := 79) (tgt := 81) dX9_worstFlight_76 rfl rfl (fun h76 => ?_) (fun h76 => ?_)
    · refine jj_iinc (v := nI (i + 1)) (q := 84) dX9_worstFlight_81 rfl (nI_incn i 1 rfl) (by decide) rfl ?_
      refine jj_goto (tgt := 16) dX9_worstFlight_84 rfl ?_
      refine ih (i + 1) _ _ ⟨by omega, fun j hj => ?_⟩
      by_cases e : j = i
      · subst e; exact decide_eq_false h76
      · exact hi.2 j (by omega)
    · refine jj_iload_n (q := 80) dX9_worstFlight_79 rfl rfl rfl ?_
      refine jj_iret dX9_worstFlight_80 rfl (Nat.zero_le _) (Nat.zero_le _) ?_
      exact ⟨by rw [srch_hit hi.2 (decide_eq_true h76) (by omega)], rfl⟩
theorem ex_mworstFlight (hm : hMo T S mo) {c : Nat} (hX : mI X) (hc : mC X = c) {ln : Nat} (hq : A 2 12 = nI ln) (hl : ln ≤ 8) {b : Int32} : Ex Γ (d + 3) Y_X9_worstFlight [.ref mo, .int b] (T, R, S, blk 18 I mo (st A 4 X), L, D, z) 0 0 (rI (if mOk A (inI b 0 (A 2 12 - 1)) = 0 then 0 else srch (fun f => decide (nI (fb_ct (pWo X c f) ln) = b)) ln nI (-1)) (T, R, S, blk 18 I mo (st (tA A (tI A (inI b 0 (A 2 12 - 1)))) 4 X), L, D, z)) := by
  refine Ex.of (by decide) (by simp [Value.category]) (Nat.le_of_ble_eq_true rfl) rfl ?_
  refine jj_aload_n (q := 1) dX9_worstFlight_0 rfl rfl rfl ?_
  refine jj_aload_n (q := 2) dX9_worstFlight_1 rfl rfl rfl ?_
  refine jj_iload_n (q := 3) dX9_worstFlight_2 rfl rfl rfl ?_
  refine jj_cV1i (q := 6) dX9_worstFlight_3 yk_X9_isFlight ml_X9_373 hm.t0 (ex_isFlight hm) rfl rfl rfl ⟨Nat.zero_le _, Nat.zero_le _⟩ ?_
  refine jj_cV1i (q := 9) dX9_worstFlight_6 yk_X9_mayAsk ml_X9_353 hm.t0 (ex_mayAsk hm) rfl rfl rfl ⟨Nat.zero_le _, Nat.zero_le _⟩ ?_
  refine jj_if_ne (q := 12) (tgt := 14) dX9_worstFlight_9 rfl rfl (fun h9 => ?_) (fun h9 => ?_)
  · refine jj_iconst (v := 0) (q := 15) dX9_worstFlight_14 rfl rfl ?_
    refine jj_istore_n (q := 16) dX9_worstFlight_15 rfl (by decide) rfl ?_
    rw [if_neg h9]
    exact lp_wO hm hX hc (show (tA A (tI A (inI b 0 (A 2 12 - 1)))) 2 12 = nI ln from hq) hl ln 0 _ _ ⟨by omega, fun j hj => by omega⟩
  · refine jj_iconst (v := 0) (q := 13) dX9_worstFlight_12 rfl rfl ?_
    refine jj_iret dX9_worstFlight_13 rfl (Nat.zero_le _) (Nat.zero_le _) ?_
    exact ⟨by rw [if_pos h9], rfl⟩
end M50
