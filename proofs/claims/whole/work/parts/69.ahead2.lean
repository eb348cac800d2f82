/-! THE COMPONENT'S LOOKS AHEAD, 2 -/
def tCk (P : JI) (c : Nat) : Nat → Nat → JI × Int64 → Int32
  | 0, i, x => if kAF x.1 = 0 then -1 else nI i
  | k + 1, i, x => if kAF x.1 = 0 then tCk P c k (i + 1) (kTick P c x) else nI i
/-- which delay has the fewest short bags -/
def bkL (sv : Nat → Int32) : Nat → Nat → Int32 → Int32 → Int32
  | 0, _, b, _ => b
  | k + 1, i, b, f => if f ≤ sv i then bkL sv k (i + 1) b f else bkL sv k (i + 1) (nI (5 * i)) (sv i)
section M69
variable {Γ : Gam} {d : Nat} {T : JT} {R S : JR} {I K P : JI} {L : JL} {D : JD} {z : Option Nat} {xo p p2 a a2 c nx sz : Nat} {r : Int64}
theorem ex_withoutLane (hX : hXo T R S xo p p2 a a2) (hW : wP (sK I p)) (hc : K 1 0 = nI c) (hc1 : c ≤ 100) (hlw : lW K) {l n : Int32} : Ex Γ (d + 8) Y_X8_withoutLane [.ref xo, .int l, .int n] (T, R, S, blk 19 I a K, L, D, none) (ec (orE (orE (eAir (I xo)) (orE (eIdx l (sK I p 0 8)) 0)) (orE (eTik K n 500) 0))) (es (orE (orE (eAir (I xo)) (orE (eIdx l (sK I p 0 8)) 0)) (orE (eTik K n 500) 0))) (cE (orE (orE (eAir (I xo)) (orE (eIdx l (sK I p 0 8)) 0)) (orE (eTik K n 500) 0)) (T, R, S, blk 19 I a K, L, D, none) (fun w M' => ∃ V, w = some (.int (atV 14 ((kRun (sK I p) c (nN n) ((putI (kCp (sK I a2) K) 11 4 l 1), (L a 1))).1 8) 10 - atV 14 ((putI (kCp (sK I a2) K) 11 4 l 1) 8) 10)) ∧ M' = (T, R, S, blk 19 (vv (blk 19 I a K) p V) a2 (kRun (sK I p) c (nN n) ((putI (kCp (sK I a2) K) 11 4 l 1), (L a 1))).1, u2 L a2 1 (kRun (sK I p) c (nN n) ((putI (kCp (sK I a2) K) 11 4 l 1), (L a 1))).2, D, none))) := by
  refine Ex.of (by decide) (by simp [Value.category]) (Nat.le_of_ble_eq_true rfl) rfl ?_
  refine jj_aload_n (q := 1) dX8_withoutLane_0 rfl rfl rfl ?_
  refine jj_iload_n (q := 2) dX8_withoutLane_1 rfl rfl rfl ?_
  refine jj_nV1 (q := 5) dX8_withoutLane_2 yk_X8_needLane ml_X8_210 hX.1 (ex_needLane (hX.cx I)) rfl rfl rfl rfl (fun g2 => ?_)
  refine jj_aload_n (q := 6) dX8_withoutLane_5 rfl rfl rfl ?_
  refine jj_iload_n (q := 7) dX8_withoutLane_6 rfl rfl rfl ?_
  refine jj_sipush (v := 500) (q := 10) dX8_withoutLane_7 rfl rfl ?_
  refine jj_nV2 (q := 13) dX8_withoutLane_10 yk_X8_needTicks ml_X8_282 hX.1 (ex_needTicks (hX.cx I)) rfl rfl rfl rfl (fun g10 => ?_)
  obtain ⟨N, hN1, hN2, rfl, hN3⟩ := eTik_n (m := 500) rfl (by omega) g10
  rw [nN_nI (show N < 2 ^ 31 by omega)]
  refine jj_aload_n (q := 14) dX8_withoutLane_13 rfl rfl rfl ?_
  refine jj_getS (q := 17) dX8_withoutLane_14 fl_X8_37 hX.1 hX.2.2.2.1.2.2.2.2.1 rfl rfl rfl ?_
  refine jj_aload_n (q := 18) dX8_withoutLane_17 rfl rfl rfl ?_
  refine jj_getS (q := 21) dX8_withoutLane_18 fl_X8_33 hX.1 hX.2.2.2.1.2.2.2.1 rfl rfl rfl ?_
  refine jj_cV1v (q := 24) dX8_withoutLane_21 yk_X4_copyFrom ml_X8_285 hX.ha2.t0 (exB_scratch hX) rfl rfl rfl ⟨Nat.zero_le _, Nat.zero_le _⟩ ?_
  refine jj_aload_n (q := 25) dX8_withoutLane_24 rfl rfl rfl ?_
  refine jj_getS (q := 28) dX8_withoutLane_25 fl_X8_37 hX.1 hX.2.2.2.1.2.2.2.2.1 rfl rfl rfl ?_
  refine jj_getR (q := 31) dX8_withoutLane_28 fl_X8_307 hX.ha2.t0 hX.ha2.r0_7 rfl rfl rfl ?_
  refine jj_iload_n (q := 32) dX8_withoutLane_31 rfl rfl rfl ?_
  refine jj_iconst (v := 1) (q := 33) dX8_withoutLane_32 rfl rfl ?_
  refine jj_cS3v (q := 36) dX8_withoutLane_33 yk_X8_put ml_X8_310 (ex_putv hX.ha2.t11 (putI_blk (by decide)) rfl) rfl rfl rfl ⟨Nat.zero_le _, Nat.zero_le _⟩ ?_
  refine jj_aload_n (q := 37) dX8_withoutLane_36 rfl rfl rfl ?_
  refine jj_getS (q := 40) dX8_withoutLane_37 fl_X8_23 hX.1 hX.2.2.2.1.2.1 rfl rfl rfl ?_
  refine jj_aload_n (q := 41) dX8_withoutLane_40 rfl rfl rfl ?_
  refine jj_getS (q := 44) dX8_withoutLane_41 fl_X8_37 hX.1 hX.2.2.2.1.2.2.2.2.1 rfl rfl rfl ?_
  refine jj_iload_n (q := 45) dX8_withoutLane_44 rfl rfl rfl ?_
  refine jj_bipush (v := 10) (q := 47) dX8_withoutLane_45 rfl rfl ?_
  refine jj_eS4i (q := 50) dX8_withoutLane_47 yk_X7_run ml_X8_289 (exB_run hX hX.ha2 (by have := hX.ps; omega) hX.hI hW (by rw [putI_ne (by omega)]; exact cp_c.trans hc) hc1 (lW_of (lW_cp hlw) (putI_ne (by omega))) (by omega)) rfl rfl rfl ⟨Nat.zero_le _, Nat.zero_le _⟩ (fun V => ?_)
  refine jj_iret dX8_withoutLane_50 rfl (Nat.zero_le _) (Nat.zero_le _) ?_
  exact ⟨_, rfl, V, rfl, rfl⟩
theorem lp_ttcK (hX : hXo T R S xo p p2 a a2) (hW : wP (sK I p)) (hc1 : c ≤ 100) {N : Nat} (hN : N < 2 ^ 31) {M0 : JM} : ∀ (k i : Nat) (x : JI × Int64) (V : Nat → Int32), (i + k = N ∧ x.1 1 0 = nI c ∧ lW x.1) → JJ Γ (jj_E Y_X8_timeToClear) (jj_Z Γ (cE 0 M0 (fun w M' => ∃ (V : Nat → Int32) (y : JI × Int64), w = some (.int (tCk (sK I p) c k i x)) ∧ M' = (T, R, S, blk 19 (vv (blk 19 I a K) p V) a2 y.1, u2 L a2 1 y.2, D, none))) 0 0) (jj_rm (d + 8) 0 0) 0 0 25 [some (.ref xo), some (.int (nI N)), some (.int (nI i))] [] (T, R, S, blk 19 (vv (blk 19 I a K) p V) a2 x.1, u2 L a2 1 x.2, D, none) := by
  intro k
  induction k with
  | zero =>
    intro i x V hi
    rw [tCk]
    refine jj_iload_n (q := 26) dX8_timeToClear_25 rfl rfl rfl ?_
    refine jj_iload_n (q := 27) dX8_timeToClear_26 rfl rfl rfl ?_
    refine jj_icmp_ge (q := 30) (tgt := 62) dX8_timeToClear_27 rfl rfl (fun h27 => ?_) (fun h27 => absurd (nI_le (show N ≤ i by omega) (by omega)) h27)
    refine jj_aload_n (q := 63) dX8_timeToClear_62 rfl rfl rfl ?_
    refine jj_getS (q := 66) dX8_timeToClear_63 fl_X8_37 hX.1 hX.2.2.2.1.2.2.2.2.1 rfl rfl rfl ?_
    refine jj_getR (q := 69) dX8_timeToClear_66 fl_X8_95 hX.ha2.t0 hX.ha2.r0_4 rfl rfl rfl ?_
    refine jj_cV0i (q := 72) dX8_timeToClear_69 yk_X0_allFinished ml_X8_293 hX.ha2.t1 (ex_allFinished hX.ha2) rfl rfl rfl ⟨Nat.zero_le _, Nat.zero_le _⟩ ?_
    refine jj_if_eq (q := 75) (tgt := 79) dX8_timeToClear_72 rfl rfl (fun h72 => ?_) (fun h72 => ?_)
    · refine jj_iconst (v := -1) (q := 80) dX8_timeToClear_79 rfl rfl ?_
      refine jj_iret dX8_timeToClear_80 rfl (Nat.zero_le _) (Nat.zero_le _) ?_
      rw [if_pos h72]
      exact ⟨_, rfl, V, x, rfl, rfl⟩
    · refine jj_iload_n (q := 76) dX8_timeToClear_75 rfl rfl rfl ?_
      refine jj_goto (tgt := 80) dX8_timeToClear_76 rfl ?_
      refine jj_iret dX8_timeToClear_80 rfl (Nat.zero_le _) (Nat.zero_le _) ?_
      rw [if_neg h72, show i = N by omega]
      exact ⟨_, rfl, V, x, rfl, rfl⟩
  | succ k ih =>
    intro i x V hi
    rw [tCk]
    refine jj_iload_n (q := 26) dX8_timeToClear_25 rfl rfl rfl ?_
    refine jj_iload_n (q := 27) dX8_timeToClear_26 rfl rfl rfl ?_
    refine jj_icmp_ge (q := 30) (tgt := 62) dX8_timeToClear_27 rfl rfl (fun h27 => absurd h27 (nI_ge (show i < N by omega) (by omega))) (fun h27 => ?_)
    refine jj_aload_n (q := 31) dX8_timeToClear_30 rfl rfl rfl ?_
    refine jj_getS (q := 34) dX8_timeToClear_31 fl_X8_37 hX.1 hX.2.2.2.1.2.2.2.2.1 rfl rfl rfl ?_
    refine jj_getR (q := 37) dX8_timeToClear_34 fl_X8_95 hX.ha2.t0 hX.ha2.r0_4 rfl rfl rfl ?_
    refine jj_cV0i (q := 40) dX8_timeToClear_37 yk_X0_allFinished ml_X8_293 hX.ha2.t1 (ex_allFinished hX.ha2) rfl rfl rfl ⟨Nat.zero_le _, Nat.zero_le _⟩ ?_
    refine jj_if_eq (q := 43) (tgt := 45) dX8_timeToClear_40 rfl rfl (fun h40 => ?_) (fun h40 => ?_)
    · rw [if_pos h40]
      refine jj_aload_n (q := 46) dX8_timeToClear_45 rfl rfl rfl ?_
      refine jj_getS (q := 49) dX8_timeToClear_46 fl_X8_23 hX.1 hX.2.2.2.1.2.1 rfl rfl rfl ?_
      refine jj_aload_n (q := 50) dX8_timeToClear_49 rfl rfl rfl ?_
      refine jj_getS (q := 53) dX8_timeToClear_50 fl_X8_37 hX.1 hX.2.2.2.1.2.2.2.2.1 rfl rfl rfl ?_
      refine jj_eS2v (q := 56) dX8_timeToClear_53 yk_X7_tick ml_X8_297 (exB_tick hX hX.ha2 (by have := hX.ps; omega) hX.hI hW hi.2.1 hc1 hi.2.2) rfl rfl rfl ⟨Nat.zero_le _, Nat.zero_le _⟩ (fun V2 => ?_)
      refine jj_iinc (v := nI (i + 1)) (q := 59) dX8_timeToClear_56 rfl (nI_incn i 1 rfl) (by decide) rfl ?_
      refine jj_goto (tgt := 25) dX8_timeToClear_59 rfl ?_
      exact ih (i + 1) (kTick (sK I p) c x) V2 ⟨by omega, by rw [kTick_1]; exact hi.2.1, lW_kTick hW c hi.2.2⟩
    · rw [if_neg h40]
      refine jj_iload_n (q := 44) dX8_timeToClear_43 rfl rfl rfl ?_
      refine jj_iret dX8_timeToClear_44 rfl (Nat.zero_le _) (Nat.zero_le _) ?_
      exact ⟨_, rfl, V, x, rfl, rfl⟩
theorem ex_timeToClear (hX : hXo T R S xo p p2 a a2) (hW : wP (sK I p)) (hc : K 1 0 = nI c) (hc1 : c ≤ 100) (hlw : lW K) {n : Int32} : Ex Γ (d + 8) Y_X8_timeToClear [.ref xo, .int n] (T, R, S, blk 19 I a K, L, D, none) (ec (orE (eAir (I xo)) (orE (eTik K n 500) 0))) (es (orE (eAir (I xo)) (orE (eTik K n 500) 0))) (cE (orE (eAir (I xo)) (orE (eTik K n 500) 0)) (T, R, S, blk 19 I a K, L, D, none) (fun w M' => ∃ (V : Nat → Int32) (x : JI × Int64), w = some (.int (tCk (sK I p) c (nN n) 0 ((kCp (sK I a2) K), (L a 1)))) ∧ M' = (T, R, S, blk 19 (vv (blk 19 I a K) p V) a2 x.1, u2 L a2 1 x.2, D, none))) := by
  refine Ex.of (by decide) (by simp [Value.category]) (Nat.le_of_ble_eq_true rfl) rfl ?_
  refine jj_aload_n (q := 1) dX8_timeToClear_0 rfl rfl rfl ?_
  refine jj_nV0 (q := 4) dX8_timeToClear_1 yk_X8_needAirport ml_X8_168 hX.1 (ex_needAirport (hX.cx I)) rfl rfl rfl rfl (fun g1 => ?_)
  refine jj_aload_n (q := 5) dX8_timeToClear_4 rfl rfl rfl ?_
  refine jj_iload_n (q := 6) dX8_timeToClear_5 rfl rfl rfl ?_
  refine jj_sipush (v := 500) (q := 9) dX8_timeToClear_6 rfl rfl ?_
  refine jj_nV2 (q := 12) dX8_timeToClear_9 yk_X8_needTicks ml_X8_282 hX.1 (ex_needTicks (hX.cx I)) rfl rfl rfl rfl (fun g9 => ?_)
  obtain ⟨N, hN1, hN2, rfl, hN3⟩ := eTik_n (m := 500) rfl (by omega) g9
  rw [nN_nI (show N < 2 ^ 31 by omega)]
  refine jj_aload_n (q := 13) dX8_timeToClear_12 rfl rfl rfl ?_
  refine jj_getS (q := 16) dX8_timeToClear_13 fl_X8_37 hX.1 hX.2.2.2.1.2.2.2.2.1 rfl rfl rfl ?_
  refine jj_aload_n (q := 17) dX8_timeToClear_16 rfl rfl rfl ?_
  refine jj_getS (q := 20) dX8_timeToClear_17 fl_X8_33 hX.1 hX.2.2.2.1.2.2.2.1 rfl rfl rfl ?_
  refine jj_cV1v (q := 23) dX8_timeToClear_20 yk_X4_copyFrom ml_X8_285 hX.ha2.t0 (exB_scratch hX) rfl rfl rfl ⟨Nat.zero_le _, Nat.zero_le _⟩ ?_
  refine jj_iconst (v := 0) (q := 24) dX8_timeToClear_23 rfl rfl ?_
  refine jj_istore_n (q := 25) dX8_timeToClear_24 rfl (by decide) rfl ?_
  have e := lp_ttcK (Γ := Γ) (d := d) (I := I) (K := K) (L := L) (D := D) (M0 := (T, R, S, blk 19 I a K, L, D, none)) hX hW hc1 (show N < 2 ^ 31 by omega) N 0 ((kCp (sK I a2) K), (L a 1)) (blk 19 I a K (p + 15)) ⟨by omega, (show kCp (sK I a2) K 1 0 = nI c from hc), lW_cp hlw⟩
  rw [vv_self] at e
  exact e
/-- a state of the scratch: a copy of K, delayed -/
def kBd (G K : JI) (f : Int32) (i : Nat) : JI := kDly (kCp G K) f (nI (5 * i))
theorem kDly_c (K : JI) (f y : Int32) (k : Nat) (h9 : k ≠ 9) (h10 : k ≠ 10) : kDly K f y k = K k := by
  unfold kDly
  split
  · rw [putI_ne h10, putI_ne h9]
  · rw [putI_ne h10]
theorem sK_vv {V : Nat → Int32} (h : a + 19 ≤ a2 ∨ a2 + 19 ≤ a) (hp : p + 16 ≤ a2 ∨ a2 + 19 ≤ p) : ∀ k, k < 19 → sK (vv (blk 19 I a K) p V) a2 k = sK I a2 k := fun k hk => by
  show vv (blk 19 I a K) p V (a2 + k) = I (a2 + k)
  rw [vv_ne (by omega), blk_out (by omega)]
theorem exB_dl {J G : JI} {f y : Int32} (hs : hSt T R a2) : Ex Γ (d + 2) Y_X4_delayFlight [.ref a2, .int f, .int y] (T, R, S, blk 19 J a2 G, L, D, z) 0 0 (rV (T, R, S, blk 19 J a2 (kDly G f y), L, D, z)) := ex_delayFlight hs
theorem bd_mem {J K K2 : JI} {V : Nat → Int32} (h : a + 19 ≤ a2 ∨ a2 + 19 ≤ a) (hp : p + 16 ≤ a ∨ a + 19 ≤ p) : blk 19 (vv (blk 19 J a K) p V) a2 K2 = blk 19 (blk 19 (vv J p V) a2 K2) a K := by
  rw [blk19 (I := vv J p V) (B := K2) (t := a2) (a := a) (by omega)]
  congr 1
  funext b j
  by_cases e : b = p + 15
  · subst e
    rw [blk_out (by omega)]
    unfold vv
    rw [if_pos rfl, if_pos rfl]
  · rw [vv_ne e]
    unfold blk
    split
    · rfl
    · rw [vv_ne e]
theorem lp_bdK (hX : hXo T R S xo p p2 a a2) (hW : wP (sK I p)) (hc : K 1 0 = nI c) (hc1 : c ≤ 100) (hlw : lW K) {f : Int32} {N : Nat} (hN : N < 2 ^ 31) {sv : Nat → Int32} (hsv : ∀ G i, i ≤ 10 → atV 14 ((kRun (sK I p) c N (kBd G K f i, (L a 1))).1 8) 11 - atV 14 (kBd G K f i 8) 11 = sv i) {M0 : JM} : ∀ (k i : Nat) (best few : Int32) (J : JI) (M : JL) (x6 : Option Value), i + k = 11 → (∀ b, (b < a2 ∨ a2 + 19 ≤ b) → b ≠ p + 15 → J b = I b) → (∀ b, b ≠ a2 → M b = L b) → JJ Γ (jj_E Y_X8_bestDelay) (jj_Z Γ (cE 0 M0 (fun w M' => ∃ J M, (∀ b, (b < a2 ∨ a2 + 19 ≤ b) → b ≠ p + 15 → J b = I b) ∧ (∀ b, b ≠ a2 → M b = L b) ∧ w = some (.int (bkL sv k i best few)) ∧ M' = (T, R, S, blk 19 J a K, M, D, none))) 0 0) (jj_rm (d + 8) 0 0) 0 0 27 [some (.ref xo), some (.int f), some (.int (nI N)), some (.int best), some (.int few), some (.int (nI (5 * i))), x6] [] (T, R, S, blk 19 J a K, M, D, none) := by
  intro k
  induction k with
  | zero =>
    intro i best few J M x6 hi hF hM
    refine jj_iload (q := 29) dX8_bestDelay_27 rfl rfl ?_
    refine jj_bipush (v := 50) (q := 31) dX8_bestDelay_29 rfl rfl ?_
    refine jj_icmp_gt (q := 34) (tgt := 91) dX8_bestDelay_31 rfl rfl (fun h31 => ?_) (fun h31 => absurd (nI_ltN (a := 50) (show 50 < 5 * i by omega) (by omega)) h31)
    refine jj_iload_n (q := 92) dX8_bestDelay_91 rfl rfl rfl ?_
    refine jj_iret dX8_bestDelay_92 rfl (Nat.zero_le _) (Nat.zero_le _) ?_
    exact ⟨_, rfl, J, M, hF, hM, rfl, rfl⟩
  | succ k ih =>
    intro i best few J M x6 hi hF hM
    have hps := hX.ps
    have hv := hsv (sK J a2) i (by omega)
    unfold kBd at hv
    rw [bkL]
    refine jj_iload (q := 29) dX8_bestDelay_27 rfl rfl ?_
    refine jj_bipush (v := 50) (q := 31) dX8_bestDelay_29 rfl rfl ?_
    refine jj_icmp_gt (q := 34) (tgt := 91) dX8_bestDelay_31 rfl rfl (fun h31 => absurd h31 (nI_nltN (b := 50) (show 5 * i ≤ 50 by omega) (by omega))) (fun h31 => ?_)
    refine jj_aload_n (q := 35) dX8_bestDelay_34 rfl rfl rfl ?_
    refine jj_getS (q := 38) dX8_bestDelay_35 fl_X8_37 hX.1 hX.2.2.2.1.2.2.2.2.1 rfl rfl rfl ?_
    refine jj_aload_n (q := 39) dX8_bestDelay_38 rfl rfl rfl ?_
    refine jj_getS (q := 42) dX8_bestDelay_39 fl_X8_33 hX.1 hX.2.2.2.1.2.2.2.1 rfl rfl rfl ?_
    refine jj_cV1v (q := 45) dX8_bestDelay_42 yk_X4_copyFrom ml_X8_285 hX.ha2.t0 (exB_scratch hX) rfl rfl rfl ⟨Nat.zero_le _, Nat.zero_le _⟩ ?_
    refine jj_aload_n (q := 46) dX8_bestDelay_45 rfl rfl rfl ?_
    refine jj_getS (q := 49) dX8_bestDelay_46 fl_X8_37 hX.1 hX.2.2.2.1.2.2.2.2.1 rfl rfl rfl ?_
    refine jj_iload_n (q := 50) dX8_bestDelay_49 rfl rfl rfl ?_
    refine jj_iload (q := 52) dX8_bestDelay_50 rfl rfl ?_
    refine jj_cV2v (q := 55) dX8_bestDelay_52 yk_X4_delayFlight ml_X8_304 hX.ha2.t0 (exB_dl hX.ha2) rfl rfl rfl ⟨Nat.zero_le _, Nat.zero_le _⟩ ?_
    refine jj_aload_n (q := 56) dX8_bestDelay_55 rfl rfl rfl ?_
    refine jj_getS (q := 59) dX8_bestDelay_56 fl_X8_23 hX.1 hX.2.2.2.1.2.1 rfl rfl rfl ?_
    refine jj_aload_n (q := 60) dX8_bestDelay_59 rfl rfl rfl ?_
    refine jj_getS (q := 63) dX8_bestDelay_60 fl_X8_37 hX.1 hX.2.2.2.1.2.2.2.2.1 rfl rfl rfl ?_
    refine jj_iload_n (q := 64) dX8_bestDelay_63 rfl rfl rfl ?_
    refine jj_bipush (v := 11) (q := 66) dX8_bestDelay_64 rfl rfl ?_
    refine jj_eS4i (q := 69) dX8_bestDelay_66 yk_X7_run ml_X8_289 (exB_run (P := sK I p) hX hX.ha2 (by omega) (fun k hk => by rw [blk_out (by omega)]; exact hF _ (by omega) (by omega)) hW (by rw [kDly_c _ _ _ _ (by omega) (by omega)]; exact cp_c.trans hc) hc1 (lW_of (lW_cp hlw) (kDly_c _ _ _ _ (by omega) (by omega))) (by omega)) rfl rfl rfl ⟨Nat.zero_le _, Nat.zero_le _⟩ (fun V => ?_)
    rw [hM a (by omega), hv]
    refine jj_istore (q := 71) dX8_bestDelay_69 (by decide) rfl ?_
    refine jj_iload (q := 73) dX8_bestDelay_71 rfl rfl ?_
    refine jj_iload (q := 75) dX8_bestDelay_73 rfl rfl ?_
    refine jj_icmp_ge (q := 78) (tgt := 85) dX8_bestDelay_75 rfl rfl (fun h75 => ?_) (fun h75 => ?_)
    · refine jj_iinc (v := nI ((5 * i) + 5)) (q := 88) dX8_bestDelay_85 rfl (nI_incn (5 * i) 5 rfl) (by decide) rfl ?_
      refine jj_goto (tgt := 27) dX8_bestDelay_88 rfl ?_
      rw [if_pos h75, show 5 * i + 5 = 5 * (i + 1) by omega, bd_mem (by omega) (by omega)]
      exact ih (i + 1) _ _ _ _ _ (by omega) (fun b hb hb2 => by rw [blk_out hb, vv_ne hb2]; exact hF b hb hb2) (fun b hb => by rw [u2_ne hb]; exact hM b hb)
    · refine jj_iload (q := 80) dX8_bestDelay_78 rfl rfl ?_
      refine jj_istore (q := 82) dX8_bestDelay_80 (by decide) rfl ?_
      refine jj_iload (q := 84) dX8_bestDelay_82 rfl rfl ?_
      refine jj_istore_n (q := 85) dX8_bestDelay_84 rfl (by decide) rfl ?_
      refine jj_iinc (v := nI ((5 * i) + 5)) (q := 88) dX8_bestDelay_85 rfl (nI_incn (5 * i) 5 rfl) (by decide) rfl ?_
      refine jj_goto (tgt := 27) dX8_bestDelay_88 rfl ?_
      rw [if_neg h75, show 5 * i + 5 = 5 * (i + 1) by omega, bd_mem (by omega) (by omega)]
      exact ih (i + 1) _ _ _ _ _ (by omega) (fun b hb hb2 => by rw [blk_out hb, vv_ne hb2]; exact hF b hb hb2) (fun b hb => by rw [u2_ne hb]; exact hM b hb)
theorem ex_bestDelay (hX : hXo T R S xo p p2 a a2) (hW : wP (sK I p)) (hc : K 1 0 = nI c) (hc1 : c ≤ 100) (hlw : lW K) {f n : Int32} {sv : Nat → Int32} (hsv : ∀ G i, i ≤ 10 → atV 14 ((kRun (sK I p) c (nN n) (kBd G K f i, (L a 1))).1 8) 11 - atV 14 (kBd G K f i 8) 11 = sv i) : Ex Γ (d + 8) Y_X8_bestDelay [.ref xo, .int f, .int n] (T, R, S, blk 19 I a K, L, D, none) (ec (orE (orE (eAir (I xo)) (orE (eIdx f (sK I p 0 6)) 0)) (orE (eTik K n 200) (orE (eNcl K f) 0)))) (es (orE (orE (eAir (I xo)) (orE (eIdx f (sK I p 0 6)) 0)) (orE (eTik K n 200) (orE (eNcl K f) 0)))) (cE (orE (orE (eAir (I xo)) (orE (eIdx f (sK I p 0 6)) 0)) (orE (eTik K n 200) (orE (eNcl K f) 0))) (T, R, S, blk 19 I a K, L, D, none) (fun w M' => ∃ J M, (∀ b, (b < a2 ∨ a2 + 19 ≤ b) → b ≠ p + 15 → J b = I b) ∧ (∀ b, b ≠ a2 → M b = L b) ∧ w = some (.int (bkL sv 11 0 0 101)) ∧ M' = (T, R, S, blk 19 J a K, M, D, none))) := by
  refine Ex.of (by decide) (by simp [Value.category]) (Nat.le_of_ble_eq_true rfl) rfl ?_
  refine jj_aload_n (q := 1) dX8_bestDelay_0 rfl rfl rfl ?_
  refine jj_iload_n (q := 2) dX8_bestDelay_1 rfl rfl rfl ?_
  refine jj_nV1 (q := 5) dX8_bestDelay_2 yk_X8_needFlight ml_X8_229 hX.1 (ex_needFlight (hX.cx I)) rfl rfl rfl rfl (fun g2 => ?_)
  refine jj_aload_n (q := 6) dX8_bestDelay_5 rfl rfl rfl ?_
  refine jj_iload_n (q := 7) dX8_bestDelay_6 rfl rfl rfl ?_
  refine jj_sipush (v := 200) (q := 10) dX8_bestDelay_7 rfl rfl ?_
  refine jj_nV2 (q := 13) dX8_bestDelay_10 yk_X8_needTicks ml_X8_282 hX.1 (ex_needTicks (hX.cx I)) rfl rfl rfl rfl (fun g10 => ?_)
  obtain ⟨N, hN1, hN2, rfl, hN3⟩ := eTik_n (m := 200) rfl (by omega) g10
  rw [nN_nI (show N < 2 ^ 31 by omega)] at hsv
  refine jj_aload_n (q := 14) dX8_bestDelay_13 rfl rfl rfl ?_
  refine jj_iload_n (q := 15) dX8_bestDelay_14 rfl rfl rfl ?_
  refine jj_nV1 (q := 18) dX8_bestDelay_15 yk_X8_needNotClosed ml_X8_301 hX.1 (ex_needNotClosed (hX.cx I)) rfl rfl rfl rfl (fun g15 => ?_)
  refine jj_iconst (v := 0) (q := 19) dX8_bestDelay_18 rfl rfl ?_
  refine jj_istore_n (q := 20) dX8_bestDelay_19 rfl (by decide) rfl ?_
  refine jj_bipush (v := 101) (q := 22) dX8_bestDelay_20 rfl rfl ?_
  refine jj_istore (q := 24) dX8_bestDelay_22 (by decide) rfl ?_
  refine jj_iconst (v := 0) (q := 25) dX8_bestDelay_24 rfl rfl ?_
  refine jj_istore (q := 27) dX8_bestDelay_25 (by decide) rfl ?_
  exact lp_bdK hX hW hc hc1 hlw (show N < 2 ^ 31 by omega) hsv 11 0 0 101 I L _ (by omega) (fun _ _ _ => rfl) (fun _ _ => rfl)
end M69
