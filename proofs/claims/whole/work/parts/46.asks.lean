/-! THE COMPONENT'S QUESTIONS -/
theorem cA_i {r v : Int32} {M0 M1 : JM} (h : r = v) : cA 0 (some (.int v)) M0 M1 (.inl (some (.int r))) M1 := by subst h; exact ⟨_, rfl, rfl, rfl⟩
section M46
variable {Γ : Gam} {d : Nat} {T : JT} {R S : JR} {I K P : JI} {L : JL} {D : JD} {z : Option Nat} {xo a p c : Nat} {O : Nat → Int32}
theorem ex_needTicks (hx : cX T R S I xo a p O P) {n mo : Int32} : Ex Γ (d + 7) Y_X8_needTicks [.ref xo, .int n, .int mo] (T, R, S, blk 19 I a K, L, D, none) (ec (eTik K n mo)) (es (eTik K n mo)) (cA (eTik K n mo) none (T, R, S, blk 19 I a K, L, D, none) (T, R, S, blk 19 I a K, L, D, none)) := by
  unfold eTik
  refine Ex.of (by decide) (by simp [Value.category]) (Nat.le_of_ble_eq_true rfl) rfl ?_
  refine jj_iload_n (q := 1) dX8_needTicks_0 rfl rfl rfl ?_
  refine jj_iconst (v := 1) (q := 2) dX8_needTicks_1 rfl rfl ?_
  refine jj_iload_n (q := 3) dX8_needTicks_2 rfl rfl rfl ?_
  refine jj_nS3 (q := 6) dX8_needTicks_3 yk_X8_needRange ml_X8_181 ex_needRange rfl rfl rfl rfl (fun g3 => ?_)
  refine jj_aload_n (q := 7) dX8_needTicks_6 rfl rfl rfl ?_
  refine jj_getS (q := 10) dX8_needTicks_7 fl_X8_33 hx.t hx.sn rfl rfl rfl ?_
  refine jj_getIv (q := 13) dX8_needTicks_10 fl_X8_110 hx.hs.t0 (blk_0 (by decide)) rfl rfl ?_
  refine jj_iload_n (q := 14) dX8_needTicks_13 rfl rfl rfl ?_
  refine jj_iadd (q := 15) dX8_needTicks_14 rfl ?_
  refine jj_sipush (v := 9999) (q := 18) dX8_needTicks_15 rfl rfl ?_
  refine jj_icmp_le (q := 21) (tgt := 32) dX8_needTicks_18 rfl rfl (fun h18 => ?_) (fun h18 => ?_)
  · rw [if_pos h18]
    refine jj_vret dX8_needTicks_32 rfl (Nat.zero_le _) (Nat.zero_le _) ?_
    exact ⟨_, rfl, rfl, rfl⟩
  · rw [if_neg h18]
    refine jj_throwW xok_2 ks_X8_346 rfl dX8_needTicks_21 dX8_needTicks_24 dX8_needTicks_25 dX8_needTicks_28 dX8_needTicks_31 (by show 5 < _ + _; omega) (by show 90 ≤ 40 * (_ + _); omega) (by decide) ⟨Nat.le_refl _, Nat.le_refl _⟩ (Nat.le_refl _) (Nat.le_refl _) ?_
    exact ⟨rfl, rfl⟩
theorem ex_needNotClosed (hx : cX T R S I xo a p O P) {f : Int32} : Ex Γ (d + 6) Y_X8_needNotClosed [.ref xo, .int f] (T, R, S, blk 19 I a K, L, D, none) (ec (eNcl K f)) (es (eNcl K f)) (cA (eNcl K f) none (T, R, S, blk 19 I a K, L, D, none) (T, R, S, blk 19 I a K, L, D, none)) := by
  unfold eNcl
  refine Ex.of (by decide) (by simp [Value.category]) (Nat.le_of_ble_eq_true rfl) rfl ?_
  refine jj_aload_n (q := 1) dX8_needNotClosed_0 rfl rfl rfl ?_
  refine jj_getS (q := 4) dX8_needNotClosed_1 fl_X8_33 hx.t hx.sn rfl rfl rfl ?_
  refine jj_iload_n (q := 5) dX8_needNotClosed_4 rfl rfl rfl ?_
  refine jj_cV1i (q := 8) dX8_needNotClosed_5 yk_X4_phase ml_X8_232 hx.hs.t0 (ex_phase hx.hs) rfl rfl rfl ⟨Nat.zero_le _, Nat.zero_le _⟩ ?_
  refine jj_iconst (v := 2) (q := 9) dX8_needNotClosed_8 rfl rfl ?_
  refine jj_icmp_ne (q := 12) (tgt := 23) dX8_needNotClosed_9 rfl rfl (fun h9 => ?_) (fun h9 => ?_)
  · rw [if_neg h9]
    refine jj_vret dX8_needNotClosed_23 rfl (Nat.zero_le _) (Nat.zero_le _) ?_
    exact ⟨_, rfl, rfl, rfl⟩
  · rw [if_pos h9]
    refine jj_throwW xok_2 ks_X8_348 rfl dX8_needNotClosed_12 dX8_needNotClosed_15 dX8_needNotClosed_16 dX8_needNotClosed_19 dX8_needNotClosed_22 (by show 5 < _ + _; omega) (by show 90 ≤ 40 * (_ + _); omega) (by decide) ⟨Nat.le_refl _, Nat.le_refl _⟩ (Nat.le_refl _) (Nat.le_refl _) ?_
    exact ⟨rfl, rfl⟩
theorem ex_stateOf (hx : cX T R S I xo a p O P) {b : Int32}  : Ex Γ (d + 8) Y_X8_stateOf [.ref xo, .int b] (T, R, S, blk 19 I a K, L, D, none) (ec (orE (orE (eAir O) (orE (eIdx b (K 1 0)) 0)) (0))) (es (orE (orE (eAir O) (orE (eIdx b (K 1 0)) 0)) (0))) (cA (orE (orE (eAir O) (orE (eIdx b (K 1 0)) 0)) (0)) (some (.int (atV 100 (K 2) b))) (T, R, S, blk 19 I a K, L, D, none) (T, R, S, blk 19 I a K, L, D, none)) := by
  refine Ex.of (by decide) (by simp [Value.category]) (Nat.le_of_ble_eq_true rfl) rfl ?_
  refine jj_aload_n (q := 1) dX8_stateOf_0 rfl rfl rfl ?_
  refine jj_iload_n (q := 2) dX8_stateOf_1 rfl rfl rfl ?_
  refine jj_nV1 (q := 5) dX8_stateOf_2 yk_X8_needBag ml_X8_113 hx.t (ex_needBag hx) rfl rfl rfl rfl (fun g2 => ?_)
  refine jj_aload_n (q := 6) dX8_stateOf_5 rfl rfl rfl ?_
  refine jj_getS (q := 9) dX8_stateOf_6 fl_X8_33 hx.t hx.sn rfl rfl rfl ?_
  refine jj_getR (q := 12) dX8_stateOf_9 fl_X8_95 hx.hs.t0 hx.hs.r0_4 rfl rfl rfl ?_
  refine jj_getR (q := 15) dX8_stateOf_12 fl_X8_116 hx.hs.t1 hx.hs.r1_1 rfl rfl rfl ?_
  refine jj_iload_n (q := 16) dX8_stateOf_15 rfl rfl rfl ?_
  refine jj_cS2i (q := 19) dX8_stateOf_16 yk_X8_at ml_X8_120 (ex_atv hx.hs.t2 (blk_k (by decide)) rfl) rfl rfl rfl ⟨Nat.zero_le _, Nat.zero_le _⟩ ?_
  refine jj_iret dX8_stateOf_19 rfl (Nat.zero_le _) (Nat.zero_le _) ?_
  exact ⟨_, rfl, rfl, rfl⟩
theorem ex_flightOf (hx : cX T R S I xo a p O P) {b : Int32}  : Ex Γ (d + 8) Y_X8_flightOf [.ref xo, .int b] (T, R, S, blk 19 I a K, L, D, none) (ec (orE (orE (eAir O) (orE (eIdx b (K 1 0)) 0)) (0))) (es (orE (orE (eAir O) (orE (eIdx b (K 1 0)) 0)) (0))) (cA (orE (orE (eAir O) (orE (eIdx b (K 1 0)) 0)) (0)) (some (.int (atV 100 (K 3) b))) (T, R, S, blk 19 I a K, L, D, none) (T, R, S, blk 19 I a K, L, D, none)) := by
  refine Ex.of (by decide) (by simp [Value.category]) (Nat.le_of_ble_eq_true rfl) rfl ?_
  refine jj_aload_n (q := 1) dX8_flightOf_0 rfl rfl rfl ?_
  refine jj_iload_n (q := 2) dX8_flightOf_1 rfl rfl rfl ?_
  refine jj_nV1 (q := 5) dX8_flightOf_2 yk_X8_needBag ml_X8_113 hx.t (ex_needBag hx) rfl rfl rfl rfl (fun g2 => ?_)
  refine jj_aload_n (q := 6) dX8_flightOf_5 rfl rfl rfl ?_
  refine jj_getS (q := 9) dX8_flightOf_6 fl_X8_33 hx.t hx.sn rfl rfl rfl ?_
  refine jj_getR (q := 12) dX8_flightOf_9 fl_X8_95 hx.hs.t0 hx.hs.r0_4 rfl rfl rfl ?_
  refine jj_getR (q := 15) dX8_flightOf_12 fl_X8_124 hx.hs.t1 hx.hs.r1_2 rfl rfl rfl ?_
  refine jj_iload_n (q := 16) dX8_flightOf_15 rfl rfl rfl ?_
  refine jj_cS2i (q := 19) dX8_flightOf_16 yk_X8_at ml_X8_120 (ex_atv hx.hs.t3 (blk_k (by decide)) rfl) rfl rfl rfl ⟨Nat.zero_le _, Nat.zero_le _⟩ ?_
  refine jj_iret dX8_flightOf_19 rfl (Nat.zero_le _) (Nat.zero_le _) ?_
  exact ⟨_, rfl, rfl, rfl⟩
theorem ex_arrivalOf (hx : cX T R S I xo a p O P) {b : Int32}  : Ex Γ (d + 8) Y_X8_arrivalOf [.ref xo, .int b] (T, R, S, blk 19 I a K, L, D, none) (ec (orE (orE (eAir O) (orE (eIdx b (K 1 0)) 0)) (0))) (es (orE (orE (eAir O) (orE (eIdx b (K 1 0)) 0)) (0))) (cA (orE (orE (eAir O) (orE (eIdx b (K 1 0)) 0)) (0)) (some (.int (atV 100 (K 4) b))) (T, R, S, blk 19 I a K, L, D, none) (T, R, S, blk 19 I a K, L, D, none)) := by
  refine Ex.of (by decide) (by simp [Value.category]) (Nat.le_of_ble_eq_true rfl) rfl ?_
  refine jj_aload_n (q := 1) dX8_arrivalOf_0 rfl rfl rfl ?_
  refine jj_iload_n (q := 2) dX8_arrivalOf_1 rfl rfl rfl ?_
  refine jj_nV1 (q := 5) dX8_arrivalOf_2 yk_X8_needBag ml_X8_113 hx.t (ex_needBag hx) rfl rfl rfl rfl (fun g2 => ?_)
  refine jj_aload_n (q := 6) dX8_arrivalOf_5 rfl rfl rfl ?_
  refine jj_getS (q := 9) dX8_arrivalOf_6 fl_X8_33 hx.t hx.sn rfl rfl rfl ?_
  refine jj_getR (q := 12) dX8_arrivalOf_9 fl_X8_95 hx.hs.t0 hx.hs.r0_4 rfl rfl rfl ?_
  refine jj_getR (q := 15) dX8_arrivalOf_12 fl_X8_127 hx.hs.t1 hx.hs.r1_3 rfl rfl rfl ?_
  refine jj_iload_n (q := 16) dX8_arrivalOf_15 rfl rfl rfl ?_
  refine jj_cS2i (q := 19) dX8_arrivalOf_16 yk_X8_at ml_X8_120 (ex_atv hx.hs.t4 (blk_k (by decide)) rfl) rfl rfl rfl ⟨Nat.zero_le _, Nat.zero_le _⟩ ?_
  refine jj_iret dX8_arrivalOf_19 rfl (Nat.zero_le _) (Nat.zero_le _) ?_
  exact ⟨_, rfl, rfl, rfl⟩
theorem ex_lapsOf (hx : cX T R S I xo a p O P) {b : Int32}  : Ex Γ (d + 8) Y_X8_lapsOf [.ref xo, .int b] (T, R, S, blk 19 I a K, L, D, none) (ec (orE (orE (eAir O) (orE (eIdx b (K 1 0)) 0)) (0))) (es (orE (orE (eAir O) (orE (eIdx b (K 1 0)) 0)) (0))) (cA (orE (orE (eAir O) (orE (eIdx b (K 1 0)) 0)) (0)) (some (.int (atV 100 (K 5) b))) (T, R, S, blk 19 I a K, L, D, none) (T, R, S, blk 19 I a K, L, D, none)) := by
  refine Ex.of (by decide) (by simp [Value.category]) (Nat.le_of_ble_eq_true rfl) rfl ?_
  refine jj_aload_n (q := 1) dX8_lapsOf_0 rfl rfl rfl ?_
  refine jj_iload_n (q := 2) dX8_lapsOf_1 rfl rfl rfl ?_
  refine jj_nV1 (q := 5) dX8_lapsOf_2 yk_X8_needBag ml_X8_113 hx.t (ex_needBag hx) rfl rfl rfl rfl (fun g2 => ?_)
  refine jj_aload_n (q := 6) dX8_lapsOf_5 rfl rfl rfl ?_
  refine jj_getS (q := 9) dX8_lapsOf_6 fl_X8_33 hx.t hx.sn rfl rfl rfl ?_
  refine jj_getR (q := 12) dX8_lapsOf_9 fl_X8_95 hx.hs.t0 hx.hs.r0_4 rfl rfl rfl ?_
  refine jj_getR (q := 15) dX8_lapsOf_12 fl_X8_134 hx.hs.t1 hx.hs.r1_4 rfl rfl rfl ?_
  refine jj_iload_n (q := 16) dX8_lapsOf_15 rfl rfl rfl ?_
  refine jj_cS2i (q := 19) dX8_lapsOf_16 yk_X8_at ml_X8_120 (ex_atv hx.hs.t5 (blk_k (by decide)) rfl) rfl rfl rfl ⟨Nat.zero_le _, Nat.zero_le _⟩ ?_
  refine jj_iret dX8_lapsOf_19 rfl (Nat.zero_le _) (Nat.zero_le _) ?_
  exact ⟨_, rfl, rfl, rfl⟩
theorem ex_levelOf (hx : cX T R S I xo a p O P) {b : Int32}  : Ex Γ (d + 8) Y_X8_levelOf [.ref xo, .int b] (T, R, S, blk 19 I a K, L, D, none) (ec (orE (orE (eAir O) (orE (eIdx b (K 1 0)) 0)) (0))) (es (orE (orE (eAir O) (orE (eIdx b (K 1 0)) 0)) (0))) (cA (orE (orE (eAir O) (orE (eIdx b (K 1 0)) 0)) (0)) (some (.int (atV 100 (K 6) b))) (T, R, S, blk 19 I a K, L, D, none) (T, R, S, blk 19 I a K, L, D, none)) := by
  refine Ex.of (by decide) (by simp [Value.category]) (Nat.le_of_ble_eq_true rfl) rfl ?_
  refine jj_aload_n (q := 1) dX8_levelOf_0 rfl rfl rfl ?_
  refine jj_iload_n (q := 2) dX8_levelOf_1 rfl rfl rfl ?_
  refine jj_nV1 (q := 5) dX8_levelOf_2 yk_X8_needBag ml_X8_113 hx.t (ex_needBag hx) rfl rfl rfl rfl (fun g2 => ?_)
  refine jj_aload_n (q := 6) dX8_levelOf_5 rfl rfl rfl ?_
  refine jj_getS (q := 9) dX8_levelOf_6 fl_X8_33 hx.t hx.sn rfl rfl rfl ?_
  refine jj_getR (q := 12) dX8_levelOf_9 fl_X8_95 hx.hs.t0 hx.hs.r0_4 rfl rfl rfl ?_
  refine jj_getR (q := 15) dX8_levelOf_12 fl_X8_137 hx.hs.t1 hx.hs.r1_5 rfl rfl rfl ?_
  refine jj_iload_n (q := 16) dX8_levelOf_15 rfl rfl rfl ?_
  refine jj_cS2i (q := 19) dX8_levelOf_16 yk_X8_at ml_X8_120 (ex_atv hx.hs.t6 (blk_k (by decide)) rfl) rfl rfl rfl ⟨Nat.zero_le _, Nat.zero_le _⟩ ?_
  refine jj_iret dX8_levelOf_19 rfl (Nat.zero_le _) (Nat.zero_le _) ?_
  exact ⟨_, rfl, rfl, rfl⟩
theorem ex_positionOf (hx : cX T R S I xo a p O P) {b : Int32}  : Ex Γ (d + 8) Y_X8_positionOf [.ref xo, .int b] (T, R, S, blk 19 I a K, L, D, none) (ec (orE (orE (eAir O) (orE (eIdx b (K 1 0)) 0)) (0))) (es (orE (orE (eAir O) (orE (eIdx b (K 1 0)) 0)) (0))) (cA (orE (orE (eAir O) (orE (eIdx b (K 1 0)) 0)) (0)) (some (.int (srch (fun j => decide (K 14 j = b)) 40 nI (-1)))) (T, R, S, blk 19 I a K, L, D, none) (T, R, S, blk 19 I a K, L, D, none)) := by
  refine Ex.of (by decide) (by simp [Value.category]) (Nat.le_of_ble_eq_true rfl) rfl ?_
  refine jj_aload_n (q := 1) dX8_positionOf_0 rfl rfl rfl ?_
  refine jj_iload_n (q := 2) dX8_positionOf_1 rfl rfl rfl ?_
  refine jj_nV1 (q := 5) dX8_positionOf_2 yk_X8_needBag ml_X8_113 hx.t (ex_needBag hx) rfl rfl rfl rfl (fun g2 => ?_)
  refine jj_aload_n (q := 6) dX8_positionOf_5 rfl rfl rfl ?_
  refine jj_getS (q := 9) dX8_positionOf_6 fl_X8_33 hx.t hx.sn rfl rfl rfl ?_
  refine jj_iload_n (q := 10) dX8_positionOf_9 rfl rfl rfl ?_
  refine jj_cV1i (q := 13) dX8_positionOf_10 yk_X4_placeOnLoop ml_X8_130 hx.hs.t0 (ex_placeOnLoop hx.hs) rfl rfl rfl ⟨Nat.zero_le _, Nat.zero_le _⟩ ?_
  refine jj_iret dX8_positionOf_13 rfl (Nat.zero_le _) (Nat.zero_le _) ?_
  exact ⟨_, rfl, rfl, rfl⟩
theorem ex_laneOf (hx : cX T R S I xo a p O P) {b : Int32} {ls : Nat → Nat} (hls : ∀ l, l < 4 → K 12 l = nI (ls l) ∧ ls l ≤ 20) : Ex Γ (d + 8) Y_X8_laneOf [.ref xo, .int b] (T, R, S, blk 19 I a K, L, D, none) (ec (orE (orE (eAir O) (orE (eIdx b (K 1 0)) 0)) (0))) (es (orE (orE (eAir O) (orE (eIdx b (K 1 0)) 0)) (0))) (cA (orE (orE (eAir O) (orE (eIdx b (K 1 0)) 0)) (0)) (some (.int (srch (pLw K ls b) 4 nI (-1)))) (T, R, S, blk 19 I a K, L, D, none) (T, R, S, blk 19 I a K, L, D, none)) := by
  refine Ex.of (by decide) (by simp [Value.category]) (Nat.le_of_ble_eq_true rfl) rfl ?_
  refine jj_aload_n (q := 1) dX8_laneOf_0 rfl rfl rfl ?_
  refine jj_iload_n (q := 2) dX8_laneOf_1 rfl rfl rfl ?_
  refine jj_nV1 (q := 5) dX8_laneOf_2 yk_X8_needBag ml_X8_113 hx.t (ex_needBag hx) rfl rfl rfl rfl (fun g2 => ?_)
  refine jj_aload_n (q := 6) dX8_laneOf_5 rfl rfl rfl ?_
  refine jj_getS (q := 9) dX8_laneOf_6 fl_X8_33 hx.t hx.sn rfl rfl rfl ?_
  refine jj_iload_n (q := 10) dX8_laneOf_9 rfl rfl rfl ?_
  refine jj_cV1i (q := 13) dX8_laneOf_10 yk_X4_laneWith ml_X8_140 hx.hs.t0 (ex_laneWith hx.hs hls) rfl rfl rfl ⟨Nat.zero_le _, Nat.zero_le _⟩ ?_
  refine jj_iret dX8_laneOf_13 rfl (Nat.zero_le _) (Nat.zero_le _) ?_
  exact ⟨_, rfl, rfl, rfl⟩
def vTo (K P : JI) (b : Int32) : Int32 := if srch (fun j => decide (K 14 j = b)) 40 nI (-1) = -1 then -1 else if atV 8 (P 4) (atV 100 (K 3) b) - srch (fun j => decide (K 14 j = b)) 40 nI (-1) < 0 then atV 8 (P 4) (atV 100 (K 3) b) - srch (fun j => decide (K 14 j = b)) 40 nI (-1) + P 0 0 else atV 8 (P 4) (atV 100 (K 3) b) - srch (fun j => decide (K 14 j = b)) 40 nI (-1)
def vFin (K : JI) (b : Int32) : Int32 := if atV 100 (K 2) b < 10 then -1 else atV 100 (K 7) b
def vHot (K : JI) (b : Int32) : Int32 := if K 0 2 < atV 8 (K 10) (atV 100 (K 3) b) - K 0 0 then 0 else 1
def vEv (K : JI) (n w : Int32) : Int32 := if w = 0 then atV 300 (K 18) n >>> ((14 : Int32) &&& 31) else if w = 1 then atV 300 (K 18) n >>> ((10 : Int32) &&& 31) &&& 15 else if w = 2 then atV 300 (K 18) n >>> ((3 : Int32) &&& 31) &&& 127 else atV 300 (K 18) n &&& 7
theorem ex_ticksTo (hx : cX T R S I xo a p O P) {b : Int32}  : Ex Γ (d + 8) Y_X8_ticksTo [.ref xo, .int b] (T, R, S, blk 19 I a K, L, D, none) (ec (orE (orE (eAir O) (orE (eIdx b (K 1 0)) 0)) (0))) (es (orE (orE (eAir O) (orE (eIdx b (K 1 0)) 0)) (0))) (cA (orE (orE (eAir O) (orE (eIdx b (K 1 0)) 0)) (0)) (some (.int (vTo K P b))) (T, R, S, blk 19 I a K, L, D, none) (T, R, S, blk 19 I a K, L, D, none)) := by
  refine Ex.of (by decide) (by simp [Value.category]) (Nat.le_of_ble_eq_true rfl) rfl ?_
  refine jj_aload_n (q := 1) dX8_ticksTo_0 rfl rfl rfl ?_
  refine jj_iload_n (q := 2) dX8_ticksTo_1 rfl rfl rfl ?_
  refine jj_nV1 (q := 5) dX8_ticksTo_2 yk_X8_needBag ml_X8_113 hx.t (ex_needBag hx) rfl rfl rfl rfl (fun g2 => ?_)
  refine jj_aload_n (q := 6) dX8_ticksTo_5 rfl rfl rfl ?_
  refine jj_getS (q := 9) dX8_ticksTo_6 fl_X8_33 hx.t hx.sn rfl rfl rfl ?_
  refine jj_iload_n (q := 10) dX8_ticksTo_9 rfl rfl rfl ?_
  refine jj_cV1i (q := 13) dX8_ticksTo_10 yk_X4_placeOnLoop ml_X8_130 hx.hs.t0 (ex_placeOnLoop hx.hs) rfl rfl rfl ⟨Nat.zero_le _, Nat.zero_le _⟩ ?_
  refine jj_istore_n (q := 14) dX8_ticksTo_13 rfl (by decide) rfl ?_
  refine jj_iload_n (q := 15) dX8_ticksTo_14 rfl rfl rfl ?_
  refine jj_iconst (v := -1) (q := 16) dX8_ticksTo_15 rfl rfl ?_
  refine jj_icmp_ne (q := 19) (tgt := 21) dX8_ticksTo_16 rfl rfl (fun h16 => ?_) (fun h16 => ?_)
  · refine jj_aload_n (q := 22) dX8_ticksTo_21 rfl rfl rfl ?_
    refine jj_getS (q := 25) dX8_ticksTo_22 fl_X8_23 hx.t hx.sp rfl rfl rfl ?_
    refine jj_getR (q := 28) dX8_ticksTo_25 fl_X8_143 hx.hp.t0 hx.hp.r0_7 rfl rfl rfl ?_
    refine jj_aload_n (q := 29) dX8_ticksTo_28 rfl rfl rfl ?_
    refine jj_getS (q := 32) dX8_ticksTo_29 fl_X8_33 hx.t hx.sn rfl rfl rfl ?_
    refine jj_getR (q := 35) dX8_ticksTo_32 fl_X8_95 hx.hs.t0 hx.hs.r0_4 rfl rfl rfl ?_
    refine jj_getR (q := 38) dX8_ticksTo_35 fl_X8_124 hx.hs.t1 hx.hs.r1_2 rfl rfl rfl ?_
    refine jj_iload_n (q := 39) dX8_ticksTo_38 rfl rfl rfl ?_
    refine jj_cS2i (q := 42) dX8_ticksTo_39 yk_X8_at ml_X8_120 (ex_atv hx.hs.t3 (blk_k (by decide)) rfl) rfl rfl rfl ⟨Nat.zero_le _, Nat.zero_le _⟩ ?_
    refine jj_cS2i (q := 45) dX8_ticksTo_42 yk_X8_at ml_X8_120 (ex_atv hx.hp.t4 (hx.rp 4 (by decide)) rfl) rfl rfl rfl ⟨Nat.zero_le _, Nat.zero_le _⟩ ?_
    refine jj_iload_n (q := 46) dX8_ticksTo_45 rfl rfl rfl ?_
    refine jj_isub (q := 47) dX8_ticksTo_46 rfl ?_
    refine jj_istore_n (q := 48) dX8_ticksTo_47 rfl (by decide) rfl ?_
    refine jj_iload_n (q := 49) dX8_ticksTo_48 rfl rfl rfl ?_
    refine jj_if_ge (q := 52) (tgt := 64) dX8_ticksTo_49 rfl rfl (fun h49 => ?_) (fun h49 => ?_)
    · refine jj_iload_n (q := 65) dX8_ticksTo_64 rfl rfl rfl ?_
      refine jj_iret dX8_ticksTo_65 rfl (Nat.zero_le _) (Nat.zero_le _) ?_
      exact cA_i (by unfold vTo; rw [if_neg h16]; first | rw [if_pos h49] | rw [if_neg h49] | rw [if_neg (Int32.not_lt.mpr h49)] | rw [if_pos (Int32.not_le.mp h49)])
    · refine jj_iload_n (q := 53) dX8_ticksTo_52 rfl rfl rfl ?_
      refine jj_aload_n (q := 54) dX8_ticksTo_53 rfl rfl rfl ?_
      refine jj_getS (q := 57) dX8_ticksTo_54 fl_X8_23 hx.t hx.sp rfl rfl rfl ?_
      refine jj_getIv (q := 60) dX8_ticksTo_57 fl_X8_146 hx.hp.t0 hx.r0 rfl rfl ?_
      refine jj_iadd (q := 61) dX8_ticksTo_60 rfl ?_
      refine jj_goto (tgt := 65) dX8_ticksTo_61 rfl ?_
      refine jj_iret dX8_ticksTo_65 rfl (Nat.zero_le _) (Nat.zero_le _) ?_
      exact cA_i (by unfold vTo; rw [if_neg h16]; first | rw [if_pos h49] | rw [if_neg h49] | rw [if_neg (Int32.not_lt.mpr h49)] | rw [if_pos (Int32.not_le.mp h49)])
  · refine jj_iconst (v := -1) (q := 20) dX8_ticksTo_19 rfl rfl ?_
    refine jj_iret dX8_ticksTo_20 rfl (Nat.zero_le _) (Nat.zero_le _) ?_
    exact cA_i (by unfold vTo; rw [if_pos h16])
theorem fin01 {x : Int32} : (if x < 10 then (0 : Int32) else 1) = 0 ↔ x < 10 := by
  by_cases h : x < 10
  · rw [if_pos h]; exact ⟨fun _ => h, fun _ => rfl⟩
  · rw [if_neg h]; exact ⟨fun q => absurd q (by decide), fun q => absurd q h⟩
theorem ex_finishedAt (hx : cX T R S I xo a p O P) {b : Int32}  : Ex Γ (d + 8) Y_X8_finishedAt [.ref xo, .int b] (T, R, S, blk 19 I a K, L, D, none) (ec (orE (orE (eAir O) (orE (eIdx b (K 1 0)) 0)) (0))) (es (orE (orE (eAir O) (orE (eIdx b (K 1 0)) 0)) (0))) (cA (orE (orE (eAir O) (orE (eIdx b (K 1 0)) 0)) (0)) (some (.int (vFin K b))) (T, R, S, blk 19 I a K, L, D, none) (T, R, S, blk 19 I a K, L, D, none)) := by
  refine Ex.of (by decide) (by simp [Value.category]) (Nat.le_of_ble_eq_true rfl) rfl ?_
  refine jj_aload_n (q := 1) dX8_finishedAt_0 rfl rfl rfl ?_
  refine jj_iload_n (q := 2) dX8_finishedAt_1 rfl rfl rfl ?_
  refine jj_nV1 (q := 5) dX8_finishedAt_2 yk_X8_needBag ml_X8_113 hx.t (ex_needBag hx) rfl rfl rfl rfl (fun g2 => ?_)
  refine jj_aload_n (q := 6) dX8_finishedAt_5 rfl rfl rfl ?_
  refine jj_getS (q := 9) dX8_finishedAt_6 fl_X8_33 hx.t hx.sn rfl rfl rfl ?_
  refine jj_getR (q := 12) dX8_finishedAt_9 fl_X8_95 hx.hs.t0 hx.hs.r0_4 rfl rfl rfl ?_
  refine jj_getR (q := 15) dX8_finishedAt_12 fl_X8_116 hx.hs.t1 hx.hs.r1_1 rfl rfl rfl ?_
  refine jj_iload_n (q := 16) dX8_finishedAt_15 rfl rfl rfl ?_
  refine jj_cS2i (q := 19) dX8_finishedAt_16 yk_X8_at ml_X8_120 (ex_atv hx.hs.t2 (blk_k (by decide)) rfl) rfl rfl rfl ⟨Nat.zero_le _, Nat.zero_le _⟩ ?_
  refine jj_cS1i (q := 22) dX8_finishedAt_19 yk_X8_isFinished ml_X8_149 ex_isFinished rfl rfl rfl ⟨Nat.zero_le _, Nat.zero_le _⟩ ?_
  refine jj_if_eq (q := 25) (tgt := 42) dX8_finishedAt_22 rfl rfl (fun h22 => ?_) (fun h22 => ?_)
  · refine jj_iconst (v := -1) (q := 43) dX8_finishedAt_42 rfl rfl ?_
    refine jj_iret dX8_finishedAt_43 rfl (Nat.zero_le _) (Nat.zero_le _) ?_
    exact cA_i (by unfold vFin; rw [if_pos (fin01.mp h22)])
  · refine jj_aload_n (q := 26) dX8_finishedAt_25 rfl rfl rfl ?_
    refine jj_getS (q := 29) dX8_finishedAt_26 fl_X8_33 hx.t hx.sn rfl rfl rfl ?_
    refine jj_getR (q := 32) dX8_finishedAt_29 fl_X8_95 hx.hs.t0 hx.hs.r0_4 rfl rfl rfl ?_
    refine jj_getR (q := 35) dX8_finishedAt_32 fl_X8_153 hx.hs.t1 hx.hs.r1_6 rfl rfl rfl ?_
    refine jj_iload_n (q := 36) dX8_finishedAt_35 rfl rfl rfl ?_
    refine jj_cS2i (q := 39) dX8_finishedAt_36 yk_X8_at ml_X8_120 (ex_atv hx.hs.t7 (blk_k (by decide)) rfl) rfl rfl rfl ⟨Nat.zero_le _, Nat.zero_le _⟩ ?_
    refine jj_goto (tgt := 43) dX8_finishedAt_39 rfl ?_
    refine jj_iret dX8_finishedAt_43 rfl (Nat.zero_le _) (Nat.zero_le _) ?_
    exact cA_i (by unfold vFin; rw [if_neg (fun w => h22 (fin01.mpr w))])
theorem ex_isHot (hx : cX T R S I xo a p O P) {b : Int32}  : Ex Γ (d + 8) Y_X8_isHot [.ref xo, .int b] (T, R, S, blk 19 I a K, L, D, none) (ec (orE (orE (eAir O) (orE (eIdx b (K 1 0)) 0)) (0))) (es (orE (orE (eAir O) (orE (eIdx b (K 1 0)) 0)) (0))) (cA (orE (orE (eAir O) (orE (eIdx b (K 1 0)) 0)) (0)) (some (.int (vHot K b))) (T, R, S, blk 19 I a K, L, D, none) (T, R, S, blk 19 I a K, L, D, none)) := by
  refine Ex.of (by decide) (by simp [Value.category]) (Nat.le_of_ble_eq_true rfl) rfl ?_
  refine jj_aload_n (q := 1) dX8_isHot_0 rfl rfl rfl ?_
  refine jj_iload_n (q := 2) dX8_isHot_1 rfl rfl rfl ?_
  refine jj_nV1 (q := 5) dX8_isHot_2 yk_X8_needBag ml_X8_113 hx.t (ex_needBag hx) rfl rfl rfl rfl (fun g2 => ?_)
  refine jj_aload_n (q := 6) dX8_isHot_5 rfl rfl rfl ?_
  refine jj_getS (q := 9) dX8_isHot_6 fl_X8_33 hx.t hx.sn rfl rfl rfl ?_
  refine jj_getR (q := 12) dX8_isHot_9 fl_X8_156 hx.hs.t0 hx.hs.r0_6 rfl rfl rfl ?_
  refine jj_aload_n (q := 13) dX8_isHot_12 rfl rfl rfl ?_
  refine jj_getS (q := 16) dX8_isHot_13 fl_X8_33 hx.t hx.sn rfl rfl rfl ?_
  refine jj_getR (q := 19) dX8_isHot_16 fl_X8_95 hx.hs.t0 hx.hs.r0_4 rfl rfl rfl ?_
  refine jj_getR (q := 22) dX8_isHot_19 fl_X8_124 hx.hs.t1 hx.hs.r1_2 rfl rfl rfl ?_
  refine jj_iload_n (q := 23) dX8_isHot_22 rfl rfl rfl ?_
  refine jj_cS2i (q := 26) dX8_isHot_23 yk_X8_at ml_X8_120 (ex_atv hx.hs.t3 (blk_k (by decide)) rfl) rfl rfl rfl ⟨Nat.zero_le _, Nat.zero_le _⟩ ?_
  refine jj_cS2i (q := 29) dX8_isHot_26 yk_X8_at ml_X8_120 (ex_atv hx.hs.t10 (blk_k (by decide)) rfl) rfl rfl rfl ⟨Nat.zero_le _, Nat.zero_le _⟩ ?_
  refine jj_aload_n (q := 30) dX8_isHot_29 rfl rfl rfl ?_
  refine jj_getS (q := 33) dX8_isHot_30 fl_X8_33 hx.t hx.sn rfl rfl rfl ?_
  refine jj_getIv (q := 36) dX8_isHot_33 fl_X8_110 hx.hs.t0 (blk_0 (by decide)) rfl rfl ?_
  refine jj_isub (q := 37) dX8_isHot_36 rfl ?_
  refine jj_aload_n (q := 38) dX8_isHot_37 rfl rfl rfl ?_
  refine jj_getS (q := 41) dX8_isHot_38 fl_X8_33 hx.t hx.sn rfl rfl rfl ?_
  refine jj_getIv (q := 44) dX8_isHot_41 fl_X8_159 hx.hs.t0 (blk_0 (by decide)) rfl rfl ?_
  refine jj_icmp_gt (q := 47) (tgt := 51) dX8_isHot_44 rfl rfl (fun h44 => ?_) (fun h44 => ?_)
  · refine jj_iconst (v := 0) (q := 52) dX8_isHot_51 rfl rfl ?_
    refine jj_zret dX8_isHot_52 rfl (by first | rfl | assumption) (Nat.zero_le _) (Nat.zero_le _) ?_
    exact cA_i (by unfold vHot; (first | rw [if_pos h44] | rw [if_neg h44] | skip))
  · refine jj_iconst (v := 1) (q := 48) dX8_isHot_47 rfl rfl ?_
    refine jj_goto (tgt := 52) dX8_isHot_48 rfl ?_
    refine jj_zret dX8_isHot_52 rfl (by first | rfl | assumption) (Nat.zero_le _) (Nat.zero_le _) ?_
    exact cA_i (by unfold vHot; (first | rw [if_pos h44] | rw [if_neg h44] | skip))
theorem ex_bagAt (hx : cX T R S I xo a p O P) {x : Int32}  : Ex Γ (d + 8) Y_X8_bagAt [.ref xo, .int x] (T, R, S, blk 19 I a K, L, D, none) (ec (orE (eAir O) (orE (eIdx x (P 0 0)) 0))) (es (orE (eAir O) (orE (eIdx x (P 0 0)) 0))) (cA (orE (eAir O) (orE (eIdx x (P 0 0)) 0)) (some (.int (atV 40 (K 14) x))) (T, R, S, blk 19 I a K, L, D, none) (T, R, S, blk 19 I a K, L, D, none)) := by
  refine Ex.of (by decide) (by simp [Value.category]) (Nat.le_of_ble_eq_true rfl) rfl ?_
  refine jj_aload_n (q := 1) dX8_bagAt_0 rfl rfl rfl ?_
  refine jj_nV0 (q := 4) dX8_bagAt_1 yk_X8_needAirport ml_X8_168 hx.t (ex_needAirport hx) rfl rfl rfl rfl (fun g1 => ?_)
  refine jj_iload_n (q := 5) dX8_bagAt_4 rfl rfl rfl ?_
  refine jj_aload_n (q := 6) dX8_bagAt_5 rfl rfl rfl ?_
  refine jj_getS (q := 9) dX8_bagAt_6 fl_X8_23 hx.t hx.sp rfl rfl rfl ?_
  refine jj_getIv (q := 12) dX8_bagAt_9 fl_X8_146 hx.hp.t0 hx.r0 rfl rfl ?_
  refine jj_nS2 (q := 15) dX8_bagAt_12 yk_X8_needIndex ml_X8_171 ex_needIndex rfl rfl rfl rfl (fun g12 => ?_)
  refine jj_aload_n (q := 16) dX8_bagAt_15 rfl rfl rfl ?_
  refine jj_getS (q := 19) dX8_bagAt_16 fl_X8_33 hx.t hx.sn rfl rfl rfl ?_
  refine jj_getR (q := 22) dX8_bagAt_19 fl_X8_175 hx.hs.t0 hx.hs.r0_10 rfl rfl rfl ?_
  refine jj_iload_n (q := 23) dX8_bagAt_22 rfl rfl rfl ?_
  refine jj_cS2i (q := 26) dX8_bagAt_23 yk_X8_at ml_X8_120 (ex_atv hx.hs.t14 (blk_k (by decide)) rfl) rfl rfl rfl ⟨Nat.zero_le _, Nat.zero_le _⟩ ?_
  refine jj_iret dX8_bagAt_26 rfl (Nat.zero_le _) (Nat.zero_le _) ?_
  exact ⟨_, rfl, rfl, rfl⟩
theorem ex_waiting (hx : cX T R S I xo a p O P) {w : Int32}  : Ex Γ (d + 8) Y_X8_waiting [.ref xo, .int w] (T, R, S, blk 19 I a K, L, D, none) (ec (orE (eAir O) (orE (eRng w 1 4) 0))) (es (orE (eAir O) (orE (eRng w 1 4) 0))) (cA (orE (eAir O) (orE (eRng w 1 4) 0)) (some (.int (atV 14 (K 8) (2 * w - 1)))) (T, R, S, blk 19 I a K, L, D, none) (T, R, S, blk 19 I a K, L, D, none)) := by
  refine Ex.of (by decide) (by simp [Value.category]) (Nat.le_of_ble_eq_true rfl) rfl ?_
  refine jj_aload_n (q := 1) dX8_waiting_0 rfl rfl rfl ?_
  refine jj_nV0 (q := 4) dX8_waiting_1 yk_X8_needAirport ml_X8_168 hx.t (ex_needAirport hx) rfl rfl rfl rfl (fun g1 => ?_)
  refine jj_iload_n (q := 5) dX8_waiting_4 rfl rfl rfl ?_
  refine jj_iconst (v := 1) (q := 6) dX8_waiting_5 rfl rfl ?_
  refine jj_iconst (v := 4) (q := 7) dX8_waiting_6 rfl rfl ?_
  refine jj_nS3 (q := 10) dX8_waiting_7 yk_X8_needRange ml_X8_181 ex_needRange rfl rfl rfl rfl (fun g7 => ?_)
  refine jj_aload_n (q := 11) dX8_waiting_10 rfl rfl rfl ?_
  refine jj_getS (q := 14) dX8_waiting_11 fl_X8_33 hx.t hx.sn rfl rfl rfl ?_
  refine jj_getR (q := 17) dX8_waiting_14 fl_X8_95 hx.hs.t0 hx.hs.r0_4 rfl rfl rfl ?_
  refine jj_getR (q := 20) dX8_waiting_17 fl_X8_178 hx.hs.t1 hx.hs.r1_7 rfl rfl rfl ?_
  refine jj_iload_n (q := 21) dX8_waiting_20 rfl rfl rfl ?_
  refine jj_cS1i (q := 24) dX8_waiting_21 yk_X8_waitState ml_X8_185 ex_waitState rfl rfl rfl ⟨Nat.zero_le _, Nat.zero_le _⟩ ?_
  refine jj_cS2i (q := 27) dX8_waiting_24 yk_X8_at ml_X8_120 (ex_atv hx.hs.t8 (blk_k (by decide)) rfl) rfl rfl rfl ⟨Nat.zero_le _, Nat.zero_le _⟩ ?_
  refine jj_iret dX8_waiting_27 rfl (Nat.zero_le _) (Nat.zero_le _) ?_
  exact ⟨_, rfl, rfl, rfl⟩
theorem ex_queueAt (hx : cX T R S I xo a p O P) {w x : Int32} (hc : K 1 0 = nI c) (hc1 : c ≤ 100) : Ex Γ (d + 8) Y_X8_queueAt [.ref xo, .int w, .int x] (T, R, S, blk 19 I a K, L, D, none) (ec (orE (eAir O) (orE (eIdx (w - 1) 4) (orE (eIdx x (atV 14 (K 8) (2 * w - 1))) 0)))) (es (orE (eAir O) (orE (eIdx (w - 1) 4) (orE (eIdx x (atV 14 (K 8) (2 * w - 1))) 0)))) (cA (orE (eAir O) (orE (eIdx (w - 1) 4) (orE (eIdx x (atV 14 (K 8) (2 * w - 1))) 0))) (some (.int (srch (pIn K (2 * w - 1) x c) c nI (-1)))) (T, R, S, blk 19 I a K, L, D, none) (T, R, S, blk 19 I a K, L, D, none)) := by
  refine Ex.of (by decide) (by simp [Value.category]) (Nat.le_of_ble_eq_true rfl) rfl ?_
  refine jj_aload_n (q := 1) dX8_queueAt_0 rfl rfl rfl ?_
  refine jj_nV0 (q := 4) dX8_queueAt_1 yk_X8_needAirport ml_X8_168 hx.t (ex_needAirport hx) rfl rfl rfl rfl (fun g1 => ?_)
  refine jj_iload_n (q := 5) dX8_queueAt_4 rfl rfl rfl ?_
  refine jj_iconst (v := 1) (q := 6) dX8_queueAt_5 rfl rfl ?_
  refine jj_isub (q := 7) dX8_queueAt_6 rfl ?_
  refine jj_iconst (v := 4) (q := 8) dX8_queueAt_7 rfl rfl ?_
  refine jj_nS2 (q := 11) dX8_queueAt_8 yk_X8_needIndex ml_X8_171 ex_needIndex rfl rfl rfl rfl (fun g8 => ?_)
  refine jj_iload_n (q := 12) dX8_queueAt_11 rfl rfl rfl ?_
  refine jj_aload_n (q := 13) dX8_queueAt_12 rfl rfl rfl ?_
  refine jj_getS (q := 16) dX8_queueAt_13 fl_X8_33 hx.t hx.sn rfl rfl rfl ?_
  refine jj_getR (q := 19) dX8_queueAt_16 fl_X8_95 hx.hs.t0 hx.hs.r0_4 rfl rfl rfl ?_
  refine jj_getR (q := 22) dX8_queueAt_19 fl_X8_178 hx.hs.t1 hx.hs.r1_7 rfl rfl rfl ?_
  refine jj_iload_n (q := 23) dX8_queueAt_22 rfl rfl rfl ?_
  refine jj_cS1i (q := 26) dX8_queueAt_23 yk_X8_waitState ml_X8_185 ex_waitState rfl rfl rfl ⟨Nat.zero_le _, Nat.zero_le _⟩ ?_
  refine jj_cS2i (q := 29) dX8_queueAt_26 yk_X8_at ml_X8_120 (ex_atv hx.hs.t8 (blk_k (by decide)) rfl) rfl rfl rfl ⟨Nat.zero_le _, Nat.zero_le _⟩ ?_
  refine jj_nS2 (q := 32) dX8_queueAt_29 yk_X8_needIndex ml_X8_171 ex_needIndex rfl rfl rfl rfl (fun g29 => ?_)
  refine jj_aload_n (q := 33) dX8_queueAt_32 rfl rfl rfl ?_
  refine jj_getS (q := 36) dX8_queueAt_33 fl_X8_33 hx.t hx.sn rfl rfl rfl ?_
  refine jj_iload_n (q := 37) dX8_queueAt_36 rfl rfl rfl ?_
  refine jj_cS1i (q := 40) dX8_queueAt_37 yk_X8_waitState ml_X8_185 ex_waitState rfl rfl rfl ⟨Nat.zero_le _, Nat.zero_le _⟩ ?_
  refine jj_iload_n (q := 41) dX8_queueAt_40 rfl rfl rfl ?_
  refine jj_cV2i (q := 44) dX8_queueAt_41 yk_X4_inQueue ml_X8_188 hx.hs.t0 (ex_inQueue hx.hs hc hc1) rfl rfl rfl ⟨Nat.zero_le _, Nat.zero_le _⟩ ?_
  refine jj_iret dX8_queueAt_44 rfl (Nat.zero_le _) (Nat.zero_le _) ?_
  exact ⟨_, rfl, rfl, rfl⟩
theorem ex_machineAt (hx : cX T R S I xo a p O P) {lv m : Int32}  : Ex Γ (d + 8) Y_X8_machineAt [.ref xo, .int lv, .int m] (T, R, S, blk 19 I a K, L, D, none) (ec (orE (orE (eAir O) (orE (eIdx (lv - 1) 3) (orE (eIdx m (atV 3 (P 1) (lv - 1))) 0))) (0))) (es (orE (orE (eAir O) (orE (eIdx (lv - 1) 3) (orE (eIdx m (atV 3 (P 1) (lv - 1))) 0))) (0))) (cA (orE (orE (eAir O) (orE (eIdx (lv - 1) 3) (orE (eIdx m (atV 3 (P 1) (lv - 1))) 0))) (0)) (some (.int (atV 12 (K 15) ((lv - 1) * 4 + m)))) (T, R, S, blk 19 I a K, L, D, none) (T, R, S, blk 19 I a K, L, D, none)) := by
  refine Ex.of (by decide) (by simp [Value.category]) (Nat.le_of_ble_eq_true rfl) rfl ?_
  refine jj_aload_n (q := 1) dX8_machineAt_0 rfl rfl rfl ?_
  refine jj_iload_n (q := 2) dX8_machineAt_1 rfl rfl rfl ?_
  refine jj_iload_n (q := 3) dX8_machineAt_2 rfl rfl rfl ?_
  refine jj_nV2 (q := 6) dX8_machineAt_3 yk_X8_needMachine ml_X8_192 hx.t (ex_needMachine hx) rfl rfl rfl rfl (fun g3 => ?_)
  refine jj_aload_n (q := 7) dX8_machineAt_6 rfl rfl rfl ?_
  refine jj_getS (q := 10) dX8_machineAt_7 fl_X8_33 hx.t hx.sn rfl rfl rfl ?_
  refine jj_getR (q := 13) dX8_machineAt_10 fl_X8_195 hx.hs.t0 hx.hs.r0_11 rfl rfl rfl ?_
  refine jj_iload_n (q := 14) dX8_machineAt_13 rfl rfl rfl ?_
  refine jj_iload_n (q := 15) dX8_machineAt_14 rfl rfl rfl ?_
  refine jj_cS2i (q := 18) dX8_machineAt_15 yk_X8_machineIndex ml_X8_198 ex_machineIndex rfl rfl rfl ⟨Nat.zero_le _, Nat.zero_le _⟩ ?_
  refine jj_cS2i (q := 21) dX8_machineAt_18 yk_X8_at ml_X8_120 (ex_atv hx.hs.t15 (blk_k (by decide)) rfl) rfl rfl rfl ⟨Nat.zero_le _, Nat.zero_le _⟩ ?_
  refine jj_iret dX8_machineAt_21 rfl (Nat.zero_le _) (Nat.zero_le _) ?_
  exact ⟨_, rfl, rfl, rfl⟩
theorem ex_brokenUntil (hx : cX T R S I xo a p O P) {lv m : Int32}  : Ex Γ (d + 8) Y_X8_brokenUntil [.ref xo, .int lv, .int m] (T, R, S, blk 19 I a K, L, D, none) (ec (orE (orE (eAir O) (orE (eIdx (lv - 1) 3) (orE (eIdx m (atV 3 (P 1) (lv - 1))) 0))) (0))) (es (orE (orE (eAir O) (orE (eIdx (lv - 1) 3) (orE (eIdx m (atV 3 (P 1) (lv - 1))) 0))) (0))) (cA (orE (orE (eAir O) (orE (eIdx (lv - 1) 3) (orE (eIdx m (atV 3 (P 1) (lv - 1))) 0))) (0)) (some (.int (atV 12 (K 17) ((lv - 1) * 4 + m)))) (T, R, S, blk 19 I a K, L, D, none) (T, R, S, blk 19 I a K, L, D, none)) := by
  refine Ex.of (by decide) (by simp [Value.category]) (Nat.le_of_ble_eq_true rfl) rfl ?_
  refine jj_aload_n (q := 1) dX8_brokenUntil_0 rfl rfl rfl ?_
  refine jj_iload_n (q := 2) dX8_brokenUntil_1 rfl rfl rfl ?_
  refine jj_iload_n (q := 3) dX8_brokenUntil_2 rfl rfl rfl ?_
  refine jj_nV2 (q := 6) dX8_brokenUntil_3 yk_X8_needMachine ml_X8_192 hx.t (ex_needMachine hx) rfl rfl rfl rfl (fun g3 => ?_)
  refine jj_aload_n (q := 7) dX8_brokenUntil_6 rfl rfl rfl ?_
  refine jj_getS (q := 10) dX8_brokenUntil_7 fl_X8_33 hx.t hx.sn rfl rfl rfl ?_
  refine jj_getR (q := 13) dX8_brokenUntil_10 fl_X8_201 hx.hs.t0 hx.hs.r0_13 rfl rfl rfl ?_
  refine jj_iload_n (q := 14) dX8_brokenUntil_13 rfl rfl rfl ?_
  refine jj_iload_n (q := 15) dX8_brokenUntil_14 rfl rfl rfl ?_
  refine jj_cS2i (q := 18) dX8_brokenUntil_15 yk_X8_machineIndex ml_X8_198 ex_machineIndex rfl rfl rfl ⟨Nat.zero_le _, Nat.zero_le _⟩ ?_
  refine jj_cS2i (q := 21) dX8_brokenUntil_18 yk_X8_at ml_X8_120 (ex_atv hx.hs.t17 (blk_k (by decide)) rfl) rfl rfl rfl ⟨Nat.zero_le _, Nat.zero_le _⟩ ?_
  refine jj_iret dX8_brokenUntil_21 rfl (Nat.zero_le _) (Nat.zero_le _) ?_
  exact ⟨_, rfl, rfl, rfl⟩
theorem ex_laneSize (hx : cX T R S I xo a p O P) {l : Int32}  : Ex Γ (d + 8) Y_X8_laneSize [.ref xo, .int l] (T, R, S, blk 19 I a K, L, D, none) (ec (orE (orE (eAir O) (orE (eIdx l (P 0 8)) 0)) (0))) (es (orE (orE (eAir O) (orE (eIdx l (P 0 8)) 0)) (0))) (cA (orE (orE (eAir O) (orE (eIdx l (P 0 8)) 0)) (0)) (some (.int (atV 4 (K 12) l))) (T, R, S, blk 19 I a K, L, D, none) (T, R, S, blk 19 I a K, L, D, none)) := by
  refine Ex.of (by decide) (by simp [Value.category]) (Nat.le_of_ble_eq_true rfl) rfl ?_
  refine jj_aload_n (q := 1) dX8_laneSize_0 rfl rfl rfl ?_
  refine jj_iload_n (q := 2) dX8_laneSize_1 rfl rfl rfl ?_
  refine jj_nV1 (q := 5) dX8_laneSize_2 yk_X8_needLane ml_X8_210 hx.t (ex_needLane hx) rfl rfl rfl rfl (fun g2 => ?_)
  refine jj_aload_n (q := 6) dX8_laneSize_5 rfl rfl rfl ?_
  refine jj_getS (q := 9) dX8_laneSize_6 fl_X8_33 hx.t hx.sn rfl rfl rfl ?_
  refine jj_getR (q := 12) dX8_laneSize_9 fl_X8_213 hx.hs.t0 hx.hs.r0_8 rfl rfl rfl ?_
  refine jj_iload_n (q := 13) dX8_laneSize_12 rfl rfl rfl ?_
  refine jj_cS2i (q := 16) dX8_laneSize_13 yk_X8_at ml_X8_120 (ex_atv hx.hs.t12 (blk_k (by decide)) rfl) rfl rfl rfl ⟨Nat.zero_le _, Nat.zero_le _⟩ ?_
  refine jj_iret dX8_laneSize_16 rfl (Nat.zero_le _) (Nat.zero_le _) ?_
  exact ⟨_, rfl, rfl, rfl⟩
theorem ex_laneAt (hx : cX T R S I xo a p O P) {l x : Int32}  : Ex Γ (d + 8) Y_X8_laneAt [.ref xo, .int l, .int x] (T, R, S, blk 19 I a K, L, D, none) (ec (orE (orE (eAir O) (orE (eIdx l (P 0 8)) 0)) (orE (eIdx x (atV 4 (K 12) l)) 0))) (es (orE (orE (eAir O) (orE (eIdx l (P 0 8)) 0)) (orE (eIdx x (atV 4 (K 12) l)) 0))) (cA (orE (orE (eAir O) (orE (eIdx l (P 0 8)) 0)) (orE (eIdx x (atV 4 (K 12) l)) 0)) (some (.int (atV 80 (K 13) (l * 20 + x)))) (T, R, S, blk 19 I a K, L, D, none) (T, R, S, blk 19 I a K, L, D, none)) := by
  refine Ex.of (by decide) (by simp [Value.category]) (Nat.le_of_ble_eq_true rfl) rfl ?_
  refine jj_aload_n (q := 1) dX8_laneAt_0 rfl rfl rfl ?_
  refine jj_iload_n (q := 2) dX8_laneAt_1 rfl rfl rfl ?_
  refine jj_nV1 (q := 5) dX8_laneAt_2 yk_X8_needLane ml_X8_210 hx.t (ex_needLane hx) rfl rfl rfl rfl (fun g2 => ?_)
  refine jj_iload_n (q := 6) dX8_laneAt_5 rfl rfl rfl ?_
  refine jj_aload_n (q := 7) dX8_laneAt_6 rfl rfl rfl ?_
  refine jj_getS (q := 10) dX8_laneAt_7 fl_X8_33 hx.t hx.sn rfl rfl rfl ?_
  refine jj_getR (q := 13) dX8_laneAt_10 fl_X8_213 hx.hs.t0 hx.hs.r0_8 rfl rfl rfl ?_
  refine jj_iload_n (q := 14) dX8_laneAt_13 rfl rfl rfl ?_
  refine jj_cS2i (q := 17) dX8_laneAt_14 yk_X8_at ml_X8_120 (ex_atv hx.hs.t12 (blk_k (by decide)) rfl) rfl rfl rfl ⟨Nat.zero_le _, Nat.zero_le _⟩ ?_
  refine jj_nS2 (q := 20) dX8_laneAt_17 yk_X8_needIndex ml_X8_171 ex_needIndex rfl rfl rfl rfl (fun g17 => ?_)
  refine jj_aload_n (q := 21) dX8_laneAt_20 rfl rfl rfl ?_
  refine jj_getS (q := 24) dX8_laneAt_21 fl_X8_33 hx.t hx.sn rfl rfl rfl ?_
  refine jj_getR (q := 27) dX8_laneAt_24 fl_X8_216 hx.hs.t0 hx.hs.r0_9 rfl rfl rfl ?_
  refine jj_iload_n (q := 28) dX8_laneAt_27 rfl rfl rfl ?_
  refine jj_bipush (v := 20) (q := 30) dX8_laneAt_28 rfl rfl ?_
  refine jj_imul (q := 31) dX8_laneAt_30 rfl ?_
  refine jj_iload_n (q := 32) dX8_laneAt_31 rfl rfl rfl ?_
  refine jj_iadd (q := 33) dX8_laneAt_32 rfl ?_
  refine jj_cS2i (q := 36) dX8_laneAt_33 yk_X8_at ml_X8_120 (ex_atv hx.hs.t13 (blk_k (by decide)) rfl) rfl rfl rfl ⟨Nat.zero_le _, Nat.zero_le _⟩ ?_
  refine jj_iret dX8_laneAt_36 rfl (Nat.zero_le _) (Nat.zero_le _) ?_
  exact ⟨_, rfl, rfl, rfl⟩
theorem ex_flightState (hx : cX T R S I xo a p O P) {f : Int32}  : Ex Γ (d + 8) Y_X8_flightState [.ref xo, .int f] (T, R, S, blk 19 I a K, L, D, none) (ec (orE (orE (eAir O) (orE (eIdx f (P 0 6)) 0)) (0))) (es (orE (orE (eAir O) (orE (eIdx f (P 0 6)) 0)) (0))) (cA (orE (orE (eAir O) (orE (eIdx f (P 0 6)) 0)) (0)) (some (.int (kPh K f))) (T, R, S, blk 19 I a K, L, D, none) (T, R, S, blk 19 I a K, L, D, none)) := by
  refine Ex.of (by decide) (by simp [Value.category]) (Nat.le_of_ble_eq_true rfl) rfl ?_
  refine jj_aload_n (q := 1) dX8_flightState_0 rfl rfl rfl ?_
  refine jj_iload_n (q := 2) dX8_flightState_1 rfl rfl rfl ?_
  refine jj_nV1 (q := 5) dX8_flightState_2 yk_X8_needFlight ml_X8_229 hx.t (ex_needFlight hx) rfl rfl rfl rfl (fun g2 => ?_)
  refine jj_aload_n (q := 6) dX8_flightState_5 rfl rfl rfl ?_
  refine jj_getS (q := 9) dX8_flightState_6 fl_X8_33 hx.t hx.sn rfl rfl rfl ?_
  refine jj_iload_n (q := 10) dX8_flightState_9 rfl rfl rfl ?_
  refine jj_cV1i (q := 13) dX8_flightState_10 yk_X4_phase ml_X8_232 hx.hs.t0 (ex_phase hx.hs) rfl rfl rfl ⟨Nat.zero_le _, Nat.zero_le _⟩ ?_
  refine jj_iret dX8_flightState_13 rfl (Nat.zero_le _) (Nat.zero_le _) ?_
  exact ⟨_, rfl, rfl, rfl⟩
theorem ex_openOf (hx : cX T R S I xo a p O P) {f : Int32}  : Ex Γ (d + 8) Y_X8_openOf [.ref xo, .int f] (T, R, S, blk 19 I a K, L, D, none) (ec (orE (orE (eAir O) (orE (eIdx f (P 0 6)) 0)) (0))) (es (orE (orE (eAir O) (orE (eIdx f (P 0 6)) 0)) (0))) (cA (orE (orE (eAir O) (orE (eIdx f (P 0 6)) 0)) (0)) (some (.int (atV 8 (K 9) f))) (T, R, S, blk 19 I a K, L, D, none) (T, R, S, blk 19 I a K, L, D, none)) := by
  refine Ex.of (by decide) (by simp [Value.category]) (Nat.le_of_ble_eq_true rfl) rfl ?_
  refine jj_aload_n (q := 1) dX8_openOf_0 rfl rfl rfl ?_
  refine jj_iload_n (q := 2) dX8_openOf_1 rfl rfl rfl ?_
  refine jj_nV1 (q := 5) dX8_openOf_2 yk_X8_needFlight ml_X8_229 hx.t (ex_needFlight hx) rfl rfl rfl rfl (fun g2 => ?_)
  refine jj_aload_n (q := 6) dX8_openOf_5 rfl rfl rfl ?_
  refine jj_getS (q := 9) dX8_openOf_6 fl_X8_33 hx.t hx.sn rfl rfl rfl ?_
  refine jj_getR (q := 12) dX8_openOf_9 fl_X8_235 hx.hs.t0 hx.hs.r0_5 rfl rfl rfl ?_
  refine jj_iload_n (q := 13) dX8_openOf_12 rfl rfl rfl ?_
  refine jj_cS2i (q := 16) dX8_openOf_13 yk_X8_at ml_X8_120 (ex_atv hx.hs.t9 (blk_k (by decide)) rfl) rfl rfl rfl ⟨Nat.zero_le _, Nat.zero_le _⟩ ?_
  refine jj_iret dX8_openOf_16 rfl (Nat.zero_le _) (Nat.zero_le _) ?_
  exact ⟨_, rfl, rfl, rfl⟩
theorem ex_closeOf (hx : cX T R S I xo a p O P) {f : Int32}  : Ex Γ (d + 8) Y_X8_closeOf [.ref xo, .int f] (T, R, S, blk 19 I a K, L, D, none) (ec (orE (orE (eAir O) (orE (eIdx f (P 0 6)) 0)) (0))) (es (orE (orE (eAir O) (orE (eIdx f (P 0 6)) 0)) (0))) (cA (orE (orE (eAir O) (orE (eIdx f (P 0 6)) 0)) (0)) (some (.int (atV 8 (K 10) f))) (T, R, S, blk 19 I a K, L, D, none) (T, R, S, blk 19 I a K, L, D, none)) := by
  refine Ex.of (by decide) (by simp [Value.category]) (Nat.le_of_ble_eq_true rfl) rfl ?_
  refine jj_aload_n (q := 1) dX8_closeOf_0 rfl rfl rfl ?_
  refine jj_iload_n (q := 2) dX8_closeOf_1 rfl rfl rfl ?_
  refine jj_nV1 (q := 5) dX8_closeOf_2 yk_X8_needFlight ml_X8_229 hx.t (ex_needFlight hx) rfl rfl rfl rfl (fun g2 => ?_)
  refine jj_aload_n (q := 6) dX8_closeOf_5 rfl rfl rfl ?_
  refine jj_getS (q := 9) dX8_closeOf_6 fl_X8_33 hx.t hx.sn rfl rfl rfl ?_
  refine jj_getR (q := 12) dX8_closeOf_9 fl_X8_156 hx.hs.t0 hx.hs.r0_6 rfl rfl rfl ?_
  refine jj_iload_n (q := 13) dX8_closeOf_12 rfl rfl rfl ?_
  refine jj_cS2i (q := 16) dX8_closeOf_13 yk_X8_at ml_X8_120 (ex_atv hx.hs.t10 (blk_k (by decide)) rfl) rfl rfl rfl ⟨Nat.zero_le _, Nat.zero_le _⟩ ?_
  refine jj_iret dX8_closeOf_16 rfl (Nat.zero_le _) (Nat.zero_le _) ?_
  exact ⟨_, rfl, rfl, rfl⟩
theorem ex_loadedOf (hx : cX T R S I xo a p O P) (hc : K 1 0 = nI c) (hc1 : c ≤ 100) {f : Int32} : Ex Γ (d + 2) Y_X8_loadedOf [.ref xo, .int f] (T, R, S, blk 19 I a K, L, D, z) 0 0 (rI (nI (fb_ct (pOf K f 10 10) c)) (T, R, S, blk 19 I a K, L, D, z)) := by
  refine Ex.of (by decide) (by simp [Value.category]) (Nat.le_of_ble_eq_true rfl) rfl ?_
  refine jj_aload_n (q := 1) dX8_loadedOf_0 rfl rfl rfl ?_
  refine jj_getS (q := 4) dX8_loadedOf_1 fl_X8_33 hx.t hx.sn rfl rfl rfl ?_
  refine jj_getR (q := 7) dX8_loadedOf_4 fl_X8_95 hx.hs.t0 hx.hs.r0_4 rfl rfl rfl ?_
  refine jj_iload_n (q := 8) dX8_loadedOf_7 rfl rfl rfl ?_
  refine jj_bipush (v := 10) (q := 10) dX8_loadedOf_8 rfl rfl ?_
  refine jj_bipush (v := 10) (q := 12) dX8_loadedOf_10 rfl rfl ?_
  refine jj_cV3i (q := 15) dX8_loadedOf_12 yk_X0_ofFlight ml_X8_238 hx.hs.t1 (ex_ofFlight hx.hs hc hc1) rfl rfl rfl ⟨Nat.zero_le _, Nat.zero_le _⟩ ?_
  refine jj_iret dX8_loadedOf_15 rfl (Nat.zero_le _) (Nat.zero_le _) ?_
  exact ⟨rfl, rfl⟩
theorem ex_shortOf (hx : cX T R S I xo a p O P) (hc : K 1 0 = nI c) (hc1 : c ≤ 100) {f : Int32} : Ex Γ (d + 2) Y_X8_shortOf [.ref xo, .int f] (T, R, S, blk 19 I a K, L, D, z) 0 0 (rI (nI (fb_ct (pOf K f 11 11) c)) (T, R, S, blk 19 I a K, L, D, z)) := by
  refine Ex.of (by decide) (by simp [Value.category]) (Nat.le_of_ble_eq_true rfl) rfl ?_
  refine jj_aload_n (q := 1) dX8_shortOf_0 rfl rfl rfl ?_
  refine jj_getS (q := 4) dX8_shortOf_1 fl_X8_33 hx.t hx.sn rfl rfl rfl ?_
  refine jj_getR (q := 7) dX8_shortOf_4 fl_X8_95 hx.hs.t0 hx.hs.r0_4 rfl rfl rfl ?_
  refine jj_iload_n (q := 8) dX8_shortOf_7 rfl rfl rfl ?_
  refine jj_bipush (v := 11) (q := 10) dX8_shortOf_8 rfl rfl ?_
  refine jj_bipush (v := 11) (q := 12) dX8_shortOf_10 rfl rfl ?_
  refine jj_cV3i (q := 15) dX8_shortOf_12 yk_X0_ofFlight ml_X8_238 hx.hs.t1 (ex_ofFlight hx.hs hc hc1) rfl rfl rfl ⟨Nat.zero_le _, Nat.zero_le _⟩ ?_
  refine jj_iret dX8_shortOf_15 rfl (Nat.zero_le _) (Nat.zero_le _) ?_
  exact ⟨rfl, rfl⟩
theorem ex_missingOf (hx : cX T R S I xo a p O P) (hc : K 1 0 = nI c) (hc1 : c ≤ 100) {f : Int32} : Ex Γ (d + 2) Y_X8_missingOf [.ref xo, .int f] (T, R, S, blk 19 I a K, L, D, z) 0 0 (rI (nI (fb_ct (pOf K f 0 9) c)) (T, R, S, blk 19 I a K, L, D, z)) := by
  refine Ex.of (by decide) (by simp [Value.category]) (Nat.le_of_ble_eq_true rfl) rfl ?_
  refine jj_aload_n (q := 1) dX8_missingOf_0 rfl rfl rfl ?_
  refine jj_getS (q := 4) dX8_missingOf_1 fl_X8_33 hx.t hx.sn rfl rfl rfl ?_
  refine jj_getR (q := 7) dX8_missingOf_4 fl_X8_95 hx.hs.t0 hx.hs.r0_4 rfl rfl rfl ?_
  refine jj_iload_n (q := 8) dX8_missingOf_7 rfl rfl rfl ?_
  refine jj_iconst (v := 0) (q := 9) dX8_missingOf_8 rfl rfl ?_
  refine jj_bipush (v := 9) (q := 11) dX8_missingOf_9 rfl rfl ?_
  refine jj_cV3i (q := 14) dX8_missingOf_11 yk_X0_ofFlight ml_X8_238 hx.hs.t1 (ex_ofFlight hx.hs hc hc1) rfl rfl rfl ⟨Nat.zero_le _, Nat.zero_le _⟩ ?_
  refine jj_iret dX8_missingOf_14 rfl (Nat.zero_le _) (Nat.zero_le _) ?_
  exact ⟨rfl, rfl⟩
theorem ex_countOf (hx : cX T R S I xo a p O P) {f s : Int32} (hc : K 1 0 = nI c) (hc1 : c ≤ 100) : Ex Γ (d + 8) Y_X8_countOf [.ref xo, .int f, .int s] (T, R, S, blk 19 I a K, L, D, none) (ec (orE (orE (eAir O) (orE (eIdx f (P 0 6)) 0)) (orE (eRng s 0 13) 0))) (es (orE (orE (eAir O) (orE (eIdx f (P 0 6)) 0)) (orE (eRng s 0 13) 0))) (cA (orE (orE (eAir O) (orE (eIdx f (P 0 6)) 0)) (orE (eRng s 0 13) 0)) (some (.int (nI (fb_ct (pOf K f s s) c)))) (T, R, S, blk 19 I a K, L, D, none) (T, R, S, blk 19 I a K, L, D, none)) := by
  refine Ex.of (by decide) (by simp [Value.category]) (Nat.le_of_ble_eq_true rfl) rfl ?_
  refine jj_aload_n (q := 1) dX8_countOf_0 rfl rfl rfl ?_
  refine jj_iload_n (q := 2) dX8_countOf_1 rfl rfl rfl ?_
  refine jj_nV1 (q := 5) dX8_countOf_2 yk_X8_needFlight ml_X8_229 hx.t (ex_needFlight hx) rfl rfl rfl rfl (fun g2 => ?_)
  refine jj_iload_n (q := 6) dX8_countOf_5 rfl rfl rfl ?_
  refine jj_iconst (v := 0) (q := 7) dX8_countOf_6 rfl rfl ?_
  refine jj_bipush (v := 13) (q := 9) dX8_countOf_7 rfl rfl ?_
  refine jj_nS3 (q := 12) dX8_countOf_9 yk_X8_needRange ml_X8_181 ex_needRange rfl rfl rfl rfl (fun g9 => ?_)
  refine jj_aload_n (q := 13) dX8_countOf_12 rfl rfl rfl ?_
  refine jj_getS (q := 16) dX8_countOf_13 fl_X8_33 hx.t hx.sn rfl rfl rfl ?_
  refine jj_getR (q := 19) dX8_countOf_16 fl_X8_95 hx.hs.t0 hx.hs.r0_4 rfl rfl rfl ?_
  refine jj_iload_n (q := 20) dX8_countOf_19 rfl rfl rfl ?_
  refine jj_iload_n (q := 21) dX8_countOf_20 rfl rfl rfl ?_
  refine jj_iload_n (q := 22) dX8_countOf_21 rfl rfl rfl ?_
  refine jj_cV3i (q := 25) dX8_countOf_22 yk_X0_ofFlight ml_X8_238 hx.hs.t1 (ex_ofFlight hx.hs hc hc1) rfl rfl rfl ⟨Nat.zero_le _, Nat.zero_le _⟩ ?_
  refine jj_iret dX8_countOf_25 rfl (Nat.zero_le _) (Nat.zero_le _) ?_
  exact ⟨_, rfl, rfl, rfl⟩
theorem ex_missing (hx : cX T R S I xo a p O P) {f : Int32} (hc : K 1 0 = nI c) (hc1 : c ≤ 100) : Ex Γ (d + 8) Y_X8_missing [.ref xo, .int f] (T, R, S, blk 19 I a K, L, D, none) (ec (orE (orE (eAir O) (orE (eIdx f (P 0 6)) 0)) (0))) (es (orE (orE (eAir O) (orE (eIdx f (P 0 6)) 0)) (0))) (cA (orE (orE (eAir O) (orE (eIdx f (P 0 6)) 0)) (0)) (some (.int (nI (fb_ct (pOf K f 0 9) c)))) (T, R, S, blk 19 I a K, L, D, none) (T, R, S, blk 19 I a K, L, D, none)) := by
  refine Ex.of (by decide) (by simp [Value.category]) (Nat.le_of_ble_eq_true rfl) rfl ?_
  refine jj_aload_n (q := 1) dX8_missing_0 rfl rfl rfl ?_
  refine jj_iload_n (q := 2) dX8_missing_1 rfl rfl rfl ?_
  refine jj_nV1 (q := 5) dX8_missing_2 yk_X8_needFlight ml_X8_229 hx.t (ex_needFlight hx) rfl rfl rfl rfl (fun g2 => ?_)
  refine jj_aload_n (q := 6) dX8_missing_5 rfl rfl rfl ?_
  refine jj_iload_n (q := 7) dX8_missing_6 rfl rfl rfl ?_
  refine jj_cV1i (q := 10) dX8_missing_7 yk_X8_missingOf ml_X8_242 hx.t (ex_missingOf hx hc hc1) rfl rfl rfl ⟨Nat.zero_le _, Nat.zero_le _⟩ ?_
  refine jj_iret dX8_missing_10 rfl (Nat.zero_le _) (Nat.zero_le _) ?_
  exact ⟨_, rfl, rfl, rfl⟩
theorem ex_percentile (hx : cX T R S I xo a p O P) {f x : Int32} (hc : K 1 0 = nI c) (hc1 : c ≤ 100) : Ex Γ (d + 8) Y_X8_percentile [.ref xo, .int f, .int x] (T, R, S, blk 19 I a K, L, D, none) (ec (orE (orE (eAir O) (orE (eIdx f (P 0 6)) 0)) (orE (eRng x 1 100) 0))) (es (orE (orE (eAir O) (orE (eIdx f (P 0 6)) 0)) (orE (eRng x 1 100) 0))) (cA (orE (orE (eAir O) (orE (eIdx f (P 0 6)) 0)) (orE (eRng x 1 100) 0)) (some (.int (srch (pTi K f ((x * nI (fb_ct (pOf K f 10 10) c) + 99) / 100) c) c (fun b => K 7 b - K 4 b) (-1)))) (T, R, S, blk 19 I a K, L, D, none) (T, R, S, blk 19 I a K, L, D, none)) := by
  refine Ex.of (by decide) (by simp [Value.category]) (Nat.le_of_ble_eq_true rfl) rfl ?_
  refine jj_aload_n (q := 1) dX8_percentile_0 rfl rfl rfl ?_
  refine jj_iload_n (q := 2) dX8_percentile_1 rfl rfl rfl ?_
  refine jj_nV1 (q := 5) dX8_percentile_2 yk_X8_needFlight ml_X8_229 hx.t (ex_needFlight hx) rfl rfl rfl rfl (fun g2 => ?_)
  refine jj_iload_n (q := 6) dX8_percentile_5 rfl rfl rfl ?_
  refine jj_iconst (v := 1) (q := 7) dX8_percentile_6 rfl rfl ?_
  refine jj_bipush (v := 100) (q := 9) dX8_percentile_7 rfl rfl ?_
  refine jj_nS3 (q := 12) dX8_percentile_9 yk_X8_needRange ml_X8_181 ex_needRange rfl rfl rfl rfl (fun g9 => ?_)
  refine jj_aload_n (q := 13) dX8_percentile_12 rfl rfl rfl ?_
  refine jj_getS (q := 16) dX8_percentile_13 fl_X8_33 hx.t hx.sn rfl rfl rfl ?_
  refine jj_getR (q := 19) dX8_percentile_16 fl_X8_95 hx.hs.t0 hx.hs.r0_4 rfl rfl rfl ?_
  refine jj_iload_n (q := 20) dX8_percentile_19 rfl rfl rfl ?_
  refine jj_iload_n (q := 21) dX8_percentile_20 rfl rfl rfl ?_
  refine jj_aload_n (q := 22) dX8_percentile_21 rfl rfl rfl ?_
  refine jj_iload_n (q := 23) dX8_percentile_22 rfl rfl rfl ?_
  refine jj_cV1i (q := 26) dX8_percentile_23 yk_X8_loadedOf ml_X8_245 hx.t (ex_loadedOf hx hc hc1) rfl rfl rfl ⟨Nat.zero_le _, Nat.zero_le _⟩ ?_
  refine jj_imul (q := 27) dX8_percentile_26 rfl ?_
  refine jj_bipush (v := 99) (q := 29) dX8_percentile_27 rfl rfl ?_
  refine jj_iadd (q := 30) dX8_percentile_29 rfl ?_
  refine jj_bipush (v := 100) (q := 32) dX8_percentile_30 rfl rfl ?_
  refine jj_idiv (q := 33) dX8_percentile_32 (by decide) rfl ?_
  refine jj_cV2i (q := 36) dX8_percentile_33 yk_X0_loadingTime ml_X8_248 hx.hs.t1 (ex_loadingTime hx.hs hc hc1) rfl rfl rfl ⟨Nat.zero_le _, Nat.zero_le _⟩ ?_
  refine jj_iret dX8_percentile_36 rfl (Nat.zero_le _) (Nat.zero_le _) ?_
  exact ⟨_, rfl, rfl, rfl⟩
theorem ex_time (hx : cX T R S I xo a p O P)  : Ex Γ (d + 2) Y_X8_time [.ref xo] (T, R, S, blk 19 I a K, L, D, none) 0 0 (rI (K 0 0) (T, R, S, blk 19 I a K, L, D, none)) := by
  refine Ex.of (by decide) (by simp [Value.category]) (Nat.le_of_ble_eq_true rfl) rfl ?_
  refine jj_aload_n (q := 1) dX8_time_0 rfl rfl rfl ?_
  refine jj_getS (q := 4) dX8_time_1 fl_X8_33 hx.t hx.sn rfl rfl rfl ?_
  refine jj_getIv (q := 7) dX8_time_4 fl_X8_110 hx.hs.t0 (blk_0 (by decide)) rfl rfl ?_
  refine jj_iret dX8_time_7 rfl (Nat.zero_le _) (Nat.zero_le _) ?_
  exact ⟨rfl, rfl⟩
theorem ex_bags (hx : cX T R S I xo a p O P)  : Ex Γ (d + 2) Y_X8_bags [.ref xo] (T, R, S, blk 19 I a K, L, D, none) 0 0 (rI (K 1 0) (T, R, S, blk 19 I a K, L, D, none)) := by
  refine Ex.of (by decide) (by simp [Value.category]) (Nat.le_of_ble_eq_true rfl) rfl ?_
  refine jj_aload_n (q := 1) dX8_bags_0 rfl rfl rfl ?_
  refine jj_getS (q := 4) dX8_bags_1 fl_X8_33 hx.t hx.sn rfl rfl rfl ?_
  refine jj_getR (q := 7) dX8_bags_4 fl_X8_95 hx.hs.t0 hx.hs.r0_4 rfl rfl rfl ?_
  refine jj_getIv (q := 10) dX8_bags_7 fl_X8_99 hx.hs.t1 (blk_k (by decide)) rfl rfl ?_
  refine jj_iret dX8_bags_10 rfl (Nat.zero_le _) (Nat.zero_le _) ?_
  exact ⟨rfl, rfl⟩
theorem ex_loopLoad (hx : cX T R S I xo a p O P)  : Ex Γ (d + 2) Y_X8_loopLoad [.ref xo] (T, R, S, blk 19 I a K, L, D, none) 0 0 (rI (atV 14 (K 8) 8) (T, R, S, blk 19 I a K, L, D, none)) := by
  refine Ex.of (by decide) (by simp [Value.category]) (Nat.le_of_ble_eq_true rfl) rfl ?_
  refine jj_aload_n (q := 1) dX8_loopLoad_0 rfl rfl rfl ?_
  refine jj_getS (q := 4) dX8_loopLoad_1 fl_X8_33 hx.t hx.sn rfl rfl rfl ?_
  refine jj_getR (q := 7) dX8_loopLoad_4 fl_X8_95 hx.hs.t0 hx.hs.r0_4 rfl rfl rfl ?_
  refine jj_getR (q := 10) dX8_loopLoad_7 fl_X8_178 hx.hs.t1 hx.hs.r1_7 rfl rfl rfl ?_
  refine jj_bipush (v := 8) (q := 12) dX8_loopLoad_10 rfl rfl ?_
  refine jj_cS2i (q := 15) dX8_loopLoad_12 yk_X8_at ml_X8_120 (ex_atv hx.hs.t8 (blk_k (by decide)) rfl) rfl rfl rfl ⟨Nat.zero_le _, Nat.zero_le _⟩ ?_
  refine jj_iret dX8_loopLoad_15 rfl (Nat.zero_le _) (Nat.zero_le _) ?_
  exact ⟨rfl, rfl⟩
theorem ex_stoppedUntil (hx : cX T R S I xo a p O P)  : Ex Γ (d + 2) Y_X8_stoppedUntil [.ref xo] (T, R, S, blk 19 I a K, L, D, none) 0 0 (rI (K 0 3) (T, R, S, blk 19 I a K, L, D, none)) := by
  refine Ex.of (by decide) (by simp [Value.category]) (Nat.le_of_ble_eq_true rfl) rfl ?_
  refine jj_aload_n (q := 1) dX8_stoppedUntil_0 rfl rfl rfl ?_
  refine jj_getS (q := 4) dX8_stoppedUntil_1 fl_X8_33 hx.t hx.sn rfl rfl rfl ?_
  refine jj_getIv (q := 7) dX8_stoppedUntil_4 fl_X8_204 hx.hs.t0 (blk_0 (by decide)) rfl rfl ?_
  refine jj_iret dX8_stoppedUntil_7 rfl (Nat.zero_le _) (Nat.zero_le _) ?_
  exact ⟨rfl, rfl⟩
theorem ex_lanes (hx : cX T R S I xo a p O P)  : Ex Γ (d + 2) Y_X8_lanes [.ref xo] (T, R, S, blk 19 I a K, L, D, none) 0 0 (rI (P 0 8) (T, R, S, blk 19 I a K, L, D, none)) := by
  refine Ex.of (by decide) (by simp [Value.category]) (Nat.le_of_ble_eq_true rfl) rfl ?_
  refine jj_aload_n (q := 1) dX8_lanes_0 rfl rfl rfl ?_
  refine jj_getS (q := 4) dX8_lanes_1 fl_X8_23 hx.t hx.sp rfl rfl rfl ?_
  refine jj_getIv (q := 7) dX8_lanes_4 fl_X8_207 hx.hp.t0 hx.r0 rfl rfl ?_
  refine jj_iret dX8_lanes_7 rfl (Nat.zero_le _) (Nat.zero_le _) ?_
  exact ⟨rfl, rfl⟩
theorem ex_keeps (hx : cX T R S I xo a p O P)  : Ex Γ (d + 2) Y_X8_keeps [.ref xo] (T, R, S, blk 19 I a K, L, D, none) 0 0 (rI (P 11 0) (T, R, S, blk 19 I a K, L, D, none)) := by
  refine Ex.of (by decide) (by simp [Value.category]) (Nat.le_of_ble_eq_true rfl) rfl ?_
  refine jj_aload_n (q := 1) dX8_keeps_0 rfl rfl rfl ?_
  refine jj_getS (q := 4) dX8_keeps_1 fl_X8_23 hx.t hx.sp rfl rfl rfl ?_
  refine jj_getR (q := 7) dX8_keeps_4 fl_X8_219 hx.hp.t0 hx.hp.r0_16 rfl rfl rfl ?_
  refine jj_getIv (q := 10) dX8_keeps_7 fl_X8_223 hx.hp.t11 (hx.rp 11 (by decide)) rfl rfl ?_
  refine jj_iret dX8_keeps_10 rfl (Nat.zero_le _) (Nat.zero_le _) ?_
  exact ⟨rfl, rfl⟩
theorem ex_flights (hx : cX T R S I xo a p O P)  : Ex Γ (d + 2) Y_X8_flights [.ref xo] (T, R, S, blk 19 I a K, L, D, none) 0 0 (rI (P 0 6) (T, R, S, blk 19 I a K, L, D, none)) := by
  refine Ex.of (by decide) (by simp [Value.category]) (Nat.le_of_ble_eq_true rfl) rfl ?_
  refine jj_aload_n (q := 1) dX8_flights_0 rfl rfl rfl ?_
  refine jj_getS (q := 4) dX8_flights_1 fl_X8_23 hx.t hx.sp rfl rfl rfl ?_
  refine jj_getIv (q := 7) dX8_flights_4 fl_X8_226 hx.hp.t0 hx.r0 rfl rfl ?_
  refine jj_iret dX8_flights_7 rfl (Nat.zero_le _) (Nat.zero_le _) ?_
  exact ⟨rfl, rfl⟩
theorem ex_events (hx : cX T R S I xo a p O P)  : Ex Γ (d + 2) Y_X8_events [.ref xo] (T, R, S, blk 19 I a K, L, D, none) 0 0 (rI (K 0 14) (T, R, S, blk 19 I a K, L, D, none)) := by
  refine Ex.of (by decide) (by simp [Value.category]) (Nat.le_of_ble_eq_true rfl) rfl ?_
  refine jj_aload_n (q := 1) dX8_events_0 rfl rfl rfl ?_
  refine jj_getS (q := 4) dX8_events_1 fl_X8_33 hx.t hx.sn rfl rfl rfl ?_
  refine jj_getIv (q := 7) dX8_events_4 fl_X8_254 hx.hs.t0 (blk_0 (by decide)) rfl rfl ?_
  refine jj_iret dX8_events_7 rfl (Nat.zero_le _) (Nat.zero_le _) ?_
  exact ⟨rfl, rfl⟩
end M46
