/-! THE MODEL'S QUESTIONS, 2 -/
theorem ct_y {p : Nat → Bool} {i n : Nat} (h : n = fb_ct p i) (hp : p i = true) : n + 1 = fb_ct p (i + 1) := by rw [fb_ct_succ, if_pos hp, h]
theorem ct_n {p : Nat → Bool} {i n : Nat} (h : n = fb_ct p i) (hp : p i = false) : n + 0 = fb_ct p (i + 1) := by rw [fb_ct_succ, if_neg (by rw [hp]; decide), h]
theorem tA_tA {A : JI} {s t : Int32} : tA (tA A s) t = tA A t := by
  funext k j
  show u2 (u2 A 0 0 s) 0 0 t k j = u2 A 0 0 t k j
  rw [u2_ap, u2_ap, u2_ap]
  repeat' split
  all_goals rfl
theorem mHot_1 {X : JV} {n : Nat} (h : ¬ mHot X n = 0) : 1 = mHot X n := by
  unfold mHot at h ⊢
  split at h
  · exact absurd rfl h
  · rename_i g; rw [if_neg g]
theorem inI_1 {a b c : Int32} (h : ¬ inI a b c = 0) : inI a b c = 1 := by
  unfold inI at h ⊢
  repeat' split at h
  · exact absurd rfl h
  · exact absurd rfl h
  · rename_i g1 g2; rw [if_neg g1, if_neg g2]
section M48
variable {Γ : Gam} {d : Nat} {T : JT} {R S : JR} {I A : JI} {L : JL} {D : JD} {z : Option Nat} {mo : Nat} {X : JV}
theorem ex_mstateOf (hm : hMo T S mo) (hX : mI X) {b : Int32} : Ex Γ (d + 3) Y_X9_stateOf [.ref mo, .int b] (T, R, S, blk 18 I mo (st A 4 X), L, D, z) 0 0 (rI (if mOk A (inI b 0 (X 2 - 1)) = 0 then 0 else X (373 + nN b)) (T, R, S, blk 18 I mo (st (tA A (tI A (inI b 0 (X 2 - 1)))) 4 X), L, D, z)) := by
  refine Ex.of (by decide) (by simp [Value.category]) (Nat.le_of_ble_eq_true rfl) rfl ?_
  refine jj_aload_n (q := 1) dX9_stateOf_0 rfl rfl rfl ?_
  refine jj_iload_n (q := 2) dX9_stateOf_1 rfl rfl rfl ?_
  refine jj_sipush (v := 373) (q := 5) dX9_stateOf_2 rfl rfl ?_
  refine jj_cV2i (q := 8) dX9_stateOf_5 yk_X9_ofBag ml_X9_357 hm.t0 (ex_ofBag hm hX (row := 373) (by omega)) rfl rfl rfl ⟨Nat.zero_le _, Nat.zero_le _⟩ ?_
  refine jj_iret dX9_stateOf_8 rfl (Nat.zero_le _) (Nat.zero_le _) ?_
  exact ⟨rfl, rfl⟩
theorem ex_mflightOf (hm : hMo T S mo) (hX : mI X) {b : Int32} : Ex Γ (d + 3) Y_X9_flightOf [.ref mo, .int b] (T, R, S, blk 18 I mo (st A 4 X), L, D, z) 0 0 (rI (if mOk A (inI b 0 (X 2 - 1)) = 0 then 0 else X (173 + nN b)) (T, R, S, blk 18 I mo (st (tA A (tI A (inI b 0 (X 2 - 1)))) 4 X), L, D, z)) := by
  refine Ex.of (by decide) (by simp [Value.category]) (Nat.le_of_ble_eq_true rfl) rfl ?_
  refine jj_aload_n (q := 1) dX9_flightOf_0 rfl rfl rfl ?_
  refine jj_iload_n (q := 2) dX9_flightOf_1 rfl rfl rfl ?_
  refine jj_sipush (v := 173) (q := 5) dX9_flightOf_2 rfl rfl ?_
  refine jj_cV2i (q := 8) dX9_flightOf_5 yk_X9_ofBag ml_X9_357 hm.t0 (ex_ofBag hm hX (row := 173) (by omega)) rfl rfl rfl ⟨Nat.zero_le _, Nat.zero_le _⟩ ?_
  refine jj_iret dX9_flightOf_8 rfl (Nat.zero_le _) (Nat.zero_le _) ?_
  exact ⟨rfl, rfl⟩
theorem ex_marrivalOf (hm : hMo T S mo) (hX : mI X) {b : Int32} : Ex Γ (d + 3) Y_X9_arrivalOf [.ref mo, .int b] (T, R, S, blk 18 I mo (st A 4 X), L, D, z) 0 0 (rI (if mOk A (inI b 0 (X 2 - 1)) = 0 then 0 else X (273 + nN b)) (T, R, S, blk 18 I mo (st (tA A (tI A (inI b 0 (X 2 - 1)))) 4 X), L, D, z)) := by
  refine Ex.of (by decide) (by simp [Value.category]) (Nat.le_of_ble_eq_true rfl) rfl ?_
  refine jj_aload_n (q := 1) dX9_arrivalOf_0 rfl rfl rfl ?_
  refine jj_iload_n (q := 2) dX9_arrivalOf_1 rfl rfl rfl ?_
  refine jj_sipush (v := 273) (q := 5) dX9_arrivalOf_2 rfl rfl ?_
  refine jj_cV2i (q := 8) dX9_arrivalOf_5 yk_X9_ofBag ml_X9_357 hm.t0 (ex_ofBag hm hX (row := 273) (by omega)) rfl rfl rfl ⟨Nat.zero_le _, Nat.zero_le _⟩ ?_
  refine jj_iret dX9_arrivalOf_8 rfl (Nat.zero_le _) (Nat.zero_le _) ?_
  exact ⟨rfl, rfl⟩
theorem ex_mlapsOf (hm : hMo T S mo) (hX : mI X) {b : Int32} : Ex Γ (d + 3) Y_X9_lapsOf [.ref mo, .int b] (T, R, S, blk 18 I mo (st A 4 X), L, D, z) 0 0 (rI (if mOk A (inI b 0 (X 2 - 1)) = 0 then 0 else X (573 + nN b)) (T, R, S, blk 18 I mo (st (tA A (tI A (inI b 0 (X 2 - 1)))) 4 X), L, D, z)) := by
  refine Ex.of (by decide) (by simp [Value.category]) (Nat.le_of_ble_eq_true rfl) rfl ?_
  refine jj_aload_n (q := 1) dX9_lapsOf_0 rfl rfl rfl ?_
  refine jj_iload_n (q := 2) dX9_lapsOf_1 rfl rfl rfl ?_
  refine jj_sipush (v := 573) (q := 5) dX9_lapsOf_2 rfl rfl ?_
  refine jj_cV2i (q := 8) dX9_lapsOf_5 yk_X9_ofBag ml_X9_357 hm.t0 (ex_ofBag hm hX (row := 573) (by omega)) rfl rfl rfl ⟨Nat.zero_le _, Nat.zero_le _⟩ ?_
  refine jj_iret dX9_lapsOf_8 rfl (Nat.zero_le _) (Nat.zero_le _) ?_
  exact ⟨rfl, rfl⟩
theorem ex_mlevelOf (hm : hMo T S mo) (hX : mI X) {b : Int32} : Ex Γ (d + 3) Y_X9_levelOf [.ref mo, .int b] (T, R, S, blk 18 I mo (st A 4 X), L, D, z) 0 0 (rI (if mOk A (inI b 0 (X 2 - 1)) = 0 then 0 else X (673 + nN b)) (T, R, S, blk 18 I mo (st (tA A (tI A (inI b 0 (X 2 - 1)))) 4 X), L, D, z)) := by
  refine Ex.of (by decide) (by simp [Value.category]) (Nat.le_of_ble_eq_true rfl) rfl ?_
  refine jj_aload_n (q := 1) dX9_levelOf_0 rfl rfl rfl ?_
  refine jj_iload_n (q := 2) dX9_levelOf_1 rfl rfl rfl ?_
  refine jj_sipush (v := 673) (q := 5) dX9_levelOf_2 rfl rfl ?_
  refine jj_cV2i (q := 8) dX9_levelOf_5 yk_X9_ofBag ml_X9_357 hm.t0 (ex_ofBag hm hX (row := 673) (by omega)) rfl rfl rfl ⟨Nat.zero_le _, Nat.zero_le _⟩ ?_
  refine jj_iret dX9_levelOf_8 rfl (Nat.zero_le _) (Nat.zero_le _) ?_
  exact ⟨rfl, rfl⟩
theorem ex_mfinishedAt (hm : hMo T S mo) (hX : mI X) {b : Int32} : Ex Γ (d + 3) Y_X9_finishedAt [.ref mo, .int b] (T, R, S, blk 18 I mo (st A 4 X), L, D, z) 0 0 (rI (if mOk A (inI b 0 (X 2 - 1)) = 0 then 0 else X (773 + nN b)) (T, R, S, blk 18 I mo (st (tA A (tI A (inI b 0 (X 2 - 1)))) 4 X), L, D, z)) := by
  refine Ex.of (by decide) (by simp [Value.category]) (Nat.le_of_ble_eq_true rfl) rfl ?_
  refine jj_aload_n (q := 1) dX9_finishedAt_0 rfl rfl rfl ?_
  refine jj_iload_n (q := 2) dX9_finishedAt_1 rfl rfl rfl ?_
  refine jj_sipush (v := 773) (q := 5) dX9_finishedAt_2 rfl rfl ?_
  refine jj_cV2i (q := 8) dX9_finishedAt_5 yk_X9_ofBag ml_X9_357 hm.t0 (ex_ofBag hm hX (row := 773) (by omega)) rfl rfl rfl ⟨Nat.zero_le _, Nat.zero_le _⟩ ?_
  refine jj_iret dX9_finishedAt_8 rfl (Nat.zero_le _) (Nat.zero_le _) ?_
  exact ⟨rfl, rfl⟩
theorem ex_placeIn (hm : hMo T S mo) (hX : mI X) {b : Int32} {s : Int32} : Ex Γ (d + 2) Y_X9_placeIn [.ref mo, .int b, .int s] (T, R, S, blk 18 I mo (st A 4 X), L, D, z) 0 0 (rI (if mOk A (inI b 0 (X 2 - 1)) = 0 then 0 else if X (373 + nN b) = s then X (473 + nN b) else -1) (T, R, S, blk 18 I mo (st (tA A (tI A (inI b 0 (X 2 - 1)))) 4 X), L, D, z)) := by
  have hc := hX.c
  have hcc : X 2 = nI (mC X) := hc.1
  rcases in_n (c := mC X) (by omega) b with ⟨n, hn, rfl, hi, he⟩ | ⟨hi, he⟩
  · skip
    refine Ex.of (by decide) (by simp [Value.category]) (Nat.le_of_ble_eq_true rfl) rfl ?_
    refine jj_aload_n (q := 1) dX9_placeIn_0 rfl rfl rfl ?_
    refine jj_aload_n (q := 2) dX9_placeIn_1 rfl rfl rfl ?_
    refine jj_iload_n (q := 3) dX9_placeIn_2 rfl rfl rfl ?_
    refine jj_cV1i (q := 6) dX9_placeIn_3 yk_X9_isBag ml_X9_350 hm.t0 (ex_isBag hm) rfl rfl rfl ⟨Nat.zero_le _, Nat.zero_le _⟩ ?_
    refine jj_cV1i (q := 9) dX9_placeIn_6 yk_X9_mayAsk ml_X9_353 hm.t0 (ex_mayAsk hm) rfl rfl rfl ⟨Nat.zero_le _, Nat.zero_le _⟩ ?_
    refine jj_if_ne (q := 12) (tgt := 14) dX9_placeIn_9 rfl rfl (fun h9 => ?_) (fun h9 => ?_)
    · refine jj_aload_n (q := 15) dX9_placeIn_14 rfl rfl rfl ?_
      refine jj_getS (q := 18) dX9_placeIn_15 fl_X9_23 hm.t0 hm.r0_12 rfl rfl rfl ?_
      refine jj_sipush (v := 373) (q := 21) dX9_placeIn_18 rfl rfl ?_
      refine jj_iload_n (q := 22) dX9_placeIn_21 rfl rfl rfl ?_
      refine jj_iaddN (q := 23) (a := 373) (b := n) dX9_placeIn_22 rfl rfl rfl ?_
      refine jj_ialdN (q := 24) (j := 373 + n) dX9_placeIn_23 hm.t4 (blk_st (by decide)) rfl (by omega) rfl ?_
      refine jj_iload_n (q := 25) dX9_placeIn_24 rfl rfl rfl ?_
      refine jj_icmp_ne (q := 28) (tgt := 41) dX9_placeIn_25 rfl rfl (fun h25 => ?_) (fun h25 => ?_)
      · refine jj_iconst (v := -1) (q := 42) dX9_placeIn_41 rfl rfl ?_
        refine jj_iret dX9_placeIn_42 rfl (Nat.zero_le _) (Nat.zero_le _) ?_
        exact ⟨by rw [nN_nI (by omega)]; (first | rw [if_pos h9] | rw [if_neg h9] | skip); (first | rw [if_pos h25] | rw [if_neg h25] | skip), rfl⟩
      · refine jj_aload_n (q := 29) dX9_placeIn_28 rfl rfl rfl ?_
        refine jj_getS (q := 32) dX9_placeIn_29 fl_X9_23 hm.t0 hm.r0_12 rfl rfl rfl ?_
        refine jj_sipush (v := 473) (q := 35) dX9_placeIn_32 rfl rfl ?_
        refine jj_iload_n (q := 36) dX9_placeIn_35 rfl rfl rfl ?_
        refine jj_iaddN (q := 37) (a := 473) (b := n) dX9_placeIn_36 rfl rfl rfl ?_
        refine jj_ialdN (q := 38) (j := 473 + n) dX9_placeIn_37 hm.t4 (blk_st (by decide)) rfl (by omega) rfl ?_
        refine jj_goto (tgt := 42) dX9_placeIn_38 rfl ?_
        refine jj_iret dX9_placeIn_42 rfl (Nat.zero_le _) (Nat.zero_le _) ?_
        exact ⟨by rw [nN_nI (by omega)]; (first | rw [if_pos h9] | rw [if_neg h9] | skip); (first | rw [if_pos h25] | rw [if_neg h25] | skip), rfl⟩
    · refine jj_iconst (v := 0) (q := 13) dX9_placeIn_12 rfl rfl ?_
      refine jj_iret dX9_placeIn_13 rfl (Nat.zero_le _) (Nat.zero_le _) ?_
      exact ⟨by rw [nN_nI (by omega)]; (first | rw [if_pos h9] | rw [if_neg h9] | skip); (first | rw [if_pos h25] | rw [if_neg h25] | skip), rfl⟩
  · have hz : mOk A (inI b 0 (X 2 - 1)) = 0 := by rw [hcc, hi]; exact mOk_0
    refine Ex.of (by decide) (by simp [Value.category]) (Nat.le_of_ble_eq_true rfl) rfl ?_
    refine jj_aload_n (q := 1) dX9_placeIn_0 rfl rfl rfl ?_
    refine jj_aload_n (q := 2) dX9_placeIn_1 rfl rfl rfl ?_
    refine jj_iload_n (q := 3) dX9_placeIn_2 rfl rfl rfl ?_
    refine jj_cV1i (q := 6) dX9_placeIn_3 yk_X9_isBag ml_X9_350 hm.t0 (ex_isBag hm) rfl rfl rfl ⟨Nat.zero_le _, Nat.zero_le _⟩ ?_
    refine jj_cV1i (q := 9) dX9_placeIn_6 yk_X9_mayAsk ml_X9_353 hm.t0 (ex_mayAsk hm) rfl rfl rfl ⟨Nat.zero_le _, Nat.zero_le _⟩ ?_
    refine jj_if_ne (q := 12) (tgt := 14) dX9_placeIn_9 rfl rfl (fun h9 => by exfalso; exact h9 hz) (fun h9 => ?_)
    refine jj_iconst (v := 0) (q := 13) dX9_placeIn_12 rfl rfl ?_
    refine jj_iret dX9_placeIn_13 rfl (Nat.zero_le _) (Nat.zero_le _) ?_
    exact ⟨by rw [if_pos hz], rfl⟩
theorem ex_mpositionOf (hm : hMo T S mo) (hX : mI X) {b : Int32} : Ex Γ (d + 3) Y_X9_positionOf [.ref mo, .int b] (T, R, S, blk 18 I mo (st A 4 X), L, D, z) 0 0 (rI (if mOk A (inI b 0 (X 2 - 1)) = 0 then 0 else if X (373 + nN b) = 8 then X (473 + nN b) else -1) (T, R, S, blk 18 I mo (st (tA A (tI A (inI b 0 (X 2 - 1)))) 4 X), L, D, z)) := by
  refine Ex.of (by decide) (by simp [Value.category]) (Nat.le_of_ble_eq_true rfl) rfl ?_
  refine jj_aload_n (q := 1) dX9_positionOf_0 rfl rfl rfl ?_
  refine jj_iload_n (q := 2) dX9_positionOf_1 rfl rfl rfl ?_
  refine jj_bipush (v := 8) (q := 4) dX9_positionOf_2 rfl rfl ?_
  refine jj_cV2i (q := 7) dX9_positionOf_4 yk_X9_placeIn ml_X9_360 hm.t0 (ex_placeIn hm hX) rfl rfl rfl ⟨Nat.zero_le _, Nat.zero_le _⟩ ?_
  refine jj_iret dX9_positionOf_7 rfl (Nat.zero_le _) (Nat.zero_le _) ?_
  exact ⟨rfl, rfl⟩
theorem ex_mlaneOf (hm : hMo T S mo) (hX : mI X) {b : Int32} : Ex Γ (d + 3) Y_X9_laneOf [.ref mo, .int b] (T, R, S, blk 18 I mo (st A 4 X), L, D, z) 0 0 (rI (if mOk A (inI b 0 (X 2 - 1)) = 0 then 0 else if X (373 + nN b) = 9 then X (473 + nN b) else -1) (T, R, S, blk 18 I mo (st (tA A (tI A (inI b 0 (X 2 - 1)))) 4 X), L, D, z)) := by
  refine Ex.of (by decide) (by simp [Value.category]) (Nat.le_of_ble_eq_true rfl) rfl ?_
  refine jj_aload_n (q := 1) dX9_laneOf_0 rfl rfl rfl ?_
  refine jj_iload_n (q := 2) dX9_laneOf_1 rfl rfl rfl ?_
  refine jj_bipush (v := 9) (q := 4) dX9_laneOf_2 rfl rfl ?_
  refine jj_cV2i (q := 7) dX9_laneOf_4 yk_X9_placeIn ml_X9_360 hm.t0 (ex_placeIn hm hX) rfl rfl rfl ⟨Nat.zero_le _, Nat.zero_le _⟩ ?_
  refine jj_iret dX9_laneOf_7 rfl (Nat.zero_le _) (Nat.zero_le _) ?_
  exact ⟨rfl, rfl⟩
theorem ex_misHot (hm : hMo T S mo) (hX : mI X) {b : Int32}  : Ex Γ (d + 2) Y_X9_isHot [.ref mo, .int b] (T, R, S, blk 18 I mo (st A 4 X), L, D, z) 0 0 (rI (if mOk A (inI b 0 (X 2 - 1)) = 0 then 0 else mHot X (nN b)) (T, R, S, blk 18 I mo (st (tA A (tI A (inI b 0 (X 2 - 1)))) 4 X), L, D, z)) := by
  have hc := hX.c
  have hcc : X 2 = nI (mC X) := hc.1
  rcases in_n (c := mC X) (by omega) b with ⟨n, hn, rfl, hi, he⟩ | ⟨hi, he⟩
  · skip
    refine Ex.of (by decide) (by simp [Value.category]) (Nat.le_of_ble_eq_true rfl) rfl ?_
    refine jj_aload_n (q := 1) dX9_isHot_0 rfl rfl rfl ?_
    refine jj_aload_n (q := 2) dX9_isHot_1 rfl rfl rfl ?_
    refine jj_iload_n (q := 3) dX9_isHot_2 rfl rfl rfl ?_
    refine jj_cV1i (q := 6) dX9_isHot_3 yk_X9_isBag ml_X9_350 hm.t0 (ex_isBag hm) rfl rfl rfl ⟨Nat.zero_le _, Nat.zero_le _⟩ ?_
    refine jj_cV1i (q := 9) dX9_isHot_6 yk_X9_mayAsk ml_X9_353 hm.t0 (ex_mayAsk hm) rfl rfl rfl ⟨Nat.zero_le _, Nat.zero_le _⟩ ?_
    refine jj_if_eq (q := 12) (tgt := 27) dX9_isHot_9 rfl rfl (fun h9 => ?_) (fun h9 => ?_)
    · refine jj_iconst (v := 0) (q := 28) dX9_isHot_27 rfl rfl ?_
      refine jj_zret dX9_isHot_28 rfl (by first | rfl | assumption) (Nat.zero_le _) (Nat.zero_le _) ?_
      exact ⟨by rw [if_pos h9], rfl⟩
    · refine jj_aload_n (q := 13) dX9_isHot_12 rfl rfl rfl ?_
      refine jj_getS (q := 16) dX9_isHot_13 fl_X9_23 hm.t0 hm.r0_12 rfl rfl rfl ?_
      refine jj_iload_n (q := 17) dX9_isHot_16 rfl rfl rfl ?_
      refine jj_cS2i (q := 20) dX9_isHot_17 yk_X9_hot ml_X9_261 (ex_hot hm u44 hX (by omega)) rfl rfl rfl ⟨Nat.zero_le _, Nat.zero_le _⟩ ?_
      refine jj_if_eq (q := 23) (tgt := 27) dX9_isHot_20 rfl rfl (fun h20 => ?_) (fun h20 => ?_)
      · refine jj_iconst (v := 0) (q := 28) dX9_isHot_27 rfl rfl ?_
        refine jj_zret dX9_isHot_28 rfl (by first | rfl | assumption) (Nat.zero_le _) (Nat.zero_le _) ?_
        exact ⟨by rw [nN_nI (by omega), if_neg h9, h20], rfl⟩
      · refine jj_iconst (v := 1) (q := 24) dX9_isHot_23 rfl rfl ?_
        refine jj_goto (tgt := 28) dX9_isHot_24 rfl ?_
        refine jj_zret dX9_isHot_28 rfl (by first | rfl | assumption) (Nat.zero_le _) (Nat.zero_le _) ?_
        exact ⟨by rw [nN_nI (by omega), if_neg h9, ← mHot_1 h20], rfl⟩
  · have hz : mOk A (inI b 0 (X 2 - 1)) = 0 := by rw [hcc, hi]; exact mOk_0
    refine Ex.of (by decide) (by simp [Value.category]) (Nat.le_of_ble_eq_true rfl) rfl ?_
    refine jj_aload_n (q := 1) dX9_isHot_0 rfl rfl rfl ?_
    refine jj_aload_n (q := 2) dX9_isHot_1 rfl rfl rfl ?_
    refine jj_iload_n (q := 3) dX9_isHot_2 rfl rfl rfl ?_
    refine jj_cV1i (q := 6) dX9_isHot_3 yk_X9_isBag ml_X9_350 hm.t0 (ex_isBag hm) rfl rfl rfl ⟨Nat.zero_le _, Nat.zero_le _⟩ ?_
    refine jj_cV1i (q := 9) dX9_isHot_6 yk_X9_mayAsk ml_X9_353 hm.t0 (ex_mayAsk hm) rfl rfl rfl ⟨Nat.zero_le _, Nat.zero_le _⟩ ?_
    refine jj_if_eq (q := 12) (tgt := 27) dX9_isHot_9 rfl rfl (fun h9 => ?_) (fun h9 => absurd (hz) h9)
    refine jj_iconst (v := 0) (q := 28) dX9_isHot_27 rfl rfl ?_
    refine jj_zret dX9_isHot_28 rfl (by first | rfl | assumption) (Nat.zero_le _) (Nat.zero_le _) ?_
    exact ⟨by rw [if_pos hz], rfl⟩
def vTm (A : JI) (X : JV) (n : Nat) : Int32 := if X (373 + n) = 8 then A 2 (15 + mF X n) - X (473 + n) + A 2 0 - (A 2 (15 + mF X n) - X (473 + n) + A 2 0) / A 2 0 * A 2 0 else -1
theorem ex_mticksTo (hm : hMo T S mo) (hX : mI X) (h0 : ¬ A 0 19 = 0 → ¬ A 2 0 = 0) {b : Int32} : Ex Γ (d + 2) Y_X9_ticksTo [.ref mo, .int b] (T, R, S, blk 18 I mo (st A 4 X), L, D, z) 0 0 (rI (if mOk A (inI b 0 (X 2 - 1)) = 0 then 0 else vTm A X (nN b)) (T, R, S, blk 18 I mo (st (tA A (tI A (inI b 0 (X 2 - 1)))) 4 X), L, D, z)) := by
  have hc := hX.c
  have hcc : X 2 = nI (mC X) := hc.1
  rcases in_n (c := mC X) (by omega) b with ⟨n, hn, rfl, hi, he⟩ | ⟨hi, he⟩
  · have hf := hX.f (b := n) (by omega)
    refine Ex.of (by decide) (by simp [Value.category]) (Nat.le_of_ble_eq_true rfl) rfl ?_
    refine jj_aload_n (q := 1) dX9_ticksTo_0 rfl rfl rfl ?_
    refine jj_aload_n (q := 2) dX9_ticksTo_1 rfl rfl rfl ?_
    refine jj_iload_n (q := 3) dX9_ticksTo_2 rfl rfl rfl ?_
    refine jj_cV1i (q := 6) dX9_ticksTo_3 yk_X9_isBag ml_X9_350 hm.t0 (ex_isBag hm) rfl rfl rfl ⟨Nat.zero_le _, Nat.zero_le _⟩ ?_
    refine jj_cV1i (q := 9) dX9_ticksTo_6 yk_X9_mayAsk ml_X9_353 hm.t0 (ex_mayAsk hm) rfl rfl rfl ⟨Nat.zero_le _, Nat.zero_le _⟩ ?_
    refine jj_if_ne (q := 12) (tgt := 14) dX9_ticksTo_9 rfl rfl (fun h9 => ?_) (fun h9 => ?_)
    · refine jj_aload_n (q := 15) dX9_ticksTo_14 rfl rfl rfl ?_
      refine jj_getS (q := 18) dX9_ticksTo_15 fl_X9_23 hm.t0 hm.r0_12 rfl rfl rfl ?_
      refine jj_sipush (v := 373) (q := 21) dX9_ticksTo_18 rfl rfl ?_
      refine jj_iload_n (q := 22) dX9_ticksTo_21 rfl rfl rfl ?_
      refine jj_iaddN (q := 23) (a := 373) (b := n) dX9_ticksTo_22 rfl rfl rfl ?_
      refine jj_ialdN (q := 24) (j := 373 + n) dX9_ticksTo_23 hm.t4 (blk_st (by decide)) rfl (by omega) rfl ?_
      refine jj_bipush (v := 8) (q := 26) dX9_ticksTo_24 rfl rfl ?_
      refine jj_icmp_eq (q := 29) (tgt := 31) dX9_ticksTo_26 rfl rfl (fun h26 => ?_) (fun h26 => ?_)
      · refine jj_aload_n (q := 32) dX9_ticksTo_31 rfl rfl rfl ?_
        refine jj_getS (q := 35) dX9_ticksTo_32 fl_X9_17 hm.t0 hm.r0_10 rfl rfl rfl ?_
        refine jj_bipush (v := 15) (q := 37) dX9_ticksTo_35 rfl rfl ?_
        refine jj_aload_n (q := 38) dX9_ticksTo_37 rfl rfl rfl ?_
        refine jj_getS (q := 41) dX9_ticksTo_38 fl_X9_23 hm.t0 hm.r0_12 rfl rfl rfl ?_
        refine jj_sipush (v := 173) (q := 44) dX9_ticksTo_41 rfl rfl ?_
        refine jj_iload_n (q := 45) dX9_ticksTo_44 rfl rfl rfl ?_
        refine jj_iaddN (q := 46) (a := 173) (b := n) dX9_ticksTo_45 rfl rfl rfl ?_
        refine jj_ialdW (q := 47) (j := 173 + n) (v := nI (mF X n)) dX9_ticksTo_46 hm.t4 (blk_st (by decide)) rfl (by omega) hf.1 rfl ?_
        refine jj_iaddN (q := 48) (a := 15) (b := mF X n) dX9_ticksTo_47 rfl rfl rfl ?_
        refine jj_ialdN (q := 49) (j := 15 + (mF X n)) dX9_ticksTo_48 hm.t2 (blk_sn (by decide) (by decide)) rfl (by omega) rfl ?_
        refine jj_aload_n (q := 50) dX9_ticksTo_49 rfl rfl rfl ?_
        refine jj_getS (q := 53) dX9_ticksTo_50 fl_X9_23 hm.t0 hm.r0_12 rfl rfl rfl ?_
        refine jj_sipush (v := 473) (q := 56) dX9_ticksTo_53 rfl rfl ?_
        refine jj_iload_n (q := 57) dX9_ticksTo_56 rfl rfl rfl ?_
        refine jj_iaddN (q := 58) (a := 473) (b := n) dX9_ticksTo_57 rfl rfl rfl ?_
        refine jj_ialdN (q := 59) (j := 473 + n) dX9_ticksTo_58 hm.t4 (blk_st (by decide)) rfl (by omega) rfl ?_
        refine jj_isub (q := 60) dX9_ticksTo_59 rfl ?_
        refine jj_aload_n (q := 61) dX9_ticksTo_60 rfl rfl rfl ?_
        refine jj_getS (q := 64) dX9_ticksTo_61 fl_X9_17 hm.t0 hm.r0_10 rfl rfl rfl ?_
        refine jj_iconst (v := 0) (q := 65) dX9_ticksTo_64 rfl rfl ?_
        refine jj_ialdN (q := 66) (j := 0) dX9_ticksTo_65 hm.t2 (blk_sn (by decide) (by decide)) rfl (by omega) rfl ?_
        refine jj_iadd (q := 67) dX9_ticksTo_66 rfl ?_
        refine jj_aload_n (q := 68) dX9_ticksTo_67 rfl rfl rfl ?_
        refine jj_getS (q := 71) dX9_ticksTo_68 fl_X9_17 hm.t0 hm.r0_10 rfl rfl rfl ?_
        refine jj_iconst (v := 0) (q := 72) dX9_ticksTo_71 rfl rfl ?_
        refine jj_ialdN (q := 73) (j := 0) dX9_ticksTo_72 hm.t2 (blk_sn (by decide) (by decide)) rfl (by omega) rfl ?_
        refine jj_irem (q := 74) dX9_ticksTo_73 (h0 (fun w => h9 (by unfold mOk; rw [if_pos w]))) rfl ?_
        refine jj_iret dX9_ticksTo_74 rfl (Nat.zero_le _) (Nat.zero_le _) ?_
        exact ⟨by unfold vTm; rw [nN_nI (by omega)]; (first | rw [if_pos h9] | rw [if_neg h9] | skip); (first | rw [if_pos h26] | rw [if_neg h26] | skip); try rfl, rfl⟩
      · refine jj_iconst (v := -1) (q := 30) dX9_ticksTo_29 rfl rfl ?_
        refine jj_iret dX9_ticksTo_30 rfl (Nat.zero_le _) (Nat.zero_le _) ?_
        exact ⟨by unfold vTm; rw [nN_nI (by omega)]; (first | rw [if_pos h9] | rw [if_neg h9] | skip); (first | rw [if_pos h26] | rw [if_neg h26] | skip); try rfl, rfl⟩
    · refine jj_iconst (v := 0) (q := 13) dX9_ticksTo_12 rfl rfl ?_
      refine jj_iret dX9_ticksTo_13 rfl (Nat.zero_le _) (Nat.zero_le _) ?_
      exact ⟨by unfold vTm; rw [nN_nI (by omega)]; (first | rw [if_pos h9] | rw [if_neg h9] | skip); (first | rw [if_pos h26] | rw [if_neg h26] | skip); try rfl, rfl⟩
  · have hz : mOk A (inI b 0 (X 2 - 1)) = 0 := by rw [hcc, hi]; exact mOk_0
    refine Ex.of (by decide) (by simp [Value.category]) (Nat.le_of_ble_eq_true rfl) rfl ?_
    refine jj_aload_n (q := 1) dX9_ticksTo_0 rfl rfl rfl ?_
    refine jj_aload_n (q := 2) dX9_ticksTo_1 rfl rfl rfl ?_
    refine jj_iload_n (q := 3) dX9_ticksTo_2 rfl rfl rfl ?_
    refine jj_cV1i (q := 6) dX9_ticksTo_3 yk_X9_isBag ml_X9_350 hm.t0 (ex_isBag hm) rfl rfl rfl ⟨Nat.zero_le _, Nat.zero_le _⟩ ?_
    refine jj_cV1i (q := 9) dX9_ticksTo_6 yk_X9_mayAsk ml_X9_353 hm.t0 (ex_mayAsk hm) rfl rfl rfl ⟨Nat.zero_le _, Nat.zero_le _⟩ ?_
    refine jj_if_ne (q := 12) (tgt := 14) dX9_ticksTo_9 rfl rfl (fun h9 => by exfalso; exact h9 hz) (fun h9 => ?_)
    refine jj_iconst (v := 0) (q := 13) dX9_ticksTo_12 rfl rfl ?_
    refine jj_iret dX9_ticksTo_13 rfl (Nat.zero_le _) (Nat.zero_le _) ?_
    exact ⟨by rw [if_pos hz], rfl⟩
theorem ex_mbagAt (hm : hMo T S mo) {ln : Nat} (hq : A 2 0 = nI ln) (hl : ln ≤ 40) {b : Int32} : Ex Γ (d + 2) Y_X9_bagAt [.ref mo, .int b] (T, R, S, blk 18 I mo (st A 4 X), L, D, z) 0 0 (rI (if mOk A (inI b 0 (A 2 0 - 1)) = 0 then 0 else X (133 + nN b)) (T, R, S, blk 18 I mo (st (tA A (tI A (inI b 0 (A 2 0 - 1)))) 4 X), L, D, z)) := by
  rcases in_n (c := ln) (by omega) b with ⟨n, hn, rfl, hi, he⟩ | ⟨hi, he⟩
  · skip
    refine Ex.of (by decide) (by simp [Value.category]) (Nat.le_of_ble_eq_true rfl) rfl ?_
    refine jj_aload_n (q := 1) dX9_bagAt_0 rfl rfl rfl ?_
    refine jj_iload_n (q := 2) dX9_bagAt_1 rfl rfl rfl ?_
    refine jj_iconst (v := 0) (q := 3) dX9_bagAt_2 rfl rfl ?_
    refine jj_aload_n (q := 4) dX9_bagAt_3 rfl rfl rfl ?_
    refine jj_getS (q := 7) dX9_bagAt_4 fl_X9_17 hm.t0 hm.r0_10 rfl rfl rfl ?_
    refine jj_iconst (v := 0) (q := 8) dX9_bagAt_7 rfl rfl ?_
    refine jj_ialdN (q := 9) (j := 0) dX9_bagAt_8 hm.t2 (blk_sn (by decide) (by decide)) rfl (by omega) rfl ?_
    refine jj_iconst (v := 1) (q := 10) dX9_bagAt_9 rfl rfl ?_
    refine jj_isub (q := 11) dX9_bagAt_10 rfl ?_
    refine jj_cS3i (q := 14) dX9_bagAt_11 yk_X9_in ml_X9_111 ex_inI rfl rfl rfl ⟨Nat.zero_le _, Nat.zero_le _⟩ ?_
    refine jj_cV1i (q := 17) dX9_bagAt_14 yk_X9_mayAsk ml_X9_353 hm.t0 (ex_mayAsk hm) rfl rfl rfl ⟨Nat.zero_le _, Nat.zero_le _⟩ ?_
    refine jj_if_eq (q := 20) (tgt := 33) dX9_bagAt_17 rfl rfl (fun h17 => ?_) (fun h17 => ?_)
    · refine jj_iconst (v := 0) (q := 34) dX9_bagAt_33 rfl rfl ?_
      refine jj_iret dX9_bagAt_34 rfl (Nat.zero_le _) (Nat.zero_le _) ?_
      exact ⟨by rw [nN_nI (by omega)]; (first | rw [if_pos h17] | rw [if_neg h17] | skip), rfl⟩
    · refine jj_aload_n (q := 21) dX9_bagAt_20 rfl rfl rfl ?_
      refine jj_getS (q := 24) dX9_bagAt_21 fl_X9_23 hm.t0 hm.r0_12 rfl rfl rfl ?_
      refine jj_sipush (v := 133) (q := 27) dX9_bagAt_24 rfl rfl ?_
      refine jj_iload_n (q := 28) dX9_bagAt_27 rfl rfl rfl ?_
      refine jj_iaddN (q := 29) (a := 133) (b := n) dX9_bagAt_28 rfl rfl rfl ?_
      refine jj_ialdN (q := 30) (j := 133 + n) dX9_bagAt_29 hm.t4 (blk_st (by decide)) rfl (by omega) rfl ?_
      refine jj_goto (tgt := 34) dX9_bagAt_30 rfl ?_
      refine jj_iret dX9_bagAt_34 rfl (Nat.zero_le _) (Nat.zero_le _) ?_
      exact ⟨by rw [nN_nI (by omega)]; (first | rw [if_pos h17] | rw [if_neg h17] | skip), rfl⟩
  · have hz : mOk A (inI b 0 (A 2 0 - 1)) = 0 := by rw [hq, hi]; exact mOk_0
    refine Ex.of (by decide) (by simp [Value.category]) (Nat.le_of_ble_eq_true rfl) rfl ?_
    refine jj_aload_n (q := 1) dX9_bagAt_0 rfl rfl rfl ?_
    refine jj_iload_n (q := 2) dX9_bagAt_1 rfl rfl rfl ?_
    refine jj_iconst (v := 0) (q := 3) dX9_bagAt_2 rfl rfl ?_
    refine jj_aload_n (q := 4) dX9_bagAt_3 rfl rfl rfl ?_
    refine jj_getS (q := 7) dX9_bagAt_4 fl_X9_17 hm.t0 hm.r0_10 rfl rfl rfl ?_
    refine jj_iconst (v := 0) (q := 8) dX9_bagAt_7 rfl rfl ?_
    refine jj_ialdN (q := 9) (j := 0) dX9_bagAt_8 hm.t2 (blk_sn (by decide) (by decide)) rfl (by omega) rfl ?_
    refine jj_iconst (v := 1) (q := 10) dX9_bagAt_9 rfl rfl ?_
    refine jj_isub (q := 11) dX9_bagAt_10 rfl ?_
    refine jj_cS3i (q := 14) dX9_bagAt_11 yk_X9_in ml_X9_111 ex_inI rfl rfl rfl ⟨Nat.zero_le _, Nat.zero_le _⟩ ?_
    refine jj_cV1i (q := 17) dX9_bagAt_14 yk_X9_mayAsk ml_X9_353 hm.t0 (ex_mayAsk hm) rfl rfl rfl ⟨Nat.zero_le _, Nat.zero_le _⟩ ?_
    refine jj_if_eq (q := 20) (tgt := 33) dX9_bagAt_17 rfl rfl (fun h17 => ?_) (fun h17 => absurd (hz) h17)
    refine jj_iconst (v := 0) (q := 34) dX9_bagAt_33 rfl rfl ?_
    refine jj_iret dX9_bagAt_34 rfl (Nat.zero_le _) (Nat.zero_le _) ?_
    exact ⟨by rw [if_pos hz], rfl⟩
theorem ex_mlaneSize (hm : hMo T S mo) {ln : Nat} (hq : A 2 13 = nI ln) (hl : ln ≤ 4) {b : Int32} : Ex Γ (d + 2) Y_X9_laneSize [.ref mo, .int b] (T, R, S, blk 18 I mo (st A 4 X), L, D, z) 0 0 (rI (if mOk A (inI b 0 (A 2 13 - 1)) = 0 then 0 else X (21 + nN b)) (T, R, S, blk 18 I mo (st (tA A (tI A (inI b 0 (A 2 13 - 1)))) 4 X), L, D, z)) := by
  rcases in_n (c := ln) (by omega) b with ⟨n, hn, rfl, hi, he⟩ | ⟨hi, he⟩
  · skip
    refine Ex.of (by decide) (by simp [Value.category]) (Nat.le_of_ble_eq_true rfl) rfl ?_
    refine jj_aload_n (q := 1) dX9_laneSize_0 rfl rfl rfl ?_
    refine jj_aload_n (q := 2) dX9_laneSize_1 rfl rfl rfl ?_
    refine jj_iload_n (q := 3) dX9_laneSize_2 rfl rfl rfl ?_
    refine jj_cV1i (q := 6) dX9_laneSize_3 yk_X9_isLane ml_X9_370 hm.t0 (ex_isLane hm) rfl rfl rfl ⟨Nat.zero_le _, Nat.zero_le _⟩ ?_
    refine jj_cV1i (q := 9) dX9_laneSize_6 yk_X9_mayAsk ml_X9_353 hm.t0 (ex_mayAsk hm) rfl rfl rfl ⟨Nat.zero_le _, Nat.zero_le _⟩ ?_
    refine jj_if_eq (q := 12) (tgt := 24) dX9_laneSize_9 rfl rfl (fun h9 => ?_) (fun h9 => ?_)
    · refine jj_iconst (v := 0) (q := 25) dX9_laneSize_24 rfl rfl ?_
      refine jj_iret dX9_laneSize_25 rfl (Nat.zero_le _) (Nat.zero_le _) ?_
      exact ⟨by rw [nN_nI (by omega)]; (first | rw [if_pos h9] | rw [if_neg h9] | skip), rfl⟩
    · refine jj_aload_n (q := 13) dX9_laneSize_12 rfl rfl rfl ?_
      refine jj_getS (q := 16) dX9_laneSize_13 fl_X9_23 hm.t0 hm.r0_12 rfl rfl rfl ?_
      refine jj_bipush (v := 21) (q := 18) dX9_laneSize_16 rfl rfl ?_
      refine jj_iload_n (q := 19) dX9_laneSize_18 rfl rfl rfl ?_
      refine jj_iaddN (q := 20) (a := 21) (b := n) dX9_laneSize_19 rfl rfl rfl ?_
      refine jj_ialdN (q := 21) (j := 21 + n) dX9_laneSize_20 hm.t4 (blk_st (by decide)) rfl (by omega) rfl ?_
      refine jj_goto (tgt := 25) dX9_laneSize_21 rfl ?_
      refine jj_iret dX9_laneSize_25 rfl (Nat.zero_le _) (Nat.zero_le _) ?_
      exact ⟨by rw [nN_nI (by omega)]; (first | rw [if_pos h9] | rw [if_neg h9] | skip), rfl⟩
  · have hz : mOk A (inI b 0 (A 2 13 - 1)) = 0 := by rw [hq, hi]; exact mOk_0
    refine Ex.of (by decide) (by simp [Value.category]) (Nat.le_of_ble_eq_true rfl) rfl ?_
    refine jj_aload_n (q := 1) dX9_laneSize_0 rfl rfl rfl ?_
    refine jj_aload_n (q := 2) dX9_laneSize_1 rfl rfl rfl ?_
    refine jj_iload_n (q := 3) dX9_laneSize_2 rfl rfl rfl ?_
    refine jj_cV1i (q := 6) dX9_laneSize_3 yk_X9_isLane ml_X9_370 hm.t0 (ex_isLane hm) rfl rfl rfl ⟨Nat.zero_le _, Nat.zero_le _⟩ ?_
    refine jj_cV1i (q := 9) dX9_laneSize_6 yk_X9_mayAsk ml_X9_353 hm.t0 (ex_mayAsk hm) rfl rfl rfl ⟨Nat.zero_le _, Nat.zero_le _⟩ ?_
    refine jj_if_eq (q := 12) (tgt := 24) dX9_laneSize_9 rfl rfl (fun h9 => ?_) (fun h9 => absurd (hz) h9)
    refine jj_iconst (v := 0) (q := 25) dX9_laneSize_24 rfl rfl ?_
    refine jj_iret dX9_laneSize_25 rfl (Nat.zero_le _) (Nat.zero_le _) ?_
    exact ⟨by rw [if_pos hz], rfl⟩
theorem ex_mflightState (hm : hMo T S mo) {ln : Nat} (hq : A 2 12 = nI ln) (hl : ln ≤ 8) {b : Int32} : Ex Γ (d + 2) Y_X9_flightState [.ref mo, .int b] (T, R, S, blk 18 I mo (st A 4 X), L, D, z) 0 0 (rI (if mOk A (inI b 0 (A 2 12 - 1)) = 0 then 0 else mPh X (nN b)) (T, R, S, blk 18 I mo (st (tA A (tI A (inI b 0 (A 2 12 - 1)))) 4 X), L, D, z)) := by
  rcases in_n (c := ln) (by omega) b with ⟨n, hn, rfl, hi, he⟩ | ⟨hi, he⟩
  · skip
    refine Ex.of (by decide) (by simp [Value.category]) (Nat.le_of_ble_eq_true rfl) rfl ?_
    refine jj_aload_n (q := 1) dX9_flightState_0 rfl rfl rfl ?_
    refine jj_aload_n (q := 2) dX9_flightState_1 rfl rfl rfl ?_
    refine jj_iload_n (q := 3) dX9_flightState_2 rfl rfl rfl ?_
    refine jj_cV1i (q := 6) dX9_flightState_3 yk_X9_isFlight ml_X9_373 hm.t0 (ex_isFlight hm) rfl rfl rfl ⟨Nat.zero_le _, Nat.zero_le _⟩ ?_
    refine jj_cV1i (q := 9) dX9_flightState_6 yk_X9_mayAsk ml_X9_353 hm.t0 (ex_mayAsk hm) rfl rfl rfl ⟨Nat.zero_le _, Nat.zero_le _⟩ ?_
    refine jj_if_eq (q := 12) (tgt := 23) dX9_flightState_9 rfl rfl (fun h9 => ?_) (fun h9 => ?_)
    · refine jj_iconst (v := 0) (q := 24) dX9_flightState_23 rfl rfl ?_
      refine jj_iret dX9_flightState_24 rfl (Nat.zero_le _) (Nat.zero_le _) ?_
      exact ⟨by rw [nN_nI (by omega)]; (first | rw [if_pos h9] | rw [if_neg h9] | skip), rfl⟩
    · refine jj_aload_n (q := 13) dX9_flightState_12 rfl rfl rfl ?_
      refine jj_getS (q := 16) dX9_flightState_13 fl_X9_23 hm.t0 hm.r0_12 rfl rfl rfl ?_
      refine jj_iload_n (q := 17) dX9_flightState_16 rfl rfl rfl ?_
      refine jj_cS2i (q := 20) dX9_flightState_17 yk_X9_flightIs ml_X9_257 (ex_flightIs hm u44 (by omega)) rfl rfl rfl ⟨Nat.zero_le _, Nat.zero_le _⟩ ?_
      refine jj_goto (tgt := 24) dX9_flightState_20 rfl ?_
      refine jj_iret dX9_flightState_24 rfl (Nat.zero_le _) (Nat.zero_le _) ?_
      exact ⟨by rw [nN_nI (by omega)]; (first | rw [if_pos h9] | rw [if_neg h9] | skip), rfl⟩
  · have hz : mOk A (inI b 0 (A 2 12 - 1)) = 0 := by rw [hq, hi]; exact mOk_0
    refine Ex.of (by decide) (by simp [Value.category]) (Nat.le_of_ble_eq_true rfl) rfl ?_
    refine jj_aload_n (q := 1) dX9_flightState_0 rfl rfl rfl ?_
    refine jj_aload_n (q := 2) dX9_flightState_1 rfl rfl rfl ?_
    refine jj_iload_n (q := 3) dX9_flightState_2 rfl rfl rfl ?_
    refine jj_cV1i (q := 6) dX9_flightState_3 yk_X9_isFlight ml_X9_373 hm.t0 (ex_isFlight hm) rfl rfl rfl ⟨Nat.zero_le _, Nat.zero_le _⟩ ?_
    refine jj_cV1i (q := 9) dX9_flightState_6 yk_X9_mayAsk ml_X9_353 hm.t0 (ex_mayAsk hm) rfl rfl rfl ⟨Nat.zero_le _, Nat.zero_le _⟩ ?_
    refine jj_if_eq (q := 12) (tgt := 23) dX9_flightState_9 rfl rfl (fun h9 => ?_) (fun h9 => absurd (hz) h9)
    refine jj_iconst (v := 0) (q := 24) dX9_flightState_23 rfl rfl ?_
    refine jj_iret dX9_flightState_24 rfl (Nat.zero_le _) (Nat.zero_le _) ?_
    exact ⟨by rw [if_pos hz], rfl⟩
theorem ex_mopenOf (hm : hMo T S mo) {ln : Nat} (hq : A 2 12 = nI ln) (hl : ln ≤ 8) {b : Int32} : Ex Γ (d + 2) Y_X9_openOf [.ref mo, .int b] (T, R, S, blk 18 I mo (st A 4 X), L, D, z) 0 0 (rI (if mOk A (inI b 0 (A 2 12 - 1)) = 0 then 0 else X (5 + nN b)) (T, R, S, blk 18 I mo (st (tA A (tI A (inI b 0 (A 2 12 - 1)))) 4 X), L, D, z)) := by
  rcases in_n (c := ln) (by omega) b with ⟨n, hn, rfl, hi, he⟩ | ⟨hi, he⟩
  · skip
    refine Ex.of (by decide) (by simp [Value.category]) (Nat.le_of_ble_eq_true rfl) rfl ?_
    refine jj_aload_n (q := 1) dX9_openOf_0 rfl rfl rfl ?_
    refine jj_aload_n (q := 2) dX9_openOf_1 rfl rfl rfl ?_
    refine jj_iload_n (q := 3) dX9_openOf_2 rfl rfl rfl ?_
    refine jj_cV1i (q := 6) dX9_openOf_3 yk_X9_isFlight ml_X9_373 hm.t0 (ex_isFlight hm) rfl rfl rfl ⟨Nat.zero_le _, Nat.zero_le _⟩ ?_
    refine jj_cV1i (q := 9) dX9_openOf_6 yk_X9_mayAsk ml_X9_353 hm.t0 (ex_mayAsk hm) rfl rfl rfl ⟨Nat.zero_le _, Nat.zero_le _⟩ ?_
    refine jj_if_eq (q := 12) (tgt := 23) dX9_openOf_9 rfl rfl (fun h9 => ?_) (fun h9 => ?_)
    · refine jj_iconst (v := 0) (q := 24) dX9_openOf_23 rfl rfl ?_
      refine jj_iret dX9_openOf_24 rfl (Nat.zero_le _) (Nat.zero_le _) ?_
      exact ⟨by rw [nN_nI (by omega)]; (first | rw [if_pos h9] | rw [if_neg h9] | skip), rfl⟩
    · refine jj_aload_n (q := 13) dX9_openOf_12 rfl rfl rfl ?_
      refine jj_getS (q := 16) dX9_openOf_13 fl_X9_23 hm.t0 hm.r0_12 rfl rfl rfl ?_
      refine jj_iconst (v := 5) (q := 17) dX9_openOf_16 rfl rfl ?_
      refine jj_iload_n (q := 18) dX9_openOf_17 rfl rfl rfl ?_
      refine jj_iaddN (q := 19) (a := 5) (b := n) dX9_openOf_18 rfl rfl rfl ?_
      refine jj_ialdN (q := 20) (j := 5 + n) dX9_openOf_19 hm.t4 (blk_st (by decide)) rfl (by omega) rfl ?_
      refine jj_goto (tgt := 24) dX9_openOf_20 rfl ?_
      refine jj_iret dX9_openOf_24 rfl (Nat.zero_le _) (Nat.zero_le _) ?_
      exact ⟨by rw [nN_nI (by omega)]; (first | rw [if_pos h9] | rw [if_neg h9] | skip), rfl⟩
  · have hz : mOk A (inI b 0 (A 2 12 - 1)) = 0 := by rw [hq, hi]; exact mOk_0
    refine Ex.of (by decide) (by simp [Value.category]) (Nat.le_of_ble_eq_true rfl) rfl ?_
    refine jj_aload_n (q := 1) dX9_openOf_0 rfl rfl rfl ?_
    refine jj_aload_n (q := 2) dX9_openOf_1 rfl rfl rfl ?_
    refine jj_iload_n (q := 3) dX9_openOf_2 rfl rfl rfl ?_
    refine jj_cV1i (q := 6) dX9_openOf_3 yk_X9_isFlight ml_X9_373 hm.t0 (ex_isFlight hm) rfl rfl rfl ⟨Nat.zero_le _, Nat.zero_le _⟩ ?_
    refine jj_cV1i (q := 9) dX9_openOf_6 yk_X9_mayAsk ml_X9_353 hm.t0 (ex_mayAsk hm) rfl rfl rfl ⟨Nat.zero_le _, Nat.zero_le _⟩ ?_
    refine jj_if_eq (q := 12) (tgt := 23) dX9_openOf_9 rfl rfl (fun h9 => ?_) (fun h9 => absurd (hz) h9)
    refine jj_iconst (v := 0) (q := 24) dX9_openOf_23 rfl rfl ?_
    refine jj_iret dX9_openOf_24 rfl (Nat.zero_le _) (Nat.zero_le _) ?_
    exact ⟨by rw [if_pos hz], rfl⟩
theorem ex_mcloseOf (hm : hMo T S mo) {ln : Nat} (hq : A 2 12 = nI ln) (hl : ln ≤ 8) {b : Int32} : Ex Γ (d + 2) Y_X9_closeOf [.ref mo, .int b] (T, R, S, blk 18 I mo (st A 4 X), L, D, z) 0 0 (rI (if mOk A (inI b 0 (A 2 12 - 1)) = 0 then 0 else X (13 + nN b)) (T, R, S, blk 18 I mo (st (tA A (tI A (inI b 0 (A 2 12 - 1)))) 4 X), L, D, z)) := by
  rcases in_n (c := ln) (by omega) b with ⟨n, hn, rfl, hi, he⟩ | ⟨hi, he⟩
  · skip
    refine Ex.of (by decide) (by simp [Value.category]) (Nat.le_of_ble_eq_true rfl) rfl ?_
    refine jj_aload_n (q := 1) dX9_closeOf_0 rfl rfl rfl ?_
    refine jj_aload_n (q := 2) dX9_closeOf_1 rfl rfl rfl ?_
    refine jj_iload_n (q := 3) dX9_closeOf_2 rfl rfl rfl ?_
    refine jj_cV1i (q := 6) dX9_closeOf_3 yk_X9_isFlight ml_X9_373 hm.t0 (ex_isFlight hm) rfl rfl rfl ⟨Nat.zero_le _, Nat.zero_le _⟩ ?_
    refine jj_cV1i (q := 9) dX9_closeOf_6 yk_X9_mayAsk ml_X9_353 hm.t0 (ex_mayAsk hm) rfl rfl rfl ⟨Nat.zero_le _, Nat.zero_le _⟩ ?_
    refine jj_if_eq (q := 12) (tgt := 24) dX9_closeOf_9 rfl rfl (fun h9 => ?_) (fun h9 => ?_)
    · refine jj_iconst (v := 0) (q := 25) dX9_closeOf_24 rfl rfl ?_
      refine jj_iret dX9_closeOf_25 rfl (Nat.zero_le _) (Nat.zero_le _) ?_
      exact ⟨by rw [nN_nI (by omega)]; (first | rw [if_pos h9] | rw [if_neg h9] | skip), rfl⟩
    · refine jj_aload_n (q := 13) dX9_closeOf_12 rfl rfl rfl ?_
      refine jj_getS (q := 16) dX9_closeOf_13 fl_X9_23 hm.t0 hm.r0_12 rfl rfl rfl ?_
      refine jj_bipush (v := 13) (q := 18) dX9_closeOf_16 rfl rfl ?_
      refine jj_iload_n (q := 19) dX9_closeOf_18 rfl rfl rfl ?_
      refine jj_iaddN (q := 20) (a := 13) (b := n) dX9_closeOf_19 rfl rfl rfl ?_
      refine jj_ialdN (q := 21) (j := 13 + n) dX9_closeOf_20 hm.t4 (blk_st (by decide)) rfl (by omega) rfl ?_
      refine jj_goto (tgt := 25) dX9_closeOf_21 rfl ?_
      refine jj_iret dX9_closeOf_25 rfl (Nat.zero_le _) (Nat.zero_le _) ?_
      exact ⟨by rw [nN_nI (by omega)]; (first | rw [if_pos h9] | rw [if_neg h9] | skip), rfl⟩
  · have hz : mOk A (inI b 0 (A 2 12 - 1)) = 0 := by rw [hq, hi]; exact mOk_0
    refine Ex.of (by decide) (by simp [Value.category]) (Nat.le_of_ble_eq_true rfl) rfl ?_
    refine jj_aload_n (q := 1) dX9_closeOf_0 rfl rfl rfl ?_
    refine jj_aload_n (q := 2) dX9_closeOf_1 rfl rfl rfl ?_
    refine jj_iload_n (q := 3) dX9_closeOf_2 rfl rfl rfl ?_
    refine jj_cV1i (q := 6) dX9_closeOf_3 yk_X9_isFlight ml_X9_373 hm.t0 (ex_isFlight hm) rfl rfl rfl ⟨Nat.zero_le _, Nat.zero_le _⟩ ?_
    refine jj_cV1i (q := 9) dX9_closeOf_6 yk_X9_mayAsk ml_X9_353 hm.t0 (ex_mayAsk hm) rfl rfl rfl ⟨Nat.zero_le _, Nat.zero_le _⟩ ?_
    refine jj_if_eq (q := 12) (tgt := 24) dX9_closeOf_9 rfl rfl (fun h9 => ?_) (fun h9 => absurd (hz) h9)
    refine jj_iconst (v := 0) (q := 25) dX9_closeOf_24 rfl rfl ?_
    refine jj_iret dX9_closeOf_25 rfl (Nat.zero_le _) (Nat.zero_le _) ?_
    exact ⟨by rw [if_pos hz], rfl⟩
def pB (X : JV) (f lo hi : Int32) : Nat → Bool := fun b => decide (X (173 + b) = f ∧ ¬ inI (X (373 + b)) lo hi = 0)
theorem lp_bagsOf (hm : hMo T S mo) {c : Nat} (hX : mI X) (hc : mC X = c) {f lo hh : Int32} : ∀ (k i n : Nat), (i + k = c ∧ n = fb_ct (pB X f lo hh) i) → JJ Γ (jj_E Y_X9_bagsOf) (jj_Z Γ (rI (nI (fb_ct (pB X f lo hh) c)) (T, R, S, blk 18 I mo (st A 4 X), L, D, z)) 0 0) (jj_rm (d + 1) 0 0) 0 0 6 [some (.ref mo), some (.int f), some (.int lo), some (.int hh), some (.int (nI n)), some (.int (nI i))] [] (T, R, S, blk 18 I mo (st A 4 X), L, D, z) := by
  have hc2 : X 2 = nI c := by rw [← hc]; exact hX.c.1
  have hc1 : c < 101 := by rw [← hc]; exact hX.c.2
  intro k
  induction k with
  | zero =>
    intro i n hi
    refine jj_iload (q := 8) dX9_bagsOf_6 rfl rfl ?_
    refine jj_aload_n (q := 9) dX9_bagsOf_8 rfl rfl rfl ?_
    refine jj_getS (q := 12) dX9_bagsOf_9 fl_X9_23 hm.t0 hm.r0_12 rfl rfl rfl ?_
    refine jj_iconst (v := 2) (q := 13) dX9_bagsOf_12 rfl rfl ?_
    refine jj_ialdW (q := 14) (j := 2) (v := nI c) dX9_bagsOf_13 hm.t4 (blk_st (by decide)) rfl (by omega) hc2 rfl ?_
    refine jj_icmp_ge (q := 17) (tgt := 67) dX9_bagsOf_14 rfl rfl (fun h14 => ?_) (fun h14 => absurd (nI_le (show c ≤ i by omega) (by omega)) h14)
    refine jj_iload (q := 69) dX9_bagsOf_67 rfl rfl ?_
    refine jj_iret dX9_bagsOf_69 rfl (Nat.zero_le _) (Nat.zero_le _) ?_
    exact ⟨by rw [hi.2, show i = c by omega], rfl⟩
  | succ k ih =>
    intro i n hi
    refine jj_iload (q := 8) dX9_bagsOf_6 rfl rfl ?_
    refine jj_aload_n (q := 9) dX9_bagsOf_8 rfl rfl rfl ?_
    refine jj_getS (q := 12) dX9_bagsOf_9 fl_X9_23 hm.t0 hm.r0_12 rfl rfl rfl ?_
    refine jj_iconst (v := 2) (q := 13) dX9_bagsOf_12 rfl rfl ?_
    refine jj_ialdW (q := 14) (j := 2) (v := nI c) dX9_bagsOf_13 hm.t4 (blk_st (by decide)) rfl (by omega) hc2 rfl ?_
    refine jj_icmp_ge (q := 17) (tgt := 67) dX9_bagsOf_14 rfl rfl (fun h14 => absurd h14 ((nI_ge (show i < c by omega) (by omega)))) (fun h14 => ?_)
    refine jj_iload (q := 19) dX9_bagsOf_17 rfl rfl ?_
    refine jj_aload_n (q := 20) dX9_bagsOf_19 rfl rfl rfl ?_
    refine jj_getS (q := 23) dX9_bagsOf_20 fl_X9_23 hm.t0 hm.r0_12 rfl rfl rfl ?_
    refine jj_sipush (v := 173) (q := 26) dX9_bagsOf_23 rfl rfl ?_
    refine jj_iload (q := 28) dX9_bagsOf_26 rfl rfl ?_
    refine jj_iaddN (q := 29) (a := 173) (b := i) dX9_bagsOf_28 rfl rfl rfl ?_
    refine jj_ialdN (q := 30) (j := 173 + i) dX9_bagsOf_29 hm.t4 (blk_st (by decide)) rfl (by omega) rfl ?_
    refine jj_iload_n (q := 31) dX9_bagsOf_30 rfl rfl rfl ?_
    refine jj_icmp_ne (q := 34) (tgt := 57) dX9_bagsOf_31 rfl rfl (fun h31 => ?_) (fun h31 => ?_)
    · refine jj_iconst (v := 0) (q := 58) dX9_bagsOf_57 rfl rfl ?_
      refine jj_iaddN (q := 59) (a := n) (b := 0) dX9_bagsOf_58 rfl rfl rfl ?_
      refine jj_istore (q := 61) dX9_bagsOf_59 (by decide) rfl ?_
      refine jj_iinc (v := nI (i + 1)) (q := 64) dX9_bagsOf_61 rfl (nI_incn i 1 rfl) (by decide) rfl ?_
      refine jj_goto (tgt := 6) dX9_bagsOf_64 rfl ?_
      exact ih (i + 1) _ ⟨by omega, ct_n hi.2 (decide_eq_false (fun w => h31 w.1))⟩
    · refine jj_aload_n (q := 35) dX9_bagsOf_34 rfl rfl rfl ?_
      refine jj_getS (q := 38) dX9_bagsOf_35 fl_X9_23 hm.t0 hm.r0_12 rfl rfl rfl ?_
      refine jj_sipush (v := 373) (q := 41) dX9_bagsOf_38 rfl rfl ?_
      refine jj_iload (q := 43) dX9_bagsOf_41 rfl rfl ?_
      refine jj_iaddN (q := 44) (a := 373) (b := i) dX9_bagsOf_43 rfl rfl rfl ?_
      refine jj_ialdN (q := 45) (j := 373 + i) dX9_bagsOf_44 hm.t4 (blk_st (by decide)) rfl (by omega) rfl ?_
      refine jj_iload_n (q := 46) dX9_bagsOf_45 rfl rfl rfl ?_
      refine jj_iload_n (q := 47) dX9_bagsOf_46 rfl rfl rfl ?_
      refine jj_cS3i (q := 50) dX9_bagsOf_47 yk_X9_in ml_X9_111 ex_inI rfl rfl rfl ⟨Nat.zero_le _, Nat.zero_le _⟩ ?_
      refine jj_if_eq (q := 53) (tgt := 57) dX9_bagsOf_50 rfl rfl (fun h50 => ?_) (fun h50 => ?_)
      · refine jj_iconst (v := 0) (q := 58) dX9_bagsOf_57 rfl rfl ?_
        refine jj_iaddN (q := 59) (a := n) (b := 0) dX9_bagsOf_58 rfl rfl rfl ?_
        refine jj_istore (q := 61) dX9_bagsOf_59 (by decide) rfl ?_
        refine jj_iinc (v := nI (i + 1)) (q := 64) dX9_bagsOf_61 rfl (nI_incn i 1 rfl) (by decide) rfl ?_
        refine jj_goto (tgt := 6) dX9_bagsOf_64 rfl ?_
        exact ih (i + 1) _ ⟨by omega, ct_n hi.2 (decide_eq_false (fun w => w.2 h50))⟩
      · refine jj_iconst (v := 1) (q := 54) dX9_bagsOf_53 rfl rfl ?_
        refine jj_goto (tgt := 58) dX9_bagsOf_54 rfl ?_
        refine jj_iaddN (q := 59) (a := n) (b := 1) dX9_bagsOf_58 rfl rfl rfl ?_
        refine jj_istore (q := 61) dX9_bagsOf_59 (by decide) rfl ?_
        refine jj_iinc (v := nI (i + 1)) (q := 64) dX9_bagsOf_61 rfl (nI_incn i 1 rfl) (by decide) rfl ?_
        refine jj_goto (tgt := 6) dX9_bagsOf_64 rfl ?_
        exact ih (i + 1) _ ⟨by omega, ct_y hi.2 (decide_eq_true ⟨h31, h50⟩)⟩
theorem ex_bagsOf (hm : hMo T S mo) {c : Nat} (hX : mI X) (hc : mC X = c) {f lo hh : Int32} : Ex Γ (d + 1) Y_X9_bagsOf [.ref mo, .int f, .int lo, .int hh] (T, R, S, blk 18 I mo (st A 4 X), L, D, z) 0 0 (rI (nI (fb_ct (pB X f lo hh) c)) (T, R, S, blk 18 I mo (st A 4 X), L, D, z)) := by
  refine Ex.of (by decide) (by simp [Value.category]) (Nat.le_of_ble_eq_true rfl) rfl ?_
  refine jj_iconst (v := 0) (q := 1) dX9_bagsOf_0 rfl rfl ?_
  refine jj_istore (q := 3) dX9_bagsOf_1 (by decide) rfl ?_
  refine jj_iconst (v := 0) (q := 4) dX9_bagsOf_3 rfl rfl ?_
  refine jj_istore (q := 6) dX9_bagsOf_4 (by decide) rfl ?_
  exact lp_bagsOf hm hX hc c 0 0 ⟨by omega, rfl⟩
theorem ex_mmissing (hm : hMo T S mo) {c : Nat} (hX : mI X) (hc : mC X = c) {b : Int32} : Ex Γ (d + 3) Y_X9_missing [.ref mo, .int b] (T, R, S, blk 18 I mo (st A 4 X), L, D, z) 0 0 (rI (if mOk A (inI b 0 (A 2 12 - 1)) = 0 then 0 else nI (fb_ct (pB X b 0 9) c)) (T, R, S, blk 18 I mo (st (tA A (tI A (inI b 0 (A 2 12 - 1)))) 4 X), L, D, z)) := by
  refine Ex.of (by decide) (by simp [Value.category]) (Nat.le_of_ble_eq_true rfl) rfl ?_
  refine jj_aload_n (q := 1) dX9_missing_0 rfl rfl rfl ?_
  refine jj_aload_n (q := 2) dX9_missing_1 rfl rfl rfl ?_
  refine jj_iload_n (q := 3) dX9_missing_2 rfl rfl rfl ?_
  refine jj_cV1i (q := 6) dX9_missing_3 yk_X9_isFlight ml_X9_373 hm.t0 (ex_isFlight hm) rfl rfl rfl ⟨Nat.zero_le _, Nat.zero_le _⟩ ?_
  refine jj_cV1i (q := 9) dX9_missing_6 yk_X9_mayAsk ml_X9_353 hm.t0 (ex_mayAsk hm) rfl rfl rfl ⟨Nat.zero_le _, Nat.zero_le _⟩ ?_
  refine jj_if_eq (q := 12) (tgt := 23) dX9_missing_9 rfl rfl (fun h9 => ?_) (fun h9 => ?_)
  · refine jj_iconst (v := 0) (q := 24) dX9_missing_23 rfl rfl ?_
    refine jj_iret dX9_missing_24 rfl (Nat.zero_le _) (Nat.zero_le _) ?_
    exact ⟨by (first | rw [if_pos h9] | rw [if_neg h9] | skip), rfl⟩
  · refine jj_aload_n (q := 13) dX9_missing_12 rfl rfl rfl ?_
    refine jj_iload_n (q := 14) dX9_missing_13 rfl rfl rfl ?_
    refine jj_iconst (v := 0) (q := 15) dX9_missing_14 rfl rfl ?_
    refine jj_bipush (v := 9) (q := 17) dX9_missing_15 rfl rfl ?_
    refine jj_cV3i (q := 20) dX9_missing_17 yk_X9_bagsOf ml_X9_376 hm.t0 (ex_bagsOf hm hX hc) rfl rfl rfl ⟨Nat.zero_le _, Nat.zero_le _⟩ ?_
    refine jj_goto (tgt := 24) dX9_missing_20 rfl ?_
    refine jj_iret dX9_missing_24 rfl (Nat.zero_le _) (Nat.zero_le _) ?_
    exact ⟨by (first | rw [if_pos h9] | rw [if_neg h9] | skip), rfl⟩
def tF3 (A : JI) (b w : Int32) : Int32 := if mOk A b = 0 then tI A b else if w = 0 then 3 else tI A b
theorem ex_mcountOf (hm : hMo T S mo) {c : Nat} (hX : mI X) (hc : mC X = c) {b s : Int32} : Ex Γ (d + 3) Y_X9_countOf [.ref mo, .int b, .int s] (T, R, S, blk 18 I mo (st A 4 X), L, D, z) 0 0 (rI (if mOk A (inI b 0 (A 2 12 - 1)) = 0 then 0 else if inI s 0 13 = 0 then 0 else nI (fb_ct (pB X b s s) c)) (T, R, S, blk 18 I mo (st (tA A (tF3 A (inI b 0 (A 2 12 - 1)) (inI s 0 13))) 4 X), L, D, z)) := by
  refine Ex.of (by decide) (by simp [Value.category]) (Nat.le_of_ble_eq_true rfl) rfl ?_
  refine jj_aload_n (q := 1) dX9_countOf_0 rfl rfl rfl ?_
  refine jj_aload_n (q := 2) dX9_countOf_1 rfl rfl rfl ?_
  refine jj_iload_n (q := 3) dX9_countOf_2 rfl rfl rfl ?_
  refine jj_cV1i (q := 6) dX9_countOf_3 yk_X9_isFlight ml_X9_373 hm.t0 (ex_isFlight hm) rfl rfl rfl ⟨Nat.zero_le _, Nat.zero_le _⟩ ?_
  refine jj_cV1i (q := 9) dX9_countOf_6 yk_X9_mayAsk ml_X9_353 hm.t0 (ex_mayAsk hm) rfl rfl rfl ⟨Nat.zero_le _, Nat.zero_le _⟩ ?_
  refine jj_if_ne (q := 12) (tgt := 14) dX9_countOf_9 rfl rfl (fun h9 => ?_) (fun h9 => ?_)
  · refine jj_iload_n (q := 15) dX9_countOf_14 rfl rfl rfl ?_
    refine jj_iconst (v := 0) (q := 16) dX9_countOf_15 rfl rfl ?_
    refine jj_bipush (v := 13) (q := 18) dX9_countOf_16 rfl rfl ?_
    refine jj_cS3i (q := 21) dX9_countOf_18 yk_X9_in ml_X9_111 ex_inI rfl rfl rfl ⟨Nat.zero_le _, Nat.zero_le _⟩ ?_
    refine jj_if_eq (q := 24) (tgt := 34) dX9_countOf_21 rfl rfl (fun h21 => ?_) (fun h21 => ?_)
    · refine jj_aload_n (q := 35) dX9_countOf_34 rfl rfl rfl ?_
      refine jj_iconst (v := 3) (q := 36) dX9_countOf_35 rfl rfl ?_
      refine jj_cV1i (q := 39) dX9_countOf_36 yk_X9_throwsAt ml_X9_240 hm.t0 (ex_throwsAt hm) rfl rfl rfl ⟨Nat.zero_le _, Nat.zero_le _⟩ ?_
      refine jj_iret dX9_countOf_39 rfl (Nat.zero_le _) (Nat.zero_le _) ?_
      exact ⟨by rw [if_neg h9, if_pos h21], by unfold tF3; rw [if_neg h9, if_pos h21, tA_tA]⟩
    · refine jj_aload_n (q := 25) dX9_countOf_24 rfl rfl rfl ?_
      refine jj_iload_n (q := 26) dX9_countOf_25 rfl rfl rfl ?_
      refine jj_iload_n (q := 27) dX9_countOf_26 rfl rfl rfl ?_
      refine jj_iload_n (q := 28) dX9_countOf_27 rfl rfl rfl ?_
      refine jj_cV3i (q := 31) dX9_countOf_28 yk_X9_bagsOf ml_X9_376 hm.t0 (ex_bagsOf hm hX hc) rfl rfl rfl ⟨Nat.zero_le _, Nat.zero_le _⟩ ?_
      refine jj_goto (tgt := 39) dX9_countOf_31 rfl ?_
      refine jj_iret dX9_countOf_39 rfl (Nat.zero_le _) (Nat.zero_le _) ?_
      exact ⟨by rw [if_neg h9, if_neg h21], by unfold tF3; rw [if_neg h9, if_neg h21]⟩
  · refine jj_iconst (v := 0) (q := 13) dX9_countOf_12 rfl rfl ?_
    refine jj_iret dX9_countOf_13 rfl (Nat.zero_le _) (Nat.zero_le _) ?_
    exact ⟨by rw [if_pos h9], by unfold tF3; rw [if_pos h9]⟩
end M48
