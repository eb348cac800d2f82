/-! THE COMPONENT'S CHANGES -/
theorem eRng_n {k : Int32} {c : Nat} (hc : c ≤ 100) (h : eRng k 1 (100 - nI c) = 0) : ∃ N, 1 ≤ N ∧ c + N ≤ 100 ∧ k = nI N := by
  by_cases h100 : c = 100
  · subst h100
    unfold eRng at h
    by_cases h1 : k < 1
    · rw [if_pos h1] at h; cases h
    · rw [if_neg h1, if_pos (by
        have h2 := fa_of_nlt h1
        rw [show (100 : Int32) - nI 100 = 0 from rfl, fa_lt]
        rw [fa_le] at h2
        have e1 : (1 : Int32).toInt = 1 := rfl
        have e0 : (0 : Int32).toInt = 0 := rfl
        omega)] at h
      cases h
  · have e : (100 : Int32) - nI c = nI (100 - c) := by
      rw [show (100 : Int32) = nI (100 - c) + nI c by rw [nI_add, show 100 - c + c = 100 by omega]; rfl, Int32.add_sub_cancel]
    rw [e] at h
    rcases in_lh (lo := 1) (hi := 100 - c) (by omega) (by omega) k with ⟨N, h1, h2, rfl, h3, h4⟩ | ⟨h3, h4⟩
    · exact ⟨N, h1, by omega, rfl⟩
    · rw [show eRng k 1 (nI (100 - c)) = 3 from h4] at h
      cases h
def kBr (K : JI) (ix u : Int32) : JI := if u ≤ atV 12 (K 17) ix then K else putI K 17 12 ix u
def vBr (K : JI) (ix u : Int32) : Int32 := if u ≤ atV 12 (K 17) ix then 0 else 1
theorem brI_blk {I K : JI} {a h nx sz : Nat} (hd : a + 19 ≤ h ∨ h + 116 ≤ a) (hn : nx < 6) : brI (blk 19 I a K) h a nx (sz + 1) = blk 19 (u2 (u2 I h 1 (nI (nxP nx))) h 0 (nI sz)) a (kCp K (sK I (h + 2 + 19 * nxP nx))) := by
  have hp : nxP nx < 6 := by unfold nxP; split <;> omega
  unfold brI cpB
  rw [show u2 (blk 19 I a K) h 1 (nI (nxP nx)) = blk 19 (u2 I h 1 (nI (nxP nx))) a K from u2_out (by omega), Nat.add_sub_cancel, blk_blk, u2_out (by omega)]
  refine blk_cg (kCp_cg (fun k hk => blk_k hk) (fun k hk => ?_))
  show blk 19 (u2 I h 1 (nI (nxP nx))) a K (h + 2 + 19 * nxP nx + k) = I (h + 2 + 19 * nxP nx + k)
  rw [blk_out (by omega), u2_ne (by omega)]
section M70
variable {Γ : Gam} {d : Nat} {T : JT} {R S : JR} {I K P : JI} {L : JL} {D : JD} {z : Option Nat} {xo p p2 a a2 c nx sz : Nat} {r : Int64}
theorem exB_runN {J : JI} {M : JL} (hX : hXo T R S xo p p2 a a2) (hI : ∀ k : Nat, k < 15 → J (p + k) = P k) (hW : wP P) (hc : K 1 0 = nI c) (hc1 : c ≤ 100) (hlw : lW K) {w : Int32} {N : Nat} (hN : N < 2 ^ 31) (hr : M a 1 = r) : Ex Γ (d + 6) Y_X7_run [.ref p, .ref a, .int (nI N), .int w] (T, R, S, blk 19 J a K, M, D, z) 0 0 (rIV (atV 14 ((kRun P c N (K, r)).1 8) w - atV 14 (K 8) w) (fun V => (T, R, S, blk 19 (vv J p V) a (kRun P c N (K, r)).1, u2 M a 1 (kRun P c N (K, r)).2, D, z))) := by
  have e := exB_run (Γ := Γ) (d := d) (I := J) (K := K) (L := M) (D := D) (z := z) (P := P) (w := w) (r := r) hX hX.ha (by have := hX.ps; omega) hI hW hc hc1 hlw hN
  rw [← hr, u2_self] at e
  rw [← hr]
  exact e
theorem remB_out {h x : Nat} (hx : x < h ∨ h + 116 ≤ x) (hn : nx < 6) : remB I K h nx sz x = I x := by
  unfold remB
  rw [u2_ne (by omega), u2_ne (by omega), blk_out (by omega)]
theorem ex_setHot (hX : hXo T R S xo p p2 a a2) (hx : I (xo + 73) 1 = nI nx) (hs : I (xo + 73) 0 = nI sz) (hn6 : nx < 6) (hs6 : sz ≤ 6)  {y : Int32} : Ex Γ (d + 8) Y_X8_setHot [.ref xo, .int y] (T, R, S, blk 19 I a K, L, D, none) (ec (orE (eAir (I xo)) (orE (eRng y 0 999) 0))) (es (orE (eAir (I xo)) (orE (eRng y 0 999) 0))) (cA (orE (eAir (I xo)) (orE (eRng y 0 999) 0)) (some (.int (K 0 2))) (T, R, S, blk 19 I a K, L, D, none) (T, R, S, blk 19 (remB I K (xo + 73) nx sz) a (u2 K 0 2 y), (u2 L (xo + 73 + 2 + 19 * nx) 1 (L a 1)), D, none)) := by
  refine Ex.of (by decide) (by simp [Value.category]) (Nat.le_of_ble_eq_true rfl) rfl ?_
  refine jj_aload_n (q := 1) dX8_setHot_0 rfl rfl rfl ?_
  refine jj_nV0 (q := 4) dX8_setHot_1 yk_X8_needAirport ml_X8_168 hX.1 (ex_needAirport (hX.cx I)) rfl rfl rfl rfl (fun g1 => ?_)
  refine jj_iload_n (q := 5) dX8_setHot_4 rfl rfl rfl ?_
  refine jj_iconst (v := 0) (q := 6) dX8_setHot_5 rfl rfl ?_
  refine jj_sipush (v := 999) (q := 9) dX8_setHot_6 rfl rfl ?_
  refine jj_nS3 (q := 12) dX8_setHot_9 yk_X8_needRange ml_X8_181 ex_needRange rfl rfl rfl rfl (fun g9 => ?_)
  refine jj_aload_n (q := 13) dX8_setHot_12 rfl rfl rfl ?_
  refine jj_getS (q := 16) dX8_setHot_13 fl_X8_43 hX.1 hX.2.2.2.1.2.2.2.2.2.1 rfl rfl rfl ?_
  refine jj_aload_n (q := 17) dX8_setHot_16 rfl rfl rfl ?_
  refine jj_getS (q := 20) dX8_setHot_17 fl_X8_33 hX.1 hX.2.2.2.1.2.2.2.1 rfl rfl rfl ?_
  refine jj_cV1v (q := 23) dX8_setHot_20 yk_X1_remember ml_X8_314 hX.hi.1.1 (exB_remember hX hx hs hn6 hs6) rfl rfl rfl ⟨Nat.zero_le _, Nat.zero_le _⟩ ?_
  refine jj_aload_n (q := 24) dX8_setHot_23 rfl rfl rfl ?_
  refine jj_getS (q := 27) dX8_setHot_24 fl_X8_33 hX.1 hX.2.2.2.1.2.2.2.1 rfl rfl rfl ?_
  refine jj_getIv (q := 30) dX8_setHot_27 fl_X8_159 hX.ha.t0 (blk_0 (by decide)) rfl rfl ?_
  refine jj_istore_n (q := 31) dX8_setHot_30 rfl (by decide) rfl ?_
  refine jj_aload_n (q := 32) dX8_setHot_31 rfl rfl rfl ?_
  refine jj_getS (q := 35) dX8_setHot_32 fl_X8_33 hX.1 hX.2.2.2.1.2.2.2.1 rfl rfl rfl ?_
  refine jj_iload_n (q := 36) dX8_setHot_35 rfl rfl rfl ?_
  refine jj_putIv (q := 39) dX8_setHot_36 fl_X8_159 hX.ha.t0 (u2_blk0 (by decide)) rfl rfl rfl rfl rfl ?_
  refine jj_iload_n (q := 40) dX8_setHot_39 rfl rfl rfl ?_
  refine jj_iret dX8_setHot_40 rfl (Nat.zero_le _) (Nat.zero_le _) ?_
  exact cA_i rfl
theorem ex_stopLoop (hX : hXo T R S xo p p2 a a2) (hx : I (xo + 73) 1 = nI nx) (hs : I (xo + 73) 0 = nI sz) (hn6 : nx < 6) (hs6 : sz ≤ 6)  {y : Int32} : Ex Γ (d + 8) Y_X8_stopLoop [.ref xo, .int y] (T, R, S, blk 19 I a K, L, D, none) (ec (orE (eAir (I xo)) (orE (eRng y 0 999) 0))) (es (orE (eAir (I xo)) (orE (eRng y 0 999) 0))) (cA (orE (eAir (I xo)) (orE (eRng y 0 999) 0)) (some (.int (K 0 0 + y))) (T, R, S, blk 19 I a K, L, D, none) (T, R, S, blk 19 (remB I K (xo + 73) nx sz) a (u2 K 0 3 (K 0 0 + y)), (u2 L (xo + 73 + 2 + 19 * nx) 1 (L a 1)), D, none)) := by
  refine Ex.of (by decide) (by simp [Value.category]) (Nat.le_of_ble_eq_true rfl) rfl ?_
  refine jj_aload_n (q := 1) dX8_stopLoop_0 rfl rfl rfl ?_
  refine jj_nV0 (q := 4) dX8_stopLoop_1 yk_X8_needAirport ml_X8_168 hX.1 (ex_needAirport (hX.cx I)) rfl rfl rfl rfl (fun g1 => ?_)
  refine jj_iload_n (q := 5) dX8_stopLoop_4 rfl rfl rfl ?_
  refine jj_iconst (v := 0) (q := 6) dX8_stopLoop_5 rfl rfl ?_
  refine jj_sipush (v := 999) (q := 9) dX8_stopLoop_6 rfl rfl ?_
  refine jj_nS3 (q := 12) dX8_stopLoop_9 yk_X8_needRange ml_X8_181 ex_needRange rfl rfl rfl rfl (fun g9 => ?_)
  refine jj_aload_n (q := 13) dX8_stopLoop_12 rfl rfl rfl ?_
  refine jj_getS (q := 16) dX8_stopLoop_13 fl_X8_43 hX.1 hX.2.2.2.1.2.2.2.2.2.1 rfl rfl rfl ?_
  refine jj_aload_n (q := 17) dX8_stopLoop_16 rfl rfl rfl ?_
  refine jj_getS (q := 20) dX8_stopLoop_17 fl_X8_33 hX.1 hX.2.2.2.1.2.2.2.1 rfl rfl rfl ?_
  refine jj_cV1v (q := 23) dX8_stopLoop_20 yk_X1_remember ml_X8_314 hX.hi.1.1 (exB_remember hX hx hs hn6 hs6) rfl rfl rfl ⟨Nat.zero_le _, Nat.zero_le _⟩ ?_
  refine jj_aload_n (q := 24) dX8_stopLoop_23 rfl rfl rfl ?_
  refine jj_getS (q := 27) dX8_stopLoop_24 fl_X8_33 hX.1 hX.2.2.2.1.2.2.2.1 rfl rfl rfl ?_
  refine jj_aload_n (q := 28) dX8_stopLoop_27 rfl rfl rfl ?_
  refine jj_getS (q := 31) dX8_stopLoop_28 fl_X8_33 hX.1 hX.2.2.2.1.2.2.2.1 rfl rfl rfl ?_
  refine jj_getIv (q := 34) dX8_stopLoop_31 fl_X8_110 hX.ha.t0 (blk_0 (by decide)) rfl rfl ?_
  refine jj_iload_n (q := 35) dX8_stopLoop_34 rfl rfl rfl ?_
  refine jj_iadd (q := 36) dX8_stopLoop_35 rfl ?_
  refine jj_putIv (q := 39) dX8_stopLoop_36 fl_X8_204 hX.ha.t0 (u2_blk0 (by decide)) rfl rfl rfl rfl rfl ?_
  refine jj_aload_n (q := 40) dX8_stopLoop_39 rfl rfl rfl ?_
  refine jj_getS (q := 43) dX8_stopLoop_40 fl_X8_33 hX.1 hX.2.2.2.1.2.2.2.1 rfl rfl rfl ?_
  refine jj_getIv (q := 46) dX8_stopLoop_43 fl_X8_204 hX.ha.t0 (blk_0 (by decide)) rfl rfl ?_
  refine jj_iret dX8_stopLoop_46 rfl (Nat.zero_le _) (Nat.zero_le _) ?_
  exact cA_i u2_at
theorem ex_delay (hX : hXo T R S xo p p2 a a2) (hx : I (xo + 73) 1 = nI nx) (hs : I (xo + 73) 0 = nI sz) (hn6 : nx < 6) (hs6 : sz ≤ 6)  {f y : Int32} : Ex Γ (d + 8) Y_X8_delay [.ref xo, .int f, .int y] (T, R, S, blk 19 I a K, L, D, none) (ec (orE (orE (eAir (I xo)) (orE (eIdx f (sK I p 0 6)) 0)) (orE (eRng y 1 999) (orE (eNcl K f) 0)))) (es (orE (orE (eAir (I xo)) (orE (eIdx f (sK I p 0 6)) 0)) (orE (eRng y 1 999) (orE (eNcl K f) 0)))) (cA (orE (orE (eAir (I xo)) (orE (eIdx f (sK I p 0 6)) 0)) (orE (eRng y 1 999) (orE (eNcl K f) 0))) (some (.int (atV 8 (kDly K f y 10) f))) (T, R, S, blk 19 I a K, L, D, none) (T, R, S, blk 19 (remB I K (xo + 73) nx sz) a (kDly K f y), (u2 L (xo + 73 + 2 + 19 * nx) 1 (L a 1)), D, none)) := by
  refine Ex.of (by decide) (by simp [Value.category]) (Nat.le_of_ble_eq_true rfl) rfl ?_
  refine jj_aload_n (q := 1) dX8_delay_0 rfl rfl rfl ?_
  refine jj_iload_n (q := 2) dX8_delay_1 rfl rfl rfl ?_
  refine jj_nV1 (q := 5) dX8_delay_2 yk_X8_needFlight ml_X8_229 hX.1 (ex_needFlight (hX.cx I)) rfl rfl rfl rfl (fun g2 => ?_)
  refine jj_iload_n (q := 6) dX8_delay_5 rfl rfl rfl ?_
  refine jj_iconst (v := 1) (q := 7) dX8_delay_6 rfl rfl ?_
  refine jj_sipush (v := 999) (q := 10) dX8_delay_7 rfl rfl ?_
  refine jj_nS3 (q := 13) dX8_delay_10 yk_X8_needRange ml_X8_181 ex_needRange rfl rfl rfl rfl (fun g10 => ?_)
  refine jj_aload_n (q := 14) dX8_delay_13 rfl rfl rfl ?_
  refine jj_iload_n (q := 15) dX8_delay_14 rfl rfl rfl ?_
  refine jj_nV1 (q := 18) dX8_delay_15 yk_X8_needNotClosed ml_X8_301 hX.1 (ex_needNotClosed (hX.cx I)) rfl rfl rfl rfl (fun g15 => ?_)
  refine jj_aload_n (q := 19) dX8_delay_18 rfl rfl rfl ?_
  refine jj_getS (q := 22) dX8_delay_19 fl_X8_43 hX.1 hX.2.2.2.1.2.2.2.2.2.1 rfl rfl rfl ?_
  refine jj_aload_n (q := 23) dX8_delay_22 rfl rfl rfl ?_
  refine jj_getS (q := 26) dX8_delay_23 fl_X8_33 hX.1 hX.2.2.2.1.2.2.2.1 rfl rfl rfl ?_
  refine jj_cV1v (q := 29) dX8_delay_26 yk_X1_remember ml_X8_314 hX.hi.1.1 (exB_remember hX hx hs hn6 hs6) rfl rfl rfl ⟨Nat.zero_le _, Nat.zero_le _⟩ ?_
  refine jj_aload_n (q := 30) dX8_delay_29 rfl rfl rfl ?_
  refine jj_getS (q := 33) dX8_delay_30 fl_X8_33 hX.1 hX.2.2.2.1.2.2.2.1 rfl rfl rfl ?_
  refine jj_iload_n (q := 34) dX8_delay_33 rfl rfl rfl ?_
  refine jj_iload_n (q := 35) dX8_delay_34 rfl rfl rfl ?_
  refine jj_cV2v (q := 38) dX8_delay_35 yk_X4_delayFlight ml_X8_304 hX.ha.t0 (ex_delayFlight hX.ha) rfl rfl rfl ⟨Nat.zero_le _, Nat.zero_le _⟩ ?_
  refine jj_aload_n (q := 39) dX8_delay_38 rfl rfl rfl ?_
  refine jj_getS (q := 42) dX8_delay_39 fl_X8_33 hX.1 hX.2.2.2.1.2.2.2.1 rfl rfl rfl ?_
  refine jj_getR (q := 45) dX8_delay_42 fl_X8_156 hX.ha.t0 hX.ha.r0_6 rfl rfl rfl ?_
  refine jj_iload_n (q := 46) dX8_delay_45 rfl rfl rfl ?_
  refine jj_cS2i (q := 49) dX8_delay_46 yk_X8_at ml_X8_120 (ex_atv hX.ha.t10 (blk_k (by decide)) rfl) rfl rfl rfl ⟨Nat.zero_le _, Nat.zero_le _⟩ ?_
  refine jj_iret dX8_delay_49 rfl (Nat.zero_le _) (Nat.zero_le _) ?_
  exact cA_i rfl
theorem ex_offload (hX : hXo T R S xo p p2 a a2) (hx : I (xo + 73) 1 = nI nx) (hs : I (xo + 73) 0 = nI sz) (hn6 : nx < 6) (hs6 : sz ≤ 6) (hc : K 1 0 = nI c) (hc1 : c ≤ 100) {b : Int32} : Ex Γ (d + 8) Y_X8_offload [.ref xo, .int b] (T, R, S, blk 19 I a K, L, D, none) (ec (orE (orE (eAir (I xo)) (orE (eIdx b (K 1 0)) 0)) (if atV 100 (K 2) b = 10 then 0 else 3))) (es (orE (orE (eAir (I xo)) (orE (eIdx b (K 1 0)) 0)) (if atV 100 (K 2) b = 10 then 0 else 3))) (cA (orE (orE (eAir (I xo)) (orE (eIdx b (K 1 0)) 0)) (if atV 100 (K 2) b = 10 then 0 else 3)) (some (.int (nI (fb_ct (pOf (kEn K b 13) (atV 100 (kEn K b 13 3) b) 10 10) c)))) (T, R, S, blk 19 I a K, L, D, none) (T, R, S, blk 19 (remB I K (xo + 73) nx sz) a (kEn K b 13), (u2 L (xo + 73 + 2 + 19 * nx) 1 (L a 1)), D, none)) := by
  refine Ex.of (by decide) (by simp [Value.category]) (Nat.le_of_ble_eq_true rfl) rfl ?_
  refine jj_aload_n (q := 1) dX8_offload_0 rfl rfl rfl ?_
  refine jj_iload_n (q := 2) dX8_offload_1 rfl rfl rfl ?_
  refine jj_nV1 (q := 5) dX8_offload_2 yk_X8_needBag ml_X8_113 hX.1 (ex_needBag (hX.cx I)) rfl rfl rfl rfl (fun g2 => ?_)
  refine jj_aload_n (q := 6) dX8_offload_5 rfl rfl rfl ?_
  refine jj_getS (q := 9) dX8_offload_6 fl_X8_33 hX.1 hX.2.2.2.1.2.2.2.1 rfl rfl rfl ?_
  refine jj_getR (q := 12) dX8_offload_9 fl_X8_95 hX.ha.t0 hX.ha.r0_4 rfl rfl rfl ?_
  refine jj_getR (q := 15) dX8_offload_12 fl_X8_116 hX.ha.t1 hX.ha.r1_1 rfl rfl rfl ?_
  refine jj_iload_n (q := 16) dX8_offload_15 rfl rfl rfl ?_
  refine jj_cS2i (q := 19) dX8_offload_16 yk_X8_at ml_X8_120 (ex_atv hX.ha.t2 (blk_k (by decide)) rfl) rfl rfl rfl ⟨Nat.zero_le _, Nat.zero_le _⟩ ?_
  refine jj_bipush (v := 10) (q := 21) dX8_offload_19 rfl rfl ?_
  refine jj_icmp_eq (q := 24) (tgt := 35) dX8_offload_21 rfl rfl (fun h21 => ?_) (fun h21 => ?_)
  · rw [if_pos h21]
    refine jj_aload_n (q := 36) dX8_offload_35 rfl rfl rfl ?_
    refine jj_getS (q := 39) dX8_offload_36 fl_X8_43 hX.1 hX.2.2.2.1.2.2.2.2.2.1 rfl rfl rfl ?_
    refine jj_aload_n (q := 40) dX8_offload_39 rfl rfl rfl ?_
    refine jj_getS (q := 43) dX8_offload_40 fl_X8_33 hX.1 hX.2.2.2.1.2.2.2.1 rfl rfl rfl ?_
    refine jj_cV1v (q := 46) dX8_offload_43 yk_X1_remember ml_X8_314 hX.hi.1.1 (exB_remember hX hx hs hn6 hs6) rfl rfl rfl ⟨Nat.zero_le _, Nat.zero_le _⟩ ?_
    refine jj_aload_n (q := 47) dX8_offload_46 rfl rfl rfl ?_
    refine jj_getS (q := 50) dX8_offload_47 fl_X8_33 hX.1 hX.2.2.2.1.2.2.2.1 rfl rfl rfl ?_
    refine jj_iload_n (q := 51) dX8_offload_50 rfl rfl rfl ?_
    refine jj_bipush (v := 13) (q := 53) dX8_offload_51 rfl rfl ?_
    refine jj_cV2v (q := 56) dX8_offload_53 yk_X4_enter ml_X8_325 hX.ha.t0 (ex_enter hX.ha) rfl rfl rfl ⟨Nat.zero_le _, Nat.zero_le _⟩ ?_
    refine jj_aload_n (q := 57) dX8_offload_56 rfl rfl rfl ?_
    refine jj_aload_n (q := 58) dX8_offload_57 rfl rfl rfl ?_
    refine jj_getS (q := 61) dX8_offload_58 fl_X8_33 hX.1 hX.2.2.2.1.2.2.2.1 rfl rfl rfl ?_
    refine jj_getR (q := 64) dX8_offload_61 fl_X8_95 hX.ha.t0 hX.ha.r0_4 rfl rfl rfl ?_
    refine jj_getR (q := 67) dX8_offload_64 fl_X8_124 hX.ha.t1 hX.ha.r1_2 rfl rfl rfl ?_
    refine jj_iload_n (q := 68) dX8_offload_67 rfl rfl rfl ?_
    refine jj_cS2i (q := 71) dX8_offload_68 yk_X8_at ml_X8_120 (ex_atv hX.ha.t3 (blk_k (by decide)) rfl) rfl rfl rfl ⟨Nat.zero_le _, Nat.zero_le _⟩ ?_
    refine jj_cV1i (q := 74) dX8_offload_71 yk_X8_loadedOf ml_X8_245 hX.1 (ex_loadedOf (hX.cx (remB I K (xo + 73) nx sz)) (by rw [kEn_ne (by omega) (by omega) (by omega) (by omega) (by omega)]; exact hc) hc1) rfl rfl rfl ⟨Nat.zero_le _, Nat.zero_le _⟩ ?_
    refine jj_iret dX8_offload_74 rfl (Nat.zero_le _) (Nat.zero_le _) ?_
    exact cA_i rfl
  · rw [if_neg h21]
    refine jj_throwW xok_2 ks_X8_322 rfl dX8_offload_24 dX8_offload_27 dX8_offload_28 dX8_offload_31 dX8_offload_34 (by show 5 < _ + _; omega) (by show 90 ≤ 40 * (_ + _); omega) (by decide) ⟨Nat.le_refl _, Nat.le_refl _⟩ (Nat.le_refl _) (Nat.le_refl _) ?_
    exact ⟨rfl, rfl⟩
theorem ex_block (hX : hXo T R S xo p p2 a a2) (hx : I (xo + 73) 1 = nI nx) (hs : I (xo + 73) 0 = nI sz) (hn6 : nx < 6) (hs6 : sz ≤ 6)  {l v : Int32} : Ex Γ (d + 8) Y_X8_block [.ref xo, .int l, .int v] (T, R, S, blk 19 I a K, L, D, none) (ec (orE (orE (eAir (I xo)) (orE (eIdx l (sK I p 0 8)) 0)) 0)) (es (orE (orE (eAir (I xo)) (orE (eIdx l (sK I p 0 8)) 0)) 0)) (cA (orE (orE (eAir (I xo)) (orE (eIdx l (sK I p 0 8)) 0)) 0) (some (.int (if atV 4 (K 11) l = 1 then 1 else 0))) (T, R, S, blk 19 I a K, L, D, none) (T, R, S, blk 19 (remB I K (xo + 73) nx sz) a (putI K 11 4 l (if v = 0 then 0 else 1)), (u2 L (xo + 73 + 2 + 19 * nx) 1 (L a 1)), D, none)) := by
  refine Ex.of (by decide) (by simp [Value.category]) (Nat.le_of_ble_eq_true rfl) rfl ?_
  refine jj_aload_n (q := 1) dX8_block_0 rfl rfl rfl ?_
  refine jj_iload_n (q := 2) dX8_block_1 rfl rfl rfl ?_
  refine jj_nV1 (q := 5) dX8_block_2 yk_X8_needLane ml_X8_210 hX.1 (ex_needLane (hX.cx I)) rfl rfl rfl rfl (fun g2 => ?_)
  refine jj_aload_n (q := 6) dX8_block_5 rfl rfl rfl ?_
  refine jj_getS (q := 9) dX8_block_6 fl_X8_43 hX.1 hX.2.2.2.1.2.2.2.2.2.1 rfl rfl rfl ?_
  refine jj_aload_n (q := 10) dX8_block_9 rfl rfl rfl ?_
  refine jj_getS (q := 13) dX8_block_10 fl_X8_33 hX.1 hX.2.2.2.1.2.2.2.1 rfl rfl rfl ?_
  refine jj_cV1v (q := 16) dX8_block_13 yk_X1_remember ml_X8_314 hX.hi.1.1 (exB_remember hX hx hs hn6 hs6) rfl rfl rfl ⟨Nat.zero_le _, Nat.zero_le _⟩ ?_
  refine jj_aload_n (q := 17) dX8_block_16 rfl rfl rfl ?_
  refine jj_getS (q := 20) dX8_block_17 fl_X8_33 hX.1 hX.2.2.2.1.2.2.2.1 rfl rfl rfl ?_
  refine jj_getR (q := 23) dX8_block_20 fl_X8_307 hX.ha.t0 hX.ha.r0_7 rfl rfl rfl ?_
  refine jj_iload_n (q := 24) dX8_block_23 rfl rfl rfl ?_
  refine jj_cS2i (q := 27) dX8_block_24 yk_X8_at ml_X8_120 (ex_atv hX.ha.t11 (blk_k (by decide)) rfl) rfl rfl rfl ⟨Nat.zero_le _, Nat.zero_le _⟩ ?_
  refine jj_iconst (v := 1) (q := 28) dX8_block_27 rfl rfl ?_
  refine jj_icmp_ne (q := 31) (tgt := 35) dX8_block_28 rfl rfl (fun h28 => ?_) (fun h28 => ?_)
  · refine jj_iconst (v := 0) (q := 36) dX8_block_35 rfl rfl ?_
    refine jj_istore_n (q := 37) dX8_block_36 rfl (by decide) rfl ?_
    refine jj_aload_n (q := 38) dX8_block_37 rfl rfl rfl ?_
    refine jj_getS (q := 41) dX8_block_38 fl_X8_33 hX.1 hX.2.2.2.1.2.2.2.1 rfl rfl rfl ?_
    refine jj_getR (q := 44) dX8_block_41 fl_X8_307 hX.ha.t0 hX.ha.r0_7 rfl rfl rfl ?_
    refine jj_iload_n (q := 45) dX8_block_44 rfl rfl rfl ?_
    refine jj_iload_n (q := 46) dX8_block_45 rfl rfl rfl ?_
    refine jj_if_eq (q := 49) (tgt := 53) dX8_block_46 rfl rfl (fun h46 => ?_) (fun h46 => ?_)
    · refine jj_iconst (v := 0) (q := 54) dX8_block_53 rfl rfl ?_
      refine jj_cS3v (q := 57) dX8_block_54 yk_X8_put ml_X8_310 (ex_putv hX.ha.t11 (putI_blk (by decide)) rfl) rfl rfl rfl ⟨Nat.zero_le _, Nat.zero_le _⟩ ?_
      refine jj_iload_n (q := 58) dX8_block_57 rfl rfl rfl ?_
      refine jj_zret dX8_block_58 rfl (by first | rfl | assumption) (Nat.zero_le _) (Nat.zero_le _) ?_
      exact ⟨_, rfl, by first | rw [if_pos h28] | rw [if_neg h28], by first | rw [if_pos h46] | rw [if_neg h46]⟩
    · refine jj_iconst (v := 1) (q := 50) dX8_block_49 rfl rfl ?_
      refine jj_goto (tgt := 54) dX8_block_50 rfl ?_
      refine jj_cS3v (q := 57) dX8_block_54 yk_X8_put ml_X8_310 (ex_putv hX.ha.t11 (putI_blk (by decide)) rfl) rfl rfl rfl ⟨Nat.zero_le _, Nat.zero_le _⟩ ?_
      refine jj_iload_n (q := 58) dX8_block_57 rfl rfl rfl ?_
      refine jj_zret dX8_block_58 rfl (by first | rfl | assumption) (Nat.zero_le _) (Nat.zero_le _) ?_
      exact ⟨_, rfl, by first | rw [if_pos h28] | rw [if_neg h28], by first | rw [if_pos h46] | rw [if_neg h46]⟩
  · refine jj_iconst (v := 1) (q := 32) dX8_block_31 rfl rfl ?_
    refine jj_goto (tgt := 36) dX8_block_32 rfl ?_
    refine jj_istore_n (q := 37) dX8_block_36 rfl (by decide) rfl ?_
    refine jj_aload_n (q := 38) dX8_block_37 rfl rfl rfl ?_
    refine jj_getS (q := 41) dX8_block_38 fl_X8_33 hX.1 hX.2.2.2.1.2.2.2.1 rfl rfl rfl ?_
    refine jj_getR (q := 44) dX8_block_41 fl_X8_307 hX.ha.t0 hX.ha.r0_7 rfl rfl rfl ?_
    refine jj_iload_n (q := 45) dX8_block_44 rfl rfl rfl ?_
    refine jj_iload_n (q := 46) dX8_block_45 rfl rfl rfl ?_
    refine jj_if_eq (q := 49) (tgt := 53) dX8_block_46 rfl rfl (fun h46 => ?_) (fun h46 => ?_)
    · refine jj_iconst (v := 0) (q := 54) dX8_block_53 rfl rfl ?_
      refine jj_cS3v (q := 57) dX8_block_54 yk_X8_put ml_X8_310 (ex_putv hX.ha.t11 (putI_blk (by decide)) rfl) rfl rfl rfl ⟨Nat.zero_le _, Nat.zero_le _⟩ ?_
      refine jj_iload_n (q := 58) dX8_block_57 rfl rfl rfl ?_
      refine jj_zret dX8_block_58 rfl (by first | rfl | assumption) (Nat.zero_le _) (Nat.zero_le _) ?_
      exact ⟨_, rfl, by first | rw [if_pos h28] | rw [if_neg h28], by first | rw [if_pos h46] | rw [if_neg h46]⟩
    · refine jj_iconst (v := 1) (q := 50) dX8_block_49 rfl rfl ?_
      refine jj_goto (tgt := 54) dX8_block_50 rfl ?_
      refine jj_cS3v (q := 57) dX8_block_54 yk_X8_put ml_X8_310 (ex_putv hX.ha.t11 (putI_blk (by decide)) rfl) rfl rfl rfl ⟨Nat.zero_le _, Nat.zero_le _⟩ ?_
      refine jj_iload_n (q := 58) dX8_block_57 rfl rfl rfl ?_
      refine jj_zret dX8_block_58 rfl (by first | rfl | assumption) (Nat.zero_le _) (Nat.zero_le _) ?_
      exact ⟨_, rfl, by first | rw [if_pos h28] | rw [if_neg h28], by first | rw [if_pos h46] | rw [if_neg h46]⟩
theorem ex_breakMachine (hX : hXo T R S xo p p2 a a2) (hx : I (xo + 73) 1 = nI nx) (hs : I (xo + 73) 0 = nI sz) (hn6 : nx < 6) (hs6 : sz ≤ 6)  {lv m y : Int32} : Ex Γ (d + 8) Y_X8_breakMachine [.ref xo, .int lv, .int m, .int y] (T, R, S, blk 19 I a K, L, D, none) (ec (orE (orE (eAir (I xo)) (orE (eIdx (lv - 1) 3) (orE (eIdx m (atV 3 (sK I p 1) (lv - 1))) 0))) (orE (eRng y 1 999) 0))) (es (orE (orE (eAir (I xo)) (orE (eIdx (lv - 1) 3) (orE (eIdx m (atV 3 (sK I p 1) (lv - 1))) 0))) (orE (eRng y 1 999) 0))) (cA (orE (orE (eAir (I xo)) (orE (eIdx (lv - 1) 3) (orE (eIdx m (atV 3 (sK I p 1) (lv - 1))) 0))) (orE (eRng y 1 999) 0)) (some (.int (vBr K ((lv - 1) * 4 + m) (K 0 0 + y)))) (T, R, S, blk 19 I a K, L, D, none) (T, R, S, blk 19 (remB I K (xo + 73) nx sz) a (kBr K ((lv - 1) * 4 + m) (K 0 0 + y)), (u2 L (xo + 73 + 2 + 19 * nx) 1 (L a 1)), D, none)) := by
  refine Ex.of (by decide) (by simp [Value.category]) (Nat.le_of_ble_eq_true rfl) rfl ?_
  refine jj_aload_n (q := 1) dX8_breakMachine_0 rfl rfl rfl ?_
  refine jj_iload_n (q := 2) dX8_breakMachine_1 rfl rfl rfl ?_
  refine jj_iload_n (q := 3) dX8_breakMachine_2 rfl rfl rfl ?_
  refine jj_nV2 (q := 6) dX8_breakMachine_3 yk_X8_needMachine ml_X8_192 hX.1 (ex_needMachine (hX.cx I)) rfl rfl rfl rfl (fun g3 => ?_)
  refine jj_iload_n (q := 7) dX8_breakMachine_6 rfl rfl rfl ?_
  refine jj_iconst (v := 1) (q := 8) dX8_breakMachine_7 rfl rfl ?_
  refine jj_sipush (v := 999) (q := 11) dX8_breakMachine_8 rfl rfl ?_
  refine jj_nS3 (q := 14) dX8_breakMachine_11 yk_X8_needRange ml_X8_181 ex_needRange rfl rfl rfl rfl (fun g11 => ?_)
  refine jj_aload_n (q := 15) dX8_breakMachine_14 rfl rfl rfl ?_
  refine jj_getS (q := 18) dX8_breakMachine_15 fl_X8_43 hX.1 hX.2.2.2.1.2.2.2.2.2.1 rfl rfl rfl ?_
  refine jj_aload_n (q := 19) dX8_breakMachine_18 rfl rfl rfl ?_
  refine jj_getS (q := 22) dX8_breakMachine_19 fl_X8_33 hX.1 hX.2.2.2.1.2.2.2.1 rfl rfl rfl ?_
  refine jj_cV1v (q := 25) dX8_breakMachine_22 yk_X1_remember ml_X8_314 hX.hi.1.1 (exB_remember hX hx hs hn6 hs6) rfl rfl rfl ⟨Nat.zero_le _, Nat.zero_le _⟩ ?_
  refine jj_iload_n (q := 26) dX8_breakMachine_25 rfl rfl rfl ?_
  refine jj_iload_n (q := 27) dX8_breakMachine_26 rfl rfl rfl ?_
  refine jj_cS2i (q := 30) dX8_breakMachine_27 yk_X8_machineIndex ml_X8_198 ex_machineIndex rfl rfl rfl ⟨Nat.zero_le _, Nat.zero_le _⟩ ?_
  refine jj_istore (q := 32) dX8_breakMachine_30 (by decide) rfl ?_
  refine jj_aload_n (q := 33) dX8_breakMachine_32 rfl rfl rfl ?_
  refine jj_getS (q := 36) dX8_breakMachine_33 fl_X8_33 hX.1 hX.2.2.2.1.2.2.2.1 rfl rfl rfl ?_
  refine jj_getIv (q := 39) dX8_breakMachine_36 fl_X8_110 hX.ha.t0 (blk_0 (by decide)) rfl rfl ?_
  refine jj_iload_n (q := 40) dX8_breakMachine_39 rfl rfl rfl ?_
  refine jj_iadd (q := 41) dX8_breakMachine_40 rfl ?_
  refine jj_istore (q := 43) dX8_breakMachine_41 (by decide) rfl ?_
  refine jj_iload (q := 45) dX8_breakMachine_43 rfl rfl ?_
  refine jj_aload_n (q := 46) dX8_breakMachine_45 rfl rfl rfl ?_
  refine jj_getS (q := 49) dX8_breakMachine_46 fl_X8_33 hX.1 hX.2.2.2.1.2.2.2.1 rfl rfl rfl ?_
  refine jj_getR (q := 52) dX8_breakMachine_49 fl_X8_201 hX.ha.t0 hX.ha.r0_13 rfl rfl rfl ?_
  refine jj_iload (q := 54) dX8_breakMachine_52 rfl rfl ?_
  refine jj_cS2i (q := 57) dX8_breakMachine_54 yk_X8_at ml_X8_120 (ex_atv hX.ha.t17 (blk_k (by decide)) rfl) rfl rfl rfl ⟨Nat.zero_le _, Nat.zero_le _⟩ ?_
  refine jj_icmp_gt (q := 60) (tgt := 62) dX8_breakMachine_57 rfl rfl (fun h57 => ?_) (fun h57 => ?_)
  · refine jj_aload_n (q := 63) dX8_breakMachine_62 rfl rfl rfl ?_
    refine jj_getS (q := 66) dX8_breakMachine_63 fl_X8_33 hX.1 hX.2.2.2.1.2.2.2.1 rfl rfl rfl ?_
    refine jj_getR (q := 69) dX8_breakMachine_66 fl_X8_201 hX.ha.t0 hX.ha.r0_13 rfl rfl rfl ?_
    refine jj_iload (q := 71) dX8_breakMachine_69 rfl rfl ?_
    refine jj_iload (q := 73) dX8_breakMachine_71 rfl rfl ?_
    refine jj_cS3v (q := 76) dX8_breakMachine_73 yk_X8_put ml_X8_310 (ex_putv hX.ha.t17 (putI_blk (by decide)) rfl) rfl rfl rfl ⟨Nat.zero_le _, Nat.zero_le _⟩ ?_
    refine jj_iconst (v := 1) (q := 77) dX8_breakMachine_76 rfl rfl ?_
    refine jj_zret dX8_breakMachine_77 rfl (by first | rfl | assumption) (Nat.zero_le _) (Nat.zero_le _) ?_
    exact ⟨_, rfl, by unfold vBr; rw [if_neg (Int32.not_le.mpr h57)], by unfold kBr; rw [if_neg (Int32.not_le.mpr h57)]⟩
  · refine jj_iconst (v := 0) (q := 61) dX8_breakMachine_60 rfl rfl ?_
    refine jj_zret dX8_breakMachine_61 rfl (by first | rfl | assumption) (Nat.zero_le _) (Nat.zero_le _) ?_
    exact ⟨_, rfl, by unfold vBr; rw [if_pos (Int32.not_lt.mp h57)], by unfold kBr; rw [if_pos (Int32.not_lt.mp h57)]⟩
theorem ex_reroute (hX : hXo T R S xo p p2 a a2) (hx : I (xo + 73) 1 = nI nx) (hs : I (xo + 73) 0 = nI sz) (hn6 : nx < 6) (hs6 : sz ≤ 6)  {b f : Int32} : Ex Γ (d + 8) Y_X8_reroute [.ref xo, .int b, .int f] (T, R, S, blk 19 I a K, L, D, none) (ec (orE (orE (eAir (I xo)) (orE (eIdx b (K 1 0)) 0)) (orE (orE (eAir (I xo)) (orE (eIdx f (sK I p 0 6)) 0)) (if atV 100 (K 2) b < 10 then 0 else 3)))) (es (orE (orE (eAir (I xo)) (orE (eIdx b (K 1 0)) 0)) (orE (orE (eAir (I xo)) (orE (eIdx f (sK I p 0 6)) 0)) (if atV 100 (K 2) b < 10 then 0 else 3)))) (cA (orE (orE (eAir (I xo)) (orE (eIdx b (K 1 0)) 0)) (orE (orE (eAir (I xo)) (orE (eIdx f (sK I p 0 6)) 0)) (if atV 100 (K 2) b < 10 then 0 else 3))) (some (.int (atV 100 (K 3) b))) (T, R, S, blk 19 I a K, L, D, none) (T, R, S, blk 19 (remB I K (xo + 73) nx sz) a (putI K 3 100 b f), (u2 L (xo + 73 + 2 + 19 * nx) 1 (L a 1)), D, none)) := by
  refine Ex.of (by decide) (by simp [Value.category]) (Nat.le_of_ble_eq_true rfl) rfl ?_
  refine jj_aload_n (q := 1) dX8_reroute_0 rfl rfl rfl ?_
  refine jj_iload_n (q := 2) dX8_reroute_1 rfl rfl rfl ?_
  refine jj_nV1 (q := 5) dX8_reroute_2 yk_X8_needBag ml_X8_113 hX.1 (ex_needBag (hX.cx I)) rfl rfl rfl rfl (fun g2 => ?_)
  refine jj_aload_n (q := 6) dX8_reroute_5 rfl rfl rfl ?_
  refine jj_iload_n (q := 7) dX8_reroute_6 rfl rfl rfl ?_
  refine jj_nV1 (q := 10) dX8_reroute_7 yk_X8_needFlight ml_X8_229 hX.1 (ex_needFlight (hX.cx I)) rfl rfl rfl rfl (fun g7 => ?_)
  refine jj_aload_n (q := 11) dX8_reroute_10 rfl rfl rfl ?_
  refine jj_getS (q := 14) dX8_reroute_11 fl_X8_33 hX.1 hX.2.2.2.1.2.2.2.1 rfl rfl rfl ?_
  refine jj_getR (q := 17) dX8_reroute_14 fl_X8_95 hX.ha.t0 hX.ha.r0_4 rfl rfl rfl ?_
  refine jj_getR (q := 20) dX8_reroute_17 fl_X8_116 hX.ha.t1 hX.ha.r1_1 rfl rfl rfl ?_
  refine jj_iload_n (q := 21) dX8_reroute_20 rfl rfl rfl ?_
  refine jj_cS2i (q := 24) dX8_reroute_21 yk_X8_at ml_X8_120 (ex_atv hX.ha.t2 (blk_k (by decide)) rfl) rfl rfl rfl ⟨Nat.zero_le _, Nat.zero_le _⟩ ?_
  refine jj_cS1i (q := 27) dX8_reroute_24 yk_X8_isFinished ml_X8_149 ex_isFinished rfl rfl rfl ⟨Nat.zero_le _, Nat.zero_le _⟩ ?_
  refine jj_if_eq (q := 30) (tgt := 41) dX8_reroute_27 rfl rfl (fun h27 => ?_) (fun h27 => ?_)
  · rw [if_pos (fin01.mp h27)]
    refine jj_aload_n (q := 42) dX8_reroute_41 rfl rfl rfl ?_
    refine jj_getS (q := 45) dX8_reroute_42 fl_X8_43 hX.1 hX.2.2.2.1.2.2.2.2.2.1 rfl rfl rfl ?_
    refine jj_aload_n (q := 46) dX8_reroute_45 rfl rfl rfl ?_
    refine jj_getS (q := 49) dX8_reroute_46 fl_X8_33 hX.1 hX.2.2.2.1.2.2.2.1 rfl rfl rfl ?_
    refine jj_cV1v (q := 52) dX8_reroute_49 yk_X1_remember ml_X8_314 hX.hi.1.1 (exB_remember hX hx hs hn6 hs6) rfl rfl rfl ⟨Nat.zero_le _, Nat.zero_le _⟩ ?_
    refine jj_aload_n (q := 53) dX8_reroute_52 rfl rfl rfl ?_
    refine jj_getS (q := 56) dX8_reroute_53 fl_X8_33 hX.1 hX.2.2.2.1.2.2.2.1 rfl rfl rfl ?_
    refine jj_getR (q := 59) dX8_reroute_56 fl_X8_95 hX.ha.t0 hX.ha.r0_4 rfl rfl rfl ?_
    refine jj_getR (q := 62) dX8_reroute_59 fl_X8_124 hX.ha.t1 hX.ha.r1_2 rfl rfl rfl ?_
    refine jj_iload_n (q := 63) dX8_reroute_62 rfl rfl rfl ?_
    refine jj_cS2i (q := 66) dX8_reroute_63 yk_X8_at ml_X8_120 (ex_atv hX.ha.t3 (blk_k (by decide)) rfl) rfl rfl rfl ⟨Nat.zero_le _, Nat.zero_le _⟩ ?_
    refine jj_istore_n (q := 67) dX8_reroute_66 rfl (by decide) rfl ?_
    refine jj_aload_n (q := 68) dX8_reroute_67 rfl rfl rfl ?_
    refine jj_getS (q := 71) dX8_reroute_68 fl_X8_33 hX.1 hX.2.2.2.1.2.2.2.1 rfl rfl rfl ?_
    refine jj_getR (q := 74) dX8_reroute_71 fl_X8_95 hX.ha.t0 hX.ha.r0_4 rfl rfl rfl ?_
    refine jj_getR (q := 77) dX8_reroute_74 fl_X8_124 hX.ha.t1 hX.ha.r1_2 rfl rfl rfl ?_
    refine jj_iload_n (q := 78) dX8_reroute_77 rfl rfl rfl ?_
    refine jj_iload_n (q := 79) dX8_reroute_78 rfl rfl rfl ?_
    refine jj_cS3v (q := 82) dX8_reroute_79 yk_X8_put ml_X8_310 (ex_putv hX.ha.t3 (putI_blk (by decide)) rfl) rfl rfl rfl ⟨Nat.zero_le _, Nat.zero_le _⟩ ?_
    refine jj_iload_n (q := 83) dX8_reroute_82 rfl rfl rfl ?_
    refine jj_iret dX8_reroute_83 rfl (Nat.zero_le _) (Nat.zero_le _) ?_
    exact cA_i rfl
  · rw [if_neg (fun w => h27 (fin01.mpr w))]
    refine jj_throwW xok_2 ks_X8_328 rfl dX8_reroute_30 dX8_reroute_33 dX8_reroute_34 dX8_reroute_37 dX8_reroute_40 (by show 5 < _ + _; omega) (by show 90 ≤ 40 * (_ + _); omega) (by decide) ⟨Nat.le_refl _, Nat.le_refl _⟩ (Nat.le_refl _) (Nat.le_refl _) ?_
    exact ⟨rfl, rfl⟩
theorem ex_addBags (hX : hXo T R S xo p p2 a a2) (hx : I (xo + 73) 1 = nI nx) (hs : I (xo + 73) 0 = nI sz) (hn6 : nx < 6) (hs6 : sz ≤ 6) (hc : K 1 0 = nI c) (hc1 : c ≤ 100) {y k f : Int32} : Ex Γ (d + 8) Y_X8_addBags [.ref xo, .int y, .int k, .int f] (T, R, S, blk 19 I a K, L, D, none) (ec (orE (orE (eAir (I xo)) (orE (eIdx f (sK I p 0 6)) 0)) (orE (eRng y 1 999) (orE (eRng k 1 (100 - K 1 0)) 0)))) (es (orE (orE (eAir (I xo)) (orE (eIdx f (sK I p 0 6)) 0)) (orE (eRng y 1 999) (orE (eRng k 1 (100 - K 1 0)) 0)))) (cA (orE (orE (eAir (I xo)) (orE (eIdx f (sK I p 0 6)) 0)) (orE (eRng y 1 999) (orE (eRng k 1 (100 - K 1 0)) 0))) (some (.int (K 1 0))) (T, R, S, blk 19 I a K, L, D, none) (T, R, S, blk 19 (remB I K (xo + 73) nx sz) a (kAds (K 0 0 + y) f (nN k) c K), (u2 L (xo + 73 + 2 + 19 * nx) 1 (L a 1)), D, none)) := by
  refine Ex.of (by decide) (by simp [Value.category]) (Nat.le_of_ble_eq_true rfl) rfl ?_
  refine jj_aload_n (q := 1) dX8_addBags_0 rfl rfl rfl ?_
  refine jj_iload_n (q := 2) dX8_addBags_1 rfl rfl rfl ?_
  refine jj_nV1 (q := 5) dX8_addBags_2 yk_X8_needFlight ml_X8_229 hX.1 (ex_needFlight (hX.cx I)) rfl rfl rfl rfl (fun g2 => ?_)
  refine jj_iload_n (q := 6) dX8_addBags_5 rfl rfl rfl ?_
  refine jj_iconst (v := 1) (q := 7) dX8_addBags_6 rfl rfl ?_
  refine jj_sipush (v := 999) (q := 10) dX8_addBags_7 rfl rfl ?_
  refine jj_nS3 (q := 13) dX8_addBags_10 yk_X8_needRange ml_X8_181 ex_needRange rfl rfl rfl rfl (fun g10 => ?_)
  refine jj_iload_n (q := 14) dX8_addBags_13 rfl rfl rfl ?_
  refine jj_iconst (v := 1) (q := 15) dX8_addBags_14 rfl rfl ?_
  refine jj_bipush (v := 100) (q := 17) dX8_addBags_15 rfl rfl ?_
  refine jj_aload_n (q := 18) dX8_addBags_17 rfl rfl rfl ?_
  refine jj_getS (q := 21) dX8_addBags_18 fl_X8_33 hX.1 hX.2.2.2.1.2.2.2.1 rfl rfl rfl ?_
  refine jj_getR (q := 24) dX8_addBags_21 fl_X8_95 hX.ha.t0 hX.ha.r0_4 rfl rfl rfl ?_
  refine jj_getIv (q := 27) dX8_addBags_24 fl_X8_99 hX.ha.t1 (blk_k (by decide)) rfl rfl ?_
  refine jj_isub (q := 28) dX8_addBags_27 rfl ?_
  refine jj_nS3 (q := 31) dX8_addBags_28 yk_X8_needRange ml_X8_181 ex_needRange rfl rfl rfl rfl (fun g28 => ?_)
  rw [hc] at g28
  obtain ⟨N, hN1, hN2, rfl⟩ := eRng_n hc1 g28
  rw [nN_nI (show N < 2 ^ 31 by omega)]
  refine jj_aload_n (q := 32) dX8_addBags_31 rfl rfl rfl ?_
  refine jj_getS (q := 35) dX8_addBags_32 fl_X8_43 hX.1 hX.2.2.2.1.2.2.2.2.2.1 rfl rfl rfl ?_
  refine jj_aload_n (q := 36) dX8_addBags_35 rfl rfl rfl ?_
  refine jj_getS (q := 39) dX8_addBags_36 fl_X8_33 hX.1 hX.2.2.2.1.2.2.2.1 rfl rfl rfl ?_
  refine jj_cV1v (q := 42) dX8_addBags_39 yk_X1_remember ml_X8_314 hX.hi.1.1 (exB_remember hX hx hs hn6 hs6) rfl rfl rfl ⟨Nat.zero_le _, Nat.zero_le _⟩ ?_
  refine jj_aload_n (q := 43) dX8_addBags_42 rfl rfl rfl ?_
  refine jj_getS (q := 46) dX8_addBags_43 fl_X8_33 hX.1 hX.2.2.2.1.2.2.2.1 rfl rfl rfl ?_
  refine jj_getR (q := 49) dX8_addBags_46 fl_X8_95 hX.ha.t0 hX.ha.r0_4 rfl rfl rfl ?_
  refine jj_getIv (q := 52) dX8_addBags_49 fl_X8_99 hX.ha.t1 (blk_k (by decide)) rfl rfl ?_
  refine jj_istore (q := 54) dX8_addBags_52 (by decide) rfl ?_
  refine jj_aload_n (q := 55) dX8_addBags_54 rfl rfl rfl ?_
  refine jj_getS (q := 58) dX8_addBags_55 fl_X8_33 hX.1 hX.2.2.2.1.2.2.2.1 rfl rfl rfl ?_
  refine jj_getR (q := 61) dX8_addBags_58 fl_X8_95 hX.ha.t0 hX.ha.r0_4 rfl rfl rfl ?_
  refine jj_aload_n (q := 62) dX8_addBags_61 rfl rfl rfl ?_
  refine jj_getS (q := 65) dX8_addBags_62 fl_X8_33 hX.1 hX.2.2.2.1.2.2.2.1 rfl rfl rfl ?_
  refine jj_getIv (q := 68) dX8_addBags_65 fl_X8_110 hX.ha.t0 (blk_0 (by decide)) rfl rfl ?_
  refine jj_iload_n (q := 69) dX8_addBags_68 rfl rfl rfl ?_
  refine jj_iadd (q := 70) dX8_addBags_69 rfl ?_
  refine jj_iload_n (q := 71) dX8_addBags_70 rfl rfl rfl ?_
  refine jj_iload_n (q := 72) dX8_addBags_71 rfl rfl rfl ?_
  refine jj_cV3v (q := 75) dX8_addBags_72 yk_X0_addGroup ml_X8_317 hX.ha.t1 (ex_addGroup hX.ha hc hN2) rfl rfl rfl ⟨Nat.zero_le _, Nat.zero_le _⟩ ?_
  refine jj_iload (q := 77) dX8_addBags_75 rfl rfl ?_
  refine jj_iret dX8_addBags_77 rfl (Nat.zero_le _) (Nat.zero_le _) ?_
  exact cA_i rfl
theorem ex_advance (hX : hXo T R S xo p p2 a a2) (hx : I (xo + 73) 1 = nI nx) (hs : I (xo + 73) 0 = nI sz) (hn6 : nx < 6) (hs6 : sz ≤ 6) (hW : wP (sK I p)) (hc : K 1 0 = nI c) (hc1 : c ≤ 100) (hlw : lW K) {n : Int32} : Ex Γ (d + 8) Y_X8_advance [.ref xo, .int n] (T, R, S, blk 19 I a K, L, D, none) (ec (orE (eAir (I xo)) (orE (eTik K n 500) 0))) (es (orE (eAir (I xo)) (orE (eTik K n 500) 0))) (cE (orE (eAir (I xo)) (orE (eTik K n 500) 0)) (T, R, S, blk 19 I a K, L, D, none) (fun w M' => ∃ V, w = some (.int (atV 14 ((kRun (sK I p) c (nN n) (K, L a 1)).1 8) 10 - atV 14 (K 8) 10)) ∧ M' = (T, R, S, blk 19 (vv (remB I K (xo + 73) nx sz) p V) a (kRun (sK I p) c (nN n) (K, L a 1)).1, u2 (u2 L (xo + 73 + 2 + 19 * nx) 1 (L a 1)) a 1 (kRun (sK I p) c (nN n) (K, L a 1)).2, D, none))) := by
  refine Ex.of (by decide) (by simp [Value.category]) (Nat.le_of_ble_eq_true rfl) rfl ?_
  refine jj_aload_n (q := 1) dX8_advance_0 rfl rfl rfl ?_
  refine jj_nV0 (q := 4) dX8_advance_1 yk_X8_needAirport ml_X8_168 hX.1 (ex_needAirport (hX.cx I)) rfl rfl rfl rfl (fun g1 => ?_)
  refine jj_aload_n (q := 5) dX8_advance_4 rfl rfl rfl ?_
  refine jj_iload_n (q := 6) dX8_advance_5 rfl rfl rfl ?_
  refine jj_sipush (v := 500) (q := 9) dX8_advance_6 rfl rfl ?_
  refine jj_nV2 (q := 12) dX8_advance_9 yk_X8_needTicks ml_X8_282 hX.1 (ex_needTicks (hX.cx I)) rfl rfl rfl rfl (fun g9 => ?_)
  obtain ⟨N, hN1, hN2, rfl, hN3⟩ := eTik_n (m := 500) rfl (by omega) g9
  rw [nN_nI (show N < 2 ^ 31 by omega)]
  refine jj_aload_n (q := 13) dX8_advance_12 rfl rfl rfl ?_
  refine jj_getS (q := 16) dX8_advance_13 fl_X8_43 hX.1 hX.2.2.2.1.2.2.2.2.2.1 rfl rfl rfl ?_
  refine jj_aload_n (q := 17) dX8_advance_16 rfl rfl rfl ?_
  refine jj_getS (q := 20) dX8_advance_17 fl_X8_33 hX.1 hX.2.2.2.1.2.2.2.1 rfl rfl rfl ?_
  refine jj_cV1v (q := 23) dX8_advance_20 yk_X1_remember ml_X8_314 hX.hi.1.1 (exB_remember hX hx hs hn6 hs6) rfl rfl rfl ⟨Nat.zero_le _, Nat.zero_le _⟩ ?_
  refine jj_aload_n (q := 24) dX8_advance_23 rfl rfl rfl ?_
  refine jj_getS (q := 27) dX8_advance_24 fl_X8_23 hX.1 hX.2.2.2.1.2.1 rfl rfl rfl ?_
  refine jj_aload_n (q := 28) dX8_advance_27 rfl rfl rfl ?_
  refine jj_getS (q := 31) dX8_advance_28 fl_X8_33 hX.1 hX.2.2.2.1.2.2.2.1 rfl rfl rfl ?_
  refine jj_iload_n (q := 32) dX8_advance_31 rfl rfl rfl ?_
  refine jj_bipush (v := 10) (q := 34) dX8_advance_32 rfl rfl ?_
  refine jj_eS4i (q := 37) dX8_advance_34 yk_X7_run ml_X8_289 (exB_runN (P := sK I p) hX (fun k hk => remB_out (by have := hX.ps; omega) hn6) hW hc hc1 hlw (by omega) (by rw [u2_ne (by have := hX.ps; omega)])) rfl rfl rfl ⟨Nat.zero_le _, Nat.zero_le _⟩ (fun V => ?_)
  refine jj_iret dX8_advance_37 rfl (Nat.zero_le _) (Nat.zero_le _) ?_
  exact ⟨_, rfl, V, rfl, rfl⟩
theorem ex_undo_no (hX : hXo T R S xo p p2 a a2) (hs : I (xo + 73) 0 = 0) : Ex Γ (d + 8) Y_X8_undo [.ref xo] (T, R, S, blk 19 I a K, L, D, none) 1 6 (rX xISE (T, R, S, blk 19 I a K, L, D, none)) := by
  refine Ex.of (by decide) (by simp [Value.category]) (Nat.le_of_ble_eq_true rfl) rfl ?_
  refine jj_aload_n (q := 1) dX8_undo_0 rfl rfl rfl ?_
  refine jj_getS (q := 4) dX8_undo_1 fl_X8_43 hX.1 hX.2.2.2.1.2.2.2.2.2.1 rfl rfl rfl ?_
  refine jj_getIw (v := 0) (q := 7) dX8_undo_4 fl_X8_330 hX.hi.1.1 (by rw [blk_out (by have := hX.ps; omega)]; exact hs) rfl rfl ?_
  refine jj_if_ne (q := 10) (tgt := 21) dX8_undo_7 rfl rfl (fun h7 => by exfalso; exact h7 rfl) (fun h7 => ?_)
  refine jj_throwW xok_3 ks_X8_333 rfl dX8_undo_10 dX8_undo_13 dX8_undo_14 dX8_undo_17 dX8_undo_20 (by show 5 < _ + _; omega) (by show 90 ≤ 40 * (_ + _); omega) (by decide) ⟨Nat.le_refl _, Nat.le_refl _⟩ (Nat.le_refl _) (Nat.le_refl _) ?_
  exact ⟨rfl, rfl⟩
theorem ex_undo_ok (hX : hXo T R S xo p p2 a a2) (hx : I (xo + 73) 1 = nI nx) (hs : I (xo + 73) 0 = nI (sz + 1)) (hn6 : nx < 6) (hs6 : sz + 1 ≤ 6) : Ex Γ (d + 8) Y_X8_undo [.ref xo] (T, R, S, blk 19 I a K, L, D, none) 0 0 (rI (nI sz) (T, R, S, blk 19 (u2 (u2 I (xo + 73) 1 (nI (nxP nx))) (xo + 73) 0 (nI sz)) a (kCp K (sK I (xo + 73 + 2 + 19 * nxP nx))), u2 L a 1 (L (xo + 73 + 2 + 19 * nxP nx) 1), D, none)) := by
  have hps := hX.ps
  have e := ex_bringBack (Γ := Γ) (d := d + 3) (S := S) (I := blk 19 I a K) (L := L) (D := D) (z := none) hX.hi hX.ha (by omega) (by rw [blk_out (by omega)]; exact hx) (by rw [blk_out (by omega)]; exact hs) hn6 hs6
  rw [brI_blk (by omega) hn6] at e
  refine Ex.of (by decide) (by simp [Value.category]) (Nat.le_of_ble_eq_true rfl) rfl ?_
  refine jj_aload_n (q := 1) dX8_undo_0 rfl rfl rfl ?_
  refine jj_getS (q := 4) dX8_undo_1 fl_X8_43 hX.1 hX.2.2.2.1.2.2.2.2.2.1 rfl rfl rfl ?_
  refine jj_getIw (v := nI (sz + 1)) (q := 7) dX8_undo_4 fl_X8_330 hX.hi.1.1 (by rw [blk_out (by omega)]; exact hs) rfl rfl ?_
  refine jj_if_ne (q := 10) (tgt := 21) dX8_undo_7 rfl rfl (fun h7 => ?_) (fun h7 => by exfalso; exact absurd h7 (nI_ne0 (by omega) (by omega)))
  refine jj_aload_n (q := 22) dX8_undo_21 rfl rfl rfl ?_
  refine jj_getS (q := 25) dX8_undo_22 fl_X8_43 hX.1 hX.2.2.2.1.2.2.2.2.2.1 rfl rfl rfl ?_
  refine jj_aload_n (q := 26) dX8_undo_25 rfl rfl rfl ?_
  refine jj_getS (q := 29) dX8_undo_26 fl_X8_33 hX.1 hX.2.2.2.1.2.2.2.1 rfl rfl rfl ?_
  refine jj_cV1v (q := 32) dX8_undo_29 yk_X1_bringBack ml_X8_336 hX.hi.1.1 e rfl rfl rfl ⟨Nat.zero_le _, Nat.zero_le _⟩ ?_
  refine jj_aload_n (q := 33) dX8_undo_32 rfl rfl rfl ?_
  refine jj_getS (q := 36) dX8_undo_33 fl_X8_43 hX.1 hX.2.2.2.1.2.2.2.2.2.1 rfl rfl rfl ?_
  refine jj_getIw (v := nI sz) (q := 39) dX8_undo_36 fl_X8_330 hX.hi.1.1 (by rw [blk_out (by omega)]; exact u2_at) rfl rfl ?_
  refine jj_iret dX8_undo_39 rfl (Nat.zero_le _) (Nat.zero_le _) ?_
  exact ⟨rfl, rfl⟩
theorem ex_undoable (hX : hXo T R S xo p p2 a a2) : Ex Γ (d + 8) Y_X8_undoable [.ref xo] (T, R, S, blk 19 I a K, L, D, none) 0 0 (rI (I (xo + 73) 0) (T, R, S, blk 19 I a K, L, D, none)) := by
  refine Ex.of (by decide) (by simp [Value.category]) (Nat.le_of_ble_eq_true rfl) rfl ?_
  refine jj_aload_n (q := 1) dX8_undoable_0 rfl rfl rfl ?_
  refine jj_getS (q := 4) dX8_undoable_1 fl_X8_43 hX.1 hX.2.2.2.1.2.2.2.2.2.1 rfl rfl rfl ?_
  refine jj_getIw (v := I (xo + 73) 0) (q := 7) dX8_undoable_4 fl_X8_330 hX.hi.1.1 (by rw [blk_out (by have := hX.ps; omega)]) rfl rfl ?_
  refine jj_iret dX8_undoable_7 rfl (Nat.zero_le _) (Nat.zero_le _) ?_
  exact ⟨rfl, rfl⟩
theorem ex_save0 (hX : hXo T R S xo p p2 a a2) : Ex Γ (d + 8) Y_X8_save [.ref xo, .int (nI 0)] (T, R, S, blk 19 I a K, L, D, none) (ec (orE (eAir (I xo)) (orE (eIdx (nI 0) 2) 0))) (es (orE (eAir (I xo)) (orE (eIdx (nI 0) 2) 0))) (cA (orE (eAir (I xo)) (orE (eIdx (nI 0) 2) 0)) (some (.int (K 0 0))) (T, R, S, blk 19 I a K, L, D, none) (T, R, S, blk 19 (u2 (blk 19 I (xo + 189) (kCp (sK I (xo + 189)) K)) xo 9 1) a K, u2 L (xo + 189) 1 (L a 1), D, none)) := by
  have hps := hX.ps
  have e := ex_cpI (Γ := Γ) (d := d + 4) (S := S) (I := blk 19 I a K) (L := L) (D := D) (z := none) hX.s0 hX.ha (by omega)
  rw [cpB_blk (by omega), blk19 (by omega)] at e
  refine Ex.of (by decide) (by simp [Value.category]) (Nat.le_of_ble_eq_true rfl) rfl ?_
  refine jj_aload_n (q := 1) dX8_save_0 rfl rfl rfl ?_
  refine jj_nV0 (q := 4) dX8_save_1 yk_X8_needAirport ml_X8_168 hX.1 (ex_needAirport (hX.cx I)) rfl rfl rfl rfl (fun g1 => ?_)
  refine jj_iload_n (q := 5) dX8_save_4 rfl rfl rfl ?_
  refine jj_iconst (v := 2) (q := 6) dX8_save_5 rfl rfl ?_
  refine jj_nS2 (q := 9) dX8_save_6 yk_X8_needIndex ml_X8_171 ex_needIndex rfl rfl rfl rfl (fun g6 => ?_)
  refine jj_iload_n (q := 10) dX8_save_9 rfl rfl rfl ?_
  refine jj_if_ne (q := 13) (tgt := 32) dX8_save_10 rfl rfl (fun h10 => by exfalso; exact h10 rfl) (fun h10 => ?_)
  refine jj_aload_n (q := 14) dX8_save_13 rfl rfl rfl ?_
  refine jj_getS (q := 17) dX8_save_14 fl_X8_47 hX.1 hX.2.2.2.1.2.2.2.2.2.2.1 rfl rfl rfl ?_
  refine jj_aload_n (q := 18) dX8_save_17 rfl rfl rfl ?_
  refine jj_getS (q := 21) dX8_save_18 fl_X8_33 hX.1 hX.2.2.2.1.2.2.2.1 rfl rfl rfl ?_
  refine jj_cV1v (q := 24) dX8_save_21 yk_X4_copyFrom ml_X8_285 hX.s0.t0 e rfl rfl rfl ⟨Nat.zero_le _, Nat.zero_le _⟩ ?_
  refine jj_aload_n (q := 25) dX8_save_24 rfl rfl rfl ?_
  refine jj_iconst (v := 1) (q := 26) dX8_save_25 rfl rfl ?_
  refine jj_putIv (q := 29) dX8_save_26 fl_X8_53 hX.1 (u2_out (by omega)) rfl rfl (by first | rfl | assumption) (by first | rfl | assumption) rfl ?_
  refine jj_goto (tgt := 48) dX8_save_29 rfl ?_
  refine jj_aload_n (q := 49) dX8_save_48 rfl rfl rfl ?_
  refine jj_getS (q := 52) dX8_save_49 fl_X8_33 hX.1 hX.2.2.2.1.2.2.2.1 rfl rfl rfl ?_
  refine jj_getIv (q := 55) dX8_save_52 fl_X8_110 hX.ha.t0 (blk_0 (by decide)) rfl rfl ?_
  refine jj_iret dX8_save_55 rfl (Nat.zero_le _) (Nat.zero_le _) ?_
  exact cA_i rfl
theorem ex_save1 (hX : hXo T R S xo p p2 a a2) : Ex Γ (d + 8) Y_X8_save [.ref xo, .int (nI 1)] (T, R, S, blk 19 I a K, L, D, none) (ec (orE (eAir (I xo)) (orE (eIdx (nI 1) 2) 0))) (es (orE (eAir (I xo)) (orE (eIdx (nI 1) 2) 0))) (cA (orE (eAir (I xo)) (orE (eIdx (nI 1) 2) 0)) (some (.int (K 0 0))) (T, R, S, blk 19 I a K, L, D, none) (T, R, S, blk 19 (u2 (blk 19 I (xo + 208) (kCp (sK I (xo + 208)) K)) xo 10 1) a K, u2 L (xo + 208) 1 (L a 1), D, none)) := by
  have hps := hX.ps
  have e := ex_cpI (Γ := Γ) (d := d + 4) (S := S) (I := blk 19 I a K) (L := L) (D := D) (z := none) hX.s1 hX.ha (by omega)
  rw [cpB_blk (by omega), blk19 (by omega)] at e
  refine Ex.of (by decide) (by simp [Value.category]) (Nat.le_of_ble_eq_true rfl) rfl ?_
  refine jj_aload_n (q := 1) dX8_save_0 rfl rfl rfl ?_
  refine jj_nV0 (q := 4) dX8_save_1 yk_X8_needAirport ml_X8_168 hX.1 (ex_needAirport (hX.cx I)) rfl rfl rfl rfl (fun g1 => ?_)
  refine jj_iload_n (q := 5) dX8_save_4 rfl rfl rfl ?_
  refine jj_iconst (v := 2) (q := 6) dX8_save_5 rfl rfl ?_
  refine jj_nS2 (q := 9) dX8_save_6 yk_X8_needIndex ml_X8_171 ex_needIndex rfl rfl rfl rfl (fun g6 => ?_)
  refine jj_iload_n (q := 10) dX8_save_9 rfl rfl rfl ?_
  refine jj_if_ne (q := 13) (tgt := 32) dX8_save_10 rfl rfl (fun h10 => ?_) (fun h10 => by exfalso; exact absurd h10 (by decide))
  refine jj_aload_n (q := 33) dX8_save_32 rfl rfl rfl ?_
  refine jj_getS (q := 36) dX8_save_33 fl_X8_50 hX.1 hX.2.2.2.1.2.2.2.2.2.2.2.1 rfl rfl rfl ?_
  refine jj_aload_n (q := 37) dX8_save_36 rfl rfl rfl ?_
  refine jj_getS (q := 40) dX8_save_37 fl_X8_33 hX.1 hX.2.2.2.1.2.2.2.1 rfl rfl rfl ?_
  refine jj_cV1v (q := 43) dX8_save_40 yk_X4_copyFrom ml_X8_285 hX.s1.t0 e rfl rfl rfl ⟨Nat.zero_le _, Nat.zero_le _⟩ ?_
  refine jj_aload_n (q := 44) dX8_save_43 rfl rfl rfl ?_
  refine jj_iconst (v := 1) (q := 45) dX8_save_44 rfl rfl ?_
  refine jj_putIv (q := 48) dX8_save_45 fl_X8_56 hX.1 (u2_out (by omega)) rfl rfl (by first | rfl | assumption) (by first | rfl | assumption) rfl ?_
  refine jj_aload_n (q := 49) dX8_save_48 rfl rfl rfl ?_
  refine jj_getS (q := 52) dX8_save_49 fl_X8_33 hX.1 hX.2.2.2.1.2.2.2.1 rfl rfl rfl ?_
  refine jj_getIv (q := 55) dX8_save_52 fl_X8_110 hX.ha.t0 (blk_0 (by decide)) rfl rfl ?_
  refine jj_iret dX8_save_55 rfl (Nat.zero_le _) (Nat.zero_le _) ?_
  exact cA_i rfl
theorem ex_save_out (hX : hXo T R S xo p p2 a a2) {i : Int32} (hi : eIdx i 2 = 2) : Ex Γ (d + 8) Y_X8_save [.ref xo, .int i] (T, R, S, blk 19 I a K, L, D, none) (ec (orE (eAir (I xo)) 2)) (es (orE (eAir (I xo)) 2)) (cA (orE (eAir (I xo)) 2) none (T, R, S, blk 19 I a K, L, D, none) (T, R, S, blk 19 I a K, L, D, none)) := by
  rw [show orE (eAir (I xo)) 2 = orE (eAir (I xo)) (orE (eIdx i 2) 0) by rw [hi]; rfl]
  refine Ex.of (by decide) (by simp [Value.category]) (Nat.le_of_ble_eq_true rfl) rfl ?_
  refine jj_aload_n (q := 1) dX8_save_0 rfl rfl rfl ?_
  refine jj_nV0 (q := 4) dX8_save_1 yk_X8_needAirport ml_X8_168 hX.1 (ex_needAirport (hX.cx I)) rfl rfl rfl rfl (fun g1 => ?_)
  refine jj_iload_n (q := 5) dX8_save_4 rfl rfl rfl ?_
  refine jj_iconst (v := 2) (q := 6) dX8_save_5 rfl rfl ?_
  refine jj_nS2 (q := 9) dX8_save_6 yk_X8_needIndex ml_X8_171 ex_needIndex rfl rfl rfl rfl (fun g6 => ?_)
  rw [hi] at g6
  cases g6
theorem ex_restore_out (hX : hXo T R S xo p p2 a a2) {i : Int32} (hi : eIdx i 2 = 2) : Ex Γ (d + 8) Y_X8_restore [.ref xo, .int i] (T, R, S, blk 19 I a K, L, D, none) (ec (orE (eIdx i 2) 0)) (es (orE (eIdx i 2) 0)) (cA (orE (eIdx i 2) 0) none (T, R, S, blk 19 I a K, L, D, none) (T, R, S, blk 19 I a K, L, D, none)) := by
  refine Ex.of (by decide) (by simp [Value.category]) (Nat.le_of_ble_eq_true rfl) rfl ?_
  refine jj_iload_n (q := 1) dX8_restore_0 rfl rfl rfl ?_
  refine jj_iconst (v := 2) (q := 2) dX8_restore_1 rfl rfl ?_
  refine jj_nS2 (q := 5) dX8_restore_2 yk_X8_needIndex ml_X8_171 ex_needIndex rfl rfl rfl rfl (fun g2 => ?_)
  rw [hi] at g2
  cases g2
theorem ex_restore0 (hX : hXo T R S xo p p2 a a2) : Ex Γ (d + 8) Y_X8_restore [.ref xo, .int (nI 0)] (T, R, S, blk 19 I a K, L, D, none) (ec (orE (eIdx (nI 0) 2) (if I xo 9 = 0 then 1 else 0))) (es (orE (eIdx (nI 0) 2) (if I xo 9 = 0 then 1 else 0))) (cA (orE (eIdx (nI 0) 2) (if I xo 9 = 0 then 1 else 0)) (some (.int (I (xo + 189) 0))) (T, R, S, blk 19 I a K, L, D, none) (T, R, S, blk 19 (u2 I (xo + 73) 0 0) a (kCp K (sK I (xo + 189))), u2 L a 1 (L (xo + 189) 1), D, none)) := by
  have hps := hX.ps
  have e := ex_cpI (Γ := Γ) (d := d + 4) (S := S) (I := blk 19 I a K) (L := L) (D := D) (z := none) hX.ha hX.s0 (by omega)
  have e2 : cpB (blk 19 I a K) a (xo + 189) = blk 19 I a (kCp K (sK I (xo + 189))) := by
    unfold cpB
    rw [blk_blk]
    exact blk_cg (kCp_cg (fun k hk => blk_k hk) (fun k hk => blk_out (by omega)))
  rw [e2] at e
  refine Ex.of (by decide) (by simp [Value.category]) (Nat.le_of_ble_eq_true rfl) rfl ?_
  refine jj_iload_n (q := 1) dX8_restore_0 rfl rfl rfl ?_
  refine jj_iconst (v := 2) (q := 2) dX8_restore_1 rfl rfl ?_
  refine jj_nS2 (q := 5) dX8_restore_2 yk_X8_needIndex ml_X8_171 ex_needIndex rfl rfl rfl rfl (fun g2 => ?_)
  refine jj_iload_n (q := 6) dX8_restore_5 rfl rfl rfl ?_
  refine jj_if_ne (q := 9) (tgt := 19) dX8_restore_6 rfl rfl (fun h6 => by exfalso; exact h6 rfl) (fun h6 => ?_)
  refine jj_aload_n (q := 10) dX8_restore_9 rfl rfl rfl ?_
  refine jj_getIv (q := 13) dX8_restore_10 fl_X8_53 hX.1 (hX.cx I).rd rfl rfl ?_
  refine jj_if_ne (q := 16) (tgt := 37) dX8_restore_13 rfl rfl (fun h13 => ?_) (fun h13 => ?_)
  · rw [if_neg h13]
    refine jj_aload_n (q := 38) dX8_restore_37 rfl rfl rfl ?_
    refine jj_getS (q := 41) dX8_restore_38 fl_X8_33 hX.1 hX.2.2.2.1.2.2.2.1 rfl rfl rfl ?_
    refine jj_iload_n (q := 42) dX8_restore_41 rfl rfl rfl ?_
    refine jj_if_ne (q := 45) (tgt := 52) dX8_restore_42 rfl rfl (fun h42 => by exfalso; exact h42 rfl) (fun h42 => ?_)
    refine jj_aload_n (q := 46) dX8_restore_45 rfl rfl rfl ?_
    refine jj_getS (q := 49) dX8_restore_46 fl_X8_47 hX.1 hX.2.2.2.1.2.2.2.2.2.2.1 rfl rfl rfl ?_
    refine jj_goto (tgt := 56) dX8_restore_49 rfl ?_
    refine jj_cV1v (q := 59) dX8_restore_56 yk_X4_copyFrom ml_X8_285 hX.ha.t0 e rfl rfl rfl ⟨Nat.zero_le _, Nat.zero_le _⟩ ?_
    refine jj_aload_n (q := 60) dX8_restore_59 rfl rfl rfl ?_
    refine jj_getS (q := 63) dX8_restore_60 fl_X8_43 hX.1 hX.2.2.2.1.2.2.2.2.2.1 rfl rfl rfl ?_
    refine jj_iconst (v := 0) (q := 64) dX8_restore_63 rfl rfl ?_
    refine jj_putIv (q := 67) dX8_restore_64 fl_X8_330 hX.hi.1.1 (u2_out (by omega)) rfl rfl rfl rfl rfl ?_
    refine jj_aload_n (q := 68) dX8_restore_67 rfl rfl rfl ?_
    refine jj_getS (q := 71) dX8_restore_68 fl_X8_33 hX.1 hX.2.2.2.1.2.2.2.1 rfl rfl rfl ?_
    refine jj_getIv (q := 74) dX8_restore_71 fl_X8_110 hX.ha.t0 (blk_0 (by decide)) rfl rfl ?_
    refine jj_iret dX8_restore_74 rfl (Nat.zero_le _) (Nat.zero_le _) ?_
    exact cA_i rfl
  · refine jj_goto (tgt := 26) dX8_restore_16 rfl ?_
    rw [if_pos h13]
    refine jj_throwW xok_3 ks_X8_339 rfl dX8_restore_26 dX8_restore_29 dX8_restore_30 dX8_restore_33 dX8_restore_36 (by show 5 < _ + _; omega) (by show 90 ≤ 40 * (_ + _); omega) (by decide) ⟨Nat.le_refl _, Nat.le_refl _⟩ (Nat.le_refl _) (Nat.le_refl _) ?_
    exact ⟨rfl, rfl⟩
theorem ex_restore1 (hX : hXo T R S xo p p2 a a2) : Ex Γ (d + 8) Y_X8_restore [.ref xo, .int (nI 1)] (T, R, S, blk 19 I a K, L, D, none) (ec (orE (eIdx (nI 1) 2) (if I xo 10 = 0 then 1 else 0))) (es (orE (eIdx (nI 1) 2) (if I xo 10 = 0 then 1 else 0))) (cA (orE (eIdx (nI 1) 2) (if I xo 10 = 0 then 1 else 0)) (some (.int (I (xo + 208) 0))) (T, R, S, blk 19 I a K, L, D, none) (T, R, S, blk 19 (u2 I (xo + 73) 0 0) a (kCp K (sK I (xo + 208))), u2 L a 1 (L (xo + 208) 1), D, none)) := by
  have hps := hX.ps
  have e := ex_cpI (Γ := Γ) (d := d + 4) (S := S) (I := blk 19 I a K) (L := L) (D := D) (z := none) hX.ha hX.s1 (by omega)
  have e2 : cpB (blk 19 I a K) a (xo + 208) = blk 19 I a (kCp K (sK I (xo + 208))) := by
    unfold cpB
    rw [blk_blk]
    exact blk_cg (kCp_cg (fun k hk => blk_k hk) (fun k hk => blk_out (by omega)))
  rw [e2] at e
  refine Ex.of (by decide) (by simp [Value.category]) (Nat.le_of_ble_eq_true rfl) rfl ?_
  refine jj_iload_n (q := 1) dX8_restore_0 rfl rfl rfl ?_
  refine jj_iconst (v := 2) (q := 2) dX8_restore_1 rfl rfl ?_
  refine jj_nS2 (q := 5) dX8_restore_2 yk_X8_needIndex ml_X8_171 ex_needIndex rfl rfl rfl rfl (fun g2 => ?_)
  refine jj_iload_n (q := 6) dX8_restore_5 rfl rfl rfl ?_
  refine jj_if_ne (q := 9) (tgt := 19) dX8_restore_6 rfl rfl (fun h6 => ?_) (fun h6 => by exfalso; exact absurd h6 (by decide))
  refine jj_aload_n (q := 20) dX8_restore_19 rfl rfl rfl ?_
  refine jj_getIv (q := 23) dX8_restore_20 fl_X8_56 hX.1 (hX.cx I).rd rfl rfl ?_
  refine jj_if_ne (q := 26) (tgt := 37) dX8_restore_23 rfl rfl (fun h23 => ?_) (fun h23 => ?_)
  · rw [if_neg h23]
    refine jj_aload_n (q := 38) dX8_restore_37 rfl rfl rfl ?_
    refine jj_getS (q := 41) dX8_restore_38 fl_X8_33 hX.1 hX.2.2.2.1.2.2.2.1 rfl rfl rfl ?_
    refine jj_iload_n (q := 42) dX8_restore_41 rfl rfl rfl ?_
    refine jj_if_ne (q := 45) (tgt := 52) dX8_restore_42 rfl rfl (fun h42 => ?_) (fun h42 => by exfalso; exact absurd h42 (by decide))
    refine jj_aload_n (q := 53) dX8_restore_52 rfl rfl rfl ?_
    refine jj_getS (q := 56) dX8_restore_53 fl_X8_50 hX.1 hX.2.2.2.1.2.2.2.2.2.2.2.1 rfl rfl rfl ?_
    refine jj_cV1v (q := 59) dX8_restore_56 yk_X4_copyFrom ml_X8_285 hX.ha.t0 e rfl rfl rfl ⟨Nat.zero_le _, Nat.zero_le _⟩ ?_
    refine jj_aload_n (q := 60) dX8_restore_59 rfl rfl rfl ?_
    refine jj_getS (q := 63) dX8_restore_60 fl_X8_43 hX.1 hX.2.2.2.1.2.2.2.2.2.1 rfl rfl rfl ?_
    refine jj_iconst (v := 0) (q := 64) dX8_restore_63 rfl rfl ?_
    refine jj_putIv (q := 67) dX8_restore_64 fl_X8_330 hX.hi.1.1 (u2_out (by omega)) rfl rfl rfl rfl rfl ?_
    refine jj_aload_n (q := 68) dX8_restore_67 rfl rfl rfl ?_
    refine jj_getS (q := 71) dX8_restore_68 fl_X8_33 hX.1 hX.2.2.2.1.2.2.2.1 rfl rfl rfl ?_
    refine jj_getIv (q := 74) dX8_restore_71 fl_X8_110 hX.ha.t0 (blk_0 (by decide)) rfl rfl ?_
    refine jj_iret dX8_restore_74 rfl (Nat.zero_le _) (Nat.zero_le _) ?_
    exact cA_i rfl
  · rw [if_pos h23]
    refine jj_throwW xok_3 ks_X8_339 rfl dX8_restore_26 dX8_restore_29 dX8_restore_30 dX8_restore_33 dX8_restore_36 (by show 5 < _ + _; omega) (by show 90 ≤ 40 * (_ + _); omega) (by decide) ⟨Nat.le_refl _, Nat.le_refl _⟩ (Nat.le_refl _) (Nat.le_refl _) ?_
    exact ⟨rfl, rfl⟩
end M70
