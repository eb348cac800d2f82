/-! APPEND of the component -/
theorem sg_8 : ∀ k : Fin 256, (Int8.ofNat k.1).toInt32 = sgB k.1 := by decide +kernel
theorem by8_lt {w v : Int32} : nN (by8 w v) < 256 ∧ by8 w v = nI (nN (by8 w v)) := by
  have e : (by8 w v).toBitVec.toNat = (w >>> (v &&& 31)).toBitVec.toNat % 256 := by
    show ((w >>> (v &&& 31)).toBitVec &&& 255#32).toNat = _
    rw [BitVec.toNat_and]
    exact Nat.and_two_pow_sub_one_eq_mod _ 8
  have h : by8 w v = nI ((w >>> (v &&& 31)).toBitVec.toNat % 256) := by
    apply i32_ext
    rw [e, nI_tn (by omega)]
  rw [h, nN_nI (by omega)]
  exact ⟨by omega, rfl⟩
theorem by8_sg {w v : Int32} : (w >>> (v &&& 31)).toInt8.toInt32 = sgB (nN (by8 w v)) := by
  have e : (by8 w v).toBitVec.toNat = (w >>> (v &&& 31)).toBitVec.toNat % 256 := by
    show ((w >>> (v &&& 31)).toBitVec &&& 255#32).toNat = _
    rw [BitVec.toNat_and]
    exact Nat.and_two_pow_sub_one_eq_mod _ 8
  have h : by8 w v = nI ((w >>> (v &&& 31)).toBitVec.toNat % 256) := by
    apply i32_ext
    rw [e, nI_tn (by omega)]
  rw [h, nN_nI (by omega), ← sg_8 ⟨(w >>> (v &&& 31)).toBitVec.toNat % 256, by omega⟩]
  congr 1
  apply Int8.toBitVec.inj
  apply BitVec.eq_of_toNat_eq
  rw [Int32.toBitVec_toInt8, BitVec.signExtend_eq_setWidth_of_le _ (by omega)]
  show ((w >>> (v &&& 31)).toBitVec.setWidth 8).toNat = (BitVec.ofNat 8 ((w >>> (v &&& 31)).toBitVec.toNat % 256)).toNat
  rw [BitVec.toNat_setWidth, BitVec.toNat_ofNat]
  omega
theorem sg_idem (x : Int32) : x.toInt8.toInt32.toInt8.toInt32 = x.toInt8.toInt32 := by
  rw [Int8.toInt8_toInt32]
def sg8 (w v : Int32) : Int32 := (w >>> (v &&& 31)).toInt8.toInt32
def fourC (C : JI) (n : Nat) (w : Int32) : JI := u2 (u2 (u2 (u2 C 1 n (sg8 w 24)) 1 (n + 1) (sg8 w 16)) 1 (n + 2) (sg8 w 8)) 1 (n + 3) (sg8 w 0)
def appC (C : JI) (n : Nat) (a c e g i : Int32) : JI := fourC (fourC (fourC (fourC (fourC C n a) (n + 4) c) (n + 4 + 4) e) (n + 4 + 4 + 4) g) (n + 4 + 4 + 4 + 4) i
section B5
variable {Γ : Gam} {d : Nat} {T : JT} {R S : JR} {I C : JI} {L : JL} {D : JD} {z : Option Nat} {pa xo : Nat} {F : JV}
theorem cfour_it (hp : hPa T R pa) {n : Nat} (h2 : F 2 = nI n) (hn : n < 1200) {w v2 v3 : Int32} (hv : ¬ v2 < 0) (h3 : v2 + Int32.ofInt (-8) = v3) {Zf : List Frame → Array Value → State → State → Prop} (hz : JJ Γ (jj_E Y_X2_addInt) Zf (jj_rm d 0 0) 0 0 3 [some (.ref pa), some (.int w), some (.int v3)] [] (T, R, S, blk 2 I pa (st (u2 C 1 n (sg8 w v2)) 0 (w1 F 2 (nI (n + 1)))), L, D, z)) : JJ Γ (jj_E Y_X2_addInt) Zf (jj_rm d 0 0) 0 0 3 [some (.ref pa), some (.int w), some (.int v2)] [] (T, R, S, blk 2 I pa (st C 0 F), L, D, z) := by
  refine jj_iload_n (q := 4) dX2_addInt_3 rfl rfl rfl ?_
  refine jj_if_lt (q := 7) (tgt := 55) dX2_addInt_4 rfl rfl (fun h4 => by exfalso; exact hv h4) (fun h4 => ?_)
  refine jj_aload_n (q := 8) dX2_addInt_7 rfl rfl rfl ?_
  refine jj_getIw (v := nI n) (q := 11) dX2_addInt_8 fl_X2_18 hp.t0 (by rw [p2_rd]; exact h2) rfl rfl ?_
  refine jj_if_lt (q := 14) (tgt := 55) dX2_addInt_11 rfl rfl (fun h11 => absurd h11 (nI_ltz (by omega))) (fun h11 => ?_)
  refine jj_aload_n (q := 15) dX2_addInt_14 rfl rfl rfl ?_
  refine jj_getIw (v := nI n) (q := 18) dX2_addInt_15 fl_X2_18 hp.t0 (by rw [p2_rd]; exact h2) rfl rfl ?_
  refine jj_aload_n (q := 19) dX2_addInt_18 rfl rfl rfl ?_
  refine jj_getR (q := 22) dX2_addInt_19 fl_X2_21 hp.t0 hp.r0_3 rfl rfl rfl ?_
  refine jj_alen (q := 23) dX2_addInt_22 hp.t1 (by decide) rfl rfl ?_
  refine jj_icmp_ge (q := 26) (tgt := 55) dX2_addInt_23 rfl rfl (fun h23 => absurd h23 (nI_ge (b := 1200) hn (by omega))) (fun h23 => ?_)
  refine jj_aload_n (q := 27) dX2_addInt_26 rfl rfl rfl ?_
  refine jj_getR (q := 30) dX2_addInt_27 fl_X2_21 hp.t0 hp.r0_3 rfl rfl rfl ?_
  refine jj_aload_n (q := 31) dX2_addInt_30 rfl rfl rfl ?_
  refine jj_getIw (v := nI n) (q := 34) dX2_addInt_31 fl_X2_18 hp.t0 (by rw [p2_rd]; exact h2) rfl rfl ?_
  refine jj_iload_n (q := 35) dX2_addInt_34 rfl rfl rfl ?_
  refine jj_iload_n (q := 36) dX2_addInt_35 rfl rfl rfl ?_
  refine jj_ishr (q := 37) dX2_addInt_36 rfl ?_
  refine jj_i2b (q := 38) dX2_addInt_37 rfl ?_
  refine jj_bastv (q := 39) dX2_addInt_38 hp.t1 (u2_bsk (by decide) (by decide)) (nI_in hn (by omega)) rfl ?_
  rw [nI_clamp (show n < 2 ^ 31 by omega), sg_idem]
  rw [show (w >>> (v2 &&& 31)).toInt8.toInt32 = sg8 w v2 from rfl]
  refine jj_aload_n (q := 40) dX2_addInt_39 rfl rfl rfl ?_
  refine jj_dup (q := 41) dX2_addInt_40 rfl rfl ?_
  refine jj_getIw (v := nI n) (q := 44) dX2_addInt_41 fl_X2_18 hp.t0 (by rw [p2_rd]; exact h2) rfl rfl ?_
  refine jj_iconst (v := 1) (q := 45) dX2_addInt_44 rfl rfl ?_
  refine jj_iaddN (q := 46) (a := n) (b := 1) dX2_addInt_45 rfl rfl rfl ?_
  refine jj_putIv (q := 49) dX2_addInt_46 fl_X2_18 hp.t0 p2_wr rfl rfl rfl rfl rfl ?_
  refine jj_iinc (v := v3) (q := 52) dX2_addInt_49 rfl h3 (by decide) rfl ?_
  refine jj_goto (tgt := 3) dX2_addInt_52 rfl ?_
  exact hz
theorem ex_addInt (hp : hPa T R pa) {n : Nat} (h2 : F 2 = nI n) (hn : n + 4 ≤ 1200) {w : Int32} : Ex Γ d Y_X2_addInt [.ref pa, .int w] (T, R, S, blk 2 I pa (st C 0 F), L, D, z) 0 0 (rV (T, R, S, blk 2 I pa (st (fourC C n w) 0 (w1 F 2 (nI (n + 4)))), L, D, z)) := by
  refine Ex.of (by decide) (by simp [Value.category]) (Nat.le_of_ble_eq_true rfl) rfl ?_
  refine jj_bipush (v := 24) (q := 2) dX2_addInt_0 rfl rfl ?_
  refine jj_istore_n (q := 3) dX2_addInt_2 rfl (by decide) rfl ?_
  refine cfour_it hp h2 (by omega) (by decide) (v3 := 16) (by decide) ?_
  refine cfour_it hp w1_eq (by omega) (by decide) (v3 := 8) (by decide) ?_
  refine cfour_it hp w1_eq (by omega) (by decide) (v3 := 0) (by decide) ?_
  refine cfour_it hp w1_eq (by omega) (by decide) (v3 := -8) (by decide) ?_
  rw [w1_w1, w1_w1, w1_w1]
  refine jj_iload_n (q := 4) dX2_addInt_3 rfl rfl rfl ?_
  refine jj_if_lt (q := 7) (tgt := 55) dX2_addInt_4 rfl rfl (fun h4 => ?_) (fun h4 => absurd (by decide) h4)
  refine jj_vret dX2_addInt_55 rfl (Nat.zero_le _) (Nat.zero_le _) ?_
  exact ⟨rfl, rfl⟩
theorem ex_append_no (hT : T xo = some (.inl 7)) (hS : S xo 0 = some pa) (hp : hPa T R pa) {n : Nat} (h2 : F 2 = nI n) (hn : 1180 < n) (hn2 : n ≤ 1200) {a c e g i : Int32} : Ex Γ (d + 1) Y_X8_append [.ref xo, .int a, .int c, .int e, .int g, .int i] (T, R, S, blk 2 I pa (st C 0 F), L, D, z) 0 0 (rI (-1) (T, R, S, blk 2 I pa (st C 0 F), L, D, z)) := by
  refine Ex.of (by decide) (by simp [Value.category]) (Nat.le_of_ble_eq_true rfl) rfl ?_
  refine jj_aload_n (q := 1) dX8_append_0 rfl rfl rfl ?_
  refine jj_getS (q := 4) dX8_append_1 fl_X8_10 hT hS rfl rfl rfl ?_
  refine jj_getIw (v := nI n) (q := 7) dX8_append_4 fl_X8_74 hp.t0 (by rw [p2_rd]; exact h2) rfl rfl ?_
  refine jj_bipush (v := 20) (q := 9) dX8_append_7 rfl rfl ?_
  refine jj_iaddN (q := 10) (a := n) (b := 20) dX8_append_9 rfl rfl rfl ?_
  refine jj_sipush (v := 1200) (q := 13) dX8_append_10 rfl rfl ?_
  refine jj_icmp_le (q := 16) (tgt := 18) dX8_append_13 rfl rfl (fun h13 => absurd h13 (nI_ge (a := 1200) (b := n + 20) (by omega) (by omega))) (fun h13 => ?_)
  refine jj_iconst (v := -1) (q := 17) dX8_append_16 rfl rfl ?_
  refine jj_iret dX8_append_17 rfl (Nat.zero_le _) (Nat.zero_le _) ?_
  exact ⟨rfl, rfl⟩
theorem ex_append_ok (hT : T xo = some (.inl 7)) (hS : S xo 0 = some pa) (hp : hPa T R pa) {n : Nat} (h2 : F 2 = nI n) (hn : n ≤ 1180) {a c e g i : Int32} : Ex Γ (d + 1) Y_X8_append [.ref xo, .int a, .int c, .int e, .int g, .int i] (T, R, S, blk 2 I pa (st C 0 F), L, D, z) 0 0 (rI (nI (n + 4 + 4 + 4 + 4 + 4)) (T, R, S, blk 2 I pa (st (appC C n a c e g i) 0 (w1 F 2 (nI (n + 4 + 4 + 4 + 4 + 4)))), L, D, z)) := by
  refine Ex.of (by decide) (by simp [Value.category]) (Nat.le_of_ble_eq_true rfl) rfl ?_
  refine jj_aload_n (q := 1) dX8_append_0 rfl rfl rfl ?_
  refine jj_getS (q := 4) dX8_append_1 fl_X8_10 hT hS rfl rfl rfl ?_
  refine jj_getIw (v := nI n) (q := 7) dX8_append_4 fl_X8_74 hp.t0 (by rw [p2_rd]; exact h2) rfl rfl ?_
  refine jj_bipush (v := 20) (q := 9) dX8_append_7 rfl rfl ?_
  refine jj_iaddN (q := 10) (a := n) (b := 20) dX8_append_9 rfl rfl rfl ?_
  refine jj_sipush (v := 1200) (q := 13) dX8_append_10 rfl rfl ?_
  refine jj_icmp_le (q := 16) (tgt := 18) dX8_append_13 rfl rfl (fun h13 => ?_) (fun h13 => absurd (nI_le (a := n + 20) (b := 1200) (by omega) (by omega)) h13)
  refine jj_aload_n (q := 19) dX8_append_18 rfl rfl rfl ?_
  refine jj_getS (q := 22) dX8_append_19 fl_X8_10 hT hS rfl rfl rfl ?_
  refine jj_iload_n (q := 23) dX8_append_22 rfl rfl rfl ?_
  refine jj_cV1v (q := 26) dX8_append_23 yk_X2_addInt ml_X8_78 hp.t0 (ex_addInt hp (n := n) h2 (by omega)) rfl rfl rfl ⟨Nat.zero_le _, Nat.zero_le _⟩ ?_
  refine jj_aload_n (q := 27) dX8_append_26 rfl rfl rfl ?_
  refine jj_getS (q := 30) dX8_append_27 fl_X8_10 hT hS rfl rfl rfl ?_
  refine jj_iload_n (q := 31) dX8_append_30 rfl rfl rfl ?_
  refine jj_cV1v (q := 34) dX8_append_31 yk_X2_addInt ml_X8_78 hp.t0 (ex_addInt hp (n := n + 4) w1_eq (by omega)) rfl rfl rfl ⟨Nat.zero_le _, Nat.zero_le _⟩ ?_
  refine jj_aload_n (q := 35) dX8_append_34 rfl rfl rfl ?_
  refine jj_getS (q := 38) dX8_append_35 fl_X8_10 hT hS rfl rfl rfl ?_
  refine jj_iload_n (q := 39) dX8_append_38 rfl rfl rfl ?_
  refine jj_cV1v (q := 42) dX8_append_39 yk_X2_addInt ml_X8_78 hp.t0 (ex_addInt hp (n := n + 4 + 4) w1_eq (by omega)) rfl rfl rfl ⟨Nat.zero_le _, Nat.zero_le _⟩ ?_
  refine jj_aload_n (q := 43) dX8_append_42 rfl rfl rfl ?_
  refine jj_getS (q := 46) dX8_append_43 fl_X8_10 hT hS rfl rfl rfl ?_
  refine jj_iload (q := 48) dX8_append_46 rfl rfl ?_
  refine jj_cV1v (q := 51) dX8_append_48 yk_X2_addInt ml_X8_78 hp.t0 (ex_addInt hp (n := n + 4 + 4 + 4) w1_eq (by omega)) rfl rfl rfl ⟨Nat.zero_le _, Nat.zero_le _⟩ ?_
  refine jj_aload_n (q := 52) dX8_append_51 rfl rfl rfl ?_
  refine jj_getS (q := 55) dX8_append_52 fl_X8_10 hT hS rfl rfl rfl ?_
  refine jj_iload (q := 57) dX8_append_55 rfl rfl ?_
  refine jj_cV1v (q := 60) dX8_append_57 yk_X2_addInt ml_X8_78 hp.t0 (ex_addInt hp (n := n + 4 + 4 + 4 + 4) w1_eq (by omega)) rfl rfl rfl ⟨Nat.zero_le _, Nat.zero_le _⟩ ?_
  refine jj_aload_n (q := 61) dX8_append_60 rfl rfl rfl ?_
  refine jj_getS (q := 64) dX8_append_61 fl_X8_10 hT hS rfl rfl rfl ?_
  refine jj_getIw (v := nI (n + 4 + 4 + 4 + 4 + 4)) (q := 67) dX8_append_64 fl_X8_74 hp.t0 (by rw [p2_rd, w1_eq]) rfl rfl ?_
  refine jj_iret dX8_append_67 rfl (Nat.zero_le _) (Nat.zero_le _) ?_
  exact ⟨rfl, by rw [w1_w1, w1_w1, w1_w1, w1_w1]; rfl⟩
end B5
