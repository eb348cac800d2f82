/-! BAGS AND STATE: the simple methods, over the block of 19 cells of a state: K k j is cell k's place j -/
def kPh (K : JI) (f : Int32) : Int32 := if atV 8 (K 9) f ≤ K 0 0 then (if atV 8 (K 10) f ≤ K 0 0 then 2 else 1) else 0
def kPhB (K : JI) (b : Int32) : Int32 := kPh K (atV 100 (K 3) b)
def kCh1 (K : JI) (b : Int32) : JI := putI K 8 14 (atV 100 (K 2) b) (atV 14 (K 8) (atV 100 (K 2) b) - 1)
def kCh2 (K : JI) (b st : Int32) : JI := putI (kCh1 K b) 8 14 st (atV 14 (kCh1 K b 8) st + 1)
def kCh (K : JI) (b st : Int32) : JI := putI (kCh2 K b st) 2 100 b st
def kEn1 (K : JI) (b st : Int32) : JI := if st < 10 then kCh K b st else putI (kCh K b st) 7 100 b (kCh K b st 0 0)
def evW (K : JI) (b st : Int32) : Int32 := K 0 0 <<< ((14 : Int32) &&& 31) ||| st <<< ((10 : Int32) &&& 31) ||| b <<< ((3 : Int32) &&& 31) ||| atV 100 (K 3) b
def kLog (K : JI) (b st : Int32) : JI := u2 (putI K 18 300 (K 0 14) (evW K b st)) 0 14 (putI K 18 300 (K 0 14) (evW K b st) 0 14 + 1)
def kEn (K : JI) (b st : Int32) : JI := if st < 9 then kEn1 K b st else if 300 ≤ kEn1 K b st 0 14 then kEn1 K b st else kLog (kEn1 K b st) b st
def kDly (K : JI) (f by_ : Int32) : JI := if kPh K f = 0 then putI (putI K 9 8 f (atV 8 (K 9) f + by_)) 10 8 f (atV 8 ((putI K 9 8 f (atV 8 (K 9) f + by_)) 10) f + by_) else putI K 10 8 f (atV 8 (K 10) f + by_)
def kAF (K : JI) : Int32 := if K 8 10 + K 8 11 + K 8 12 + K 8 13 = K 1 0 then 1 else 0
def rDraw (r : Int64) : Int64 := (r * 1103515245 + 12345) &&& 2147483647
def dDraw (r : Int64) : Int32 := (rDraw r / 65536 - rDraw r / 65536 / 1000 * 1000).toInt32
section M18
variable {Γ : Gam} {d : Nat} {T : JT} {R S : JR} {I K : JI} {L : JL} {D : JD} {z : Option Nat} {a : Nat} {r : Int64}
theorem ex_phase {f : Int32} (hs : hSt T R a) : Ex Γ (d + 1) Y_X4_phase [.ref a, .int f] (T, R, S, blk 19 I a K, L, D, z) 0 0 (rI (kPh K f) (T, R, S, blk 19 I a K, L, D, z)) := by
  refine Ex.of (by decide) (by simp [Value.category]) (Nat.le_of_ble_eq_true rfl) rfl ?_
  refine jj_aload_n (q := 1) dX4_phase_0 rfl rfl rfl ?_
  refine jj_getIv (q := 4) dX4_phase_1 fl_X4_9 hs.t0 (blk_0 (by decide)) rfl rfl ?_
  refine jj_aload_n (q := 5) dX4_phase_4 rfl rfl rfl ?_
  refine jj_getR (q := 8) dX4_phase_5 fl_X4_32 hs.t0 hs.r0_5 rfl rfl rfl ?_
  refine jj_iload_n (q := 9) dX4_phase_8 rfl rfl rfl ?_
  refine jj_cN2i (q := 12) dX4_phase_9 yk_X8_at ml_X4_93 (ex_atv hs.t9 (blk_k (by decide)) rfl) rfl rfl rfl ⟨Nat.zero_le _, Nat.zero_le _⟩ ?_
  refine jj_icmp_ge (q := 15) (tgt := 17) dX4_phase_12 rfl rfl (fun h12 => ?_) (fun h12 => ?_)
  · refine jj_aload_n (q := 18) dX4_phase_17 rfl rfl rfl ?_
    refine jj_getIv (q := 21) dX4_phase_18 fl_X4_9 hs.t0 (blk_0 (by decide)) rfl rfl ?_
    refine jj_aload_n (q := 22) dX4_phase_21 rfl rfl rfl ?_
    refine jj_getR (q := 25) dX4_phase_22 fl_X4_36 hs.t0 hs.r0_6 rfl rfl rfl ?_
    refine jj_iload_n (q := 26) dX4_phase_25 rfl rfl rfl ?_
    refine jj_cN2i (q := 29) dX4_phase_26 yk_X8_at ml_X4_93 (ex_atv hs.t10 (blk_k (by decide)) rfl) rfl rfl rfl ⟨Nat.zero_le _, Nat.zero_le _⟩ ?_
    refine jj_icmp_ge (q := 32) (tgt := 36) dX4_phase_29 rfl rfl (fun h29 => ?_) (fun h29 => ?_)
    · refine jj_iconst (v := 2) (q := 37) dX4_phase_36 rfl rfl ?_
      refine jj_iret dX4_phase_37 rfl (Nat.zero_le _) (Nat.zero_le _) ?_
      exact ⟨by simp [kPh, h12, h29], rfl⟩
    · refine jj_iconst (v := 1) (q := 33) dX4_phase_32 rfl rfl ?_
      refine jj_goto (tgt := 37) dX4_phase_33 rfl ?_
      refine jj_iret dX4_phase_37 rfl (Nat.zero_le _) (Nat.zero_le _) ?_
      exact ⟨by simp [kPh, h12, h29], rfl⟩
  · refine jj_iconst (v := 0) (q := 16) dX4_phase_15 rfl rfl ?_
    refine jj_iret dX4_phase_16 rfl (Nat.zero_le _) (Nat.zero_le _) ?_
    exact ⟨by simp [kPh, h12], rfl⟩
theorem ex_phaseOfBag {b : Int32} (hs : hSt T R a) : Ex Γ (d + 2) Y_X4_phaseOfBag [.ref a, .int b] (T, R, S, blk 19 I a K, L, D, z) 0 0 (rI (kPhB K b) (T, R, S, blk 19 I a K, L, D, z)) := by
  refine Ex.of (by decide) (by simp [Value.category]) (Nat.le_of_ble_eq_true rfl) rfl ?_
  refine jj_aload_n (q := 1) dX4_phaseOfBag_0 rfl rfl rfl ?_
  refine jj_aload_n (q := 2) dX4_phaseOfBag_1 rfl rfl rfl ?_
  refine jj_getR (q := 5) dX4_phaseOfBag_2 fl_X4_28 hs.t0 hs.r0_4 rfl rfl rfl ?_
  refine jj_getR (q := 8) dX4_phaseOfBag_5 fl_X4_97 hs.t1 hs.r1_2 rfl rfl rfl ?_
  refine jj_iload_n (q := 9) dX4_phaseOfBag_8 rfl rfl rfl ?_
  refine jj_cN2i (q := 12) dX4_phaseOfBag_9 yk_X8_at ml_X4_93 (ex_atv hs.t3 (blk_k (by decide)) rfl) rfl rfl rfl ⟨Nat.zero_le _, Nat.zero_le _⟩ ?_
  refine jj_cV1i (q := 15) dX4_phaseOfBag_12 yk_X4_phase ml_X4_100 hs.t0 (ex_phase hs) rfl rfl rfl ⟨Nat.zero_le _, Nat.zero_le _⟩ ?_
  refine jj_iret dX4_phaseOfBag_15 rfl (Nat.zero_le _) (Nat.zero_le _) ?_
  exact ⟨rfl, rfl⟩
theorem ex_change {b st : Int32} (hs : hSt T R a) : Ex Γ (d + 1) Y_X0_change [.ref (a + 1), .int b, .int st] (T, R, S, blk 19 I a K, L, D, z) 0 0 (rV (T, R, S, blk 19 I a (kCh K b st), L, D, z)) := by
  refine Ex.of (by decide) (by simp [Value.category]) (Nat.le_of_ble_eq_true rfl) rfl ?_
  refine jj_aload_n (q := 1) dX0_change_0 rfl rfl rfl ?_
  refine jj_getR (q := 4) dX0_change_1 fl_X0_15 hs.t1 hs.r1_1 rfl rfl rfl ?_
  refine jj_iload_n (q := 5) dX0_change_4 rfl rfl rfl ?_
  refine jj_cN2i (q := 8) dX0_change_5 yk_X8_at ml_X0_47 (ex_atv hs.t2 (blk_k (by decide)) rfl) rfl rfl rfl ⟨Nat.zero_le _, Nat.zero_le _⟩ ?_
  refine jj_istore_n (q := 9) dX0_change_8 rfl (by decide) rfl ?_
  refine jj_aload_n (q := 10) dX0_change_9 rfl rfl rfl ?_
  refine jj_getR (q := 13) dX0_change_10 fl_X0_34 hs.t1 hs.r1_7 rfl rfl rfl ?_
  refine jj_iload_n (q := 14) dX0_change_13 rfl rfl rfl ?_
  refine jj_aload_n (q := 15) dX0_change_14 rfl rfl rfl ?_
  refine jj_getR (q := 18) dX0_change_15 fl_X0_34 hs.t1 hs.r1_7 rfl rfl rfl ?_
  refine jj_iload_n (q := 19) dX0_change_18 rfl rfl rfl ?_
  refine jj_cN2i (q := 22) dX0_change_19 yk_X8_at ml_X0_47 (ex_atv hs.t8 (blk_k (by decide)) rfl) rfl rfl rfl ⟨Nat.zero_le _, Nat.zero_le _⟩ ?_
  refine jj_iconst (v := 1) (q := 23) dX0_change_22 rfl rfl ?_
  refine jj_isub (q := 24) dX0_change_23 rfl ?_
  refine jj_cN3v (q := 27) dX0_change_24 yk_X8_put ml_X0_51 (ex_putv hs.t8 (putI_blk (by decide)) rfl) rfl rfl rfl ⟨Nat.zero_le _, Nat.zero_le _⟩ ?_
  refine jj_aload_n (q := 28) dX0_change_27 rfl rfl rfl ?_
  refine jj_getR (q := 31) dX0_change_28 fl_X0_34 hs.t1 hs.r1_7 rfl rfl rfl ?_
  refine jj_iload_n (q := 32) dX0_change_31 rfl rfl rfl ?_
  refine jj_aload_n (q := 33) dX0_change_32 rfl rfl rfl ?_
  refine jj_getR (q := 36) dX0_change_33 fl_X0_34 hs.t1 hs.r1_7 rfl rfl rfl ?_
  refine jj_iload_n (q := 37) dX0_change_36 rfl rfl rfl ?_
  refine jj_cN2i (q := 40) dX0_change_37 yk_X8_at ml_X0_47 (ex_atv hs.t8 (blk_k (by decide)) rfl) rfl rfl rfl ⟨Nat.zero_le _, Nat.zero_le _⟩ ?_
  refine jj_iconst (v := 1) (q := 41) dX0_change_40 rfl rfl ?_
  refine jj_iadd (q := 42) dX0_change_41 rfl ?_
  refine jj_cN3v (q := 45) dX0_change_42 yk_X8_put ml_X0_51 (ex_putv hs.t8 (putI_blk (by decide)) rfl) rfl rfl rfl ⟨Nat.zero_le _, Nat.zero_le _⟩ ?_
  refine jj_aload_n (q := 46) dX0_change_45 rfl rfl rfl ?_
  refine jj_getR (q := 49) dX0_change_46 fl_X0_15 hs.t1 hs.r1_1 rfl rfl rfl ?_
  refine jj_iload_n (q := 50) dX0_change_49 rfl rfl rfl ?_
  refine jj_iload_n (q := 51) dX0_change_50 rfl rfl rfl ?_
  refine jj_cN3v (q := 54) dX0_change_51 yk_X8_put ml_X0_51 (ex_putv hs.t2 (putI_blk (by decide)) rfl) rfl rfl rfl ⟨Nat.zero_le _, Nat.zero_le _⟩ ?_
  refine jj_vret dX0_change_54 rfl (Nat.zero_le _) (Nat.zero_le _) ?_
  exact ⟨rfl, rfl⟩
theorem ex_enter {b st : Int32} (hs : hSt T R a) : Ex Γ (d + 2) Y_X4_enter [.ref a, .int b, .int st] (T, R, S, blk 19 I a K, L, D, z) 0 0 (rV (T, R, S, blk 19 I a (kEn K b st), L, D, z)) := by
  refine Ex.of (by decide) (by simp [Value.category]) (Nat.le_of_ble_eq_true rfl) rfl ?_
  refine jj_aload_n (q := 1) dX4_enter_0 rfl rfl rfl ?_
  refine jj_getR (q := 4) dX4_enter_1 fl_X4_28 hs.t0 hs.r0_4 rfl rfl rfl ?_
  refine jj_iload_n (q := 5) dX4_enter_4 rfl rfl rfl ?_
  refine jj_iload_n (q := 6) dX4_enter_5 rfl rfl rfl ?_
  refine jj_cV2v (q := 9) dX4_enter_6 yk_X0_change ml_X4_108 hs.t1 (ex_change hs) rfl rfl rfl ⟨Nat.zero_le _, Nat.zero_le _⟩ ?_
  refine jj_iload_n (q := 10) dX4_enter_9 rfl rfl rfl ?_
  refine jj_cN1i (q := 13) dX4_enter_10 yk_X8_isFinished ml_X4_112 ex_isFinished rfl rfl rfl ⟨Nat.zero_le _, Nat.zero_le _⟩ ?_
  refine jj_if_eq (q := 16) (tgt := 31) dX4_enter_13 rfl rfl (fun h13 => ?_) (fun h13 => ?_)
  · try rw [fin_eq] at h13
    refine jj_iload_n (q := 32) dX4_enter_31 rfl rfl rfl ?_
    refine jj_bipush (v := 9) (q := 34) dX4_enter_32 rfl rfl ?_
    refine jj_icmp_lt (q := 37) (tgt := 96) dX4_enter_34 rfl rfl (fun h34 => ?_) (fun h34 => ?_)
    · refine jj_vret dX4_enter_96 rfl (Nat.zero_le _) (Nat.zero_le _) ?_
      exact ⟨rfl, by simp only [kEn, kEn1, h13, h34, ↓reduceIte]⟩
    · refine jj_aload_n (q := 38) dX4_enter_37 rfl rfl rfl ?_
      refine jj_getIv (q := 41) dX4_enter_38 fl_X4_60 hs.t0 (blk_0 (by decide)) rfl rfl ?_
      refine jj_sipush (v := 300) (q := 44) dX4_enter_41 rfl rfl ?_
      refine jj_icmp_ge (q := 47) (tgt := 96) dX4_enter_44 rfl rfl (fun h44 => ?_) (fun h44 => ?_)
      · refine jj_vret dX4_enter_96 rfl (Nat.zero_le _) (Nat.zero_le _) ?_
        exact ⟨rfl, by simp only [kEn, kEn1, h13, h34, h44, ↓reduceIte]⟩
      · refine jj_aload_n (q := 48) dX4_enter_47 rfl rfl rfl ?_
        refine jj_getR (q := 51) dX4_enter_48 fl_X4_63 hs.t0 hs.r0_15 rfl rfl rfl ?_
        refine jj_aload_n (q := 52) dX4_enter_51 rfl rfl rfl ?_
        refine jj_getIv (q := 55) dX4_enter_52 fl_X4_60 hs.t0 (blk_0 (by decide)) rfl rfl ?_
        refine jj_aload_n (q := 56) dX4_enter_55 rfl rfl rfl ?_
        refine jj_getIv (q := 59) dX4_enter_56 fl_X4_9 hs.t0 (blk_0 (by decide)) rfl rfl ?_
        refine jj_bipush (v := 14) (q := 61) dX4_enter_59 rfl rfl ?_
        refine jj_ishl (q := 62) dX4_enter_61 rfl ?_
        refine jj_iload_n (q := 63) dX4_enter_62 rfl rfl rfl ?_
        refine jj_bipush (v := 10) (q := 65) dX4_enter_63 rfl rfl ?_
        refine jj_ishl (q := 66) dX4_enter_65 rfl ?_
        refine jj_ior (q := 67) dX4_enter_66 rfl ?_
        refine jj_iload_n (q := 68) dX4_enter_67 rfl rfl rfl ?_
        refine jj_iconst (v := 3) (q := 69) dX4_enter_68 rfl rfl ?_
        refine jj_ishl (q := 70) dX4_enter_69 rfl ?_
        refine jj_ior (q := 71) dX4_enter_70 rfl ?_
        refine jj_aload_n (q := 72) dX4_enter_71 rfl rfl rfl ?_
        refine jj_getR (q := 75) dX4_enter_72 fl_X4_28 hs.t0 hs.r0_4 rfl rfl rfl ?_
        refine jj_getR (q := 78) dX4_enter_75 fl_X4_97 hs.t1 hs.r1_2 rfl rfl rfl ?_
        refine jj_iload_n (q := 79) dX4_enter_78 rfl rfl rfl ?_
        refine jj_cN2i (q := 82) dX4_enter_79 yk_X8_at ml_X4_93 (ex_atv hs.t3 (blk_k (by decide)) rfl) rfl rfl rfl ⟨Nat.zero_le _, Nat.zero_le _⟩ ?_
        refine jj_ior (q := 83) dX4_enter_82 rfl ?_
        refine jj_cN3v (q := 86) dX4_enter_83 yk_X8_put ml_X4_104 (ex_putv hs.t18 (putI_blk (by decide)) rfl) rfl rfl rfl ⟨Nat.zero_le _, Nat.zero_le _⟩ ?_
        refine jj_aload_n (q := 87) dX4_enter_86 rfl rfl rfl ?_
        refine jj_dup (q := 88) dX4_enter_87 rfl rfl ?_
        refine jj_getIv (q := 91) dX4_enter_88 fl_X4_60 hs.t0 (blk_0 (by decide)) rfl rfl ?_
        refine jj_iconst (v := 1) (q := 92) dX4_enter_91 rfl rfl ?_
        refine jj_iadd (q := 93) dX4_enter_92 rfl ?_
        refine jj_putIv (q := 96) dX4_enter_93 fl_X4_60 hs.t0 (u2_blk0 (by decide)) rfl rfl rfl rfl rfl ?_
        refine jj_vret dX4_enter_96 rfl (Nat.zero_le _) (Nat.zero_le _) ?_
        exact ⟨rfl, by simp only [kEn, kEn1, kLog, evW, h13, h34, h44, ↓reduceIte]⟩
  · rw [fin_eq] at h13
    refine jj_aload_n (q := 17) dX4_enter_16 rfl rfl rfl ?_
    refine jj_getR (q := 20) dX4_enter_17 fl_X4_28 hs.t0 hs.r0_4 rfl rfl rfl ?_
    refine jj_getR (q := 23) dX4_enter_20 fl_X4_116 hs.t1 hs.r1_6 rfl rfl rfl ?_
    refine jj_iload_n (q := 24) dX4_enter_23 rfl rfl rfl ?_
    refine jj_aload_n (q := 25) dX4_enter_24 rfl rfl rfl ?_
    refine jj_getIv (q := 28) dX4_enter_25 fl_X4_9 hs.t0 (blk_0 (by decide)) rfl rfl ?_
    refine jj_cN3v (q := 31) dX4_enter_28 yk_X8_put ml_X4_104 (ex_putv hs.t7 (putI_blk (by decide)) rfl) rfl rfl rfl ⟨Nat.zero_le _, Nat.zero_le _⟩ ?_
    try rw [fin_eq] at h13
    refine jj_iload_n (q := 32) dX4_enter_31 rfl rfl rfl ?_
    refine jj_bipush (v := 9) (q := 34) dX4_enter_32 rfl rfl ?_
    refine jj_icmp_lt (q := 37) (tgt := 96) dX4_enter_34 rfl rfl (fun h34 => ?_) (fun h34 => ?_)
    · refine jj_vret dX4_enter_96 rfl (Nat.zero_le _) (Nat.zero_le _) ?_
      exact ⟨rfl, by simp only [kEn, kEn1, h13, h34, ↓reduceIte]⟩
    · refine jj_aload_n (q := 38) dX4_enter_37 rfl rfl rfl ?_
      refine jj_getIv (q := 41) dX4_enter_38 fl_X4_60 hs.t0 (blk_0 (by decide)) rfl rfl ?_
      refine jj_sipush (v := 300) (q := 44) dX4_enter_41 rfl rfl ?_
      refine jj_icmp_ge (q := 47) (tgt := 96) dX4_enter_44 rfl rfl (fun h44 => ?_) (fun h44 => ?_)
      · refine jj_vret dX4_enter_96 rfl (Nat.zero_le _) (Nat.zero_le _) ?_
        exact ⟨rfl, by simp only [kEn, kEn1, h13, h34, h44, ↓reduceIte]⟩
      · refine jj_aload_n (q := 48) dX4_enter_47 rfl rfl rfl ?_
        refine jj_getR (q := 51) dX4_enter_48 fl_X4_63 hs.t0 hs.r0_15 rfl rfl rfl ?_
        refine jj_aload_n (q := 52) dX4_enter_51 rfl rfl rfl ?_
        refine jj_getIv (q := 55) dX4_enter_52 fl_X4_60 hs.t0 (blk_0 (by decide)) rfl rfl ?_
        refine jj_aload_n (q := 56) dX4_enter_55 rfl rfl rfl ?_
        refine jj_getIv (q := 59) dX4_enter_56 fl_X4_9 hs.t0 (blk_0 (by decide)) rfl rfl ?_
        refine jj_bipush (v := 14) (q := 61) dX4_enter_59 rfl rfl ?_
        refine jj_ishl (q := 62) dX4_enter_61 rfl ?_
        refine jj_iload_n (q := 63) dX4_enter_62 rfl rfl rfl ?_
        refine jj_bipush (v := 10) (q := 65) dX4_enter_63 rfl rfl ?_
        refine jj_ishl (q := 66) dX4_enter_65 rfl ?_
        refine jj_ior (q := 67) dX4_enter_66 rfl ?_
        refine jj_iload_n (q := 68) dX4_enter_67 rfl rfl rfl ?_
        refine jj_iconst (v := 3) (q := 69) dX4_enter_68 rfl rfl ?_
        refine jj_ishl (q := 70) dX4_enter_69 rfl ?_
        refine jj_ior (q := 71) dX4_enter_70 rfl ?_
        refine jj_aload_n (q := 72) dX4_enter_71 rfl rfl rfl ?_
        refine jj_getR (q := 75) dX4_enter_72 fl_X4_28 hs.t0 hs.r0_4 rfl rfl rfl ?_
        refine jj_getR (q := 78) dX4_enter_75 fl_X4_97 hs.t1 hs.r1_2 rfl rfl rfl ?_
        refine jj_iload_n (q := 79) dX4_enter_78 rfl rfl rfl ?_
        refine jj_cN2i (q := 82) dX4_enter_79 yk_X8_at ml_X4_93 (ex_atv hs.t3 (blk_k (by decide)) rfl) rfl rfl rfl ⟨Nat.zero_le _, Nat.zero_le _⟩ ?_
        refine jj_ior (q := 83) dX4_enter_82 rfl ?_
        refine jj_cN3v (q := 86) dX4_enter_83 yk_X8_put ml_X4_104 (ex_putv hs.t18 (putI_blk (by decide)) rfl) rfl rfl rfl ⟨Nat.zero_le _, Nat.zero_le _⟩ ?_
        refine jj_aload_n (q := 87) dX4_enter_86 rfl rfl rfl ?_
        refine jj_dup (q := 88) dX4_enter_87 rfl rfl ?_
        refine jj_getIv (q := 91) dX4_enter_88 fl_X4_60 hs.t0 (blk_0 (by decide)) rfl rfl ?_
        refine jj_iconst (v := 1) (q := 92) dX4_enter_91 rfl rfl ?_
        refine jj_iadd (q := 93) dX4_enter_92 rfl ?_
        refine jj_putIv (q := 96) dX4_enter_93 fl_X4_60 hs.t0 (u2_blk0 (by decide)) rfl rfl rfl rfl rfl ?_
        refine jj_vret dX4_enter_96 rfl (Nat.zero_le _) (Nat.zero_le _) ?_
        exact ⟨rfl, by simp only [kEn, kEn1, kLog, evW, h13, h34, h44, ↓reduceIte]⟩
theorem ex_allFinished (hs : hSt T R a) : Ex Γ (d + 1) Y_X0_allFinished [.ref (a + 1)] (T, R, S, blk 19 I a K, L, D, z) 0 0 (rI (kAF K) (T, R, S, blk 19 I a K, L, D, z)) := by
  refine Ex.of (by decide) (by simp [Value.category]) (Nat.le_of_ble_eq_true rfl) rfl ?_
  refine jj_aload_n (q := 1) dX0_allFinished_0 rfl rfl rfl ?_
  refine jj_getR (q := 4) dX0_allFinished_1 fl_X0_34 hs.t1 hs.r1_7 rfl rfl rfl ?_
  refine jj_bipush (v := 10) (q := 6) dX0_allFinished_4 rfl rfl ?_
  refine jj_ialdv (q := 7) dX0_allFinished_6 hs.t8 (blk_k (by decide)) (vpl rfl rfl) rfl ?_
  refine jj_aload_n (q := 8) dX0_allFinished_7 rfl rfl rfl ?_
  refine jj_getR (q := 11) dX0_allFinished_8 fl_X0_34 hs.t1 hs.r1_7 rfl rfl rfl ?_
  refine jj_bipush (v := 11) (q := 13) dX0_allFinished_11 rfl rfl ?_
  refine jj_ialdv (q := 14) dX0_allFinished_13 hs.t8 (blk_k (by decide)) (vpl rfl rfl) rfl ?_
  refine jj_iadd (q := 15) dX0_allFinished_14 rfl ?_
  refine jj_aload_n (q := 16) dX0_allFinished_15 rfl rfl rfl ?_
  refine jj_getR (q := 19) dX0_allFinished_16 fl_X0_34 hs.t1 hs.r1_7 rfl rfl rfl ?_
  refine jj_bipush (v := 12) (q := 21) dX0_allFinished_19 rfl rfl ?_
  refine jj_ialdv (q := 22) dX0_allFinished_21 hs.t8 (blk_k (by decide)) (vpl rfl rfl) rfl ?_
  refine jj_iadd (q := 23) dX0_allFinished_22 rfl ?_
  refine jj_aload_n (q := 24) dX0_allFinished_23 rfl rfl rfl ?_
  refine jj_getR (q := 27) dX0_allFinished_24 fl_X0_34 hs.t1 hs.r1_7 rfl rfl rfl ?_
  refine jj_bipush (v := 13) (q := 29) dX0_allFinished_27 rfl rfl ?_
  refine jj_ialdv (q := 30) dX0_allFinished_29 hs.t8 (blk_k (by decide)) (vpl rfl rfl) rfl ?_
  refine jj_iadd (q := 31) dX0_allFinished_30 rfl ?_
  refine jj_aload_n (q := 32) dX0_allFinished_31 rfl rfl rfl ?_
  refine jj_getIv (q := 35) dX0_allFinished_32 fl_X0_9 hs.t1 (blk_k (by decide)) rfl rfl ?_
  refine jj_icmp_ne (q := 38) (tgt := 42) dX0_allFinished_35 rfl rfl (fun h35 => ?_) (fun h35 => ?_)
  · refine jj_iconst (v := 0) (q := 43) dX0_allFinished_42 rfl rfl ?_
    refine jj_zret dX0_allFinished_43 rfl (by first | rfl | assumption) (Nat.zero_le _) (Nat.zero_le _) ?_
    exact ⟨by simp [kAF]; exact h35, rfl⟩
  · refine jj_iconst (v := 1) (q := 39) dX0_allFinished_38 rfl rfl ?_
    refine jj_goto (tgt := 43) dX0_allFinished_39 rfl ?_
    refine jj_zret dX0_allFinished_43 rfl (by first | rfl | assumption) (Nat.zero_le _) (Nat.zero_le _) ?_
    exact ⟨by simp [kAF]; exact h35, rfl⟩
theorem ex_delayFlight {f y : Int32} (hs : hSt T R a) : Ex Γ (d + 2) Y_X4_delayFlight [.ref a, .int f, .int y] (T, R, S, blk 19 I a K, L, D, z) 0 0 (rV (T, R, S, blk 19 I a (kDly K f y), L, D, z)) := by
  refine Ex.of (by decide) (by simp [Value.category]) (Nat.le_of_ble_eq_true rfl) rfl ?_
  refine jj_aload_n (q := 1) dX4_delayFlight_0 rfl rfl rfl ?_
  refine jj_iload_n (q := 2) dX4_delayFlight_1 rfl rfl rfl ?_
  refine jj_cV1i (q := 5) dX4_delayFlight_2 yk_X4_phase ml_X4_100 hs.t0 (ex_phase hs) rfl rfl rfl ⟨Nat.zero_le _, Nat.zero_le _⟩ ?_
  refine jj_if_ne (q := 8) (tgt := 26) dX4_delayFlight_5 rfl rfl (fun h5 => ?_) (fun h5 => ?_)
  · refine jj_aload_n (q := 27) dX4_delayFlight_26 rfl rfl rfl ?_
    refine jj_getR (q := 30) dX4_delayFlight_27 fl_X4_36 hs.t0 hs.r0_6 rfl rfl rfl ?_
    refine jj_iload_n (q := 31) dX4_delayFlight_30 rfl rfl rfl ?_
    refine jj_aload_n (q := 32) dX4_delayFlight_31 rfl rfl rfl ?_
    refine jj_getR (q := 35) dX4_delayFlight_32 fl_X4_36 hs.t0 hs.r0_6 rfl rfl rfl ?_
    refine jj_iload_n (q := 36) dX4_delayFlight_35 rfl rfl rfl ?_
    refine jj_cN2i (q := 39) dX4_delayFlight_36 yk_X8_at ml_X4_93 (ex_atv hs.t10 (blk_k (by decide)) rfl) rfl rfl rfl ⟨Nat.zero_le _, Nat.zero_le _⟩ ?_
    refine jj_iload_n (q := 40) dX4_delayFlight_39 rfl rfl rfl ?_
    refine jj_iadd (q := 41) dX4_delayFlight_40 rfl ?_
    refine jj_cN3v (q := 44) dX4_delayFlight_41 yk_X8_put ml_X4_104 (ex_putv hs.t10 (putI_blk (by decide)) rfl) rfl rfl rfl ⟨Nat.zero_le _, Nat.zero_le _⟩ ?_
    refine jj_vret dX4_delayFlight_44 rfl (Nat.zero_le _) (Nat.zero_le _) ?_
    exact ⟨rfl, by simp [kDly, h5]⟩
  · refine jj_aload_n (q := 9) dX4_delayFlight_8 rfl rfl rfl ?_
    refine jj_getR (q := 12) dX4_delayFlight_9 fl_X4_32 hs.t0 hs.r0_5 rfl rfl rfl ?_
    refine jj_iload_n (q := 13) dX4_delayFlight_12 rfl rfl rfl ?_
    refine jj_aload_n (q := 14) dX4_delayFlight_13 rfl rfl rfl ?_
    refine jj_getR (q := 17) dX4_delayFlight_14 fl_X4_32 hs.t0 hs.r0_5 rfl rfl rfl ?_
    refine jj_iload_n (q := 18) dX4_delayFlight_17 rfl rfl rfl ?_
    refine jj_cN2i (q := 21) dX4_delayFlight_18 yk_X8_at ml_X4_93 (ex_atv hs.t9 (blk_k (by decide)) rfl) rfl rfl rfl ⟨Nat.zero_le _, Nat.zero_le _⟩ ?_
    refine jj_iload_n (q := 22) dX4_delayFlight_21 rfl rfl rfl ?_
    refine jj_iadd (q := 23) dX4_delayFlight_22 rfl ?_
    refine jj_cN3v (q := 26) dX4_delayFlight_23 yk_X8_put ml_X4_104 (ex_putv hs.t9 (putI_blk (by decide)) rfl) rfl rfl rfl ⟨Nat.zero_le _, Nat.zero_le _⟩ ?_
    refine jj_aload_n (q := 27) dX4_delayFlight_26 rfl rfl rfl ?_
    refine jj_getR (q := 30) dX4_delayFlight_27 fl_X4_36 hs.t0 hs.r0_6 rfl rfl rfl ?_
    refine jj_iload_n (q := 31) dX4_delayFlight_30 rfl rfl rfl ?_
    refine jj_aload_n (q := 32) dX4_delayFlight_31 rfl rfl rfl ?_
    refine jj_getR (q := 35) dX4_delayFlight_32 fl_X4_36 hs.t0 hs.r0_6 rfl rfl rfl ?_
    refine jj_iload_n (q := 36) dX4_delayFlight_35 rfl rfl rfl ?_
    refine jj_cN2i (q := 39) dX4_delayFlight_36 yk_X8_at ml_X4_93 (ex_atv hs.t10 (blk_k (by decide)) rfl) rfl rfl rfl ⟨Nat.zero_le _, Nat.zero_le _⟩ ?_
    refine jj_iload_n (q := 40) dX4_delayFlight_39 rfl rfl rfl ?_
    refine jj_iadd (q := 41) dX4_delayFlight_40 rfl ?_
    refine jj_cN3v (q := 44) dX4_delayFlight_41 yk_X8_put ml_X4_104 (ex_putv hs.t10 (putI_blk (by decide)) rfl) rfl rfl rfl ⟨Nat.zero_le _, Nat.zero_le _⟩ ?_
    refine jj_vret dX4_delayFlight_44 rfl (Nat.zero_le _) (Nat.zero_le _) ?_
    exact ⟨rfl, by simp [kDly, h5]⟩
theorem lk_r (L : JL) (a : Nat) (r : Int64) : u2 L a 1 r a 1 = r := by simp [u2]
theorem lk_w (L : JL) (a : Nat) (r r' : Int64) : u2 (u2 L a 1 r) a 1 r' = u2 L a 1 r' := by funext b j; unfold u2; split <;> (try split) <;> rfl
theorem ex_draw (hs : hSt T R a) : Ex Γ (d + 1) Y_X4_draw [.ref a] (T, R, S, blk 19 I a K, u2 L a 1 r, D, z) 0 0 (rI (dDraw r) (T, R, S, blk 19 I a K, u2 L a 1 (rDraw r), D, z)) := by
  refine Ex.of (by decide) (by simp [Value.category]) (Nat.le_of_ble_eq_true rfl) rfl ?_
  refine jj_aload_n (q := 1) dX4_draw_0 rfl rfl rfl ?_
  refine jj_aload_n (q := 2) dX4_draw_1 rfl rfl rfl ?_
  refine jj_getLv (q := 5) dX4_draw_2 fl_X4_15 hs.t0 (lk_r L a r) rfl rfl ?_
  refine jj_ldc2 (q := 8) dX4_draw_5 kc_X4_83 rfl ?_
  refine jj_lmul (q := 9) dX4_draw_8 rfl ?_
  refine jj_ldc2 (q := 12) dX4_draw_9 kc_X4_85 rfl ?_
  refine jj_ladd (q := 13) dX4_draw_12 rfl ?_
  refine jj_ldc2 (q := 16) dX4_draw_13 kc_X4_87 rfl ?_
  refine jj_land (q := 17) dX4_draw_16 rfl ?_
  refine jj_putLv (q := 20) dX4_draw_17 fl_X4_15 hs.t0 (lk_w L a r _) rfl rfl rfl ?_
  refine jj_aload_n (q := 21) dX4_draw_20 rfl rfl rfl ?_
  refine jj_getLv (q := 24) dX4_draw_21 fl_X4_15 hs.t0 (lk_r L a _) rfl rfl ?_
  refine jj_ldc2 (q := 27) dX4_draw_24 kc_X4_89 rfl ?_
  refine jj_ldiv (q := 28) dX4_draw_27 (by decide) rfl ?_
  refine jj_ldc2 (q := 31) dX4_draw_28 kc_X4_91 rfl ?_
  refine jj_lrem (q := 32) dX4_draw_31 (by decide) rfl ?_
  refine jj_l2i (q := 33) dX4_draw_32 rfl ?_
  refine jj_iret dX4_draw_33 rfl (Nat.zero_le _) (Nat.zero_le _) ?_
  exact ⟨rfl, rfl⟩
end M18
