/-! THE PLAN'S QUESTIONS: laneOn, isOffShift; a keep test: compare, holds. P k j is the plan block's cell k, place j -/
def pOn (P : JI) (x : Int32) : Nat → Bool := fun l => decide (P 5 l = x)
def pOff (P : JI) (lv m t : Int32) : Nat → Bool := fun i => decide (P 7 i = lv ∧ P 8 i ≤ m ∧ P 9 i ≤ t ∧ t ≤ P 10 i)
def cmpX (v : Nat → Int32) (kd : Int32) : Int32 := if kd / 3 < 0 then 0 else if Int32.ofNat 5 ≤ kd / 3 then 0 else v (kd / 3).toNatClampNeg
def cmpV (v : Nat → Int32) (kd n : Int32) : Int32 := if kd - kd / 3 * 3 = 0 then (if n ≤ cmpX v kd then 0 else 1) else if kd - kd / 3 * 3 = 1 then (if cmpX v kd ≤ n then 0 else 1) else (if cmpX v kd = n then 1 else 0)
def hSp (P : JI) (i : Nat) (x : Int32) : Int32 := if P 13 i = 15 then x ^^^ 1 else if P 13 i = 16 then (x >>> ((1 : Int32) &&& 31)) &&& ((x &&& 1) ||| (-2)) else if P 13 i = 17 then (x >>> ((1 : Int32) &&& 31)) ||| (x &&& 1) else (x <<< ((1 : Int32) &&& 31)) ||| cmpV (P 15) (P 13 i) (P 14 i)
def hRun (P : JI) : Nat → Nat → Int32 → Int32
  | 0, _, x => x
  | k + 1, i, x => hRun P k (i + 1) (hSp P i x)
def hHo (P : JI) (fr to : Nat) : Int32 := if hRun P (to - fr) fr 0 &&& 1 = 1 then 1 else 0
section M22
variable {Γ : Gam} {d : Nat} {T : JT} {R S : JR} {I P : JI} {L : JL} {D : JD} {z : Option Nat} {p n : Nat}
theorem lp_laneOn (hp : hPl T R p) (hP : ∀ k : Nat, k < 15 → I (p + k) = P k) (hn : P 0 8 = nI n) (hn1 : n ≤ 4) {x : Int32} : ∀ (k i : Nat), (i + k = n ∧ ∀ j, j < i → (pOn P x) j = false) → JJ Γ (jj_E Y_X3_laneOn) (jj_Z Γ (rI (srch (pOn P x) n nI (-1)) (T, R, S, I, L, D, z)) 0 0) (jj_rm (d + 1) 0 0) 0 0 2 [some (.ref p), some (.int x), some (.int (nI i))] [] (T, R, S, I, L, D, z) := by
  intro k
  induction k with
  | zero =>
    intro i hi
    refine jj_iload_n (q := 3) dX3_laneOn_2 rfl rfl rfl ?_
    refine jj_aload_n (q := 4) dX3_laneOn_3 rfl rfl rfl ?_
    refine jj_getIv (q := 7) dX3_laneOn_4 fl_X3_37 hp.t0 (hP 0 (by decide)) rfl rfl ?_
    refine jj_icmp_ge (q := 10) (tgt := 30) dX3_laneOn_7 rfl rfl (fun h7 => ?_) (fun h7 => absurd ((by rw [hn]; exact nI_le (by omega) (by omega))) h7)
    refine jj_iconst (v := -1) (q := 31) dX3_laneOn_30 rfl rfl ?_
    refine jj_iret dX3_laneOn_31 rfl (Nat.zero_le _) (Nat.zero_le _) ?_
    exact ⟨by rw [srch_none (fun j hj => hi.2 j (by omega))], rfl⟩
  | succ k ih =>
    intro i hi
    refine jj_iload_n (q := 3) dX3_laneOn_2 rfl rfl rfl ?_
    refine jj_aload_n (q := 4) dX3_laneOn_3 rfl rfl rfl ?_
    refine jj_getIv (q := 7) dX3_laneOn_4 fl_X3_37 hp.t0 (hP 0 (by decide)) rfl rfl ?_
    refine jj_icmp_ge (q := 10) (tgt := 30) dX3_laneOn_7 rfl rfl (fun h7 => absurd h7 ((by rw [hn]; exact nI_ge (by omega) (by omega)))) (fun h7 => ?_)
    refine jj_aload_n (q := 11) dX3_laneOn_10 rfl rfl rfl ?_
    refine jj_getR (q := 14) dX3_laneOn_11 fl_X3_40 hp.t0 hp.r0_9 rfl rfl rfl ?_
    refine jj_iload_n (q := 15) dX3_laneOn_14 rfl rfl rfl ?_
    refine jj_cN2i (q := 18) dX3_laneOn_15 yk_X8_at ml_X3_74 (ex_atv hp.t5 (hP 5 (by decide)) rfl) rfl rfl rfl ⟨Nat.zero_le _, Nat.zero_le _⟩ ?_
    rw [atV_nI (show i < 4 by omega) (by omega)]
    refine jj_iload_n (q := 19) dX3_laneOn_18 rfl rfl rfl ?_
    refine jj_icmp_ne (q := 22) (tgt := 24) dX3_laneOn_19 rfl rfl (fun h19 => ?_) (fun h19 => ?_)
    · refine jj_iinc (v := nI (i + 1)) (q := 27) dX3_laneOn_24 rfl (nI_inc i) (by decide) rfl ?_
      refine jj_goto (tgt := 2) dX3_laneOn_27 rfl ?_
      have e : (pOn P x) i = false := by simp only [pOn, decide_eq_false_iff_not]; exact h19
      exact ih (i + 1) ⟨by omega, lt_s hi.2 e⟩
    · refine jj_iload_n (q := 23) dX3_laneOn_22 rfl rfl rfl ?_
      refine jj_iret dX3_laneOn_23 rfl (Nat.zero_le _) (Nat.zero_le _) ?_
      exact ⟨by rw [srch_hit hi.2 (by simp only [pOn, decide_eq_true_eq]; exact h19) (by omega)], rfl⟩
theorem ex_laneOn (hp : hPl T R p) (hP : ∀ k : Nat, k < 15 → I (p + k) = P k) (hn : P 0 8 = nI n) (hn1 : n ≤ 4) {x : Int32} : Ex Γ (d + 1) Y_X3_laneOn [.ref p, .int x] (T, R, S, I, L, D, z) 0 0 (rI (srch (pOn P x) n nI (-1)) (T, R, S, I, L, D, z)) := by
  refine Ex.of (by decide) (by simp [Value.category]) (Nat.le_of_ble_eq_true rfl) rfl ?_
  refine jj_iconst (v := 0) (q := 1) dX3_laneOn_0 rfl rfl ?_
  refine jj_istore_n (q := 2) dX3_laneOn_1 rfl (by decide) rfl ?_
  exact lp_laneOn hp hP hn hn1 n 0 ⟨by omega, lt_0⟩
theorem lp_isOffShift (hp : hPl T R p) (hP : ∀ k : Nat, k < 15 → I (p + k) = P k) (hn : P 0 11 = nI n) (hn1 : n ≤ 4) {lv m t : Int32} : ∀ (k i : Nat), (i + k = n ∧ ∀ j, j < i → (pOff P lv m t) j = false) → JJ Γ (jj_E Y_X3_isOffShift) (jj_Z Γ (rI (srch (pOff P lv m t) n (fun _ => 1) 0) (T, R, S, I, L, D, z)) 0 0) (jj_rm (d + 1) 0 0) 0 0 3 [some (.ref p), some (.int lv), some (.int m), some (.int t), some (.int (nI i))] [] (T, R, S, I, L, D, z) := by
  intro k
  induction k with
  | zero =>
    intro i hi
    refine jj_iload (q := 5) dX3_isOffShift_3 rfl rfl ?_
    refine jj_aload_n (q := 6) dX3_isOffShift_5 rfl rfl rfl ?_
    refine jj_getIv (q := 9) dX3_isOffShift_6 fl_X3_46 hp.t0 (hP 0 (by decide)) rfl rfl ?_
    refine jj_icmp_ge (q := 12) (tgt := 72) dX3_isOffShift_9 rfl rfl (fun h9 => ?_) (fun h9 => absurd ((by rw [hn]; exact nI_le (by omega) (by omega))) h9)
    refine jj_iconst (v := 0) (q := 73) dX3_isOffShift_72 rfl rfl ?_
    refine jj_zret dX3_isOffShift_73 rfl (by first | rfl | assumption) (Nat.zero_le _) (Nat.zero_le _) ?_
    exact ⟨by rw [srch_none (fun j hj => hi.2 j (by omega))], rfl⟩
  | succ k ih =>
    intro i hi
    refine jj_iload (q := 5) dX3_isOffShift_3 rfl rfl ?_
    refine jj_aload_n (q := 6) dX3_isOffShift_5 rfl rfl rfl ?_
    refine jj_getIv (q := 9) dX3_isOffShift_6 fl_X3_46 hp.t0 (hP 0 (by decide)) rfl rfl ?_
    refine jj_icmp_ge (q := 12) (tgt := 72) dX3_isOffShift_9 rfl rfl (fun h9 => absurd h9 ((by rw [hn]; exact nI_ge (by omega) (by omega)))) (fun h9 => ?_)
    refine jj_aload_n (q := 13) dX3_isOffShift_12 rfl rfl rfl ?_
    refine jj_getR (q := 16) dX3_isOffShift_13 fl_X3_49 hp.t0 hp.r0_12 rfl rfl rfl ?_
    refine jj_iload (q := 18) dX3_isOffShift_16 rfl rfl ?_
    refine jj_cN2i (q := 21) dX3_isOffShift_18 yk_X8_at ml_X3_74 (ex_atv hp.t7 (hP 7 (by decide)) rfl) rfl rfl rfl ⟨Nat.zero_le _, Nat.zero_le _⟩ ?_
    rw [atV_nI (show i < 4 by omega) (by omega)]
    refine jj_iload_n (q := 22) dX3_isOffShift_21 rfl rfl rfl ?_
    refine jj_icmp_ne (q := 25) (tgt := 66) dX3_isOffShift_22 rfl rfl (fun h22 => ?_) (fun h22 => ?_)
    · refine jj_iinc (v := nI (i + 1)) (q := 69) dX3_isOffShift_66 rfl (nI_inc i) (by decide) rfl ?_
      refine jj_goto (tgt := 3) dX3_isOffShift_69 rfl ?_
      have e : (pOff P lv m t) i = false := by simp only [pOff, decide_eq_false_iff_not]; exact fun h => h22 h.1
      exact ih (i + 1) ⟨by omega, lt_s hi.2 e⟩
    · refine jj_iload_n (q := 26) dX3_isOffShift_25 rfl rfl rfl ?_
      refine jj_aload_n (q := 27) dX3_isOffShift_26 rfl rfl rfl ?_
      refine jj_getR (q := 30) dX3_isOffShift_27 fl_X3_52 hp.t0 hp.r0_13 rfl rfl rfl ?_
      refine jj_iload (q := 32) dX3_isOffShift_30 rfl rfl ?_
      refine jj_cN2i (q := 35) dX3_isOffShift_32 yk_X8_at ml_X3_74 (ex_atv hp.t8 (hP 8 (by decide)) rfl) rfl rfl rfl ⟨Nat.zero_le _, Nat.zero_le _⟩ ?_
      rw [atV_nI (show i < 4 by omega) (by omega)]
      refine jj_icmp_lt (q := 38) (tgt := 66) dX3_isOffShift_35 rfl rfl (fun h35 => ?_) (fun h35 => ?_)
      · refine jj_iinc (v := nI (i + 1)) (q := 69) dX3_isOffShift_66 rfl (nI_inc i) (by decide) rfl ?_
        refine jj_goto (tgt := 3) dX3_isOffShift_69 rfl ?_
        have e : (pOff P lv m t) i = false := by simp only [pOff, decide_eq_false_iff_not]; exact fun h => Int32.not_le.mpr h35 h.2.1
        exact ih (i + 1) ⟨by omega, lt_s hi.2 e⟩
      · refine jj_iload_n (q := 39) dX3_isOffShift_38 rfl rfl rfl ?_
        refine jj_aload_n (q := 40) dX3_isOffShift_39 rfl rfl rfl ?_
        refine jj_getR (q := 43) dX3_isOffShift_40 fl_X3_55 hp.t0 hp.r0_14 rfl rfl rfl ?_
        refine jj_iload (q := 45) dX3_isOffShift_43 rfl rfl ?_
        refine jj_cN2i (q := 48) dX3_isOffShift_45 yk_X8_at ml_X3_74 (ex_atv hp.t9 (hP 9 (by decide)) rfl) rfl rfl rfl ⟨Nat.zero_le _, Nat.zero_le _⟩ ?_
        rw [atV_nI (show i < 4 by omega) (by omega)]
        refine jj_icmp_lt (q := 51) (tgt := 66) dX3_isOffShift_48 rfl rfl (fun h48 => ?_) (fun h48 => ?_)
        · refine jj_iinc (v := nI (i + 1)) (q := 69) dX3_isOffShift_66 rfl (nI_inc i) (by decide) rfl ?_
          refine jj_goto (tgt := 3) dX3_isOffShift_69 rfl ?_
          have e : (pOff P lv m t) i = false := by simp only [pOff, decide_eq_false_iff_not]; exact fun h => Int32.not_le.mpr h48 h.2.2.1
          exact ih (i + 1) ⟨by omega, lt_s hi.2 e⟩
        · refine jj_iload_n (q := 52) dX3_isOffShift_51 rfl rfl rfl ?_
          refine jj_aload_n (q := 53) dX3_isOffShift_52 rfl rfl rfl ?_
          refine jj_getR (q := 56) dX3_isOffShift_53 fl_X3_58 hp.t0 hp.r0_15 rfl rfl rfl ?_
          refine jj_iload (q := 58) dX3_isOffShift_56 rfl rfl ?_
          refine jj_cN2i (q := 61) dX3_isOffShift_58 yk_X8_at ml_X3_74 (ex_atv hp.t10 (hP 10 (by decide)) rfl) rfl rfl rfl ⟨Nat.zero_le _, Nat.zero_le _⟩ ?_
          rw [atV_nI (show i < 4 by omega) (by omega)]
          refine jj_icmp_gt (q := 64) (tgt := 66) dX3_isOffShift_61 rfl rfl (fun h61 => ?_) (fun h61 => ?_)
          · refine jj_iinc (v := nI (i + 1)) (q := 69) dX3_isOffShift_66 rfl (nI_inc i) (by decide) rfl ?_
            refine jj_goto (tgt := 3) dX3_isOffShift_69 rfl ?_
            have e : (pOff P lv m t) i = false := by simp only [pOff, decide_eq_false_iff_not]; exact fun h => Int32.not_le.mpr h61 h.2.2.2
            exact ih (i + 1) ⟨by omega, lt_s hi.2 e⟩
          · refine jj_iconst (v := 1) (q := 65) dX3_isOffShift_64 rfl rfl ?_
            refine jj_zret dX3_isOffShift_65 rfl (by first | rfl | assumption) (Nat.zero_le _) (Nat.zero_le _) ?_
            exact ⟨by rw [srch_hit hi.2 (by simp only [pOff, decide_eq_true_eq]; exact ⟨h22, Int32.not_lt.mp h35, Int32.not_lt.mp h48, Int32.not_lt.mp h61⟩) (by omega)], rfl⟩
theorem ex_isOffShift (hp : hPl T R p) (hP : ∀ k : Nat, k < 15 → I (p + k) = P k) (hn : P 0 11 = nI n) (hn1 : n ≤ 4) {lv m t : Int32} : Ex Γ (d + 1) Y_X3_isOffShift [.ref p, .int lv, .int m, .int t] (T, R, S, I, L, D, z) 0 0 (rI (srch (pOff P lv m t) n (fun _ => 1) 0) (T, R, S, I, L, D, z)) := by
  refine Ex.of (by decide) (by simp [Value.category]) (Nat.le_of_ble_eq_true rfl) rfl ?_
  refine jj_iconst (v := 0) (q := 1) dX3_isOffShift_0 rfl rfl ?_
  refine jj_istore (q := 3) dX3_isOffShift_1 (by decide) rfl ?_
  exact lp_isOffShift hp hP hn hn1 n 0 ⟨by omega, lt_0⟩
theorem ex_compare (hp : hPl T R p) (hP : ∀ k : Nat, k < 16 → I (p + k) = P k) {kd n : Int32} : Ex Γ (d) Y_X5_compare [.ref (p + 11), .int kd, .int n] (T, R, S, I, L, D, z) 0 0 (rI (cmpV (P 15) kd n) (T, R, S, I, L, D, z)) := by
  refine Ex.of (by decide) (by simp [Value.category]) (Nat.le_of_ble_eq_true rfl) rfl ?_
  refine jj_iload_n (q := 1) dX5_compare_0 rfl rfl rfl ?_
  refine jj_iconst (v := 3) (q := 2) dX5_compare_1 rfl rfl ?_
  refine jj_idiv (q := 3) dX5_compare_2 (by decide) rfl ?_
  refine jj_istore_n (q := 4) dX5_compare_3 rfl (by decide) rfl ?_
  refine jj_iload_n (q := 5) dX5_compare_4 rfl rfl rfl ?_
  refine jj_if_lt (q := 8) (tgt := 26) dX5_compare_5 rfl rfl (fun h5 => ?_) (fun h5 => ?_)
  · refine jj_iconst (v := 0) (q := 27) dX5_compare_26 rfl rfl ?_
    refine jj_istore (q := 29) dX5_compare_27 (by decide) rfl ?_
    refine jj_iload_n (q := 30) dX5_compare_29 rfl rfl rfl ?_
    refine jj_iconst (v := 3) (q := 31) dX5_compare_30 rfl rfl ?_
    refine jj_irem (q := 32) dX5_compare_31 (by decide) rfl ?_
    refine jj_istore (q := 34) dX5_compare_32 (by decide) rfl ?_
    refine jj_iload (q := 36) dX5_compare_34 rfl rfl ?_
    refine jj_if_ne (q := 39) (tgt := 53) dX5_compare_36 rfl rfl (fun h36 => ?_) (fun h36 => ?_)
    · refine jj_iload (q := 55) dX5_compare_53 rfl rfl ?_
      refine jj_iconst (v := 1) (q := 56) dX5_compare_55 rfl rfl ?_
      refine jj_icmp_ne (q := 59) (tgt := 73) dX5_compare_56 rfl rfl (fun h56 => ?_) (fun h56 => ?_)
      · refine jj_iload (q := 75) dX5_compare_73 rfl rfl ?_
        refine jj_iload_n (q := 76) dX5_compare_75 rfl rfl rfl ?_
        refine jj_icmp_ne (q := 79) (tgt := 83) dX5_compare_76 rfl rfl (fun h76 => ?_) (fun h76 => ?_)
        · refine jj_iconst (v := 0) (q := 84) dX5_compare_83 rfl rfl ?_
          refine jj_istore (q := 86) dX5_compare_84 (by decide) rfl ?_
          refine jj_iload (q := 88) dX5_compare_86 rfl rfl ?_
          refine jj_if_eq (q := 91) (tgt := 95) dX5_compare_88 rfl rfl (fun h88 => ?_) (fun h88 => ?_)
          · refine jj_iconst (v := 0) (q := 96) dX5_compare_95 rfl rfl ?_
            refine jj_iret dX5_compare_96 rfl (Nat.zero_le _) (Nat.zero_le _) ?_
            first | (exact absurd h88 (by decide)) | exact ⟨by unfold cmpV cmpX; (first | rw [if_pos h36] | rw [if_neg h36] | skip); (first | rw [if_pos h56] | rw [if_neg h56] | skip); (first | rw [if_pos h5] | rw [if_neg h5] | skip); (first | rw [if_pos h14] | rw [if_neg h14] | skip); (first | rw [if_pos h42] | rw [if_neg h42] | skip); (first | rw [if_pos h62] | rw [if_neg h62] | skip); (first | rw [if_pos h76] | rw [if_neg h76] | skip), rfl⟩
          · refine jj_iconst (v := 1) (q := 92) dX5_compare_91 rfl rfl ?_
            refine jj_goto (tgt := 96) dX5_compare_92 rfl ?_
            refine jj_iret dX5_compare_96 rfl (Nat.zero_le _) (Nat.zero_le _) ?_
            first | (exact absurd h88 (by decide)) | exact ⟨by unfold cmpV cmpX; (first | rw [if_pos h36] | rw [if_neg h36] | skip); (first | rw [if_pos h56] | rw [if_neg h56] | skip); (first | rw [if_pos h5] | rw [if_neg h5] | skip); (first | rw [if_pos h14] | rw [if_neg h14] | skip); (first | rw [if_pos h42] | rw [if_neg h42] | skip); (first | rw [if_pos h62] | rw [if_neg h62] | skip); (first | rw [if_pos h76] | rw [if_neg h76] | skip), rfl⟩
        · refine jj_iconst (v := 1) (q := 80) dX5_compare_79 rfl rfl ?_
          refine jj_goto (tgt := 84) dX5_compare_80 rfl ?_
          refine jj_istore (q := 86) dX5_compare_84 (by decide) rfl ?_
          refine jj_iload (q := 88) dX5_compare_86 rfl rfl ?_
          refine jj_if_eq (q := 91) (tgt := 95) dX5_compare_88 rfl rfl (fun h88 => ?_) (fun h88 => ?_)
          · refine jj_iconst (v := 0) (q := 96) dX5_compare_95 rfl rfl ?_
            refine jj_iret dX5_compare_96 rfl (Nat.zero_le _) (Nat.zero_le _) ?_
            first | (exact absurd h88 (by decide)) | exact ⟨by unfold cmpV cmpX; (first | rw [if_pos h36] | rw [if_neg h36] | skip); (first | rw [if_pos h56] | rw [if_neg h56] | skip); (first | rw [if_pos h5] | rw [if_neg h5] | skip); (first | rw [if_pos h14] | rw [if_neg h14] | skip); (first | rw [if_pos h42] | rw [if_neg h42] | skip); (first | rw [if_pos h62] | rw [if_neg h62] | skip); (first | rw [if_pos h76] | rw [if_neg h76] | skip), rfl⟩
          · refine jj_iconst (v := 1) (q := 92) dX5_compare_91 rfl rfl ?_
            refine jj_goto (tgt := 96) dX5_compare_92 rfl ?_
            refine jj_iret dX5_compare_96 rfl (Nat.zero_le _) (Nat.zero_le _) ?_
            first | (exact absurd h88 (by decide)) | exact ⟨by unfold cmpV cmpX; (first | rw [if_pos h36] | rw [if_neg h36] | skip); (first | rw [if_pos h56] | rw [if_neg h56] | skip); (first | rw [if_pos h5] | rw [if_neg h5] | skip); (first | rw [if_pos h14] | rw [if_neg h14] | skip); (first | rw [if_pos h42] | rw [if_neg h42] | skip); (first | rw [if_pos h62] | rw [if_neg h62] | skip); (first | rw [if_pos h76] | rw [if_neg h76] | skip), rfl⟩
      · refine jj_iload (q := 61) dX5_compare_59 rfl rfl ?_
        refine jj_iload_n (q := 62) dX5_compare_61 rfl rfl rfl ?_
        refine jj_icmp_le (q := 65) (tgt := 69) dX5_compare_62 rfl rfl (fun h62 => ?_) (fun h62 => ?_)
        · refine jj_iconst (v := 0) (q := 70) dX5_compare_69 rfl rfl ?_
          refine jj_goto (tgt := 84) dX5_compare_70 rfl ?_
          refine jj_istore (q := 86) dX5_compare_84 (by decide) rfl ?_
          refine jj_iload (q := 88) dX5_compare_86 rfl rfl ?_
          refine jj_if_eq (q := 91) (tgt := 95) dX5_compare_88 rfl rfl (fun h88 => ?_) (fun h88 => ?_)
          · refine jj_iconst (v := 0) (q := 96) dX5_compare_95 rfl rfl ?_
            refine jj_iret dX5_compare_96 rfl (Nat.zero_le _) (Nat.zero_le _) ?_
            first | (exact absurd h88 (by decide)) | exact ⟨by unfold cmpV cmpX; (first | rw [if_pos h36] | rw [if_neg h36] | skip); (first | rw [if_pos h56] | rw [if_neg h56] | skip); (first | rw [if_pos h5] | rw [if_neg h5] | skip); (first | rw [if_pos h14] | rw [if_neg h14] | skip); (first | rw [if_pos h42] | rw [if_neg h42] | skip); (first | rw [if_pos h62] | rw [if_neg h62] | skip); (first | rw [if_pos h76] | rw [if_neg h76] | skip), rfl⟩
          · refine jj_iconst (v := 1) (q := 92) dX5_compare_91 rfl rfl ?_
            refine jj_goto (tgt := 96) dX5_compare_92 rfl ?_
            refine jj_iret dX5_compare_96 rfl (Nat.zero_le _) (Nat.zero_le _) ?_
            first | (exact absurd h88 (by decide)) | exact ⟨by unfold cmpV cmpX; (first | rw [if_pos h36] | rw [if_neg h36] | skip); (first | rw [if_pos h56] | rw [if_neg h56] | skip); (first | rw [if_pos h5] | rw [if_neg h5] | skip); (first | rw [if_pos h14] | rw [if_neg h14] | skip); (first | rw [if_pos h42] | rw [if_neg h42] | skip); (first | rw [if_pos h62] | rw [if_neg h62] | skip); (first | rw [if_pos h76] | rw [if_neg h76] | skip), rfl⟩
        · refine jj_iconst (v := 1) (q := 66) dX5_compare_65 rfl rfl ?_
          refine jj_goto (tgt := 84) dX5_compare_66 rfl ?_
          refine jj_istore (q := 86) dX5_compare_84 (by decide) rfl ?_
          refine jj_iload (q := 88) dX5_compare_86 rfl rfl ?_
          refine jj_if_eq (q := 91) (tgt := 95) dX5_compare_88 rfl rfl (fun h88 => ?_) (fun h88 => ?_)
          · refine jj_iconst (v := 0) (q := 96) dX5_compare_95 rfl rfl ?_
            refine jj_iret dX5_compare_96 rfl (Nat.zero_le _) (Nat.zero_le _) ?_
            first | (exact absurd h88 (by decide)) | exact ⟨by unfold cmpV cmpX; (first | rw [if_pos h36] | rw [if_neg h36] | skip); (first | rw [if_pos h56] | rw [if_neg h56] | skip); (first | rw [if_pos h5] | rw [if_neg h5] | skip); (first | rw [if_pos h14] | rw [if_neg h14] | skip); (first | rw [if_pos h42] | rw [if_neg h42] | skip); (first | rw [if_pos h62] | rw [if_neg h62] | skip); (first | rw [if_pos h76] | rw [if_neg h76] | skip), rfl⟩
          · refine jj_iconst (v := 1) (q := 92) dX5_compare_91 rfl rfl ?_
            refine jj_goto (tgt := 96) dX5_compare_92 rfl ?_
            refine jj_iret dX5_compare_96 rfl (Nat.zero_le _) (Nat.zero_le _) ?_
            first | (exact absurd h88 (by decide)) | exact ⟨by unfold cmpV cmpX; (first | rw [if_pos h36] | rw [if_neg h36] | skip); (first | rw [if_pos h56] | rw [if_neg h56] | skip); (first | rw [if_pos h5] | rw [if_neg h5] | skip); (first | rw [if_pos h14] | rw [if_neg h14] | skip); (first | rw [if_pos h42] | rw [if_neg h42] | skip); (first | rw [if_pos h62] | rw [if_neg h62] | skip); (first | rw [if_pos h76] | rw [if_neg h76] | skip), rfl⟩
    · refine jj_iload (q := 41) dX5_compare_39 rfl rfl ?_
      refine jj_iload_n (q := 42) dX5_compare_41 rfl rfl rfl ?_
      refine jj_icmp_ge (q := 45) (tgt := 49) dX5_compare_42 rfl rfl (fun h42 => ?_) (fun h42 => ?_)
      · refine jj_iconst (v := 0) (q := 50) dX5_compare_49 rfl rfl ?_
        refine jj_goto (tgt := 84) dX5_compare_50 rfl ?_
        refine jj_istore (q := 86) dX5_compare_84 (by decide) rfl ?_
        refine jj_iload (q := 88) dX5_compare_86 rfl rfl ?_
        refine jj_if_eq (q := 91) (tgt := 95) dX5_compare_88 rfl rfl (fun h88 => ?_) (fun h88 => ?_)
        · refine jj_iconst (v := 0) (q := 96) dX5_compare_95 rfl rfl ?_
          refine jj_iret dX5_compare_96 rfl (Nat.zero_le _) (Nat.zero_le _) ?_
          first | (exact absurd h88 (by decide)) | exact ⟨by unfold cmpV cmpX; (first | rw [if_pos h36] | rw [if_neg h36] | skip); (first | rw [if_pos h56] | rw [if_neg h56] | skip); (first | rw [if_pos h5] | rw [if_neg h5] | skip); (first | rw [if_pos h14] | rw [if_neg h14] | skip); (first | rw [if_pos h42] | rw [if_neg h42] | skip); (first | rw [if_pos h62] | rw [if_neg h62] | skip); (first | rw [if_pos h76] | rw [if_neg h76] | skip), rfl⟩
        · refine jj_iconst (v := 1) (q := 92) dX5_compare_91 rfl rfl ?_
          refine jj_goto (tgt := 96) dX5_compare_92 rfl ?_
          refine jj_iret dX5_compare_96 rfl (Nat.zero_le _) (Nat.zero_le _) ?_
          first | (exact absurd h88 (by decide)) | exact ⟨by unfold cmpV cmpX; (first | rw [if_pos h36] | rw [if_neg h36] | skip); (first | rw [if_pos h56] | rw [if_neg h56] | skip); (first | rw [if_pos h5] | rw [if_neg h5] | skip); (first | rw [if_pos h14] | rw [if_neg h14] | skip); (first | rw [if_pos h42] | rw [if_neg h42] | skip); (first | rw [if_pos h62] | rw [if_neg h62] | skip); (first | rw [if_pos h76] | rw [if_neg h76] | skip), rfl⟩
      · refine jj_iconst (v := 1) (q := 46) dX5_compare_45 rfl rfl ?_
        refine jj_goto (tgt := 84) dX5_compare_46 rfl ?_
        refine jj_istore (q := 86) dX5_compare_84 (by decide) rfl ?_
        refine jj_iload (q := 88) dX5_compare_86 rfl rfl ?_
        refine jj_if_eq (q := 91) (tgt := 95) dX5_compare_88 rfl rfl (fun h88 => ?_) (fun h88 => ?_)
        · refine jj_iconst (v := 0) (q := 96) dX5_compare_95 rfl rfl ?_
          refine jj_iret dX5_compare_96 rfl (Nat.zero_le _) (Nat.zero_le _) ?_
          first | (exact absurd h88 (by decide)) | exact ⟨by unfold cmpV cmpX; (first | rw [if_pos h36] | rw [if_neg h36] | skip); (first | rw [if_pos h56] | rw [if_neg h56] | skip); (first | rw [if_pos h5] | rw [if_neg h5] | skip); (first | rw [if_pos h14] | rw [if_neg h14] | skip); (first | rw [if_pos h42] | rw [if_neg h42] | skip); (first | rw [if_pos h62] | rw [if_neg h62] | skip); (first | rw [if_pos h76] | rw [if_neg h76] | skip), rfl⟩
        · refine jj_iconst (v := 1) (q := 92) dX5_compare_91 rfl rfl ?_
          refine jj_goto (tgt := 96) dX5_compare_92 rfl ?_
          refine jj_iret dX5_compare_96 rfl (Nat.zero_le _) (Nat.zero_le _) ?_
          first | (exact absurd h88 (by decide)) | exact ⟨by unfold cmpV cmpX; (first | rw [if_pos h36] | rw [if_neg h36] | skip); (first | rw [if_pos h56] | rw [if_neg h56] | skip); (first | rw [if_pos h5] | rw [if_neg h5] | skip); (first | rw [if_pos h14] | rw [if_neg h14] | skip); (first | rw [if_pos h42] | rw [if_neg h42] | skip); (first | rw [if_pos h62] | rw [if_neg h62] | skip); (first | rw [if_pos h76] | rw [if_neg h76] | skip), rfl⟩
  · refine jj_iload_n (q := 9) dX5_compare_8 rfl rfl rfl ?_
    refine jj_aload_n (q := 10) dX5_compare_9 rfl rfl rfl ?_
    refine jj_getR (q := 13) dX5_compare_10 fl_X5_28 hp.t11 hp.r11_5 rfl rfl rfl ?_
    refine jj_alen (q := 14) dX5_compare_13 hp.t15 (by decide) rfl rfl ?_
    refine jj_icmp_ge (q := 17) (tgt := 26) dX5_compare_14 rfl rfl (fun h14 => ?_) (fun h14 => ?_)
    · refine jj_iconst (v := 0) (q := 27) dX5_compare_26 rfl rfl ?_
      refine jj_istore (q := 29) dX5_compare_27 (by decide) rfl ?_
      refine jj_iload_n (q := 30) dX5_compare_29 rfl rfl rfl ?_
      refine jj_iconst (v := 3) (q := 31) dX5_compare_30 rfl rfl ?_
      refine jj_irem (q := 32) dX5_compare_31 (by decide) rfl ?_
      refine jj_istore (q := 34) dX5_compare_32 (by decide) rfl ?_
      refine jj_iload (q := 36) dX5_compare_34 rfl rfl ?_
      refine jj_if_ne (q := 39) (tgt := 53) dX5_compare_36 rfl rfl (fun h36 => ?_) (fun h36 => ?_)
      · refine jj_iload (q := 55) dX5_compare_53 rfl rfl ?_
        refine jj_iconst (v := 1) (q := 56) dX5_compare_55 rfl rfl ?_
        refine jj_icmp_ne (q := 59) (tgt := 73) dX5_compare_56 rfl rfl (fun h56 => ?_) (fun h56 => ?_)
        · refine jj_iload (q := 75) dX5_compare_73 rfl rfl ?_
          refine jj_iload_n (q := 76) dX5_compare_75 rfl rfl rfl ?_
          refine jj_icmp_ne (q := 79) (tgt := 83) dX5_compare_76 rfl rfl (fun h76 => ?_) (fun h76 => ?_)
          · refine jj_iconst (v := 0) (q := 84) dX5_compare_83 rfl rfl ?_
            refine jj_istore (q := 86) dX5_compare_84 (by decide) rfl ?_
            refine jj_iload (q := 88) dX5_compare_86 rfl rfl ?_
            refine jj_if_eq (q := 91) (tgt := 95) dX5_compare_88 rfl rfl (fun h88 => ?_) (fun h88 => ?_)
            · refine jj_iconst (v := 0) (q := 96) dX5_compare_95 rfl rfl ?_
              refine jj_iret dX5_compare_96 rfl (Nat.zero_le _) (Nat.zero_le _) ?_
              first | (exact absurd h88 (by decide)) | exact ⟨by unfold cmpV cmpX; (first | rw [if_pos h36] | rw [if_neg h36] | skip); (first | rw [if_pos h56] | rw [if_neg h56] | skip); (first | rw [if_pos h5] | rw [if_neg h5] | skip); (first | rw [if_pos h14] | rw [if_neg h14] | skip); (first | rw [if_pos h42] | rw [if_neg h42] | skip); (first | rw [if_pos h62] | rw [if_neg h62] | skip); (first | rw [if_pos h76] | rw [if_neg h76] | skip), rfl⟩
            · refine jj_iconst (v := 1) (q := 92) dX5_compare_91 rfl rfl ?_
              refine jj_goto (tgt := 96) dX5_compare_92 rfl ?_
              refine jj_iret dX5_compare_96 rfl (Nat.zero_le _) (Nat.zero_le _) ?_
              first | (exact absurd h88 (by decide)) | exact ⟨by unfold cmpV cmpX; (first | rw [if_pos h36] | rw [if_neg h36] | skip); (first | rw [if_pos h56] | rw [if_neg h56] | skip); (first | rw [if_pos h5] | rw [if_neg h5] | skip); (first | rw [if_pos h14] | rw [if_neg h14] | skip); (first | rw [if_pos h42] | rw [if_neg h42] | skip); (first | rw [if_pos h62] | rw [if_neg h62] | skip); (first | rw [if_pos h76] | rw [if_neg h76] | skip), rfl⟩
          · refine jj_iconst (v := 1) (q := 80) dX5_compare_79 rfl rfl ?_
            refine jj_goto (tgt := 84) dX5_compare_80 rfl ?_
            refine jj_istore (q := 86) dX5_compare_84 (by decide) rfl ?_
            refine jj_iload (q := 88) dX5_compare_86 rfl rfl ?_
            refine jj_if_eq (q := 91) (tgt := 95) dX5_compare_88 rfl rfl (fun h88 => ?_) (fun h88 => ?_)
            · refine jj_iconst (v := 0) (q := 96) dX5_compare_95 rfl rfl ?_
              refine jj_iret dX5_compare_96 rfl (Nat.zero_le _) (Nat.zero_le _) ?_
              first | (exact absurd h88 (by decide)) | exact ⟨by unfold cmpV cmpX; (first | rw [if_pos h36] | rw [if_neg h36] | skip); (first | rw [if_pos h56] | rw [if_neg h56] | skip); (first | rw [if_pos h5] | rw [if_neg h5] | skip); (first | rw [if_pos h14] | rw [if_neg h14] | skip); (first | rw [if_pos h42] | rw [if_neg h42] | skip); (first | rw [if_pos h62] | rw [if_neg h62] | skip); (first | rw [if_pos h76] | rw [if_neg h76] | skip), rfl⟩
            · refine jj_iconst (v := 1) (q := 92) dX5_compare_91 rfl rfl ?_
              refine jj_goto (tgt := 96) dX5_compare_92 rfl ?_
              refine jj_iret dX5_compare_96 rfl (Nat.zero_le _) (Nat.zero_le _) ?_
              first | (exact absurd h88 (by decide)) | exact ⟨by unfold cmpV cmpX; (first | rw [if_pos h36] | rw [if_neg h36] | skip); (first | rw [if_pos h56] | rw [if_neg h56] | skip); (first | rw [if_pos h5] | rw [if_neg h5] | skip); (first | rw [if_pos h14] | rw [if_neg h14] | skip); (first | rw [if_pos h42] | rw [if_neg h42] | skip); (first | rw [if_pos h62] | rw [if_neg h62] | skip); (first | rw [if_pos h76] | rw [if_neg h76] | skip), rfl⟩
        · refine jj_iload (q := 61) dX5_compare_59 rfl rfl ?_
          refine jj_iload_n (q := 62) dX5_compare_61 rfl rfl rfl ?_
          refine jj_icmp_le (q := 65) (tgt := 69) dX5_compare_62 rfl rfl (fun h62 => ?_) (fun h62 => ?_)
          · refine jj_iconst (v := 0) (q := 70) dX5_compare_69 rfl rfl ?_
            refine jj_goto (tgt := 84) dX5_compare_70 rfl ?_
            refine jj_istore (q := 86) dX5_compare_84 (by decide) rfl ?_
            refine jj_iload (q := 88) dX5_compare_86 rfl rfl ?_
            refine jj_if_eq (q := 91) (tgt := 95) dX5_compare_88 rfl rfl (fun h88 => ?_) (fun h88 => ?_)
            · refine jj_iconst (v := 0) (q := 96) dX5_compare_95 rfl rfl ?_
              refine jj_iret dX5_compare_96 rfl (Nat.zero_le _) (Nat.zero_le _) ?_
              first | (exact absurd h88 (by decide)) | exact ⟨by unfold cmpV cmpX; (first | rw [if_pos h36] | rw [if_neg h36] | skip); (first | rw [if_pos h56] | rw [if_neg h56] | skip); (first | rw [if_pos h5] | rw [if_neg h5] | skip); (first | rw [if_pos h14] | rw [if_neg h14] | skip); (first | rw [if_pos h42] | rw [if_neg h42] | skip); (first | rw [if_pos h62] | rw [if_neg h62] | skip); (first | rw [if_pos h76] | rw [if_neg h76] | skip), rfl⟩
            · refine jj_iconst (v := 1) (q := 92) dX5_compare_91 rfl rfl ?_
              refine jj_goto (tgt := 96) dX5_compare_92 rfl ?_
              refine jj_iret dX5_compare_96 rfl (Nat.zero_le _) (Nat.zero_le _) ?_
              first | (exact absurd h88 (by decide)) | exact ⟨by unfold cmpV cmpX; (first | rw [if_pos h36] | rw [if_neg h36] | skip); (first | rw [if_pos h56] | rw [if_neg h56] | skip); (first | rw [if_pos h5] | rw [if_neg h5] | skip); (first | rw [if_pos h14] | rw [if_neg h14] | skip); (first | rw [if_pos h42] | rw [if_neg h42] | skip); (first | rw [if_pos h62] | rw [if_neg h62] | skip); (first | rw [if_pos h76] | rw [if_neg h76] | skip), rfl⟩
          · refine jj_iconst (v := 1) (q := 66) dX5_compare_65 rfl rfl ?_
            refine jj_goto (tgt := 84) dX5_compare_66 rfl ?_
            refine jj_istore (q := 86) dX5_compare_84 (by decide) rfl ?_
            refine jj_iload (q := 88) dX5_compare_86 rfl rfl ?_
            refine jj_if_eq (q := 91) (tgt := 95) dX5_compare_88 rfl rfl (fun h88 => ?_) (fun h88 => ?_)
            · refine jj_iconst (v := 0) (q := 96) dX5_compare_95 rfl rfl ?_
              refine jj_iret dX5_compare_96 rfl (Nat.zero_le _) (Nat.zero_le _) ?_
              first | (exact absurd h88 (by decide)) | exact ⟨by unfold cmpV cmpX; (first | rw [if_pos h36] | rw [if_neg h36] | skip); (first | rw [if_pos h56] | rw [if_neg h56] | skip); (first | rw [if_pos h5] | rw [if_neg h5] | skip); (first | rw [if_pos h14] | rw [if_neg h14] | skip); (first | rw [if_pos h42] | rw [if_neg h42] | skip); (first | rw [if_pos h62] | rw [if_neg h62] | skip); (first | rw [if_pos h76] | rw [if_neg h76] | skip), rfl⟩
            · refine jj_iconst (v := 1) (q := 92) dX5_compare_91 rfl rfl ?_
              refine jj_goto (tgt := 96) dX5_compare_92 rfl ?_
              refine jj_iret dX5_compare_96 rfl (Nat.zero_le _) (Nat.zero_le _) ?_
              first | (exact absurd h88 (by decide)) | exact ⟨by unfold cmpV cmpX; (first | rw [if_pos h36] | rw [if_neg h36] | skip); (first | rw [if_pos h56] | rw [if_neg h56] | skip); (first | rw [if_pos h5] | rw [if_neg h5] | skip); (first | rw [if_pos h14] | rw [if_neg h14] | skip); (first | rw [if_pos h42] | rw [if_neg h42] | skip); (first | rw [if_pos h62] | rw [if_neg h62] | skip); (first | rw [if_pos h76] | rw [if_neg h76] | skip), rfl⟩
      · refine jj_iload (q := 41) dX5_compare_39 rfl rfl ?_
        refine jj_iload_n (q := 42) dX5_compare_41 rfl rfl rfl ?_
        refine jj_icmp_ge (q := 45) (tgt := 49) dX5_compare_42 rfl rfl (fun h42 => ?_) (fun h42 => ?_)
        · refine jj_iconst (v := 0) (q := 50) dX5_compare_49 rfl rfl ?_
          refine jj_goto (tgt := 84) dX5_compare_50 rfl ?_
          refine jj_istore (q := 86) dX5_compare_84 (by decide) rfl ?_
          refine jj_iload (q := 88) dX5_compare_86 rfl rfl ?_
          refine jj_if_eq (q := 91) (tgt := 95) dX5_compare_88 rfl rfl (fun h88 => ?_) (fun h88 => ?_)
          · refine jj_iconst (v := 0) (q := 96) dX5_compare_95 rfl rfl ?_
            refine jj_iret dX5_compare_96 rfl (Nat.zero_le _) (Nat.zero_le _) ?_
            first | (exact absurd h88 (by decide)) | exact ⟨by unfold cmpV cmpX; (first | rw [if_pos h36] | rw [if_neg h36] | skip); (first | rw [if_pos h56] | rw [if_neg h56] | skip); (first | rw [if_pos h5] | rw [if_neg h5] | skip); (first | rw [if_pos h14] | rw [if_neg h14] | skip); (first | rw [if_pos h42] | rw [if_neg h42] | skip); (first | rw [if_pos h62] | rw [if_neg h62] | skip); (first | rw [if_pos h76] | rw [if_neg h76] | skip), rfl⟩
          · refine jj_iconst (v := 1) (q := 92) dX5_compare_91 rfl rfl ?_
            refine jj_goto (tgt := 96) dX5_compare_92 rfl ?_
            refine jj_iret dX5_compare_96 rfl (Nat.zero_le _) (Nat.zero_le _) ?_
            first | (exact absurd h88 (by decide)) | exact ⟨by unfold cmpV cmpX; (first | rw [if_pos h36] | rw [if_neg h36] | skip); (first | rw [if_pos h56] | rw [if_neg h56] | skip); (first | rw [if_pos h5] | rw [if_neg h5] | skip); (first | rw [if_pos h14] | rw [if_neg h14] | skip); (first | rw [if_pos h42] | rw [if_neg h42] | skip); (first | rw [if_pos h62] | rw [if_neg h62] | skip); (first | rw [if_pos h76] | rw [if_neg h76] | skip), rfl⟩
        · refine jj_iconst (v := 1) (q := 46) dX5_compare_45 rfl rfl ?_
          refine jj_goto (tgt := 84) dX5_compare_46 rfl ?_
          refine jj_istore (q := 86) dX5_compare_84 (by decide) rfl ?_
          refine jj_iload (q := 88) dX5_compare_86 rfl rfl ?_
          refine jj_if_eq (q := 91) (tgt := 95) dX5_compare_88 rfl rfl (fun h88 => ?_) (fun h88 => ?_)
          · refine jj_iconst (v := 0) (q := 96) dX5_compare_95 rfl rfl ?_
            refine jj_iret dX5_compare_96 rfl (Nat.zero_le _) (Nat.zero_le _) ?_
            first | (exact absurd h88 (by decide)) | exact ⟨by unfold cmpV cmpX; (first | rw [if_pos h36] | rw [if_neg h36] | skip); (first | rw [if_pos h56] | rw [if_neg h56] | skip); (first | rw [if_pos h5] | rw [if_neg h5] | skip); (first | rw [if_pos h14] | rw [if_neg h14] | skip); (first | rw [if_pos h42] | rw [if_neg h42] | skip); (first | rw [if_pos h62] | rw [if_neg h62] | skip); (first | rw [if_pos h76] | rw [if_neg h76] | skip), rfl⟩
          · refine jj_iconst (v := 1) (q := 92) dX5_compare_91 rfl rfl ?_
            refine jj_goto (tgt := 96) dX5_compare_92 rfl ?_
            refine jj_iret dX5_compare_96 rfl (Nat.zero_le _) (Nat.zero_le _) ?_
            first | (exact absurd h88 (by decide)) | exact ⟨by unfold cmpV cmpX; (first | rw [if_pos h36] | rw [if_neg h36] | skip); (first | rw [if_pos h56] | rw [if_neg h56] | skip); (first | rw [if_pos h5] | rw [if_neg h5] | skip); (first | rw [if_pos h14] | rw [if_neg h14] | skip); (first | rw [if_pos h42] | rw [if_neg h42] | skip); (first | rw [if_pos h62] | rw [if_neg h62] | skip); (first | rw [if_pos h76] | rw [if_neg h76] | skip), rfl⟩
    · refine jj_aload_n (q := 18) dX5_compare_17 rfl rfl rfl ?_
      refine jj_getR (q := 21) dX5_compare_18 fl_X5_28 hp.t11 hp.r11_5 rfl rfl rfl ?_
      refine jj_iload_n (q := 22) dX5_compare_21 rfl rfl rfl ?_
      refine jj_ialdv (q := 23) dX5_compare_22 hp.t15 (hP 15 (by decide)) (at_in (by omega) h5 h14) rfl ?_
      refine jj_goto (tgt := 27) dX5_compare_23 rfl ?_
      refine jj_istore (q := 29) dX5_compare_27 (by decide) rfl ?_
      refine jj_iload_n (q := 30) dX5_compare_29 rfl rfl rfl ?_
      refine jj_iconst (v := 3) (q := 31) dX5_compare_30 rfl rfl ?_
      refine jj_irem (q := 32) dX5_compare_31 (by decide) rfl ?_
      refine jj_istore (q := 34) dX5_compare_32 (by decide) rfl ?_
      refine jj_iload (q := 36) dX5_compare_34 rfl rfl ?_
      refine jj_if_ne (q := 39) (tgt := 53) dX5_compare_36 rfl rfl (fun h36 => ?_) (fun h36 => ?_)
      · refine jj_iload (q := 55) dX5_compare_53 rfl rfl ?_
        refine jj_iconst (v := 1) (q := 56) dX5_compare_55 rfl rfl ?_
        refine jj_icmp_ne (q := 59) (tgt := 73) dX5_compare_56 rfl rfl (fun h56 => ?_) (fun h56 => ?_)
        · refine jj_iload (q := 75) dX5_compare_73 rfl rfl ?_
          refine jj_iload_n (q := 76) dX5_compare_75 rfl rfl rfl ?_
          refine jj_icmp_ne (q := 79) (tgt := 83) dX5_compare_76 rfl rfl (fun h76 => ?_) (fun h76 => ?_)
          · refine jj_iconst (v := 0) (q := 84) dX5_compare_83 rfl rfl ?_
            refine jj_istore (q := 86) dX5_compare_84 (by decide) rfl ?_
            refine jj_iload (q := 88) dX5_compare_86 rfl rfl ?_
            refine jj_if_eq (q := 91) (tgt := 95) dX5_compare_88 rfl rfl (fun h88 => ?_) (fun h88 => ?_)
            · refine jj_iconst (v := 0) (q := 96) dX5_compare_95 rfl rfl ?_
              refine jj_iret dX5_compare_96 rfl (Nat.zero_le _) (Nat.zero_le _) ?_
              first | (exact absurd h88 (by decide)) | exact ⟨by unfold cmpV cmpX; (first | rw [if_pos h36] | rw [if_neg h36] | skip); (first | rw [if_pos h56] | rw [if_neg h56] | skip); (first | rw [if_pos h5] | rw [if_neg h5] | skip); (first | rw [if_pos h14] | rw [if_neg h14] | skip); (first | rw [if_pos h42] | rw [if_neg h42] | skip); (first | rw [if_pos h62] | rw [if_neg h62] | skip); (first | rw [if_pos h76] | rw [if_neg h76] | skip), rfl⟩
            · refine jj_iconst (v := 1) (q := 92) dX5_compare_91 rfl rfl ?_
              refine jj_goto (tgt := 96) dX5_compare_92 rfl ?_
              refine jj_iret dX5_compare_96 rfl (Nat.zero_le _) (Nat.zero_le _) ?_
              first | (exact absurd h88 (by decide)) | exact ⟨by unfold cmpV cmpX; (first | rw [if_pos h36] | rw [if_neg h36] | skip); (first | rw [if_pos h56] | rw [if_neg h56] | skip); (first | rw [if_pos h5] | rw [if_neg h5] | skip); (first | rw [if_pos h14] | rw [if_neg h14] | skip); (first | rw [if_pos h42] | rw [if_neg h42] | skip); (first | rw [if_pos h62] | rw [if_neg h62] | skip); (first | rw [if_pos h76] | rw [if_neg h76] | skip), rfl⟩
          · refine jj_iconst (v := 1) (q := 80) dX5_compare_79 rfl rfl ?_
            refine jj_goto (tgt := 84) dX5_compare_80 rfl ?_
            refine jj_istore (q := 86) dX5_compare_84 (by decide) rfl ?_
            refine jj_iload (q := 88) dX5_compare_86 rfl rfl ?_
            refine jj_if_eq (q := 91) (tgt := 95) dX5_compare_88 rfl rfl (fun h88 => ?_) (fun h88 => ?_)
            · refine jj_iconst (v := 0) (q := 96) dX5_compare_95 rfl rfl ?_
              refine jj_iret dX5_compare_96 rfl (Nat.zero_le _) (Nat.zero_le _) ?_
              first | (exact absurd h88 (by decide)) | exact ⟨by unfold cmpV cmpX; (first | rw [if_pos h36] | rw [if_neg h36] | skip); (first | rw [if_pos h56] | rw [if_neg h56] | skip); (first | rw [if_pos h5] | rw [if_neg h5] | skip); (first | rw [if_pos h14] | rw [if_neg h14] | skip); (first | rw [if_pos h42] | rw [if_neg h42] | skip); (first | rw [if_pos h62] | rw [if_neg h62] | skip); (first | rw [if_pos h76] | rw [if_neg h76] | skip), rfl⟩
            · refine jj_iconst (v := 1) (q := 92) dX5_compare_91 rfl rfl ?_
              refine jj_goto (tgt := 96) dX5_compare_92 rfl ?_
              refine jj_iret dX5_compare_96 rfl (Nat.zero_le _) (Nat.zero_le _) ?_
              first | (exact absurd h88 (by decide)) | exact ⟨by unfold cmpV cmpX; (first | rw [if_pos h36] | rw [if_neg h36] | skip); (first | rw [if_pos h56] | rw [if_neg h56] | skip); (first | rw [if_pos h5] | rw [if_neg h5] | skip); (first | rw [if_pos h14] | rw [if_neg h14] | skip); (first | rw [if_pos h42] | rw [if_neg h42] | skip); (first | rw [if_pos h62] | rw [if_neg h62] | skip); (first | rw [if_pos h76] | rw [if_neg h76] | skip), rfl⟩
        · refine jj_iload (q := 61) dX5_compare_59 rfl rfl ?_
          refine jj_iload_n (q := 62) dX5_compare_61 rfl rfl rfl ?_
          refine jj_icmp_le (q := 65) (tgt := 69) dX5_compare_62 rfl rfl (fun h62 => ?_) (fun h62 => ?_)
          · refine jj_iconst (v := 0) (q := 70) dX5_compare_69 rfl rfl ?_
            refine jj_goto (tgt := 84) dX5_compare_70 rfl ?_
            refine jj_istore (q := 86) dX5_compare_84 (by decide) rfl ?_
            refine jj_iload (q := 88) dX5_compare_86 rfl rfl ?_
            refine jj_if_eq (q := 91) (tgt := 95) dX5_compare_88 rfl rfl (fun h88 => ?_) (fun h88 => ?_)
            · refine jj_iconst (v := 0) (q := 96) dX5_compare_95 rfl rfl ?_
              refine jj_iret dX5_compare_96 rfl (Nat.zero_le _) (Nat.zero_le _) ?_
              first | (exact absurd h88 (by decide)) | exact ⟨by unfold cmpV cmpX; (first | rw [if_pos h36] | rw [if_neg h36] | skip); (first | rw [if_pos h56] | rw [if_neg h56] | skip); (first | rw [if_pos h5] | rw [if_neg h5] | skip); (first | rw [if_pos h14] | rw [if_neg h14] | skip); (first | rw [if_pos h42] | rw [if_neg h42] | skip); (first | rw [if_pos h62] | rw [if_neg h62] | skip); (first | rw [if_pos h76] | rw [if_neg h76] | skip), rfl⟩
            · refine jj_iconst (v := 1) (q := 92) dX5_compare_91 rfl rfl ?_
              refine jj_goto (tgt := 96) dX5_compare_92 rfl ?_
              refine jj_iret dX5_compare_96 rfl (Nat.zero_le _) (Nat.zero_le _) ?_
              first | (exact absurd h88 (by decide)) | exact ⟨by unfold cmpV cmpX; (first | rw [if_pos h36] | rw [if_neg h36] | skip); (first | rw [if_pos h56] | rw [if_neg h56] | skip); (first | rw [if_pos h5] | rw [if_neg h5] | skip); (first | rw [if_pos h14] | rw [if_neg h14] | skip); (first | rw [if_pos h42] | rw [if_neg h42] | skip); (first | rw [if_pos h62] | rw [if_neg h62] | skip); (first | rw [if_pos h76] | rw [if_neg h76] | skip), rfl⟩
          · refine jj_iconst (v := 1) (q := 66) dX5_compare_65 rfl rfl ?_
            refine jj_goto (tgt := 84) dX5_compare_66 rfl ?_
            refine jj_istore (q := 86) dX5_compare_84 (by decide) rfl ?_
            refine jj_iload (q := 88) dX5_compare_86 rfl rfl ?_
            refine jj_if_eq (q := 91) (tgt := 95) dX5_compare_88 rfl rfl (fun h88 => ?_) (fun h88 => ?_)
            · refine jj_iconst (v := 0) (q := 96) dX5_compare_95 rfl rfl ?_
              refine jj_iret dX5_compare_96 rfl (Nat.zero_le _) (Nat.zero_le _) ?_
              first | (exact absurd h88 (by decide)) | exact ⟨by unfold cmpV cmpX; (first | rw [if_pos h36] | rw [if_neg h36] | skip); (first | rw [if_pos h56] | rw [if_neg h56] | skip); (first | rw [if_pos h5] | rw [if_neg h5] | skip); (first | rw [if_pos h14] | rw [if_neg h14] | skip); (first | rw [if_pos h42] | rw [if_neg h42] | skip); (first | rw [if_pos h62] | rw [if_neg h62] | skip); (first | rw [if_pos h76] | rw [if_neg h76] | skip), rfl⟩
            · refine jj_iconst (v := 1) (q := 92) dX5_compare_91 rfl rfl ?_
              refine jj_goto (tgt := 96) dX5_compare_92 rfl ?_
              refine jj_iret dX5_compare_96 rfl (Nat.zero_le _) (Nat.zero_le _) ?_
              first | (exact absurd h88 (by decide)) | exact ⟨by unfold cmpV cmpX; (first | rw [if_pos h36] | rw [if_neg h36] | skip); (first | rw [if_pos h56] | rw [if_neg h56] | skip); (first | rw [if_pos h5] | rw [if_neg h5] | skip); (first | rw [if_pos h14] | rw [if_neg h14] | skip); (first | rw [if_pos h42] | rw [if_neg h42] | skip); (first | rw [if_pos h62] | rw [if_neg h62] | skip); (first | rw [if_pos h76] | rw [if_neg h76] | skip), rfl⟩
      · refine jj_iload (q := 41) dX5_compare_39 rfl rfl ?_
        refine jj_iload_n (q := 42) dX5_compare_41 rfl rfl rfl ?_
        refine jj_icmp_ge (q := 45) (tgt := 49) dX5_compare_42 rfl rfl (fun h42 => ?_) (fun h42 => ?_)
        · refine jj_iconst (v := 0) (q := 50) dX5_compare_49 rfl rfl ?_
          refine jj_goto (tgt := 84) dX5_compare_50 rfl ?_
          refine jj_istore (q := 86) dX5_compare_84 (by decide) rfl ?_
          refine jj_iload (q := 88) dX5_compare_86 rfl rfl ?_
          refine jj_if_eq (q := 91) (tgt := 95) dX5_compare_88 rfl rfl (fun h88 => ?_) (fun h88 => ?_)
          · refine jj_iconst (v := 0) (q := 96) dX5_compare_95 rfl rfl ?_
            refine jj_iret dX5_compare_96 rfl (Nat.zero_le _) (Nat.zero_le _) ?_
            first | (exact absurd h88 (by decide)) | exact ⟨by unfold cmpV cmpX; (first | rw [if_pos h36] | rw [if_neg h36] | skip); (first | rw [if_pos h56] | rw [if_neg h56] | skip); (first | rw [if_pos h5] | rw [if_neg h5] | skip); (first | rw [if_pos h14] | rw [if_neg h14] | skip); (first | rw [if_pos h42] | rw [if_neg h42] | skip); (first | rw [if_pos h62] | rw [if_neg h62] | skip); (first | rw [if_pos h76] | rw [if_neg h76] | skip), rfl⟩
          · refine jj_iconst (v := 1) (q := 92) dX5_compare_91 rfl rfl ?_
            refine jj_goto (tgt := 96) dX5_compare_92 rfl ?_
            refine jj_iret dX5_compare_96 rfl (Nat.zero_le _) (Nat.zero_le _) ?_
            first | (exact absurd h88 (by decide)) | exact ⟨by unfold cmpV cmpX; (first | rw [if_pos h36] | rw [if_neg h36] | skip); (first | rw [if_pos h56] | rw [if_neg h56] | skip); (first | rw [if_pos h5] | rw [if_neg h5] | skip); (first | rw [if_pos h14] | rw [if_neg h14] | skip); (first | rw [if_pos h42] | rw [if_neg h42] | skip); (first | rw [if_pos h62] | rw [if_neg h62] | skip); (first | rw [if_pos h76] | rw [if_neg h76] | skip), rfl⟩
        · refine jj_iconst (v := 1) (q := 46) dX5_compare_45 rfl rfl ?_
          refine jj_goto (tgt := 84) dX5_compare_46 rfl ?_
          refine jj_istore (q := 86) dX5_compare_84 (by decide) rfl ?_
          refine jj_iload (q := 88) dX5_compare_86 rfl rfl ?_
          refine jj_if_eq (q := 91) (tgt := 95) dX5_compare_88 rfl rfl (fun h88 => ?_) (fun h88 => ?_)
          · refine jj_iconst (v := 0) (q := 96) dX5_compare_95 rfl rfl ?_
            refine jj_iret dX5_compare_96 rfl (Nat.zero_le _) (Nat.zero_le _) ?_
            first | (exact absurd h88 (by decide)) | exact ⟨by unfold cmpV cmpX; (first | rw [if_pos h36] | rw [if_neg h36] | skip); (first | rw [if_pos h56] | rw [if_neg h56] | skip); (first | rw [if_pos h5] | rw [if_neg h5] | skip); (first | rw [if_pos h14] | rw [if_neg h14] | skip); (first | rw [if_pos h42] | rw [if_neg h42] | skip); (first | rw [if_pos h62] | rw [if_neg h62] | skip); (first | rw [if_pos h76] | rw [if_neg h76] | skip), rfl⟩
          · refine jj_iconst (v := 1) (q := 92) dX5_compare_91 rfl rfl ?_
            refine jj_goto (tgt := 96) dX5_compare_92 rfl ?_
            refine jj_iret dX5_compare_96 rfl (Nat.zero_le _) (Nat.zero_le _) ?_
            first | (exact absurd h88 (by decide)) | exact ⟨by unfold cmpV cmpX; (first | rw [if_pos h36] | rw [if_neg h36] | skip); (first | rw [if_pos h56] | rw [if_neg h56] | skip); (first | rw [if_pos h5] | rw [if_neg h5] | skip); (first | rw [if_pos h14] | rw [if_neg h14] | skip); (first | rw [if_pos h42] | rw [if_neg h42] | skip); (first | rw [if_pos h62] | rw [if_neg h62] | skip); (first | rw [if_pos h76] | rw [if_neg h76] | skip), rfl⟩
theorem lp_holds (hp : hPl T R p) (hP : ∀ k : Nat, k < 16 → I (p + k) = P k) {fr to : Nat} (hto : to ≤ 600) : ∀ (k i : Nat) (x : Int32) (x1 x6 x7 : Option Value), i + k = to → JJ Γ (jj_E Y_X5_holds) (jj_Z Γ (rI (if hRun P k i x &&& 1 = 1 then 1 else 0) (T, R, S, I, L, D, z)) 0 0) (jj_rm (d + 1) 0 0) 0 0 34 [some (.ref (p + 11)), x1, some (.int (nI fr)), some (.int (nI to)), some (.int x), some (.int (nI i)), x6, x7] [] (T, R, S, I, L, D, z) := by
  intro k
  induction k with
  | zero =>
    intro i x x1 x6 x7 hi
    refine jj_iload (q := 36) dX5_holds_34 rfl rfl ?_
    refine jj_iload_n (q := 37) dX5_holds_36 rfl rfl rfl ?_
    refine jj_icmp_ge (q := 40) (tgt := 142) dX5_holds_37 rfl rfl (fun h37 => ?_) (fun h37 => absurd ((nI_le (show to ≤ i by omega) (by omega))) h37)
    refine jj_iload (q := 144) dX5_holds_142 rfl rfl ?_
    refine jj_iconst (v := 1) (q := 145) dX5_holds_144 rfl rfl ?_
    refine jj_iand (q := 146) dX5_holds_145 rfl ?_
    refine jj_iconst (v := 1) (q := 147) dX5_holds_146 rfl rfl ?_
    refine jj_icmp_ne (q := 150) (tgt := 154) dX5_holds_147 rfl rfl (fun h147 => ?_) (fun h147 => ?_)
    · refine jj_iconst (v := 0) (q := 155) dX5_holds_154 rfl rfl ?_
      refine jj_zret dX5_holds_155 rfl (by first | rfl | assumption) (Nat.zero_le _) (Nat.zero_le _) ?_
      exact ⟨by rw [hRun]; (first | rw [if_pos h147] | rw [if_neg h147]), rfl⟩
    · refine jj_iconst (v := 1) (q := 151) dX5_holds_150 rfl rfl ?_
      refine jj_goto (tgt := 155) dX5_holds_151 rfl ?_
      refine jj_zret dX5_holds_155 rfl (by first | rfl | assumption) (Nat.zero_le _) (Nat.zero_le _) ?_
      exact ⟨by rw [hRun]; (first | rw [if_pos h147] | rw [if_neg h147]), rfl⟩
  | succ k ih =>
    intro i x x1 x6 x7 hi
    refine jj_iload (q := 36) dX5_holds_34 rfl rfl ?_
    refine jj_iload_n (q := 37) dX5_holds_36 rfl rfl rfl ?_
    refine jj_icmp_ge (q := 40) (tgt := 142) dX5_holds_37 rfl rfl (fun h37 => absurd h37 ((nI_ge (show i < to by omega) (by omega)))) (fun h37 => ?_)
    refine jj_aload_n (q := 41) dX5_holds_40 rfl rfl rfl ?_
    refine jj_getR (q := 44) dX5_holds_41 fl_X5_22 hp.t11 hp.r11_3 rfl rfl rfl ?_
    refine jj_iload (q := 46) dX5_holds_44 rfl rfl ?_
    refine jj_cN2i (q := 49) dX5_holds_46 yk_X8_at ml_X5_35 (ex_atv hp.t13 (hP 13 (by decide)) rfl) rfl rfl rfl ⟨Nat.zero_le _, Nat.zero_le _⟩ ?_
    rw [atV_nI (show i < 600 by omega) (by omega)]
    refine jj_istore (q := 51) dX5_holds_49 (by decide) rfl ?_
    refine jj_iload (q := 53) dX5_holds_51 rfl rfl ?_
    refine jj_iconst (v := 1) (q := 54) dX5_holds_53 rfl rfl ?_
    refine jj_iand (q := 55) dX5_holds_54 rfl ?_
    refine jj_istore (q := 57) dX5_holds_55 (by decide) rfl ?_
    refine jj_iload (q := 59) dX5_holds_57 rfl rfl ?_
    refine jj_bipush (v := 15) (q := 61) dX5_holds_59 rfl rfl ?_
    refine jj_icmp_ne (q := 64) (tgt := 73) dX5_holds_61 rfl rfl (fun h61 => ?_) (fun h61 => ?_)
    · refine jj_iload (q := 75) dX5_holds_73 rfl rfl ?_
      refine jj_bipush (v := 16) (q := 77) dX5_holds_75 rfl rfl ?_
      refine jj_icmp_ne (q := 80) (tgt := 95) dX5_holds_77 rfl rfl (fun h77 => ?_) (fun h77 => ?_)
      · refine jj_iload (q := 97) dX5_holds_95 rfl rfl ?_
        refine jj_bipush (v := 17) (q := 99) dX5_holds_97 rfl rfl ?_
        refine jj_icmp_ne (q := 102) (tgt := 114) dX5_holds_99 rfl rfl (fun h99 => ?_) (fun h99 => ?_)
        · refine jj_iload (q := 116) dX5_holds_114 rfl rfl ?_
          refine jj_iconst (v := 1) (q := 117) dX5_holds_116 rfl rfl ?_
          refine jj_ishl (q := 118) dX5_holds_117 rfl ?_
          refine jj_aload_n (q := 119) dX5_holds_118 rfl rfl rfl ?_
          refine jj_iload (q := 121) dX5_holds_119 rfl rfl ?_
          refine jj_aload_n (q := 122) dX5_holds_121 rfl rfl rfl ?_
          refine jj_getR (q := 125) dX5_holds_122 fl_X5_25 hp.t11 hp.r11_4 rfl rfl rfl ?_
          refine jj_iload (q := 127) dX5_holds_125 rfl rfl ?_
          refine jj_cN2i (q := 130) dX5_holds_127 yk_X8_at ml_X5_35 (ex_atv hp.t14 (hP 14 (by decide)) rfl) rfl rfl rfl ⟨Nat.zero_le _, Nat.zero_le _⟩ ?_
          rw [atV_nI (show i < 600 by omega) (by omega)]
          refine jj_cV2i (q := 133) dX5_holds_130 yk_X5_compare ml_X5_39 hp.t11 (ex_compare hp hP) rfl rfl rfl ⟨Nat.zero_le _, Nat.zero_le _⟩ ?_
          refine jj_ior (q := 134) dX5_holds_133 rfl ?_
          refine jj_istore (q := 136) dX5_holds_134 (by decide) rfl ?_
          refine jj_iinc (v := nI (i + 1)) (q := 139) dX5_holds_136 rfl (nI_inc i) (by decide) rfl ?_
          refine jj_goto (tgt := 34) dX5_holds_139 rfl ?_
          have h9 := ih (i + 1) (hSp P i x) x1 (some (.int (P 13 i))) (some (.int (x &&& 1))) (by omega)
          rw [hRun]
          refine Eq.mp ?_ h9
          unfold hSp
          (first | rw [if_pos h61] | rw [if_neg h61] | skip); (first | rw [if_pos h77] | rw [if_neg h77] | skip); (first | rw [if_pos h99] | rw [if_neg h99] | skip)
          rfl
        · refine jj_iload (q := 104) dX5_holds_102 rfl rfl ?_
          refine jj_iconst (v := 1) (q := 105) dX5_holds_104 rfl rfl ?_
          refine jj_ishr (q := 106) dX5_holds_105 rfl ?_
          refine jj_iload (q := 108) dX5_holds_106 rfl rfl ?_
          refine jj_ior (q := 109) dX5_holds_108 rfl ?_
          refine jj_istore (q := 111) dX5_holds_109 (by decide) rfl ?_
          refine jj_goto (tgt := 136) dX5_holds_111 rfl ?_
          refine jj_iinc (v := nI (i + 1)) (q := 139) dX5_holds_136 rfl (nI_inc i) (by decide) rfl ?_
          refine jj_goto (tgt := 34) dX5_holds_139 rfl ?_
          have h9 := ih (i + 1) (hSp P i x) x1 (some (.int (P 13 i))) (some (.int (x &&& 1))) (by omega)
          rw [hRun]
          refine Eq.mp ?_ h9
          unfold hSp
          (first | rw [if_pos h61] | rw [if_neg h61] | skip); (first | rw [if_pos h77] | rw [if_neg h77] | skip); (first | rw [if_pos h99] | rw [if_neg h99] | skip)
          rfl
      · refine jj_iload (q := 82) dX5_holds_80 rfl rfl ?_
        refine jj_iconst (v := 1) (q := 83) dX5_holds_82 rfl rfl ?_
        refine jj_ishr (q := 84) dX5_holds_83 rfl ?_
        refine jj_iload (q := 86) dX5_holds_84 rfl rfl ?_
        refine jj_bipush (v := -2) (q := 88) dX5_holds_86 rfl rfl ?_
        refine jj_ior (q := 89) dX5_holds_88 rfl ?_
        refine jj_iand (q := 90) dX5_holds_89 rfl ?_
        refine jj_istore (q := 92) dX5_holds_90 (by decide) rfl ?_
        refine jj_goto (tgt := 136) dX5_holds_92 rfl ?_
        refine jj_iinc (v := nI (i + 1)) (q := 139) dX5_holds_136 rfl (nI_inc i) (by decide) rfl ?_
        refine jj_goto (tgt := 34) dX5_holds_139 rfl ?_
        have h9 := ih (i + 1) (hSp P i x) x1 (some (.int (P 13 i))) (some (.int (x &&& 1))) (by omega)
        rw [hRun]
        refine Eq.mp ?_ h9
        unfold hSp
        (first | rw [if_pos h61] | rw [if_neg h61] | skip); (first | rw [if_pos h77] | rw [if_neg h77] | skip); (first | rw [if_pos h99] | rw [if_neg h99] | skip)
        rfl
    · refine jj_iload (q := 66) dX5_holds_64 rfl rfl ?_
      refine jj_iconst (v := 1) (q := 67) dX5_holds_66 rfl rfl ?_
      refine jj_ixor (q := 68) dX5_holds_67 rfl ?_
      refine jj_istore (q := 70) dX5_holds_68 (by decide) rfl ?_
      refine jj_goto (tgt := 136) dX5_holds_70 rfl ?_
      refine jj_iinc (v := nI (i + 1)) (q := 139) dX5_holds_136 rfl (nI_inc i) (by decide) rfl ?_
      refine jj_goto (tgt := 34) dX5_holds_139 rfl ?_
      have h9 := ih (i + 1) (hSp P i x) x1 (some (.int (P 13 i))) (some (.int (x &&& 1))) (by omega)
      rw [hRun]
      refine Eq.mp ?_ h9
      unfold hSp
      (first | rw [if_pos h61] | rw [if_neg h61] | skip); (first | rw [if_pos h77] | rw [if_neg h77] | skip); (first | rw [if_pos h99] | rw [if_neg h99] | skip)
      rfl
theorem ex_holds0 (hp : hPl T R p) (hP : ∀ k : Nat, k < 16 → I (p + k) = P k) {to : Nat} (hto : to ≤ 600) (ht : P 12 0 = nI to) : Ex Γ (d + 1) Y_X5_holds [.ref (p + 11), .int 0] (T, R, S, I, L, D, z) 0 0 (rI (hHo P 0 to) (T, R, S, I, L, D, z)) := by
  refine Ex.of (by decide) (by simp [Value.category]) (Nat.le_of_ble_eq_true rfl) rfl ?_
  refine jj_iload_n (q := 1) dX5_holds_0 rfl rfl rfl ?_
  refine jj_if_ne (q := 4) (tgt := 8) dX5_holds_1 rfl rfl (fun h1 => by exfalso; exact h1 rfl) (fun h1 => ?_)
  refine jj_iconst (v := 0) (q := 5) dX5_holds_4 rfl rfl ?_
  refine jj_goto (tgt := 18) dX5_holds_5 rfl ?_
  refine jj_istore_n (q := 19) dX5_holds_18 rfl (by decide) rfl ?_
  refine jj_aload_n (q := 20) dX5_holds_19 rfl rfl rfl ?_
  refine jj_getR (q := 23) dX5_holds_20 fl_X5_18 hp.t11 hp.r11_2 rfl rfl rfl ?_
  refine jj_iload_n (q := 24) dX5_holds_23 rfl rfl rfl ?_
  refine jj_cN2i (q := 27) dX5_holds_24 yk_X8_at ml_X5_35 (ex_atv hp.t12 (hP 12 (by decide)) rfl) rfl rfl rfl ⟨Nat.zero_le _, Nat.zero_le _⟩ ?_
  rw [show (0 : Int32) = nI 0 from rfl, atV_nI (show 0 < 3 by omega) (by omega), ht]
  refine jj_istore_n (q := 28) dX5_holds_27 rfl (by decide) rfl ?_
  refine jj_iconst (v := 0) (q := 29) dX5_holds_28 rfl rfl ?_
  refine jj_istore (q := 31) dX5_holds_29 (by decide) rfl ?_
  refine jj_iload_n (q := 32) dX5_holds_31 rfl rfl rfl ?_
  refine jj_istore (q := 34) dX5_holds_32 (by decide) rfl ?_
  exact lp_holds hp hP hto to 0 0 _ none none (by omega)
theorem ex_holdsS (hp : hPl T R p) (hP : ∀ k : Nat, k < 16 → I (p + k) = P k) {t fr to : Nat} (ht3 : t + 1 < 3) (hf : fr ≤ to) (hto : to ≤ 600) (ht0 : P 12 t = nI fr) (ht : P 12 (t + 1) = nI to) : Ex Γ (d + 1) Y_X5_holds [.ref (p + 11), .int (nI (t + 1))] (T, R, S, I, L, D, z) 0 0 (rI (hHo P fr to) (T, R, S, I, L, D, z)) := by
  refine Ex.of (by decide) (by simp [Value.category]) (Nat.le_of_ble_eq_true rfl) rfl ?_
  refine jj_iload_n (q := 1) dX5_holds_0 rfl rfl rfl ?_
  refine jj_if_ne (q := 4) (tgt := 8) dX5_holds_1 rfl rfl (fun h1 => ?_) (fun h1 => by exfalso; exact nI_ne0 (n := t + 1) (by omega) (by omega) h1)
  refine jj_aload_n (q := 9) dX5_holds_8 rfl rfl rfl ?_
  refine jj_getR (q := 12) dX5_holds_9 fl_X5_18 hp.t11 hp.r11_2 rfl rfl rfl ?_
  refine jj_iload_n (q := 13) dX5_holds_12 rfl rfl rfl ?_
  refine jj_iconst (v := 1) (q := 14) dX5_holds_13 rfl rfl ?_
  refine jj_isub (q := 15) dX5_holds_14 rfl ?_
  rw [show nI (t + 1) - 1 = nI t from nI_pred t]
  refine jj_cN2i (q := 18) dX5_holds_15 yk_X8_at ml_X5_35 (ex_atv hp.t12 (hP 12 (by decide)) rfl) rfl rfl rfl ⟨Nat.zero_le _, Nat.zero_le _⟩ ?_
  rw [atV_nI (show t < 3 by omega) (by omega), ht0]
  refine jj_istore_n (q := 19) dX5_holds_18 rfl (by decide) rfl ?_
  refine jj_aload_n (q := 20) dX5_holds_19 rfl rfl rfl ?_
  refine jj_getR (q := 23) dX5_holds_20 fl_X5_18 hp.t11 hp.r11_2 rfl rfl rfl ?_
  refine jj_iload_n (q := 24) dX5_holds_23 rfl rfl rfl ?_
  refine jj_cN2i (q := 27) dX5_holds_24 yk_X8_at ml_X5_35 (ex_atv hp.t12 (hP 12 (by decide)) rfl) rfl rfl rfl ⟨Nat.zero_le _, Nat.zero_le _⟩ ?_
  rw [atV_nI (show t + 1 < 3 by omega) (by omega), ht]
  refine jj_istore_n (q := 28) dX5_holds_27 rfl (by decide) rfl ?_
  refine jj_iconst (v := 0) (q := 29) dX5_holds_28 rfl rfl ?_
  refine jj_istore (q := 31) dX5_holds_29 (by decide) rfl ?_
  refine jj_iload_n (q := 32) dX5_holds_31 rfl rfl rfl ?_
  refine jj_istore (q := 34) dX5_holds_32 (by decide) rfl ?_
  exact lp_holds hp hP hto (to - fr) fr 0 _ none none (by omega)
end M22
