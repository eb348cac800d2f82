/-! THE MODEL'S QUESTIONS, 3 -/
theorem in_lh {lo hi : Nat} (hl : lo ≤ hi) (hh : hi + 1 < 2 ^ 31) (b : Int32) : (∃ n, lo ≤ n ∧ n ≤ hi ∧ b = nI n ∧ inI b (nI lo) (nI hi) = 1 ∧ eRng b (nI lo) (nI hi) = 0) ∨ (inI b (nI lo) (nI hi) = 0 ∧ eRng b (nI lo) (nI hi) = 3) := by
  unfold inI eRng
  by_cases h0 : b < nI lo
  · right
    rw [if_pos h0, if_pos h0]; exact ⟨rfl, rfl⟩
  · by_cases h1 : nI hi < b
    · right
      rw [if_neg h0, if_pos h1, if_neg h0, if_pos h1]; exact ⟨rfl, rfl⟩
    · left
      have hb0 : ¬ b < 0 := fun w => h0 (by
        rw [fa_lt, Int32.toInt_zero] at w
        rw [fa_lt, nI_toInt (by omega)]
        omega)
      obtain ⟨n, g1, g2, _⟩ := pk_mu (L := hi + 1) hb0 (fun w => h1 (by
        rw [fa_le, nI_toInt (by omega)] at w
        rw [fa_lt, nI_toInt (by omega)]
        omega)) hh
      subst g2
      refine ⟨n, ?_, by omega, rfl, ?_⟩
      · by_cases e : lo ≤ n
        · exact e
        · exact absurd (nI_lt (a := n) (b := lo) (by omega) (by omega)) h0
      · rw [if_neg h0, if_neg h1, if_neg h0, if_neg h1]; exact ⟨rfl, rfl⟩
def sQ (w : Int32) : Int32 := if inI w 1 3 = 0 then (if w = 4 then 7 else -1) else 2 * w - 1
def mac (A : JI) (lv m : Int32) : Int32 := if inI lv 1 3 = 0 then 0 else inI m 0 (A 2 (2 + nN lv) - 1)
theorem mac_n (A : JI) (lv m : Int32) : narrow .boolean (.int (mac A lv m)) = .int (mac A lv m) := by
  unfold mac
  split
  · rfl
  · exact inI_n _ _ _
def t2 (A : JI) (w : Int32) : Int32 := if mOk A 1 = 0 then tI A 1 else if w = 0 then 2 else tI A 1
def aQ (X : JV) (c : Nat) (w x : Int32) : Int32 := if sQ w = -1 then 0 else if inI x 0 (nI (mIn X (sQ w) c) - 1) = 0 then 0 else 1
def pA (X : JV) (s : Int32) (b : Nat) : Nat → Bool := fun o => decide (¬ nI o = nI b ∧ X (373 + o) = s ∧ ¬ mAh X o b = 0)
def pQm (X : JV) (s x : Int32) (c : Nat) : Nat → Bool := fun b => decide (X (373 + b) = s ∧ nI (fb_ct (pA X s b) c) = x)
section M49
variable {Γ : Gam} {d : Nat} {T : JT} {R S : JR} {I A : JI} {L : JL} {D : JD} {z : Option Nat} {mo : Nat} {X : JV}
theorem ex_stateOfQueue {w : Int32} {M : JM} : Ex Γ (d + 1) Y_X9_stateOfQueue [.int w] M 0 0 (rI (sQ w) M) := by
  refine Ex.of (by decide) (by simp [Value.category]) (Nat.le_of_ble_eq_true rfl) rfl ?_
  refine jj_iload_n (q := 1) dX9_stateOfQueue_0 rfl rfl rfl ?_
  refine jj_iconst (v := 1) (q := 2) dX9_stateOfQueue_1 rfl rfl ?_
  refine jj_iconst (v := 3) (q := 3) dX9_stateOfQueue_2 rfl rfl ?_
  refine jj_cS3i (q := 6) dX9_stateOfQueue_3 yk_X9_in ml_X9_111 ex_inI rfl rfl rfl ⟨Nat.zero_le _, Nat.zero_le _⟩ ?_
  refine jj_if_eq (q := 9) (tgt := 17) dX9_stateOfQueue_6 rfl rfl (fun h6 => ?_) (fun h6 => ?_)
  · refine jj_iload_n (q := 18) dX9_stateOfQueue_17 rfl rfl rfl ?_
    refine jj_iconst (v := 4) (q := 19) dX9_stateOfQueue_18 rfl rfl ?_
    refine jj_icmp_ne (q := 22) (tgt := 27) dX9_stateOfQueue_19 rfl rfl (fun h19 => ?_) (fun h19 => ?_)
    · refine jj_iconst (v := -1) (q := 28) dX9_stateOfQueue_27 rfl rfl ?_
      refine jj_iret dX9_stateOfQueue_28 rfl (Nat.zero_le _) (Nat.zero_le _) ?_
      exact ⟨by unfold sQ; (first | rw [if_pos h6] | rw [if_neg h6] | skip); (first | rw [if_pos h19] | rw [if_neg h19] | skip), rfl⟩
    · refine jj_bipush (v := 7) (q := 24) dX9_stateOfQueue_22 rfl rfl ?_
      refine jj_goto (tgt := 28) dX9_stateOfQueue_24 rfl ?_
      refine jj_iret dX9_stateOfQueue_28 rfl (Nat.zero_le _) (Nat.zero_le _) ?_
      exact ⟨by unfold sQ; (first | rw [if_pos h6] | rw [if_neg h6] | skip); (first | rw [if_pos h19] | rw [if_neg h19] | skip), rfl⟩
  · refine jj_iconst (v := 2) (q := 10) dX9_stateOfQueue_9 rfl rfl ?_
    refine jj_iload_n (q := 11) dX9_stateOfQueue_10 rfl rfl rfl ?_
    refine jj_imul (q := 12) dX9_stateOfQueue_11 rfl ?_
    refine jj_iconst (v := 1) (q := 13) dX9_stateOfQueue_12 rfl rfl ?_
    refine jj_isub (q := 14) dX9_stateOfQueue_13 rfl ?_
    refine jj_goto (tgt := 28) dX9_stateOfQueue_14 rfl ?_
    refine jj_iret dX9_stateOfQueue_28 rfl (Nat.zero_le _) (Nat.zero_le _) ?_
    exact ⟨by unfold sQ; (first | rw [if_pos h6] | rw [if_neg h6] | skip); (first | rw [if_pos h19] | rw [if_neg h19] | skip), rfl⟩
theorem ex_mwaiting (hm : hMo T S mo) {c : Nat} (hX : mI X) (hc : mC X = c) {b : Int32} : Ex Γ (d + 3) Y_X9_waiting [.ref mo, .int b] (T, R, S, blk 18 I mo (st A 4 X), L, D, z) 0 0 (rI (if mOk A 1 = 0 then 0 else if inI b 1 4 = 0 then 0 else nI (mIn X (sQ b) c)) (T, R, S, blk 18 I mo (st (tA A (t2 A (inI b 1 4))) 4 X), L, D, z)) := by
  refine Ex.of (by decide) (by simp [Value.category]) (Nat.le_of_ble_eq_true rfl) rfl ?_
  refine jj_aload_n (q := 1) dX9_waiting_0 rfl rfl rfl ?_
  refine jj_iconst (v := 1) (q := 2) dX9_waiting_1 rfl rfl ?_
  refine jj_cV1i (q := 5) dX9_waiting_2 yk_X9_mayAsk ml_X9_353 hm.t0 (ex_mayAsk hm) rfl rfl rfl ⟨Nat.zero_le _, Nat.zero_le _⟩ ?_
  refine jj_if_ne (q := 8) (tgt := 10) dX9_waiting_5 rfl rfl (fun h5 => ?_) (fun h5 => ?_)
  · refine jj_iload_n (q := 11) dX9_waiting_10 rfl rfl rfl ?_
    refine jj_iconst (v := 1) (q := 12) dX9_waiting_11 rfl rfl ?_
    refine jj_iconst (v := 4) (q := 13) dX9_waiting_12 rfl rfl ?_
    refine jj_cS3i (q := 16) dX9_waiting_13 yk_X9_in ml_X9_111 ex_inI rfl rfl rfl ⟨Nat.zero_le _, Nat.zero_le _⟩ ?_
    refine jj_if_eq (q := 19) (tgt := 33) dX9_waiting_16 rfl rfl (fun h16 => ?_) (fun h16 => ?_)
    · refine jj_aload_n (q := 34) dX9_waiting_33 rfl rfl rfl ?_
      refine jj_iconst (v := 2) (q := 35) dX9_waiting_34 rfl rfl ?_
      refine jj_cV1i (q := 38) dX9_waiting_35 yk_X9_throwsAt ml_X9_240 hm.t0 (ex_throwsAt hm) rfl rfl rfl ⟨Nat.zero_le _, Nat.zero_le _⟩ ?_
      refine jj_iret dX9_waiting_38 rfl (Nat.zero_le _) (Nat.zero_le _) ?_
      exact ⟨by rw [if_neg h5, if_pos h16], by unfold t2; rw [if_neg h5, if_pos h16, tA_tA]⟩
    · refine jj_aload_n (q := 20) dX9_waiting_19 rfl rfl rfl ?_
      refine jj_getS (q := 23) dX9_waiting_20 fl_X9_23 hm.t0 hm.r0_12 rfl rfl rfl ?_
      refine jj_iload_n (q := 24) dX9_waiting_23 rfl rfl rfl ?_
      refine jj_cS1i (q := 27) dX9_waiting_24 yk_X9_stateOfQueue ml_X9_363 ex_stateOfQueue rfl rfl rfl ⟨Nat.zero_le _, Nat.zero_le _⟩ ?_
      refine jj_cS2i (q := 30) dX9_waiting_27 yk_X9_inState ml_X9_276 (ex_inState hm u44 hX hc) rfl rfl rfl ⟨Nat.zero_le _, Nat.zero_le _⟩ ?_
      refine jj_goto (tgt := 38) dX9_waiting_30 rfl ?_
      refine jj_iret dX9_waiting_38 rfl (Nat.zero_le _) (Nat.zero_le _) ?_
      exact ⟨by rw [if_neg h5, if_neg h16], by unfold t2; rw [if_neg h5, if_neg h16]⟩
  · refine jj_iconst (v := 0) (q := 9) dX9_waiting_8 rfl rfl ?_
    refine jj_iret dX9_waiting_9 rfl (Nat.zero_le _) (Nat.zero_le _) ?_
    exact ⟨by rw [if_pos h5], by unfold t2; rw [if_pos h5]⟩
theorem lp_qI (hm : hMo T S mo) {c : Nat} (hX : mI X) (hc : mC X = c) {b : Nat} (hb : b < 100) {w x s : Int32} {Zf : List Frame → Array Value → State → State → Prop} (hz : JJ Γ (jj_E Y_X9_queueAt) Zf (jj_rm (d + 2) 0 0) 0 0 125 [some (.ref mo), some (.int w), some (.int x), some (.int s), some (.int (nI b)), some (.int (nI (fb_ct (pA X s b) c))), some (.int (nI c))] [] (T, R, S, blk 18 I mo (st A 4 X), L, D, z)) : ∀ (k i n : Nat), (i + k = c ∧ n = fb_ct (pA X s b) i) → JJ Γ (jj_E Y_X9_queueAt) Zf (jj_rm (d + 2) 0 0) 0 0 62 [some (.ref mo), some (.int w), some (.int x), some (.int s), some (.int (nI b)), some (.int (nI n)), some (.int (nI i))] [] (T, R, S, blk 18 I mo (st A 4 X), L, D, z) := by
  have hc2 : X 2 = nI c := by rw [← hc]; exact hX.c.1
  have hc1 : c < 101 := by rw [← hc]; exact hX.c.2
  intro k
  induction k with
  | zero =>
    intro i n hi
    refine jj_iload (q := 64) dX9_queueAt_62 rfl rfl ?_
    refine jj_aload_n (q := 65) dX9_queueAt_64 rfl rfl rfl ?_
    refine jj_getS (q := 68) dX9_queueAt_65 fl_X9_23 hm.t0 hm.r0_12 rfl rfl rfl ?_
    refine jj_iconst (v := 2) (q := 69) dX9_queueAt_68 rfl rfl ?_
    refine jj_ialdW (q := 70) (j := 2) (v := nI c) dX9_queueAt_69 hm.t4 (blk_st (by decide)) rfl (by omega) hc2 rfl ?_
    refine jj_icmp_ge (q := 73) (tgt := 125) dX9_queueAt_70 rfl rfl (fun h70 => ?_) (fun h70 => absurd (nI_le (show c ≤ i by omega) (by omega)) h70)
    obtain ⟨e1, e2⟩ := hi
    have e : i = c := by omega
    subst e
    rw [e2]
    exact hz
  | succ k ih =>
    intro i n hi
    refine jj_iload (q := 64) dX9_queueAt_62 rfl rfl ?_
    refine jj_aload_n (q := 65) dX9_queueAt_64 rfl rfl rfl ?_
    refine jj_getS (q := 68) dX9_queueAt_65 fl_X9_23 hm.t0 hm.r0_12 rfl rfl rfl ?_
    refine jj_iconst (v := 2) (q := 69) dX9_queueAt_68 rfl rfl ?_
    refine jj_ialdW (q := 70) (j := 2) (v := nI c) dX9_queueAt_69 hm.t4 (blk_st (by decide)) rfl (by omega) hc2 rfl ?_
    refine jj_icmp_ge (q := 73) (tgt := 125) dX9_queueAt_70 rfl rfl (fun h70 => absurd h70 ((nI_ge (show i < c by omega) (by omega)))) (fun h70 => ?_)
    refine jj_iload (q := 75) dX9_queueAt_73 rfl rfl ?_
    refine jj_iload (q := 77) dX9_queueAt_75 rfl rfl ?_
    refine jj_iload (q := 79) dX9_queueAt_77 rfl rfl ?_
    refine jj_icmp_eq (q := 82) (tgt := 115) dX9_queueAt_79 rfl rfl (fun h79 => ?_) (fun h79 => ?_)
    · refine jj_iconst (v := 0) (q := 116) dX9_queueAt_115 rfl rfl ?_
      refine jj_iaddN (q := 117) (a := n) (b := 0) dX9_queueAt_116 rfl rfl rfl ?_
      refine jj_istore (q := 119) dX9_queueAt_117 (by decide) rfl ?_
      refine jj_iinc (v := nI (i + 1)) (q := 122) dX9_queueAt_119 rfl (nI_incn i 1 rfl) (by decide) rfl ?_
      refine jj_goto (tgt := 62) dX9_queueAt_122 rfl ?_
      exact ih (i + 1) _ ⟨by omega, ct_n hi.2 (decide_eq_false (fun w => w.1 h79))⟩
    · refine jj_aload_n (q := 83) dX9_queueAt_82 rfl rfl rfl ?_
      refine jj_getS (q := 86) dX9_queueAt_83 fl_X9_23 hm.t0 hm.r0_12 rfl rfl rfl ?_
      refine jj_sipush (v := 373) (q := 89) dX9_queueAt_86 rfl rfl ?_
      refine jj_iload (q := 91) dX9_queueAt_89 rfl rfl ?_
      refine jj_iaddN (q := 92) (a := 373) (b := i) dX9_queueAt_91 rfl rfl rfl ?_
      refine jj_ialdN (q := 93) (j := 373 + i) dX9_queueAt_92 hm.t4 (blk_st (by decide)) rfl (by omega) rfl ?_
      refine jj_iload_n (q := 94) dX9_queueAt_93 rfl rfl rfl ?_
      refine jj_icmp_ne (q := 97) (tgt := 115) dX9_queueAt_94 rfl rfl (fun h94 => ?_) (fun h94 => ?_)
      · refine jj_iconst (v := 0) (q := 116) dX9_queueAt_115 rfl rfl ?_
        refine jj_iaddN (q := 117) (a := n) (b := 0) dX9_queueAt_116 rfl rfl rfl ?_
        refine jj_istore (q := 119) dX9_queueAt_117 (by decide) rfl ?_
        refine jj_iinc (v := nI (i + 1)) (q := 122) dX9_queueAt_119 rfl (nI_incn i 1 rfl) (by decide) rfl ?_
        refine jj_goto (tgt := 62) dX9_queueAt_122 rfl ?_
        exact ih (i + 1) _ ⟨by omega, ct_n hi.2 (decide_eq_false (fun w => h94 w.2.1))⟩
      · refine jj_aload_n (q := 98) dX9_queueAt_97 rfl rfl rfl ?_
        refine jj_getS (q := 101) dX9_queueAt_98 fl_X9_23 hm.t0 hm.r0_12 rfl rfl rfl ?_
        refine jj_iload (q := 103) dX9_queueAt_101 rfl rfl ?_
        refine jj_iload (q := 105) dX9_queueAt_103 rfl rfl ?_
        refine jj_cS3i (q := 108) dX9_queueAt_105 yk_X9_isAhead ml_X9_264 (ex_isAhead hm u44 hX (by omega) (by omega)) rfl rfl rfl ⟨Nat.zero_le _, Nat.zero_le _⟩ ?_
        refine jj_if_eq (q := 111) (tgt := 115) dX9_queueAt_108 rfl rfl (fun h108 => ?_) (fun h108 => ?_)
        · refine jj_iconst (v := 0) (q := 116) dX9_queueAt_115 rfl rfl ?_
          refine jj_iaddN (q := 117) (a := n) (b := 0) dX9_queueAt_116 rfl rfl rfl ?_
          refine jj_istore (q := 119) dX9_queueAt_117 (by decide) rfl ?_
          refine jj_iinc (v := nI (i + 1)) (q := 122) dX9_queueAt_119 rfl (nI_incn i 1 rfl) (by decide) rfl ?_
          refine jj_goto (tgt := 62) dX9_queueAt_122 rfl ?_
          exact ih (i + 1) _ ⟨by omega, ct_n hi.2 (decide_eq_false (fun w => w.2.2 h108))⟩
        · refine jj_iconst (v := 1) (q := 112) dX9_queueAt_111 rfl rfl ?_
          refine jj_goto (tgt := 116) dX9_queueAt_112 rfl ?_
          refine jj_iaddN (q := 117) (a := n) (b := 1) dX9_queueAt_116 rfl rfl rfl ?_
          refine jj_istore (q := 119) dX9_queueAt_117 (by decide) rfl ?_
          refine jj_iinc (v := nI (i + 1)) (q := 122) dX9_queueAt_119 rfl (nI_incn i 1 rfl) (by decide) rfl ?_
          refine jj_goto (tgt := 62) dX9_queueAt_122 rfl ?_
          exact ih (i + 1) _ ⟨by omega, ct_y hi.2 (decide_eq_true ⟨h79, h94, h108⟩)⟩
theorem lp_qO (hm : hMo T S mo) {c : Nat} (hX : mI X) (hc : mC X = c) {w x s : Int32} : ∀ (k i : Nat) (x5 x6 : Option Value), (i + k = c ∧ ∀ j, j < i → pQm X s x c j = false) → JJ Γ (jj_E Y_X9_queueAt) (jj_Z Γ (rI (srch (pQm X s x c) c nI (-1)) (T, R, S, blk 18 I mo (st A 4 X), L, D, z)) 0 0) (jj_rm (d + 2) 0 0) 0 0 45 [some (.ref mo), some (.int w), some (.int x), some (.int s), some (.int (nI i)), x5, x6] [] (T, R, S, blk 18 I mo (st A 4 X), L, D, z) := by
  have hc2 : X 2 = nI c := by rw [← hc]; exact hX.c.1
  have hc1 : c < 101 := by rw [← hc]; exact hX.c.2
  intro k
  induction k with
  | zero =>
    intro i x5 x6 hi
    refine jj_iload (q := 47) dX9_queueAt_45 rfl rfl ?_
    refine jj_aload_n (q := 48) dX9_queueAt_47 rfl rfl rfl ?_
    refine jj_getS (q := 51) dX9_queueAt_48 fl_X9_23 hm.t0 hm.r0_12 rfl rfl rfl ?_
    refine jj_iconst (v := 2) (q := 52) dX9_queueAt_51 rfl rfl ?_
    refine jj_ialdW (q := 53) (j := 2) (v := nI c) dX9_queueAt_52 hm.t4 (blk_st (by decide)) rfl (by omega) hc2 rfl ?_
    refine jj_icmp_ge (q := 56) (tgt := 155) dX9_queueAt_53 rfl rfl (fun h53 => ?_) (fun h53 => absurd (nI_le (show c ≤ i by omega) (by omega)) h53)
    refine jj_iconst (v := -1) (q := 156) dX9_queueAt_155 rfl rfl ?_
    refine jj_iret dX9_queueAt_156 rfl (Nat.zero_le _) (Nat.zero_le _) ?_
    exact ⟨by rw [srch_none (fun j hj => hi.2 j (by omega))], rfl⟩
  | succ k ih =>
    intro i x5 x6 hi
    refine jj_iload (q := 47) dX9_queueAt_45 rfl rfl ?_
    refine jj_aload_n (q := 48) dX9_queueAt_47 rfl rfl rfl ?_
    refine jj_getS (q := 51) dX9_queueAt_48 fl_X9_23 hm.t0 hm.r0_12 rfl rfl rfl ?_
    refine jj_iconst (v := 2) (q := 52) dX9_queueAt_51 rfl rfl ?_
    refine jj_ialdW (q := 53) (j := 2) (v := nI c) dX9_queueAt_52 hm.t4 (blk_st (by decide)) rfl (by omega) hc2 rfl ?_
    refine jj_icmp_ge (q := 56) (tgt := 155) dX9_queueAt_53 rfl rfl (fun h53 => absurd h53 ((nI_ge (show i < c by omega) (by omega)))) (fun h53 => ?_)
    refine jj_iconst (v := 0) (q := 57) dX9_queueAt_56 rfl rfl ?_
    refine jj_istore (q := 59) dX9_queueAt_57 (by decide) rfl ?_
    refine jj_iconst (v := 0) (q := 60) dX9_queueAt_59 rfl rfl ?_
    refine jj_istore (q := 62) dX9_queueAt_60 (by decide) rfl ?_
    refine lp_qI hm hX hc (show i < 100 by omega) ?_ c 0 0 ⟨by omega, rfl⟩
    refine jj_aload_n (q := 126) dX9_queueAt_125 rfl rfl rfl ?_
    refine jj_getS (q := 129) dX9_queueAt_126 fl_X9_23 hm.t0 hm.r0_12 rfl rfl rfl ?_
    refine jj_sipush (v := 373) (q := 132) dX9_queueAt_129 rfl rfl ?_
    refine jj_iload (q := 134) dX9_queueAt_132 rfl rfl ?_
    refine jj_iaddN (q := 135) (a := 373) (b := i) dX9_queueAt_134 rfl rfl rfl ?_
    refine jj_ialdN (q := 136) (j := 373 + i) dX9_queueAt_135 hm.t4 (blk_st (by decide)) rfl (by omega) rfl ?_
    refine jj_iload_n (q := 137) dX9_queueAt_136 rfl rfl rfl ?_
    refine jj_icmp_ne (q := 140) (tgt := 149) dX9_queueAt_137 rfl rfl (fun h137 => ?_) (fun h137 => ?_)
    · refine jj_iinc (v := nI (i + 1)) (q := 152) dX9_queueAt_149 rfl (nI_incn i 1 rfl) (by decide) rfl ?_
      refine jj_goto (tgt := 45) dX9_queueAt_152 rfl ?_
      refine ih (i + 1) _ _ ⟨by omega, fun j hj => ?_⟩
      by_cases e : j = i
      · subst e; exact decide_eq_false (fun w => h137 w.1)
      · exact hi.2 j (by omega)
    · refine jj_iload (q := 142) dX9_queueAt_140 rfl rfl ?_
      refine jj_iload_n (q := 143) dX9_queueAt_142 rfl rfl rfl ?_
      refine jj_icmp_ne (q := 146) (tgt := 149) dX9_queueAt_143 rfl rfl (fun h143 => ?_) (fun h143 => ?_)
      · refine jj_iinc (v := nI (i + 1)) (q := 152) dX9_queueAt_149 rfl (nI_incn i 1 rfl) (by decide) rfl ?_
        refine jj_goto (tgt := 45) dX9_queueAt_152 rfl ?_
        refine ih (i + 1) _ _ ⟨by omega, fun j hj => ?_⟩
        by_cases e : j = i
        · subst e; exact decide_eq_false (fun w => h143 w.2)
        · exact hi.2 j (by omega)
      · refine jj_iload (q := 148) dX9_queueAt_146 rfl rfl ?_
        refine jj_iret dX9_queueAt_148 rfl (Nat.zero_le _) (Nat.zero_le _) ?_
        exact ⟨by rw [srch_hit hi.2 (decide_eq_true ⟨h137, h143⟩) (by omega)], rfl⟩
theorem ex_mqueueAt (hm : hMo T S mo) {c : Nat} (hX : mI X) (hc : mC X = c) {w x : Int32} : Ex Γ (d + 2) Y_X9_queueAt [.ref mo, .int w, .int x] (T, R, S, blk 18 I mo (st A 4 X), L, D, z) 0 0 (rI (if mOk A (aQ X c w x) = 0 then 0 else srch (pQm X (sQ w) x c) c nI (-1)) (T, R, S, blk 18 I mo (st (tA A (tI A (aQ X c w x))) 4 X), L, D, z)) := by
  unfold aQ
  by_cases g1 : sQ w = -1
  · rw [if_pos g1]
    refine Ex.of (by decide) (by simp [Value.category]) (Nat.le_of_ble_eq_true rfl) rfl ?_
    refine jj_iload_n (q := 1) dX9_queueAt_0 rfl rfl rfl ?_
    refine jj_cS1i (q := 4) dX9_queueAt_1 yk_X9_stateOfQueue ml_X9_363 ex_stateOfQueue rfl rfl rfl ⟨Nat.zero_le _, Nat.zero_le _⟩ ?_
    refine jj_istore_n (q := 5) dX9_queueAt_4 rfl (by decide) rfl ?_
    refine jj_aload_n (q := 6) dX9_queueAt_5 rfl rfl rfl ?_
    refine jj_iload_n (q := 7) dX9_queueAt_6 rfl rfl rfl ?_
    refine jj_iconst (v := -1) (q := 8) dX9_queueAt_7 rfl rfl ?_
    refine jj_icmp_eq (q := 11) (tgt := 33) dX9_queueAt_8 rfl rfl (fun h8 => ?_) (fun h8 => absurd (g1) h8)
    refine jj_iconst (v := 0) (q := 34) dX9_queueAt_33 rfl rfl ?_
    refine jj_cV1i (q := 37) dX9_queueAt_34 yk_X9_mayAsk ml_X9_353 hm.t0 (ex_mayAsk hm) rfl rfl rfl ⟨Nat.zero_le _, Nat.zero_le _⟩ ?_
    refine jj_if_ne (q := 40) (tgt := 42) dX9_queueAt_37 rfl rfl (fun h37 => by exfalso; exact h37 mOk_0) (fun h37 => ?_)
    refine jj_iconst (v := 0) (q := 41) dX9_queueAt_40 rfl rfl ?_
    refine jj_iret dX9_queueAt_41 rfl (Nat.zero_le _) (Nat.zero_le _) ?_
    exact ⟨by rw [if_pos mOk_0], rfl⟩
  · rw [if_neg g1]
    refine Ex.of (by decide) (by simp [Value.category]) (Nat.le_of_ble_eq_true rfl) rfl ?_
    refine jj_iload_n (q := 1) dX9_queueAt_0 rfl rfl rfl ?_
    refine jj_cS1i (q := 4) dX9_queueAt_1 yk_X9_stateOfQueue ml_X9_363 ex_stateOfQueue rfl rfl rfl ⟨Nat.zero_le _, Nat.zero_le _⟩ ?_
    refine jj_istore_n (q := 5) dX9_queueAt_4 rfl (by decide) rfl ?_
    refine jj_aload_n (q := 6) dX9_queueAt_5 rfl rfl rfl ?_
    refine jj_iload_n (q := 7) dX9_queueAt_6 rfl rfl rfl ?_
    refine jj_iconst (v := -1) (q := 8) dX9_queueAt_7 rfl rfl ?_
    refine jj_icmp_eq (q := 11) (tgt := 33) dX9_queueAt_8 rfl rfl (fun h8 => absurd h8 (g1)) (fun h8 => ?_)
    refine jj_iload_n (q := 12) dX9_queueAt_11 rfl rfl rfl ?_
    refine jj_iconst (v := 0) (q := 13) dX9_queueAt_12 rfl rfl ?_
    refine jj_aload_n (q := 14) dX9_queueAt_13 rfl rfl rfl ?_
    refine jj_getS (q := 17) dX9_queueAt_14 fl_X9_23 hm.t0 hm.r0_12 rfl rfl rfl ?_
    refine jj_iload_n (q := 18) dX9_queueAt_17 rfl rfl rfl ?_
    refine jj_cS2i (q := 21) dX9_queueAt_18 yk_X9_inState ml_X9_276 (ex_inState hm u44 hX hc) rfl rfl rfl ⟨Nat.zero_le _, Nat.zero_le _⟩ ?_
    refine jj_iconst (v := 1) (q := 22) dX9_queueAt_21 rfl rfl ?_
    refine jj_isub (q := 23) dX9_queueAt_22 rfl ?_
    refine jj_cS3i (q := 26) dX9_queueAt_23 yk_X9_in ml_X9_111 ex_inI rfl rfl rfl ⟨Nat.zero_le _, Nat.zero_le _⟩ ?_
    refine jj_if_eq (q := 29) (tgt := 33) dX9_queueAt_26 rfl rfl (fun h26 => ?_) (fun h26 => ?_)
    · rw [if_pos h26]
      refine jj_iconst (v := 0) (q := 34) dX9_queueAt_33 rfl rfl ?_
      refine jj_cV1i (q := 37) dX9_queueAt_34 yk_X9_mayAsk ml_X9_353 hm.t0 (ex_mayAsk hm) rfl rfl rfl ⟨Nat.zero_le _, Nat.zero_le _⟩ ?_
      refine jj_if_ne (q := 40) (tgt := 42) dX9_queueAt_37 rfl rfl (fun h37 => ?_) (fun h37 => ?_)
      · refine jj_iconst (v := 0) (q := 43) dX9_queueAt_42 rfl rfl ?_
        refine jj_istore (q := 45) dX9_queueAt_43 (by decide) rfl ?_
        rw [if_neg h37]
        exact lp_qO hm hX hc c 0 _ _ ⟨by omega, fun j hj => by omega⟩
      · refine jj_iconst (v := 0) (q := 41) dX9_queueAt_40 rfl rfl ?_
        refine jj_iret dX9_queueAt_41 rfl (Nat.zero_le _) (Nat.zero_le _) ?_
        exact ⟨by rw [if_pos h37], rfl⟩
    · rw [if_neg h26]
      refine jj_iconst (v := 1) (q := 30) dX9_queueAt_29 rfl rfl ?_
      refine jj_goto (tgt := 34) dX9_queueAt_30 rfl ?_
      refine jj_cV1i (q := 37) dX9_queueAt_34 yk_X9_mayAsk ml_X9_353 hm.t0 (ex_mayAsk hm) rfl rfl rfl ⟨Nat.zero_le _, Nat.zero_le _⟩ ?_
      refine jj_if_ne (q := 40) (tgt := 42) dX9_queueAt_37 rfl rfl (fun h37 => ?_) (fun h37 => ?_)
      · refine jj_iconst (v := 0) (q := 43) dX9_queueAt_42 rfl rfl ?_
        refine jj_istore (q := 45) dX9_queueAt_43 (by decide) rfl ?_
        rw [if_neg h37]
        exact lp_qO hm hX hc c 0 _ _ ⟨by omega, fun j hj => by omega⟩
      · refine jj_iconst (v := 0) (q := 41) dX9_queueAt_40 rfl rfl ?_
        refine jj_iret dX9_queueAt_41 rfl (Nat.zero_le _) (Nat.zero_le _) ?_
        exact ⟨by rw [if_pos h37], rfl⟩
end M49
