/-! THE COMPONENT'S QUESTIONS, 2 -/
def kcn (K : JI) (c : Nat) (f lo hi : Int32) : Int32 := nI (fb_ct (pOf K f lo hi) c)
def wK (K : JI) (c : Nat) (o f : Int32) : Int32 := if kcn K c o 11 11 - kcn K c f 11 11 = 0 then (if 0 < kcn K c o 0 9 - kcn K c f 0 9 then 1 else if kcn K c o 0 9 - kcn K c f 0 9 = 0 then (if f ≤ o then 0 else 1) else 0) else if 0 < kcn K c o 11 11 - kcn K c f 11 11 then 1 else if kcn K c o 11 11 - kcn K c f 11 11 = 0 then (if f ≤ o then 0 else 1) else 0
def pKW (K : JI) (c : Nat) (f : Int32) : Nat → Bool := fun o => decide (wK K c (nI o) f = 1)
theorem vv_ne {I : JI} {p b : Nat} {V : Nat → Int32} (h : b ≠ p + 15) : vv I p V b = I b := by
  funext j
  unfold vv
  rw [if_neg h]
theorem vv_self (I : JI) (p : Nat) : vv I p (I (p + 15)) = I := by
  funext b j
  unfold vv
  split
  · rename_i h; rw [h]
  · rfl
theorem cX.vv {T : JT} {R S : JR} {I P : JI} {xo a p : Nat} {O : Nat → Int32} (h : cX T R S I xo a p O P) {V : Nat → Int32} : cX T R S (vv I p V) xo a p O P := by
  obtain ⟨h1, h2, h3, h4, h5⟩ := h
  refine ⟨h1, h2, h3, ?_, fun k hk => ?_⟩
  · rw [vv_ne (fun e => by have := h2.2.t15; rw [← e, h1.1] at this; cases this)]; exact h4
  · rw [vv_ne (by omega)]; exact h5 k hk
theorem kHB_n (P K : JI) (b : Int32) : narrow .boolean (.int (kHB P K b)) = .int (kHB P K b) := by
  unfold kHB srch
  repeat' split
  all_goals first | rfl | exact (rfl : narrow .boolean (Value.int 1) = Value.int 1)
section M51
variable {Γ : Gam} {d : Nat} {T : JT} {R S : JR} {I K P : JI} {L : JL} {D : JD} {z : Option Nat} {xo a p c : Nat} {O : Nat → Int32}
theorem lp_worse (hx : cX T R S I xo a p O P) (hc : K 1 0 = nI c) (hc1 : c ≤ 100) {nf : Nat} (hf : P 0 6 = nI nf) (hf8 : nf ≤ 8) {f : Int32} : ∀ (k i n : Nat) (x4 : Option Value), (i + k = nf ∧ n = fb_ct (pKW K c f) i) → JJ Γ (jj_E Y_X8_worseFlights) (jj_Z Γ (rI (nI (fb_ct (pKW K c f) nf)) (T, R, S, blk 19 I a K, L, D, z)) 0 0) (jj_rm (d + 3) 0 0) 0 0 4 [some (.ref xo), some (.int f), some (.int (nI n)), some (.int (nI i)), x4] [] (T, R, S, blk 19 I a K, L, D, z) := by
  intro k
  induction k with
  | zero =>
    intro i n x4 hi
    refine jj_iload_n (q := 5) dX8_worseFlights_4 rfl rfl rfl ?_
    refine jj_aload_n (q := 6) dX8_worseFlights_5 rfl rfl rfl ?_
    refine jj_getS (q := 9) dX8_worseFlights_6 fl_X8_23 hx.t hx.sp rfl rfl rfl ?_
    refine jj_getIw (v := nI nf) (q := 12) dX8_worseFlights_9 fl_X8_226 hx.hp.t0 (by rw [hx.r0]; exact hf) rfl rfl ?_
    refine jj_icmp_ge (q := 15) (tgt := 70) dX8_worseFlights_12 rfl rfl (fun h12 => ?_) (fun h12 => absurd (nI_le (show nf ≤ i by omega) (by omega)) h12)
    refine jj_iload_n (q := 71) dX8_worseFlights_70 rfl rfl rfl ?_
    refine jj_iret dX8_worseFlights_71 rfl (Nat.zero_le _) (Nat.zero_le _) ?_
    exact ⟨by rw [hi.2, show i = nf by omega], rfl⟩
  | succ k ih =>
    intro i n x4 hi
    refine jj_iload_n (q := 5) dX8_worseFlights_4 rfl rfl rfl ?_
    refine jj_aload_n (q := 6) dX8_worseFlights_5 rfl rfl rfl ?_
    refine jj_getS (q := 9) dX8_worseFlights_6 fl_X8_23 hx.t hx.sp rfl rfl rfl ?_
    refine jj_getIw (v := nI nf) (q := 12) dX8_worseFlights_9 fl_X8_226 hx.hp.t0 (by rw [hx.r0]; exact hf) rfl rfl ?_
    refine jj_icmp_ge (q := 15) (tgt := 70) dX8_worseFlights_12 rfl rfl (fun h12 => absurd h12 ((nI_ge (show i < nf by omega) (by omega)))) (fun h12 => ?_)
    refine jj_aload_n (q := 16) dX8_worseFlights_15 rfl rfl rfl ?_
    refine jj_iload_n (q := 17) dX8_worseFlights_16 rfl rfl rfl ?_
    refine jj_cV1i (q := 20) dX8_worseFlights_17 yk_X8_shortOf ml_X8_270 hx.t (ex_shortOf hx hc hc1) rfl rfl rfl ⟨Nat.zero_le _, Nat.zero_le _⟩ ?_
    refine jj_aload_n (q := 21) dX8_worseFlights_20 rfl rfl rfl ?_
    refine jj_iload_n (q := 22) dX8_worseFlights_21 rfl rfl rfl ?_
    refine jj_cV1i (q := 25) dX8_worseFlights_22 yk_X8_shortOf ml_X8_270 hx.t (ex_shortOf hx hc hc1) rfl rfl rfl ⟨Nat.zero_le _, Nat.zero_le _⟩ ?_
    refine jj_isub (q := 26) dX8_worseFlights_25 rfl ?_
    refine jj_istore (q := 28) dX8_worseFlights_26 (by decide) rfl ?_
    refine jj_iload (q := 30) dX8_worseFlights_28 rfl rfl ?_
    refine jj_if_ne (q := 33) (tgt := 46) dX8_worseFlights_30 rfl rfl (fun h30 => ?_) (fun h30 => ?_)
    · refine jj_iload (q := 48) dX8_worseFlights_46 rfl rfl ?_
      refine jj_if_gt (q := 51) (tgt := 61) dX8_worseFlights_48 rfl rfl (fun h48 => ?_) (fun h48 => ?_)
      · refine jj_iinc (v := nI (n + 1)) (q := 64) dX8_worseFlights_61 rfl (nI_incn n 1 rfl) (by decide) rfl ?_
        refine jj_iinc (v := nI (i + 1)) (q := 67) dX8_worseFlights_64 rfl (nI_incn i 1 rfl) (by decide) rfl ?_
        refine jj_goto (tgt := 4) dX8_worseFlights_67 rfl ?_
        refine ih (i + 1) _ _ ⟨by omega, ?_⟩
        first
          | exact ct_y hi.2 (decide_eq_true (by unfold wK kcn; (first | rw [if_pos h30] | rw [if_neg h30] | rw [if_pos (Int32.not_le.mp h30)] | rw [if_neg (Int32.not_lt.mpr h30)] | skip); (first | rw [if_pos h48] | rw [if_neg h48] | rw [if_pos (Int32.not_le.mp h48)] | rw [if_neg (Int32.not_lt.mpr h48)] | skip); (first | rw [if_pos h53] | rw [if_neg h53] | rw [if_pos (Int32.not_le.mp h53)] | rw [if_neg (Int32.not_lt.mpr h53)] | skip); (first | rw [if_pos h58] | rw [if_neg h58] | rw [if_pos (Int32.not_le.mp h58)] | rw [if_neg (Int32.not_lt.mpr h58)] | skip)))
          | exact ct_m hi.2 (decide_eq_false (by unfold wK kcn; (first | rw [if_pos h30] | rw [if_neg h30] | rw [if_pos (Int32.not_le.mp h30)] | rw [if_neg (Int32.not_lt.mpr h30)] | skip); (first | rw [if_pos h48] | rw [if_neg h48] | rw [if_pos (Int32.not_le.mp h48)] | rw [if_neg (Int32.not_lt.mpr h48)] | skip); (first | rw [if_pos h53] | rw [if_neg h53] | rw [if_pos (Int32.not_le.mp h53)] | rw [if_neg (Int32.not_lt.mpr h53)] | skip); (first | rw [if_pos h58] | rw [if_neg h58] | rw [if_pos (Int32.not_le.mp h58)] | rw [if_neg (Int32.not_lt.mpr h58)] | skip); decide))
      · refine jj_iload (q := 53) dX8_worseFlights_51 rfl rfl ?_
        refine jj_if_ne (q := 56) (tgt := 64) dX8_worseFlights_53 rfl rfl (fun h53 => ?_) (fun h53 => ?_)
        · refine jj_iinc (v := nI (i + 1)) (q := 67) dX8_worseFlights_64 rfl (nI_incn i 1 rfl) (by decide) rfl ?_
          refine jj_goto (tgt := 4) dX8_worseFlights_67 rfl ?_
          refine ih (i + 1) _ _ ⟨by omega, ?_⟩
          first
            | exact ct_y hi.2 (decide_eq_true (by unfold wK kcn; (first | rw [if_pos h30] | rw [if_neg h30] | rw [if_pos (Int32.not_le.mp h30)] | rw [if_neg (Int32.not_lt.mpr h30)] | skip); (first | rw [if_pos h48] | rw [if_neg h48] | rw [if_pos (Int32.not_le.mp h48)] | rw [if_neg (Int32.not_lt.mpr h48)] | skip); (first | rw [if_pos h53] | rw [if_neg h53] | rw [if_pos (Int32.not_le.mp h53)] | rw [if_neg (Int32.not_lt.mpr h53)] | skip); (first | rw [if_pos h58] | rw [if_neg h58] | rw [if_pos (Int32.not_le.mp h58)] | rw [if_neg (Int32.not_lt.mpr h58)] | skip)))
            | exact ct_m hi.2 (decide_eq_false (by unfold wK kcn; (first | rw [if_pos h30] | rw [if_neg h30] | rw [if_pos (Int32.not_le.mp h30)] | rw [if_neg (Int32.not_lt.mpr h30)] | skip); (first | rw [if_pos h48] | rw [if_neg h48] | rw [if_pos (Int32.not_le.mp h48)] | rw [if_neg (Int32.not_lt.mpr h48)] | skip); (first | rw [if_pos h53] | rw [if_neg h53] | rw [if_pos (Int32.not_le.mp h53)] | rw [if_neg (Int32.not_lt.mpr h53)] | skip); (first | rw [if_pos h58] | rw [if_neg h58] | rw [if_pos (Int32.not_le.mp h58)] | rw [if_neg (Int32.not_lt.mpr h58)] | skip); decide))
        · refine jj_iload_n (q := 57) dX8_worseFlights_56 rfl rfl rfl ?_
          refine jj_iload_n (q := 58) dX8_worseFlights_57 rfl rfl rfl ?_
          refine jj_icmp_ge (q := 61) (tgt := 64) dX8_worseFlights_58 rfl rfl (fun h58 => ?_) (fun h58 => ?_)
          · refine jj_iinc (v := nI (i + 1)) (q := 67) dX8_worseFlights_64 rfl (nI_incn i 1 rfl) (by decide) rfl ?_
            refine jj_goto (tgt := 4) dX8_worseFlights_67 rfl ?_
            refine ih (i + 1) _ _ ⟨by omega, ?_⟩
            first
              | exact ct_y hi.2 (decide_eq_true (by unfold wK kcn; (first | rw [if_pos h30] | rw [if_neg h30] | rw [if_pos (Int32.not_le.mp h30)] | rw [if_neg (Int32.not_lt.mpr h30)] | skip); (first | rw [if_pos h48] | rw [if_neg h48] | rw [if_pos (Int32.not_le.mp h48)] | rw [if_neg (Int32.not_lt.mpr h48)] | skip); (first | rw [if_pos h53] | rw [if_neg h53] | rw [if_pos (Int32.not_le.mp h53)] | rw [if_neg (Int32.not_lt.mpr h53)] | skip); (first | rw [if_pos h58] | rw [if_neg h58] | rw [if_pos (Int32.not_le.mp h58)] | rw [if_neg (Int32.not_lt.mpr h58)] | skip)))
              | exact ct_m hi.2 (decide_eq_false (by unfold wK kcn; (first | rw [if_pos h30] | rw [if_neg h30] | rw [if_pos (Int32.not_le.mp h30)] | rw [if_neg (Int32.not_lt.mpr h30)] | skip); (first | rw [if_pos h48] | rw [if_neg h48] | rw [if_pos (Int32.not_le.mp h48)] | rw [if_neg (Int32.not_lt.mpr h48)] | skip); (first | rw [if_pos h53] | rw [if_neg h53] | rw [if_pos (Int32.not_le.mp h53)] | rw [if_neg (Int32.not_lt.mpr h53)] | skip); (first | rw [if_pos h58] | rw [if_neg h58] | rw [if_pos (Int32.not_le.mp h58)] | rw [if_neg (Int32.not_lt.mpr h58)] | skip); decide))
          · refine jj_iinc (v := nI (n + 1)) (q := 64) dX8_worseFlights_61 rfl (nI_incn n 1 rfl) (by decide) rfl ?_
            refine jj_iinc (v := nI (i + 1)) (q := 67) dX8_worseFlights_64 rfl (nI_incn i 1 rfl) (by decide) rfl ?_
            refine jj_goto (tgt := 4) dX8_worseFlights_67 rfl ?_
            refine ih (i + 1) _ _ ⟨by omega, ?_⟩
            first
              | exact ct_y hi.2 (decide_eq_true (by unfold wK kcn; (first | rw [if_pos h30] | rw [if_neg h30] | rw [if_pos (Int32.not_le.mp h30)] | rw [if_neg (Int32.not_lt.mpr h30)] | skip); (first | rw [if_pos h48] | rw [if_neg h48] | rw [if_pos (Int32.not_le.mp h48)] | rw [if_neg (Int32.not_lt.mpr h48)] | skip); (first | rw [if_pos h53] | rw [if_neg h53] | rw [if_pos (Int32.not_le.mp h53)] | rw [if_neg (Int32.not_lt.mpr h53)] | skip); (first | rw [if_pos h58] | rw [if_neg h58] | rw [if_pos (Int32.not_le.mp h58)] | rw [if_neg (Int32.not_lt.mpr h58)] | skip)))
              | exact ct_m hi.2 (decide_eq_false (by unfold wK kcn; (first | rw [if_pos h30] | rw [if_neg h30] | rw [if_pos (Int32.not_le.mp h30)] | rw [if_neg (Int32.not_lt.mpr h30)] | skip); (first | rw [if_pos h48] | rw [if_neg h48] | rw [if_pos (Int32.not_le.mp h48)] | rw [if_neg (Int32.not_lt.mpr h48)] | skip); (first | rw [if_pos h53] | rw [if_neg h53] | rw [if_pos (Int32.not_le.mp h53)] | rw [if_neg (Int32.not_lt.mpr h53)] | skip); (first | rw [if_pos h58] | rw [if_neg h58] | rw [if_pos (Int32.not_le.mp h58)] | rw [if_neg (Int32.not_lt.mpr h58)] | skip); decide))
    · refine jj_aload_n (q := 34) dX8_worseFlights_33 rfl rfl rfl ?_
      refine jj_iload_n (q := 35) dX8_worseFlights_34 rfl rfl rfl ?_
      refine jj_cV1i (q := 38) dX8_worseFlights_35 yk_X8_missingOf ml_X8_242 hx.t (ex_missingOf hx hc hc1) rfl rfl rfl ⟨Nat.zero_le _, Nat.zero_le _⟩ ?_
      refine jj_aload_n (q := 39) dX8_worseFlights_38 rfl rfl rfl ?_
      refine jj_iload_n (q := 40) dX8_worseFlights_39 rfl rfl rfl ?_
      refine jj_cV1i (q := 43) dX8_worseFlights_40 yk_X8_missingOf ml_X8_242 hx.t (ex_missingOf hx hc hc1) rfl rfl rfl ⟨Nat.zero_le _, Nat.zero_le _⟩ ?_
      refine jj_isub (q := 44) dX8_worseFlights_43 rfl ?_
      refine jj_istore (q := 46) dX8_worseFlights_44 (by decide) rfl ?_
      refine jj_iload (q := 48) dX8_worseFlights_46 rfl rfl ?_
      refine jj_if_gt (q := 51) (tgt := 61) dX8_worseFlights_48 rfl rfl (fun h48 => ?_) (fun h48 => ?_)
      · refine jj_iinc (v := nI (n + 1)) (q := 64) dX8_worseFlights_61 rfl (nI_incn n 1 rfl) (by decide) rfl ?_
        refine jj_iinc (v := nI (i + 1)) (q := 67) dX8_worseFlights_64 rfl (nI_incn i 1 rfl) (by decide) rfl ?_
        refine jj_goto (tgt := 4) dX8_worseFlights_67 rfl ?_
        refine ih (i + 1) _ _ ⟨by omega, ?_⟩
        first
          | exact ct_y hi.2 (decide_eq_true (by unfold wK kcn; (first | rw [if_pos h30] | rw [if_neg h30] | rw [if_pos (Int32.not_le.mp h30)] | rw [if_neg (Int32.not_lt.mpr h30)] | skip); (first | rw [if_pos h48] | rw [if_neg h48] | rw [if_pos (Int32.not_le.mp h48)] | rw [if_neg (Int32.not_lt.mpr h48)] | skip); (first | rw [if_pos h53] | rw [if_neg h53] | rw [if_pos (Int32.not_le.mp h53)] | rw [if_neg (Int32.not_lt.mpr h53)] | skip); (first | rw [if_pos h58] | rw [if_neg h58] | rw [if_pos (Int32.not_le.mp h58)] | rw [if_neg (Int32.not_lt.mpr h58)] | skip)))
          | exact ct_m hi.2 (decide_eq_false (by unfold wK kcn; (first | rw [if_pos h30] | rw [if_neg h30] | rw [if_pos (Int32.not_le.mp h30)] | rw [if_neg (Int32.not_lt.mpr h30)] | skip); (first | rw [if_pos h48] | rw [if_neg h48] | rw [if_pos (Int32.not_le.mp h48)] | rw [if_neg (Int32.not_lt.mpr h48)] | skip); (first | rw [if_pos h53] | rw [if_neg h53] | rw [if_pos (Int32.not_le.mp h53)] | rw [if_neg (Int32.not_lt.mpr h53)] | skip); (first | rw [if_pos h58] | rw [if_neg h58] | rw [if_pos (Int32.not_le.mp h58)] | rw [if_neg (Int32.not_lt.mpr h58)] | skip); decide))
      · refine jj_iload (q := 53) dX8_worseFlights_51 rfl rfl ?_
        refine jj_if_ne (q := 56) (tgt := 64) dX8_worseFlights_53 rfl rfl (fun h53 => ?_) (fun h53 => ?_)
        · refine jj_iinc (v := nI (i + 1)) (q := 67) dX8_worseFlights_64 rfl (nI_incn i 1 rfl) (by decide) rfl ?_
          refine jj_goto (tgt := 4) dX8_worseFlights_67 rfl ?_
          refine ih (i + 1) _ _ ⟨by omega, ?_⟩
          first
            | exact ct_y hi.2 (decide_eq_true (by unfold wK kcn; (first | rw [if_pos h30] | rw [if_neg h30] | rw [if_pos (Int32.not_le.mp h30)] | rw [if_neg (Int32.not_lt.mpr h30)] | skip); (first | rw [if_pos h48] | rw [if_neg h48] | rw [if_pos (Int32.not_le.mp h48)] | rw [if_neg (Int32.not_lt.mpr h48)] | skip); (first | rw [if_pos h53] | rw [if_neg h53] | rw [if_pos (Int32.not_le.mp h53)] | rw [if_neg (Int32.not_lt.mpr h53)] | skip); (first | rw [if_pos h58] | rw [if_neg h58] | rw [if_pos (Int32.not_le.mp h58)] | rw [if_neg (Int32.not_lt.mpr h58)] | skip)))
            | exact ct_m hi.2 (decide_eq_false (by unfold wK kcn; (first | rw [if_pos h30] | rw [if_neg h30] | rw [if_pos (Int32.not_le.mp h30)] | rw [if_neg (Int32.not_lt.mpr h30)] | skip); (first | rw [if_pos h48] | rw [if_neg h48] | rw [if_pos (Int32.not_le.mp h48)] | rw [if_neg (Int32.not_lt.mpr h48)] | skip); (first | rw [if_pos h53] | rw [if_neg h53] | rw [if_pos (Int32.not_le.mp h53)] | rw [if_neg (Int32.not_lt.mpr h53)] | skip); (first | rw [if_pos h58] | rw [if_neg h58] | rw [if_pos (Int32.not_le.mp h58)] | rw [if_neg (Int32.not_lt.mpr h58)] | skip); decide))
        · refine jj_iload_n (q := 57) dX8_worseFlights_56 rfl rfl rfl ?_
          refine jj_iload_n (q := 58) dX8_worseFlights_57 rfl rfl rfl ?_
          refine jj_icmp_ge (q := 61) (tgt := 64) dX8_worseFlights_58 rfl rfl (fun h58 => ?_) (fun h58 => ?_)
          · refine jj_iinc (v := nI (i + 1)) (q := 67) dX8_worseFlights_64 rfl (nI_incn i 1 rfl) (by decide) rfl ?_
            refine jj_goto (tgt := 4) dX8_worseFlights_67 rfl ?_
            refine ih (i + 1) _ _ ⟨by omega, ?_⟩
            first
              | exact ct_y hi.2 (decide_eq_true (by unfold wK kcn; (first | rw [if_pos h30] | rw [if_neg h30] | rw [if_pos (Int32.not_le.mp h30)] | rw [if_neg (Int32.not_lt.mpr h30)] | skip); (first | rw [if_pos h48] | rw [if_neg h48] | rw [if_pos (Int32.not_le.mp h48)] | rw [if_neg (Int32.not_lt.mpr h48)] | skip); (first | rw [if_pos h53] | rw [if_neg h53] | rw [if_pos (Int32.not_le.mp h53)] | rw [if_neg (Int32.not_lt.mpr h53)] | skip); (first | rw [if_pos h58] | rw [if_neg h58] | rw [if_pos (Int32.not_le.mp h58)] | rw [if_neg (Int32.not_lt.mpr h58)] | skip)))
              | exact ct_m hi.2 (decide_eq_false (by unfold wK kcn; (first | rw [if_pos h30] | rw [if_neg h30] | rw [if_pos (Int32.not_le.mp h30)] | rw [if_neg (Int32.not_lt.mpr h30)] | skip); (first | rw [if_pos h48] | rw [if_neg h48] | rw [if_pos (Int32.not_le.mp h48)] | rw [if_neg (Int32.not_lt.mpr h48)] | skip); (first | rw [if_pos h53] | rw [if_neg h53] | rw [if_pos (Int32.not_le.mp h53)] | rw [if_neg (Int32.not_lt.mpr h53)] | skip); (first | rw [if_pos h58] | rw [if_neg h58] | rw [if_pos (Int32.not_le.mp h58)] | rw [if_neg (Int32.not_lt.mpr h58)] | skip); decide))
          · refine jj_iinc (v := nI (n + 1)) (q := 64) dX8_worseFlights_61 rfl (nI_incn n 1 rfl) (by decide) rfl ?_
            refine jj_iinc (v := nI (i + 1)) (q := 67) dX8_worseFlights_64 rfl (nI_incn i 1 rfl) (by decide) rfl ?_
            refine jj_goto (tgt := 4) dX8_worseFlights_67 rfl ?_
            refine ih (i + 1) _ _ ⟨by omega, ?_⟩
            first
              | exact ct_y hi.2 (decide_eq_true (by unfold wK kcn; (first | rw [if_pos h30] | rw [if_neg h30] | rw [if_pos (Int32.not_le.mp h30)] | rw [if_neg (Int32.not_lt.mpr h30)] | skip); (first | rw [if_pos h48] | rw [if_neg h48] | rw [if_pos (Int32.not_le.mp h48)] | rw [if_neg (Int32.not_lt.mpr h48)] | skip); (first | rw [if_pos h53] | rw [if_neg h53] | rw [if_pos (Int32.not_le.mp h53)] | rw [if_neg (Int32.not_lt.mpr h53)] | skip); (first | rw [if_pos h58] | rw [if_neg h58] | rw [if_pos (Int32.not_le.mp h58)] | rw [if_neg (Int32.not_lt.mpr h58)] | skip)))
              | exact ct_m hi.2 (decide_eq_false (by unfold wK kcn; (first | rw [if_pos h30] | rw [if_neg h30] | rw [if_pos (Int32.not_le.mp h30)] | rw [if_neg (Int32.not_lt.mpr h30)] | skip); (first | rw [if_pos h48] | rw [if_neg h48] | rw [if_pos (Int32.not_le.mp h48)] | rw [if_neg (Int32.not_lt.mpr h48)] | skip); (first | rw [if_pos h53] | rw [if_neg h53] | rw [if_pos (Int32.not_le.mp h53)] | rw [if_neg (Int32.not_lt.mpr h53)] | skip); (first | rw [if_pos h58] | rw [if_neg h58] | rw [if_pos (Int32.not_le.mp h58)] | rw [if_neg (Int32.not_lt.mpr h58)] | skip); decide))
theorem ex_worseFlights (hx : cX T R S I xo a p O P) (hc : K 1 0 = nI c) (hc1 : c ≤ 100) {nf : Nat} (hf : P 0 6 = nI nf) (hf8 : nf ≤ 8) {f : Int32} : Ex Γ (d + 3) Y_X8_worseFlights [.ref xo, .int f] (T, R, S, blk 19 I a K, L, D, z) 0 0 (rI (nI (fb_ct (pKW K c f) nf)) (T, R, S, blk 19 I a K, L, D, z)) := by
  refine Ex.of (by decide) (by simp [Value.category]) (Nat.le_of_ble_eq_true rfl) rfl ?_
  refine jj_iconst (v := 0) (q := 1) dX8_worseFlights_0 rfl rfl ?_
  refine jj_istore_n (q := 2) dX8_worseFlights_1 rfl (by decide) rfl ?_
  refine jj_iconst (v := 0) (q := 3) dX8_worseFlights_2 rfl rfl ?_
  refine jj_istore_n (q := 4) dX8_worseFlights_3 rfl (by decide) rfl ?_
  exact lp_worse hx hc hc1 hf hf8 nf 0 0 _ ⟨by omega, rfl⟩
theorem lp_worst (hx : cX T R S I xo a p O P) (hc : K 1 0 = nI c) (hc1 : c ≤ 100) {nf : Nat} (hf : P 0 6 = nI nf) (hf8 : nf ≤ 8) {b : Int32} : ∀ (k i : Nat), (i + k = nf ∧ ∀ j, j < i → decide (nI (fb_ct (pKW K c (nI j)) nf) = b) = false) → JJ Γ (jj_E Y_X8_worstFlight) (jj_Z Γ (cA 0 (some (.int (srch (fun f => decide (nI (fb_ct (pKW K c (nI f)) nf) = b)) nf nI (-1)))) (T, R, S, blk 19 I a K, L, D, none) (T, R, S, blk 19 I a K, L, D, none)) 0 0) (jj_rm (d + 8) 0 0) 0 0 7 [some (.ref xo), some (.int b), some (.int (nI i))] [] (T, R, S, blk 19 I a K, L, D, none) := by
  intro k
  induction k with
  | zero =>
    intro i hi
    refine jj_iload_n (q := 8) dX8_worstFlight_7 rfl rfl rfl ?_
    refine jj_aload_n (q := 9) dX8_worstFlight_8 rfl rfl rfl ?_
    refine jj_getS (q := 12) dX8_worstFlight_9 fl_X8_23 hx.t hx.sp rfl rfl rfl ?_
    refine jj_getIw (v := nI nf) (q := 15) dX8_worstFlight_12 fl_X8_226 hx.hp.t0 (by rw [hx.r0]; exact hf) rfl rfl ?_
    refine jj_icmp_ge (q := 18) (tgt := 35) dX8_worstFlight_15 rfl rfl (fun h15 => ?_) (fun h15 => absurd (nI_le (show nf ≤ i by omega) (by omega)) h15)
    refine jj_iconst (v := -1) (q := 36) dX8_worstFlight_35 rfl rfl ?_
    refine jj_iret dX8_worstFlight_36 rfl (Nat.zero_le _) (Nat.zero_le _) ?_
    exact cA_i (by rw [srch_none (fun j hj => hi.2 j (by omega))])
  | succ k ih =>
    intro i hi
    refine jj_iload_n (q := 8) dX8_worstFlight_7 rfl rfl rfl ?_
    refine jj_aload_n (q := 9) dX8_worstFlight_8 rfl rfl rfl ?_
    refine jj_getS (q := 12) dX8_worstFlight_9 fl_X8_23 hx.t hx.sp rfl rfl rfl ?_
    refine jj_getIw (v := nI nf) (q := 15) dX8_worstFlight_12 fl_X8_226 hx.hp.t0 (by rw [hx.r0]; exact hf) rfl rfl ?_
    refine jj_icmp_ge (q := 18) (tgt := 35) dX8_worstFlight_15 rfl rfl (fun h15 => absurd h15 ((nI_ge (show i < nf by omega) (by omega)))) (fun h15 => ?_)
    refine jj_aload_n (q := 19) dX8_worstFlight_18 rfl rfl rfl ?_
    refine jj_iload_n (q := 20) dX8_worstFlight_19 rfl rfl rfl ?_
    refine jj_cV1i (q := 23) dX8_worstFlight_20 yk_X8_worseFlights ml_X8_251 hx.t (ex_worseFlights hx hc hc1 hf hf8) rfl rfl rfl ⟨Nat.zero_le _, Nat.zero_le _⟩ ?_
    refine jj_iload_n (q := 24) dX8_worstFlight_23 rfl rfl rfl ?_
    refine jj_icmp_ne (q := 27) (tgt := 29) dX8_worstFlight_24 rfl rfl (fun h24 => ?_) (fun h24 => ?_)
    · refine jj_iinc (v := nI (i + 1)) (q := 32) dX8_worstFlight_29 rfl (nI_incn i 1 rfl) (by decide) rfl ?_
      refine jj_goto (tgt := 7) dX8_worstFlight_32 rfl ?_
      refine ih (i + 1) ⟨by omega, fun j hj => ?_⟩
      by_cases e : j = i
      · subst e; exact decide_eq_false h24
      · exact hi.2 j (by omega)
    · refine jj_iload_n (q := 28) dX8_worstFlight_27 rfl rfl rfl ?_
      refine jj_iret dX8_worstFlight_28 rfl (Nat.zero_le _) (Nat.zero_le _) ?_
      exact cA_i (by rw [srch_hit hi.2 (decide_eq_true h24) (by omega)])
theorem ex_worstFlight (hx : cX T R S I xo a p O P) (hc : K 1 0 = nI c) (hc1 : c ≤ 100) {nf : Nat} (hf : P 0 6 = nI nf) (hf8 : nf ≤ 8) {b : Int32} : Ex Γ (d + 8) Y_X8_worstFlight [.ref xo, .int b] (T, R, S, blk 19 I a K, L, D, none) (ec (orE (orE (eAir O) (orE (eIdx b (P 0 6)) 0)) (0))) (es (orE (orE (eAir O) (orE (eIdx b (P 0 6)) 0)) (0))) (cA (orE (orE (eAir O) (orE (eIdx b (P 0 6)) 0)) (0)) (some (.int (srch (fun f => decide (nI (fb_ct (pKW K c (nI f)) nf) = b)) nf nI (-1)))) (T, R, S, blk 19 I a K, L, D, none) (T, R, S, blk 19 I a K, L, D, none)) := by
  refine Ex.of (by decide) (by simp [Value.category]) (Nat.le_of_ble_eq_true rfl) rfl ?_
  refine jj_aload_n (q := 1) dX8_worstFlight_0 rfl rfl rfl ?_
  refine jj_iload_n (q := 2) dX8_worstFlight_1 rfl rfl rfl ?_
  refine jj_nV1 (q := 5) dX8_worstFlight_2 yk_X8_needFlight ml_X8_229 hx.t (ex_needFlight hx) rfl rfl rfl rfl (fun g2 => ?_)
  refine jj_iconst (v := 0) (q := 6) dX8_worstFlight_5 rfl rfl ?_
  refine jj_istore_n (q := 7) dX8_worstFlight_6 rfl (by decide) rfl ?_
  exact lp_worst hx hc hc1 hf hf8 nf 0 ⟨by omega, fun j hj => by omega⟩
theorem ex_evPart {n w : Int32} (hs : hSt T R a) (hw : eRng w 0 3 = 0) : Ex Γ (d + 1) Y_X4_eventPart [.ref a, .int n, .int w] (T, R, S, blk 19 I a K, L, D, z) 0 0 (rI (vEv K n w) (T, R, S, blk 19 I a K, L, D, z)) := by
  rcases in_lh (lo := 0) (hi := 3) (by omega) (by omega) w with ⟨q, h1, h3, rfl, hi, he⟩ | ⟨hi, he⟩
  · have e : q = 0 ∨ q = 1 ∨ q = 2 ∨ q = 3 := by omega
    rcases e with rfl | rfl | rfl | rfl
    · exact ex_eventPart0 hs
    · exact ex_eventPart1 hs
    · exact ex_eventPart2 hs
    · exact ex_eventPart3 hs
  · rw [show eRng w 0 3 = 3 from he] at hw
    cases hw
theorem ex_event (hx : cX T R S I xo a p O P) {n w : Int32}  : Ex Γ (d + 8) Y_X8_event [.ref xo, .int n, .int w] (T, R, S, blk 19 I a K, L, D, none) (ec (orE (eAir O) (orE (eIdx n (K 0 14)) (orE (eRng w 0 3) 0)))) (es (orE (eAir O) (orE (eIdx n (K 0 14)) (orE (eRng w 0 3) 0)))) (cA (orE (eAir O) (orE (eIdx n (K 0 14)) (orE (eRng w 0 3) 0))) (some (.int (vEv K n w))) (T, R, S, blk 19 I a K, L, D, none) (T, R, S, blk 19 I a K, L, D, none)) := by
  refine Ex.of (by decide) (by simp [Value.category]) (Nat.le_of_ble_eq_true rfl) rfl ?_
  refine jj_aload_n (q := 1) dX8_event_0 rfl rfl rfl ?_
  refine jj_nV0 (q := 4) dX8_event_1 yk_X8_needAirport ml_X8_168 hx.t (ex_needAirport hx) rfl rfl rfl rfl (fun g1 => ?_)
  refine jj_iload_n (q := 5) dX8_event_4 rfl rfl rfl ?_
  refine jj_aload_n (q := 6) dX8_event_5 rfl rfl rfl ?_
  refine jj_getS (q := 9) dX8_event_6 fl_X8_33 hx.t hx.sn rfl rfl rfl ?_
  refine jj_getIv (q := 12) dX8_event_9 fl_X8_254 hx.hs.t0 (blk_0 (by decide)) rfl rfl ?_
  refine jj_nS2 (q := 15) dX8_event_12 yk_X8_needIndex ml_X8_171 ex_needIndex rfl rfl rfl rfl (fun g12 => ?_)
  refine jj_iload_n (q := 16) dX8_event_15 rfl rfl rfl ?_
  refine jj_iconst (v := 0) (q := 17) dX8_event_16 rfl rfl ?_
  refine jj_iconst (v := 3) (q := 18) dX8_event_17 rfl rfl ?_
  refine jj_nS3 (q := 21) dX8_event_18 yk_X8_needRange ml_X8_181 ex_needRange rfl rfl rfl rfl (fun g18 => ?_)
  refine jj_aload_n (q := 22) dX8_event_21 rfl rfl rfl ?_
  refine jj_getS (q := 25) dX8_event_22 fl_X8_33 hx.t hx.sn rfl rfl rfl ?_
  refine jj_iload_n (q := 26) dX8_event_25 rfl rfl rfl ?_
  refine jj_iload_n (q := 27) dX8_event_26 rfl rfl rfl ?_
  refine jj_cV2i (q := 30) dX8_event_27 yk_X4_eventPart ml_X8_257 hx.hs.t0 (ex_evPart hx.hs g18) rfl rfl rfl ⟨Nat.zero_le _, Nat.zero_le _⟩ ?_
  refine jj_iret dX8_event_30 rfl (Nat.zero_le _) (Nat.zero_le _) ?_
  exact ⟨_, rfl, rfl, rfl⟩
theorem ex_isKept (hx : cX T R S I xo a p O P) (hW : wP P) {V : Nat → Int32} {b : Int32} : Ex Γ (d + 8) Y_X8_isKept [.ref xo, .int b] (T, R, S, blk 19 (vv I p V) a K, L, D, none) (ec (orE (orE (eAir O) (orE (eIdx b (K 1 0)) 0)) (0))) (es (orE (orE (eAir O) (orE (eIdx b (K 1 0)) 0)) (0))) (cE (orE (orE (eAir O) (orE (eIdx b (K 1 0)) 0)) (0)) (T, R, S, blk 19 (vv I p V) a K, L, D, none) (fun w M' => ∃ V, w = (some (.int (kHB P K b))) ∧ M' = (T, R, S, blk 19 (vv I p V) a K, L, D, none))) := by
  refine Ex.of (by decide) (by simp [Value.category]) (Nat.le_of_ble_eq_true rfl) rfl ?_
  refine jj_aload_n (q := 1) dX8_isKept_0 rfl rfl rfl ?_
  refine jj_iload_n (q := 2) dX8_isKept_1 rfl rfl rfl ?_
  refine jj_nV1 (q := 5) dX8_isKept_2 yk_X8_needBag ml_X8_113 hx.t (ex_needBag hx.vv) rfl rfl rfl rfl (fun g2 => ?_)
  refine jj_aload_n (q := 6) dX8_isKept_5 rfl rfl rfl ?_
  refine jj_getS (q := 9) dX8_isKept_6 fl_X8_23 hx.t hx.sp rfl rfl rfl ?_
  refine jj_aload_n (q := 10) dX8_isKept_9 rfl rfl rfl ?_
  refine jj_getS (q := 13) dX8_isKept_10 fl_X8_33 hx.t hx.sn rfl rfl rfl ?_
  refine jj_iload_n (q := 14) dX8_isKept_13 rfl rfl rfl ?_
  refine jj_eS3i (q := 17) dX8_isKept_14 yk_X7_isHeldBack ml_X8_162 (ex_isHeldBack hx.hs hx.hp hx.2.2.1.2 hx.2.2.2.2 hW) rfl rfl rfl ⟨Nat.zero_le _, Nat.zero_le _⟩ (fun V => ?_)
  refine jj_zret dX8_isKept_17 rfl (kHB_n _ _ _) (Nat.zero_le _) (Nat.zero_le _) ?_
  exact ⟨_, rfl, _, rfl, rfl⟩
end M51
