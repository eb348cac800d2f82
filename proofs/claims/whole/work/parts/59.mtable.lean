/-! MAP, TIMETABLE AND BYTES of the model -/
theorem fM_c (g : Nat → Nat) {c : Nat} (h : c ≠ 17) : ∀ (k i : Nat) (A : JI), fM g i k A c = A c
  | 0, _, _ => rfl
  | k + 1, i, A => by rw [fM, fM_c g h k, u2_ne h]
section M59
variable {Γ : Gam} {d : Nat} {T : JT} {R S : JR} {I A : JI} {L : JL} {D : JD} {z : Option Nat} {mo k n s c : Nat} {X : JV}
theorem lp_mmap (hm : hMo T S mo) (hX : mI X) {ln : Nat} (hl : ln ≤ 40) {g : Nat → Nat} (hg : gX X g ln) : ∀ (k i : Nat) (A A' : JI), i + k = ln → A 0 36 = nI ln → fM g i k A = A' → JJ Γ (jj_E Y_X9_map) (jj_Z Γ (rI (nI ln) (T, R, S, blk 18 I mo (st A' 4 X), L, D, z)) 0 0) (jj_rm (d + 2) 0 0) 0 0 22 [some (.ref mo), some (.int (nI i))] [] (T, R, S, blk 18 I mo (st A 4 X), L, D, z) := by
  intro k
  induction k with
  | zero =>
    intro i A A' hi hq he
    subst he
    refine jj_iload_n (q := 23) dX9_map_22 rfl rfl rfl ?_
    refine jj_aload_n (q := 24) dX9_map_23 rfl rfl rfl ?_
    refine jj_getIw (v := nI ln) (q := 27) dX9_map_24 fl_X9_412 hm.t0 (by rw [blk_s0 (by decide) (by decide)]; exact hq) rfl rfl ?_
    refine jj_icmp_ge (q := 30) (tgt := 83) dX9_map_27 rfl rfl (fun h27 => ?_) (fun h27 => absurd (nI_le (show ln ≤ i by omega) (by omega)) h27)
    refine jj_aload_n (q := 84) dX9_map_83 rfl rfl rfl ?_
    refine jj_getIw (v := nI ln) (q := 87) dX9_map_84 fl_X9_412 hm.t0 (by rw [blk_s0 (by decide) (by decide)]; exact hq) rfl rfl ?_
    refine jj_iret dX9_map_87 rfl (Nat.zero_le _) (Nat.zero_le _) ?_
    exact ⟨rfl, rfl⟩
  | succ k ih =>
    intro i A A' hi hq he
    rcases hg i (by omega) with ⟨e1, e2⟩ | ⟨b, f, e1, e2, e3, e4, e5⟩
    · skip
      refine jj_iload_n (q := 23) dX9_map_22 rfl rfl rfl ?_
      refine jj_aload_n (q := 24) dX9_map_23 rfl rfl rfl ?_
      refine jj_getIw (v := nI ln) (q := 27) dX9_map_24 fl_X9_412 hm.t0 (by rw [blk_s0 (by decide) (by decide)]; exact hq) rfl rfl ?_
      refine jj_icmp_ge (q := 30) (tgt := 83) dX9_map_27 rfl rfl (fun h27 => absurd h27 ((nI_ge (show i < ln by omega) (by omega)))) (fun h27 => ?_)
      refine jj_aload_n (q := 31) dX9_map_30 rfl rfl rfl ?_
      refine jj_getS (q := 34) dX9_map_31 fl_X9_79 hm.t0 hm.r0_35 rfl rfl rfl ?_
      refine jj_iload_n (q := 35) dX9_map_34 rfl rfl rfl ?_
      refine jj_aload_n (q := 36) dX9_map_35 rfl rfl rfl ?_
      refine jj_getS (q := 39) dX9_map_36 fl_X9_23 hm.t0 hm.r0_12 rfl rfl rfl ?_
      refine jj_sipush (v := 133) (q := 42) dX9_map_39 rfl rfl ?_
      refine jj_iload_n (q := 43) dX9_map_42 rfl rfl rfl ?_
      refine jj_iaddN (q := 44) (a := 133) (b := i) dX9_map_43 rfl rfl rfl ?_
      refine jj_ialdN (q := 45) (j := 133 + i) dX9_map_44 hm.t4 (blk_st (by decide)) rfl (by omega) rfl ?_
      refine jj_iconst (v := -1) (q := 46) dX9_map_45 rfl rfl ?_
      refine jj_icmp_ne (q := 49) (tgt := 54) dX9_map_46 rfl rfl (fun h46 => by exfalso; exact h46 e1) (fun h46 => ?_)
      refine jj_bipush (v := 46) (q := 51) dX9_map_49 rfl rfl ?_
      refine jj_goto (tgt := 76) dX9_map_51 rfl ?_
      rw [show (46 : Int32) = nI (g i) by rw [e2]; rfl]
      refine jj_iastN (q := 77) (j := i) dX9_map_76 hm.t17 (u2_bsk (by decide) (by decide)) rfl (by omega) rfl ?_
      refine jj_iinc (v := nI (i + 1)) (q := 80) dX9_map_77 rfl (nI_incn i 1 rfl) (by decide) rfl ?_
      refine jj_goto (tgt := 22) dX9_map_80 rfl ?_
      exact ih (i + 1) _ A' (by omega) hq he
    · have hne : ¬ nI b = -1 := fun w => absurd (show nI b < 0 by rw [w]; decide) (nI_ltz (by omega))
      refine jj_iload_n (q := 23) dX9_map_22 rfl rfl rfl ?_
      refine jj_aload_n (q := 24) dX9_map_23 rfl rfl rfl ?_
      refine jj_getIw (v := nI ln) (q := 27) dX9_map_24 fl_X9_412 hm.t0 (by rw [blk_s0 (by decide) (by decide)]; exact hq) rfl rfl ?_
      refine jj_icmp_ge (q := 30) (tgt := 83) dX9_map_27 rfl rfl (fun h27 => absurd h27 ((nI_ge (show i < ln by omega) (by omega)))) (fun h27 => ?_)
      refine jj_aload_n (q := 31) dX9_map_30 rfl rfl rfl ?_
      refine jj_getS (q := 34) dX9_map_31 fl_X9_79 hm.t0 hm.r0_35 rfl rfl rfl ?_
      refine jj_iload_n (q := 35) dX9_map_34 rfl rfl rfl ?_
      refine jj_aload_n (q := 36) dX9_map_35 rfl rfl rfl ?_
      refine jj_getS (q := 39) dX9_map_36 fl_X9_23 hm.t0 hm.r0_12 rfl rfl rfl ?_
      refine jj_sipush (v := 133) (q := 42) dX9_map_39 rfl rfl ?_
      refine jj_iload_n (q := 43) dX9_map_42 rfl rfl rfl ?_
      refine jj_iaddN (q := 44) (a := 133) (b := i) dX9_map_43 rfl rfl rfl ?_
      refine jj_ialdN (q := 45) (j := 133 + i) dX9_map_44 hm.t4 (blk_st (by decide)) rfl (by omega) rfl ?_
      refine jj_iconst (v := -1) (q := 46) dX9_map_45 rfl rfl ?_
      refine jj_icmp_ne (q := 49) (tgt := 54) dX9_map_46 rfl rfl (fun h46 => ?_) (fun h46 => by exfalso; rw [e1] at h46; exact hne h46)
      refine jj_bipush (v := 65) (q := 56) dX9_map_54 rfl rfl ?_
      refine jj_aload_n (q := 57) dX9_map_56 rfl rfl rfl ?_
      refine jj_getS (q := 60) dX9_map_57 fl_X9_23 hm.t0 hm.r0_12 rfl rfl rfl ?_
      refine jj_sipush (v := 173) (q := 63) dX9_map_60 rfl rfl ?_
      refine jj_aload_n (q := 64) dX9_map_63 rfl rfl rfl ?_
      refine jj_getS (q := 67) dX9_map_64 fl_X9_23 hm.t0 hm.r0_12 rfl rfl rfl ?_
      refine jj_sipush (v := 133) (q := 70) dX9_map_67 rfl rfl ?_
      refine jj_iload_n (q := 71) dX9_map_70 rfl rfl rfl ?_
      refine jj_iaddN (q := 72) (a := 133) (b := i) dX9_map_71 rfl rfl rfl ?_
      refine jj_ialdW (q := 73) (j := 133 + i) (v := nI b) dX9_map_72 hm.t4 (blk_st (by decide)) rfl (by omega) e1 rfl ?_
      refine jj_iaddN (q := 74) (a := 173) (b := b) dX9_map_73 rfl rfl rfl ?_
      refine jj_ialdW (q := 75) (j := 173 + b) (v := nI f) dX9_map_74 hm.t4 (blk_st (by decide)) rfl (by omega) e3 rfl ?_
      refine jj_iaddN (q := 76) (a := 65) (b := f) dX9_map_75 rfl rfl rfl ?_
      rw [show nI (65 + f) = nI (g i) by rw [e5]]
      refine jj_iastN (q := 77) (j := i) dX9_map_76 hm.t17 (u2_bsk (by decide) (by decide)) rfl (by omega) rfl ?_
      refine jj_iinc (v := nI (i + 1)) (q := 80) dX9_map_77 rfl (nI_incn i 1 rfl) (by decide) rfl ?_
      refine jj_goto (tgt := 22) dX9_map_80 rfl ?_
      exact ih (i + 1) _ A' (by omega) hq he
theorem ex_mmap (hm : hMo T S mo) (hX : mI X) {ln : Nat} (hq : A 2 0 = nI ln) (hl : ln ≤ 40) {g : Nat → Nat} (hg : gX X g ln) (hok : ¬ mOk A 1 = 0) : Ex Γ (d + 2) Y_X9_map [.ref mo] (T, R, S, blk 18 I mo (st A 4 X), L, D, z) 0 0 (rI (nI ln) (T, R, S, blk 18 I mo (st (fM g 0 ln (u2 (tA A (tI A 1)) 0 36 (nI ln))) 4 X), L, D, z)) := by
  refine Ex.of (by decide) (by simp [Value.category]) (Nat.le_of_ble_eq_true rfl) rfl ?_
  refine jj_aload_n (q := 1) dX9_map_0 rfl rfl rfl ?_
  refine jj_iconst (v := 1) (q := 2) dX9_map_1 rfl rfl ?_
  refine jj_cV1i (q := 5) dX9_map_2 yk_X9_mayAsk ml_X9_353 hm.t0 (ex_mayAsk hm) rfl rfl rfl ⟨Nat.zero_le _, Nat.zero_le _⟩ ?_
  refine jj_if_ne (q := 8) (tgt := 10) dX9_map_5 rfl rfl (fun h5 => ?_) (fun h5 => by exfalso; exact hok h5)
  refine jj_aload_n (q := 11) dX9_map_10 rfl rfl rfl ?_
  refine jj_aload_n (q := 12) dX9_map_11 rfl rfl rfl ?_
  refine jj_getS (q := 15) dX9_map_12 fl_X9_17 hm.t0 hm.r0_10 rfl rfl rfl ?_
  refine jj_iconst (v := 0) (q := 16) dX9_map_15 rfl rfl ?_
  refine jj_ialdW (q := 17) (j := 0) (v := nI ln) dX9_map_16 hm.t2 (blk_sn (by decide) (by decide)) rfl (by omega) hq rfl ?_
  refine jj_putIv (q := 20) dX9_map_17 fl_X9_412 hm.t0 (u2_bs0 (by decide) (by decide)) rfl rfl rfl rfl rfl ?_
  refine jj_iconst (v := 0) (q := 21) dX9_map_20 rfl rfl ?_
  refine jj_istore_n (q := 22) dX9_map_21 rfl (by decide) rfl ?_
  exact lp_mmap hm hX hl hg ln 0 _ _ (by omega) rfl rfl
theorem lp_fa (hm : hMo T S mo) {nf : Nat} (hf : A 2 12 = nI nf) (hf8 : nf ≤ 8) {f : Nat} (hff : f < nf) : ∀ (k i n : Nat), (i + k = nf ∧ n = fb_ct (pFa X f) i) → JJ Γ (jj_E Y_X9_flightsAhead) (jj_Z Γ (rI (nI (fb_ct (pFa X f) nf)) (T, R, S, blk 18 I mo (st A 4 X), L, D, z)) 0 0) (jj_rm (d) 0 0) 0 0 4 [some (.ref mo), some (.int (nI f)), some (.int (nI n)), some (.int (nI i))] [] (T, R, S, blk 18 I mo (st A 4 X), L, D, z) := by
  intro k
  induction k with
  | zero =>
    intro i n hi
    refine jj_iload_n (q := 5) dX9_flightsAhead_4 rfl rfl rfl ?_
    refine jj_aload_n (q := 6) dX9_flightsAhead_5 rfl rfl rfl ?_
    refine jj_getS (q := 9) dX9_flightsAhead_6 fl_X9_17 hm.t0 hm.r0_10 rfl rfl rfl ?_
    refine jj_bipush (v := 12) (q := 11) dX9_flightsAhead_9 rfl rfl ?_
    refine jj_ialdW (q := 12) (j := 12) (v := nI nf) dX9_flightsAhead_11 hm.t2 (blk_sn (by decide) (by decide)) rfl (by omega) hf rfl ?_
    refine jj_icmp_ge (q := 15) (tgt := 76) dX9_flightsAhead_12 rfl rfl (fun h12 => ?_) (fun h12 => absurd (nI_le (show nf ≤ i by omega) (by omega)) h12)
    refine jj_iload_n (q := 77) dX9_flightsAhead_76 rfl rfl rfl ?_
    refine jj_iret dX9_flightsAhead_77 rfl (Nat.zero_le _) (Nat.zero_le _) ?_
    exact ⟨by rw [hi.2, show i = nf by omega], rfl⟩
  | succ k ih =>
    intro i n hi
    refine jj_iload_n (q := 5) dX9_flightsAhead_4 rfl rfl rfl ?_
    refine jj_aload_n (q := 6) dX9_flightsAhead_5 rfl rfl rfl ?_
    refine jj_getS (q := 9) dX9_flightsAhead_6 fl_X9_17 hm.t0 hm.r0_10 rfl rfl rfl ?_
    refine jj_bipush (v := 12) (q := 11) dX9_flightsAhead_9 rfl rfl ?_
    refine jj_ialdW (q := 12) (j := 12) (v := nI nf) dX9_flightsAhead_11 hm.t2 (blk_sn (by decide) (by decide)) rfl (by omega) hf rfl ?_
    refine jj_icmp_ge (q := 15) (tgt := 76) dX9_flightsAhead_12 rfl rfl (fun h12 => absurd h12 ((nI_ge (show i < nf by omega) (by omega)))) (fun h12 => ?_)
    refine jj_iload_n (q := 16) dX9_flightsAhead_15 rfl rfl rfl ?_
    refine jj_aload_n (q := 17) dX9_flightsAhead_16 rfl rfl rfl ?_
    refine jj_getS (q := 20) dX9_flightsAhead_17 fl_X9_23 hm.t0 hm.r0_12 rfl rfl rfl ?_
    refine jj_bipush (v := 13) (q := 22) dX9_flightsAhead_20 rfl rfl ?_
    refine jj_iload_n (q := 23) dX9_flightsAhead_22 rfl rfl rfl ?_
    refine jj_iaddN (q := 24) (a := 13) (b := i) dX9_flightsAhead_23 rfl rfl rfl ?_
    refine jj_ialdN (q := 25) (j := 13 + i) dX9_flightsAhead_24 hm.t4 (blk_st (by decide)) rfl (by omega) rfl ?_
    refine jj_aload_n (q := 26) dX9_flightsAhead_25 rfl rfl rfl ?_
    refine jj_getS (q := 29) dX9_flightsAhead_26 fl_X9_23 hm.t0 hm.r0_12 rfl rfl rfl ?_
    refine jj_bipush (v := 13) (q := 31) dX9_flightsAhead_29 rfl rfl ?_
    refine jj_iload_n (q := 32) dX9_flightsAhead_31 rfl rfl rfl ?_
    refine jj_iaddN (q := 33) (a := 13) (b := f) dX9_flightsAhead_32 rfl rfl rfl ?_
    refine jj_ialdN (q := 34) (j := 13 + f) dX9_flightsAhead_33 hm.t4 (blk_st (by decide)) rfl (by omega) rfl ?_
    refine jj_icmp_lt (q := 37) (tgt := 63) dX9_flightsAhead_34 rfl rfl (fun h34 => ?_) (fun h34 => ?_)
    · refine jj_iconst (v := 1) (q := 64) dX9_flightsAhead_63 rfl rfl ?_
      refine jj_goto (tgt := 68) dX9_flightsAhead_64 rfl ?_
      refine jj_iaddN (q := 69) (a := n) (b := 1) dX9_flightsAhead_68 rfl rfl rfl ?_
      refine jj_istore_n (q := 70) dX9_flightsAhead_69 rfl (by decide) rfl ?_
      refine jj_iinc (v := nI (i + 1)) (q := 73) dX9_flightsAhead_70 rfl (nI_incn i 1 rfl) (by decide) rfl ?_
      refine jj_goto (tgt := 4) dX9_flightsAhead_73 rfl ?_
      refine ih (i + 1) _ ⟨by omega, ?_⟩
      first
        | exact ct_y hi.2 (decide_eq_true (by unfold aW; (first | rw [if_pos h34] | rw [if_neg h34] | skip); (first | rw [if_pos h55] | rw [if_neg h55] | skip); (first | rw [if_pos h60] | rw [if_neg h60] | skip)))
        | exact ct_n hi.2 (decide_eq_false (by unfold aW; (first | rw [if_pos h34] | rw [if_neg h34] | skip); (first | rw [if_pos h55] | rw [if_neg h55] | skip); (first | rw [if_pos h60] | rw [if_neg h60] | skip); decide))
    · refine jj_aload_n (q := 38) dX9_flightsAhead_37 rfl rfl rfl ?_
      refine jj_getS (q := 41) dX9_flightsAhead_38 fl_X9_23 hm.t0 hm.r0_12 rfl rfl rfl ?_
      refine jj_bipush (v := 13) (q := 43) dX9_flightsAhead_41 rfl rfl ?_
      refine jj_iload_n (q := 44) dX9_flightsAhead_43 rfl rfl rfl ?_
      refine jj_iaddN (q := 45) (a := 13) (b := i) dX9_flightsAhead_44 rfl rfl rfl ?_
      refine jj_ialdN (q := 46) (j := 13 + i) dX9_flightsAhead_45 hm.t4 (blk_st (by decide)) rfl (by omega) rfl ?_
      refine jj_aload_n (q := 47) dX9_flightsAhead_46 rfl rfl rfl ?_
      refine jj_getS (q := 50) dX9_flightsAhead_47 fl_X9_23 hm.t0 hm.r0_12 rfl rfl rfl ?_
      refine jj_bipush (v := 13) (q := 52) dX9_flightsAhead_50 rfl rfl ?_
      refine jj_iload_n (q := 53) dX9_flightsAhead_52 rfl rfl rfl ?_
      refine jj_iaddN (q := 54) (a := 13) (b := f) dX9_flightsAhead_53 rfl rfl rfl ?_
      refine jj_ialdN (q := 55) (j := 13 + f) dX9_flightsAhead_54 hm.t4 (blk_st (by decide)) rfl (by omega) rfl ?_
      refine jj_icmp_ne (q := 58) (tgt := 67) dX9_flightsAhead_55 rfl rfl (fun h55 => ?_) (fun h55 => ?_)
      · refine jj_iconst (v := 0) (q := 68) dX9_flightsAhead_67 rfl rfl ?_
        refine jj_iaddN (q := 69) (a := n) (b := 0) dX9_flightsAhead_68 rfl rfl rfl ?_
        refine jj_istore_n (q := 70) dX9_flightsAhead_69 rfl (by decide) rfl ?_
        refine jj_iinc (v := nI (i + 1)) (q := 73) dX9_flightsAhead_70 rfl (nI_incn i 1 rfl) (by decide) rfl ?_
        refine jj_goto (tgt := 4) dX9_flightsAhead_73 rfl ?_
        refine ih (i + 1) _ ⟨by omega, ?_⟩
        first
          | exact ct_y hi.2 (decide_eq_true (by unfold aW; (first | rw [if_pos h34] | rw [if_neg h34] | skip); (first | rw [if_pos h55] | rw [if_neg h55] | skip); (first | rw [if_pos h60] | rw [if_neg h60] | skip)))
          | exact ct_n hi.2 (decide_eq_false (by unfold aW; (first | rw [if_pos h34] | rw [if_neg h34] | skip); (first | rw [if_pos h55] | rw [if_neg h55] | skip); (first | rw [if_pos h60] | rw [if_neg h60] | skip); decide))
      · refine jj_iload_n (q := 59) dX9_flightsAhead_58 rfl rfl rfl ?_
        refine jj_iload_n (q := 60) dX9_flightsAhead_59 rfl rfl rfl ?_
        refine jj_icmp_ge (q := 63) (tgt := 67) dX9_flightsAhead_60 rfl rfl (fun h60 => ?_) (fun h60 => ?_)
        · refine jj_iconst (v := 0) (q := 68) dX9_flightsAhead_67 rfl rfl ?_
          refine jj_iaddN (q := 69) (a := n) (b := 0) dX9_flightsAhead_68 rfl rfl rfl ?_
          refine jj_istore_n (q := 70) dX9_flightsAhead_69 rfl (by decide) rfl ?_
          refine jj_iinc (v := nI (i + 1)) (q := 73) dX9_flightsAhead_70 rfl (nI_incn i 1 rfl) (by decide) rfl ?_
          refine jj_goto (tgt := 4) dX9_flightsAhead_73 rfl ?_
          refine ih (i + 1) _ ⟨by omega, ?_⟩
          first
            | exact ct_y hi.2 (decide_eq_true (by unfold aW; (first | rw [if_pos h34] | rw [if_neg h34] | skip); (first | rw [if_pos h55] | rw [if_neg h55] | skip); (first | rw [if_pos h60] | rw [if_neg h60] | skip)))
            | exact ct_n hi.2 (decide_eq_false (by unfold aW; (first | rw [if_pos h34] | rw [if_neg h34] | skip); (first | rw [if_pos h55] | rw [if_neg h55] | skip); (first | rw [if_pos h60] | rw [if_neg h60] | skip); decide))
        · refine jj_iconst (v := 1) (q := 64) dX9_flightsAhead_63 rfl rfl ?_
          refine jj_goto (tgt := 68) dX9_flightsAhead_64 rfl ?_
          refine jj_iaddN (q := 69) (a := n) (b := 1) dX9_flightsAhead_68 rfl rfl rfl ?_
          refine jj_istore_n (q := 70) dX9_flightsAhead_69 rfl (by decide) rfl ?_
          refine jj_iinc (v := nI (i + 1)) (q := 73) dX9_flightsAhead_70 rfl (nI_incn i 1 rfl) (by decide) rfl ?_
          refine jj_goto (tgt := 4) dX9_flightsAhead_73 rfl ?_
          refine ih (i + 1) _ ⟨by omega, ?_⟩
          first
            | exact ct_y hi.2 (decide_eq_true (by unfold aW; (first | rw [if_pos h34] | rw [if_neg h34] | skip); (first | rw [if_pos h55] | rw [if_neg h55] | skip); (first | rw [if_pos h60] | rw [if_neg h60] | skip)))
            | exact ct_n hi.2 (decide_eq_false (by unfold aW; (first | rw [if_pos h34] | rw [if_neg h34] | skip); (first | rw [if_pos h55] | rw [if_neg h55] | skip); (first | rw [if_pos h60] | rw [if_neg h60] | skip); decide))
theorem ex_flightsAhead (hm : hMo T S mo) {nf : Nat} (hf : A 2 12 = nI nf) (hf8 : nf ≤ 8) {f : Nat} (hff : f < nf) : Ex Γ (d) Y_X9_flightsAhead [.ref mo, .int (nI f)] (T, R, S, blk 18 I mo (st A 4 X), L, D, z) 0 0 (rI (nI (fb_ct (pFa X f) nf)) (T, R, S, blk 18 I mo (st A 4 X), L, D, z)) := by
  refine Ex.of (by decide) (by simp [Value.category]) (Nat.le_of_ble_eq_true rfl) rfl ?_
  refine jj_iconst (v := 0) (q := 1) dX9_flightsAhead_0 rfl rfl ?_
  refine jj_istore_n (q := 2) dX9_flightsAhead_1 rfl (by decide) rfl ?_
  refine jj_iconst (v := 0) (q := 3) dX9_flightsAhead_2 rfl rfl ?_
  refine jj_istore_n (q := 4) dX9_flightsAhead_3 rfl (by decide) rfl ?_
  exact lp_fa hm hf hf8 hff nf 0 0 ⟨by omega, rfl⟩
theorem lp_hi (hm : hMo T S mo) (hX : mI X) {l : Nat} (hl4 : l < 4) {f : Int32} : ∀ (k i n : Nat), (i + k = mHe X l ∧ n = fb_ct (pHe X l f) i) → JJ Γ (jj_E Y_X9_heldIn) (jj_Z Γ (rI (nI (fb_ct (pHe X l f) (mHe X l))) (T, R, S, blk 18 I mo (st A 4 X), L, D, z)) 0 0) (jj_rm (d) 0 0) 0 0 5 [some (.ref mo), some (.int (nI l)), some (.int f), some (.int (nI n)), some (.int (nI i))] [] (T, R, S, blk 18 I mo (st A 4 X), L, D, z) := by
  have hh := hX.he hl4
  intro k
  induction k with
  | zero =>
    intro i n hi
    refine jj_iload (q := 7) dX9_heldIn_5 rfl rfl ?_
    refine jj_aload_n (q := 8) dX9_heldIn_7 rfl rfl rfl ?_
    refine jj_getS (q := 11) dX9_heldIn_8 fl_X9_23 hm.t0 hm.r0_12 rfl rfl rfl ?_
    refine jj_bipush (v := 21) (q := 13) dX9_heldIn_11 rfl rfl ?_
    refine jj_iload_n (q := 14) dX9_heldIn_13 rfl rfl rfl ?_
    refine jj_iaddN (q := 15) (a := 21) (b := l) dX9_heldIn_14 rfl rfl rfl ?_
    refine jj_ialdW (q := 16) (j := 21 + l) (v := nI (mHe X l)) dX9_heldIn_15 hm.t4 (blk_st (by decide)) rfl (by omega) hh.1 rfl ?_
    refine jj_icmp_ge (q := 19) (tgt := 61) dX9_heldIn_16 rfl rfl (fun h16 => ?_) (fun h16 => absurd (nI_le (show mHe X l ≤ i by omega) (by omega)) h16)
    refine jj_iload_n (q := 62) dX9_heldIn_61 rfl rfl rfl ?_
    refine jj_iret dX9_heldIn_62 rfl (Nat.zero_le _) (Nat.zero_le _) ?_
    exact ⟨by rw [hi.2, show i = mHe X l by omega], rfl⟩
  | succ k ih =>
    intro i n hi
    refine jj_iload (q := 7) dX9_heldIn_5 rfl rfl ?_
    refine jj_aload_n (q := 8) dX9_heldIn_7 rfl rfl rfl ?_
    refine jj_getS (q := 11) dX9_heldIn_8 fl_X9_23 hm.t0 hm.r0_12 rfl rfl rfl ?_
    refine jj_bipush (v := 21) (q := 13) dX9_heldIn_11 rfl rfl ?_
    refine jj_iload_n (q := 14) dX9_heldIn_13 rfl rfl rfl ?_
    refine jj_iaddN (q := 15) (a := 21) (b := l) dX9_heldIn_14 rfl rfl rfl ?_
    refine jj_ialdW (q := 16) (j := 21 + l) (v := nI (mHe X l)) dX9_heldIn_15 hm.t4 (blk_st (by decide)) rfl (by omega) hh.1 rfl ?_
    refine jj_icmp_ge (q := 19) (tgt := 61) dX9_heldIn_16 rfl rfl (fun h16 => absurd h16 ((nI_ge (show i < mHe X l by omega) (by omega)))) (fun h16 => ?_)
    have hb := hX.lb (l := 20 * l + i) (by omega)
    refine jj_iload_n (q := 20) dX9_heldIn_19 rfl rfl rfl ?_
    refine jj_aload_n (q := 21) dX9_heldIn_20 rfl rfl rfl ?_
    refine jj_getS (q := 24) dX9_heldIn_21 fl_X9_23 hm.t0 hm.r0_12 rfl rfl rfl ?_
    refine jj_sipush (v := 173) (q := 27) dX9_heldIn_24 rfl rfl ?_
    refine jj_aload_n (q := 28) dX9_heldIn_27 rfl rfl rfl ?_
    refine jj_getS (q := 31) dX9_heldIn_28 fl_X9_23 hm.t0 hm.r0_12 rfl rfl rfl ?_
    refine jj_bipush (v := 29) (q := 33) dX9_heldIn_31 rfl rfl ?_
    refine jj_bipush (v := 20) (q := 35) dX9_heldIn_33 rfl rfl ?_
    refine jj_iload_n (q := 36) dX9_heldIn_35 rfl rfl rfl ?_
    refine jj_imulN (q := 37) (a := 20) (b := l) dX9_heldIn_36 rfl rfl rfl ?_
    refine jj_iaddN (q := 38) (a := 29) (b := 20 * l) dX9_heldIn_37 rfl rfl rfl ?_
    refine jj_iload (q := 40) dX9_heldIn_38 rfl rfl ?_
    refine jj_iaddN (q := 41) (a := 29 + (20 * l)) (b := i) dX9_heldIn_40 rfl rfl rfl ?_
    refine jj_ialdW (q := 42) (j := (29 + (20 * l)) + i) (v := nI (mLb X (20 * l + i))) dX9_heldIn_41 hm.t4 (blk_st (by decide)) rfl (by omega) (by rw [show 29 + 20 * l + i = 29 + (20 * l + i) by omega]; exact hb.1) rfl ?_
    refine jj_iaddN (q := 43) (a := 173) (b := mLb X (20 * l + i)) dX9_heldIn_42 rfl rfl rfl ?_
    refine jj_ialdN (q := 44) (j := 173 + (mLb X (20 * l + i))) dX9_heldIn_43 hm.t4 (blk_st (by decide)) rfl (by omega) rfl ?_
    refine jj_iload_n (q := 45) dX9_heldIn_44 rfl rfl rfl ?_
    refine jj_icmp_ne (q := 48) (tgt := 52) dX9_heldIn_45 rfl rfl (fun h45 => ?_) (fun h45 => ?_)
    · refine jj_iconst (v := 0) (q := 53) dX9_heldIn_52 rfl rfl ?_
      refine jj_iaddN (q := 54) (a := n) (b := 0) dX9_heldIn_53 rfl rfl rfl ?_
      refine jj_istore_n (q := 55) dX9_heldIn_54 rfl (by decide) rfl ?_
      refine jj_iinc (v := nI (i + 1)) (q := 58) dX9_heldIn_55 rfl (nI_incn i 1 rfl) (by decide) rfl ?_
      refine jj_goto (tgt := 5) dX9_heldIn_58 rfl ?_
      exact ih (i + 1) _ ⟨by omega, ct_n hi.2 (decide_eq_false h45)⟩
    · refine jj_iconst (v := 1) (q := 49) dX9_heldIn_48 rfl rfl ?_
      refine jj_goto (tgt := 53) dX9_heldIn_49 rfl ?_
      refine jj_iaddN (q := 54) (a := n) (b := 1) dX9_heldIn_53 rfl rfl rfl ?_
      refine jj_istore_n (q := 55) dX9_heldIn_54 rfl (by decide) rfl ?_
      refine jj_iinc (v := nI (i + 1)) (q := 58) dX9_heldIn_55 rfl (nI_incn i 1 rfl) (by decide) rfl ?_
      refine jj_goto (tgt := 5) dX9_heldIn_58 rfl ?_
      exact ih (i + 1) _ ⟨by omega, ct_y hi.2 (decide_eq_true h45)⟩
theorem ex_heldIn (hm : hMo T S mo) (hX : mI X) {l : Nat} (hl4 : l < 4) {f : Int32} : Ex Γ (d) Y_X9_heldIn [.ref mo, .int (nI l), .int f] (T, R, S, blk 18 I mo (st A 4 X), L, D, z) 0 0 (rI (nI (fb_ct (pHe X l f) (mHe X l))) (T, R, S, blk 18 I mo (st A 4 X), L, D, z)) := by
  refine Ex.of (by decide) (by simp [Value.category]) (Nat.le_of_ble_eq_true rfl) rfl ?_
  refine jj_iconst (v := 0) (q := 1) dX9_heldIn_0 rfl rfl ?_
  refine jj_istore_n (q := 2) dX9_heldIn_1 rfl (by decide) rfl ?_
  refine jj_iconst (v := 0) (q := 3) dX9_heldIn_2 rfl rfl ?_
  refine jj_istore (q := 5) dX9_heldIn_3 (by decide) rfl ?_
  exact lp_hi hm hX hl4 (mHe X l) 0 0 ⟨by omega, rfl⟩
theorem lp_wf (hm : hMo T S mo) (ho : oW T S mo 16 n) (hX : mI X) {nl : Nat} (hl : nl ≤ 4) {f : Nat} : ∀ (q i s : Nat) (A A' : JI), i + q = nl → A 2 13 = nI nl → A 0 34 = nI s → s + (rL (fun l => xM X l f) i q).length ≤ n → wAL 16 A (rL (fun l => xM X l f) i q) = A' → JJ Γ (jj_E Y_X9_writesFlight) (jj_Z Γ (rV (T, R, S, blk 18 I mo (st A' 4 X), L, D, z)) 0 0) (jj_rm (d + 2) 0 0) 0 0 41 [some (.ref mo), some (.int (nI f)), some (.int (nI i))] [] (T, R, S, blk 18 I mo (st A 4 X), L, D, z) := by
  intro q
  induction q with
  | zero =>
    intro i s A A' hi hq hs hn he
    subst he
    refine jj_iload_n (q := 42) dX9_writesFlight_41 rfl rfl rfl ?_
    refine jj_aload_n (q := 43) dX9_writesFlight_42 rfl rfl rfl ?_
    refine jj_getS (q := 46) dX9_writesFlight_43 fl_X9_17 hm.t0 hm.r0_10 rfl rfl rfl ?_
    refine jj_bipush (v := 13) (q := 48) dX9_writesFlight_46 rfl rfl ?_
    refine jj_ialdW (q := 49) (j := 13) (v := nI nl) dX9_writesFlight_48 hm.t2 (blk_sn (by decide) (by decide)) rfl (by omega) hq rfl ?_
    refine jj_icmp_ge (q := 52) (tgt := 97) dX9_writesFlight_49 rfl rfl (fun h49 => ?_) (fun h49 => absurd (nI_le (show nl ≤ i by omega) (by omega)) h49)
    refine jj_vret dX9_writesFlight_97 rfl (Nat.zero_le _) (Nat.zero_le _) ?_
    exact ⟨rfl, rfl⟩
  | succ q ih =>
    intro i s A A' hi hq hs hn he
    have hn30 := ho.2.2.2
    have h20 := xM20 hX i f
    have hk : fb_ct (pHe X i (nI f)) (mHe X i) = xM X i f := by unfold xM; rw [if_pos (by omega)]
    have d1 : (dg i).length ≤ 1 := dj_small (k := 0) (by omega) (by omega)
    have d2 : (dg (xM X i f)).length ≤ 2 := dj_small (k := 1) (by omega) (by omega)
    rw [rL, wAL_app] at he
    rw [rL, List.length_append] at hn
    by_cases h0 : xM X i f = 0
    · rw [show lT i (xM X i f) = [] from if_pos h0] at he hn
      rw [wAL_nil] at he
      rw [List.length_nil] at hn
      refine jj_iload_n (q := 42) dX9_writesFlight_41 rfl rfl rfl ?_
      refine jj_aload_n (q := 43) dX9_writesFlight_42 rfl rfl rfl ?_
      refine jj_getS (q := 46) dX9_writesFlight_43 fl_X9_17 hm.t0 hm.r0_10 rfl rfl rfl ?_
      refine jj_bipush (v := 13) (q := 48) dX9_writesFlight_46 rfl rfl ?_
      refine jj_ialdW (q := 49) (j := 13) (v := nI nl) dX9_writesFlight_48 hm.t2 (blk_sn (by decide) (by decide)) rfl (by omega) hq rfl ?_
      refine jj_icmp_ge (q := 52) (tgt := 97) dX9_writesFlight_49 rfl rfl (fun h49 => absurd h49 ((nI_ge (show i < nl by omega) (by omega)))) (fun h49 => ?_)
      refine jj_aload_n (q := 53) dX9_writesFlight_52 rfl rfl rfl ?_
      refine jj_iload_n (q := 54) dX9_writesFlight_53 rfl rfl rfl ?_
      refine jj_iload_n (q := 55) dX9_writesFlight_54 rfl rfl rfl ?_
      refine jj_cV2i (q := 58) dX9_writesFlight_55 yk_X9_heldIn ml_X9_400 hm.t0 (ex_heldIn hm hX (show i < 4 by omega)) rfl rfl rfl ⟨Nat.zero_le _, Nat.zero_le _⟩ ?_
      rw [hk]
      refine jj_if_ne (q := 61) (tgt := 64) dX9_writesFlight_58 rfl rfl (fun h58 => by exfalso; exact h58 (by rw [h0]; rfl)) (fun h58 => ?_)
      refine jj_goto (tgt := 91) dX9_writesFlight_61 rfl ?_
      refine jj_iinc (v := nI (i + 1)) (q := 94) dX9_writesFlight_91 rfl (nI_incn i 1 rfl) (by decide) rfl ?_
      refine jj_goto (tgt := 41) dX9_writesFlight_94 rfl ?_
      exact ih (i + 1) s A A' (by omega) hq hs (by omega) he
    · have hT : lT i (xM X i f) = [44] ++ (dg i ++ ([120] ++ dg (xM X i f))) := if_neg h0
      rw [hT] at he hn
      rw [List.length_append, List.length_append, List.length_append, List.length_singleton, List.length_singleton] at hn
      rw [wAL_app, wAL_app, wAL_app] at he
      have s1 := wAL_0 (k := 16) (l := [44]) hs (by rw [List.length_singleton]; omega)
      rw [List.length_singleton] at s1
      have s2 := wAL_0 (k := 16) (l := dg i) s1 (by omega)
      have s3 := wAL_0 (k := 16) (l := [120]) s2 (by rw [List.length_singleton]; omega)
      rw [List.length_singleton] at s3
      have s4 := wAL_0 (k := 16) (l := dg (xM X i f)) s3 (by omega)
      refine jj_iload_n (q := 42) dX9_writesFlight_41 rfl rfl rfl ?_
      refine jj_aload_n (q := 43) dX9_writesFlight_42 rfl rfl rfl ?_
      refine jj_getS (q := 46) dX9_writesFlight_43 fl_X9_17 hm.t0 hm.r0_10 rfl rfl rfl ?_
      refine jj_bipush (v := 13) (q := 48) dX9_writesFlight_46 rfl rfl ?_
      refine jj_ialdW (q := 49) (j := 13) (v := nI nl) dX9_writesFlight_48 hm.t2 (blk_sn (by decide) (by decide)) rfl (by omega) hq rfl ?_
      refine jj_icmp_ge (q := 52) (tgt := 97) dX9_writesFlight_49 rfl rfl (fun h49 => absurd h49 ((nI_ge (show i < nl by omega) (by omega)))) (fun h49 => ?_)
      refine jj_aload_n (q := 53) dX9_writesFlight_52 rfl rfl rfl ?_
      refine jj_iload_n (q := 54) dX9_writesFlight_53 rfl rfl rfl ?_
      refine jj_iload_n (q := 55) dX9_writesFlight_54 rfl rfl rfl ?_
      refine jj_cV2i (q := 58) dX9_writesFlight_55 yk_X9_heldIn ml_X9_400 hm.t0 (ex_heldIn hm hX (show i < 4 by omega)) rfl rfl rfl ⟨Nat.zero_le _, Nat.zero_le _⟩ ?_
      rw [hk]
      refine jj_if_ne (q := 61) (tgt := 64) dX9_writesFlight_58 rfl rfl (fun h58 => ?_) (fun h58 => by exfalso; exact absurd h58 (nI_ne0 (n := xM X i f) (by omega) (by omega)))
      refine jj_aload_n (q := 65) dX9_writesFlight_64 rfl rfl rfl ?_
      refine jj_bipush (v := 44) (q := 67) dX9_writesFlight_65 rfl rfl ?_
      refine jj_cV1v (q := 70) dX9_writesFlight_67 yk_X9_writes ml_X9_391 hm.t0 (ex_writes (b := 44) hm ho hs (by rw [List.length_singleton]; omega)) rfl rfl rfl ⟨Nat.zero_le _, Nat.zero_le _⟩ ?_
      refine jj_aload_n (q := 71) dX9_writesFlight_70 rfl rfl rfl ?_
      refine jj_iload_n (q := 72) dX9_writesFlight_71 rfl rfl rfl ?_
      refine jj_cV1v (q := 75) dX9_writesFlight_72 yk_X9_writesNumber ml_X9_394 hm.t0 (ex_writesNumber (v := i) hm ho s1 (by omega) (by omega)) rfl rfl rfl ⟨Nat.zero_le _, Nat.zero_le _⟩ ?_
      refine jj_aload_n (q := 76) dX9_writesFlight_75 rfl rfl rfl ?_
      refine jj_bipush (v := 120) (q := 78) dX9_writesFlight_76 rfl rfl ?_
      refine jj_cV1v (q := 81) dX9_writesFlight_78 yk_X9_writes ml_X9_391 hm.t0 (ex_writes (b := 120) hm ho s2 (by rw [List.length_singleton]; omega)) rfl rfl rfl ⟨Nat.zero_le _, Nat.zero_le _⟩ ?_
      refine jj_aload_n (q := 82) dX9_writesFlight_81 rfl rfl rfl ?_
      refine jj_aload_n (q := 83) dX9_writesFlight_82 rfl rfl rfl ?_
      refine jj_iload_n (q := 84) dX9_writesFlight_83 rfl rfl rfl ?_
      refine jj_iload_n (q := 85) dX9_writesFlight_84 rfl rfl rfl ?_
      refine jj_cV2i (q := 88) dX9_writesFlight_85 yk_X9_heldIn ml_X9_400 hm.t0 (ex_heldIn hm hX (show i < 4 by omega)) rfl rfl rfl ⟨Nat.zero_le _, Nat.zero_le _⟩ ?_
      rw [hk]
      refine jj_cV1v (q := 91) dX9_writesFlight_88 yk_X9_writesNumber ml_X9_394 hm.t0 (ex_writesNumber (v := xM X i f) hm ho s3 (by omega) (by omega)) rfl rfl rfl ⟨Nat.zero_le _, Nat.zero_le _⟩ ?_
      refine jj_iinc (v := nI (i + 1)) (q := 94) dX9_writesFlight_91 rfl (nI_incn i 1 rfl) (by decide) rfl ?_
      refine jj_goto (tgt := 41) dX9_writesFlight_94 rfl ?_
      exact ih (i + 1) _ _ A' (by omega) (by (repeat rw [wAL_c (c := 2) (by omega) (by omega)]); exact hq) s4 (by omega) he
theorem ex_writesFlight (hm : hMo T S mo) (ho : oW T S mo 16 n) (hX : mI X) {nl : Nat} (hq : A 2 13 = nI nl) (hl : nl ≤ 4) {nf : Nat} (hf8 : nf ≤ 8) {op cl : Nat → Nat} (hoc : ∀ f, f < nf → X (5 + f) = nI (op f) ∧ op f < 2 ^ 29 ∧ X (13 + f) = nI (cl f) ∧ cl f < 2 ^ 29) (hs : A 0 34 = nI s) {f : Nat} (hff : f < nf) (hn : s + (tW nl op cl (xM X) f).length ≤ n) : Ex Γ (d + 2) Y_X9_writesFlight [.ref mo, .int (nI f)] (T, R, S, blk 18 I mo (st A 4 X), L, D, z) 0 0 (rV (T, R, S, blk 18 I mo (st (wAL 16 A (tW nl op cl (xM X) f)) 4 X), L, D, z)) := by
  have hn30 := ho.2.2.2
  obtain ⟨o1, o2, o3, o4⟩ := hoc f hff
  have g1 := dg9 o2
  have g2 := dg9 o4
  unfold tW at hn ⊢
  rw [List.length_append, List.length_append, List.length_append, List.length_append, List.length_singleton, List.length_singleton] at hn
  rw [wAL_app, wAL_app, wAL_app, wAL_app]
  have s1 := wAL_0 (k := 16) (l := [65 + f]) hs (by rw [List.length_singleton]; omega)
  rw [List.length_singleton] at s1
  have s2 := wAL_0 (k := 16) (l := dg (op f)) s1 (by omega)
  have s3 := wAL_0 (k := 16) (l := [45]) s2 (by rw [List.length_singleton]; omega)
  rw [List.length_singleton] at s3
  have s4 := wAL_0 (k := 16) (l := dg (cl f)) s3 (by omega)
  refine Ex.of (by decide) (by simp [Value.category]) (Nat.le_of_ble_eq_true rfl) rfl ?_
  refine jj_aload_n (q := 1) dX9_writesFlight_0 rfl rfl rfl ?_
  refine jj_bipush (v := 65) (q := 3) dX9_writesFlight_1 rfl rfl ?_
  refine jj_iload_n (q := 4) dX9_writesFlight_3 rfl rfl rfl ?_
  refine jj_iaddN (q := 5) (a := 65) (b := f) dX9_writesFlight_4 rfl rfl rfl ?_
  refine jj_cV1v (q := 8) dX9_writesFlight_5 yk_X9_writes ml_X9_391 hm.t0 (ex_writes (b := 65 + f) hm ho hs (by rw [List.length_singleton]; omega)) rfl rfl rfl ⟨Nat.zero_le _, Nat.zero_le _⟩ ?_
  refine jj_aload_n (q := 9) dX9_writesFlight_8 rfl rfl rfl ?_
  refine jj_aload_n (q := 10) dX9_writesFlight_9 rfl rfl rfl ?_
  refine jj_getS (q := 13) dX9_writesFlight_10 fl_X9_23 hm.t0 hm.r0_12 rfl rfl rfl ?_
  refine jj_iconst (v := 5) (q := 14) dX9_writesFlight_13 rfl rfl ?_
  refine jj_iload_n (q := 15) dX9_writesFlight_14 rfl rfl rfl ?_
  refine jj_iaddN (q := 16) (a := 5) (b := f) dX9_writesFlight_15 rfl rfl rfl ?_
  refine jj_ialdW (q := 17) (j := 5 + f) (v := nI (op f)) dX9_writesFlight_16 hm.t4 (blk_st (by decide)) rfl (by omega) o1 rfl ?_
  refine jj_cV1v (q := 20) dX9_writesFlight_17 yk_X9_writesNumber ml_X9_394 hm.t0 (ex_writesNumber (v := op f) hm ho s1 (by omega) (by omega)) rfl rfl rfl ⟨Nat.zero_le _, Nat.zero_le _⟩ ?_
  refine jj_aload_n (q := 21) dX9_writesFlight_20 rfl rfl rfl ?_
  refine jj_bipush (v := 45) (q := 23) dX9_writesFlight_21 rfl rfl ?_
  refine jj_cV1v (q := 26) dX9_writesFlight_23 yk_X9_writes ml_X9_391 hm.t0 (ex_writes (b := 45) hm ho s2 (by rw [List.length_singleton]; omega)) rfl rfl rfl ⟨Nat.zero_le _, Nat.zero_le _⟩ ?_
  refine jj_aload_n (q := 27) dX9_writesFlight_26 rfl rfl rfl ?_
  refine jj_aload_n (q := 28) dX9_writesFlight_27 rfl rfl rfl ?_
  refine jj_getS (q := 31) dX9_writesFlight_28 fl_X9_23 hm.t0 hm.r0_12 rfl rfl rfl ?_
  refine jj_bipush (v := 13) (q := 33) dX9_writesFlight_31 rfl rfl ?_
  refine jj_iload_n (q := 34) dX9_writesFlight_33 rfl rfl rfl ?_
  refine jj_iaddN (q := 35) (a := 13) (b := f) dX9_writesFlight_34 rfl rfl rfl ?_
  refine jj_ialdW (q := 36) (j := 13 + f) (v := nI (cl f)) dX9_writesFlight_35 hm.t4 (blk_st (by decide)) rfl (by omega) o3 rfl ?_
  refine jj_cV1v (q := 39) dX9_writesFlight_36 yk_X9_writesNumber ml_X9_394 hm.t0 (ex_writesNumber (v := cl f) hm ho s3 (by omega) (by omega)) rfl rfl rfl ⟨Nat.zero_le _, Nat.zero_le _⟩ ?_
  refine jj_iconst (v := 0) (q := 40) dX9_writesFlight_39 rfl rfl ?_
  refine jj_istore_n (q := 41) dX9_writesFlight_40 rfl (by decide) rfl ?_
  exact lp_wf hm ho hX hl nl 0 _ _ _ (by omega) (by (repeat rw [wAL_c (c := 2) (by omega) (by omega)]); exact hq) s4 (by omega) rfl
theorem lp_ttI (hm : hMo T S mo) (ho : oW T S mo 16 n) (hX : mI X) {nl : Nat} (hl : nl ≤ 4) {nf : Nat} (hf8 : nf ≤ 8) {op cl : Nat → Nat} (hoc : ∀ f, f < nf → X (5 + f) = nI (op f) ∧ op f < 2 ^ 29 ∧ X (13 + f) = nI (cl f) ∧ cl f < 2 ^ 29) {ph : Nat → Nat} (hph : ∀ r, r < nf → ph r < nf ∧ ∀ f, f < nf → (nI (fb_ct (pFa X f) nf) = nI r ↔ f = ph r)) {r : Nat} (hr : r < nf) {Zf : List Frame → Array Value → State → State → Prop} : ∀ (q i s : Nat) (A A' : JI), i + q = nf → A 2 12 = nI nf → A 2 13 = nI nl → A 0 34 = nI s → s + (rIn (tW nl op cl (xM X)) (ph r) i q).length ≤ n → wAL 16 A (rIn (tW nl op cl (xM X)) (ph r) i q) = A' → JJ Γ (jj_E Y_X9_timetable) Zf (jj_rm (d + 3) 0 0) 0 0 79 [some (.ref mo), some (.int (nI r)), some (.int (nI nf))] [] (T, R, S, blk 18 I mo (st A' 4 X), L, D, z) → JJ Γ (jj_E Y_X9_timetable) Zf (jj_rm (d + 3) 0 0) 0 0 48 [some (.ref mo), some (.int (nI r)), some (.int (nI i))] [] (T, R, S, blk 18 I mo (st A 4 X), L, D, z) := by
  intro q
  induction q with
  | zero =>
    intro i s A A' hi hf hq hs hn he hz
    subst he
    refine jj_iload_n (q := 49) dX9_timetable_48 rfl rfl rfl ?_
    refine jj_aload_n (q := 50) dX9_timetable_49 rfl rfl rfl ?_
    refine jj_getS (q := 53) dX9_timetable_50 fl_X9_17 hm.t0 hm.r0_10 rfl rfl rfl ?_
    refine jj_bipush (v := 12) (q := 55) dX9_timetable_53 rfl rfl ?_
    refine jj_ialdW (q := 56) (j := 12) (v := nI nf) dX9_timetable_55 hm.t2 (blk_sn (by decide) (by decide)) rfl (by omega) hf rfl ?_
    refine jj_icmp_ge (q := 59) (tgt := 79) dX9_timetable_56 rfl rfl (fun h56 => ?_) (fun h56 => absurd (nI_le (show nf ≤ i by omega) (by omega)) h56)
    rw [show i = nf by omega]
    exact hz
  | succ q ih =>
    intro i s A A' hi hf hq hs hn he hz
    have hn30 := ho.2.2.2
    have hpi := (hph r hr).2 i (by omega)
    rw [rIn, wAL_app] at he
    rw [rIn, List.length_append] at hn
    by_cases e : i = ph r
    · rw [if_pos e] at he hn
      have s1 := wAL_0 (k := 16) (l := tW nl op cl (xM X) i) hs (by omega)
      refine jj_iload_n (q := 49) dX9_timetable_48 rfl rfl rfl ?_
      refine jj_aload_n (q := 50) dX9_timetable_49 rfl rfl rfl ?_
      refine jj_getS (q := 53) dX9_timetable_50 fl_X9_17 hm.t0 hm.r0_10 rfl rfl rfl ?_
      refine jj_bipush (v := 12) (q := 55) dX9_timetable_53 rfl rfl ?_
      refine jj_ialdW (q := 56) (j := 12) (v := nI nf) dX9_timetable_55 hm.t2 (blk_sn (by decide) (by decide)) rfl (by omega) hf rfl ?_
      refine jj_icmp_ge (q := 59) (tgt := 79) dX9_timetable_56 rfl rfl (fun h56 => absurd h56 ((nI_ge (show i < nf by omega) (by omega)))) (fun h56 => ?_)
      refine jj_aload_n (q := 60) dX9_timetable_59 rfl rfl rfl ?_
      refine jj_iload_n (q := 61) dX9_timetable_60 rfl rfl rfl ?_
      refine jj_cV1i (q := 64) dX9_timetable_61 yk_X9_flightsAhead ml_X9_403 hm.t0 (ex_flightsAhead hm hf hf8 (show i < nf by omega)) rfl rfl rfl ⟨Nat.zero_le _, Nat.zero_le _⟩ ?_
      refine jj_iload_n (q := 65) dX9_timetable_64 rfl rfl rfl ?_
      refine jj_icmp_ne (q := 68) (tgt := 73) dX9_timetable_65 rfl rfl (fun h65 => by exfalso; exact h65 (hpi.mpr e)) (fun h65 => ?_)
      refine jj_aload_n (q := 69) dX9_timetable_68 rfl rfl rfl ?_
      refine jj_iload_n (q := 70) dX9_timetable_69 rfl rfl rfl ?_
      refine jj_cV1v (q := 73) dX9_timetable_70 yk_X9_writesFlight ml_X9_406 hm.t0 (ex_writesFlight hm ho hX hq hl hf8 hoc hs (show i < nf by omega) (by omega)) rfl rfl rfl ⟨Nat.zero_le _, Nat.zero_le _⟩ ?_
      refine jj_iinc (v := nI (i + 1)) (q := 76) dX9_timetable_73 rfl (nI_incn i 1 rfl) (by decide) rfl ?_
      refine jj_goto (tgt := 48) dX9_timetable_76 rfl ?_
      exact ih (i + 1) _ _ A' (by omega) (by (repeat rw [wAL_c (c := 2) (by omega) (by omega)]); exact hf) (by (repeat rw [wAL_c (c := 2) (by omega) (by omega)]); exact hq) s1 (by omega) he hz
    · rw [if_neg e] at he hn
      rw [wAL_nil] at he
      rw [List.length_nil] at hn
      refine jj_iload_n (q := 49) dX9_timetable_48 rfl rfl rfl ?_
      refine jj_aload_n (q := 50) dX9_timetable_49 rfl rfl rfl ?_
      refine jj_getS (q := 53) dX9_timetable_50 fl_X9_17 hm.t0 hm.r0_10 rfl rfl rfl ?_
      refine jj_bipush (v := 12) (q := 55) dX9_timetable_53 rfl rfl ?_
      refine jj_ialdW (q := 56) (j := 12) (v := nI nf) dX9_timetable_55 hm.t2 (blk_sn (by decide) (by decide)) rfl (by omega) hf rfl ?_
      refine jj_icmp_ge (q := 59) (tgt := 79) dX9_timetable_56 rfl rfl (fun h56 => absurd h56 ((nI_ge (show i < nf by omega) (by omega)))) (fun h56 => ?_)
      refine jj_aload_n (q := 60) dX9_timetable_59 rfl rfl rfl ?_
      refine jj_iload_n (q := 61) dX9_timetable_60 rfl rfl rfl ?_
      refine jj_cV1i (q := 64) dX9_timetable_61 yk_X9_flightsAhead ml_X9_403 hm.t0 (ex_flightsAhead hm hf hf8 (show i < nf by omega)) rfl rfl rfl ⟨Nat.zero_le _, Nat.zero_le _⟩ ?_
      refine jj_iload_n (q := 65) dX9_timetable_64 rfl rfl rfl ?_
      refine jj_icmp_ne (q := 68) (tgt := 73) dX9_timetable_65 rfl rfl (fun h65 => ?_) (fun h65 => by exfalso; exact e (hpi.mp h65))
      refine jj_iinc (v := nI (i + 1)) (q := 76) dX9_timetable_73 rfl (nI_incn i 1 rfl) (by decide) rfl ?_
      refine jj_goto (tgt := 48) dX9_timetable_76 rfl ?_
      exact ih (i + 1) _ _ A' (by omega) hf hq hs (by omega) he hz
theorem lp_ttO (hm : hMo T S mo) (ho : oW T S mo 16 n) (hX : mI X) {nl : Nat} (hl : nl ≤ 4) {nf : Nat} (hf8 : nf ≤ 8) {op cl : Nat → Nat} (hoc : ∀ f, f < nf → X (5 + f) = nI (op f) ∧ op f < 2 ^ 29 ∧ X (13 + f) = nI (cl f) ∧ cl f < 2 ^ 29) {ph : Nat → Nat} (hph : ∀ r, r < nf → ph r < nf ∧ ∀ f, f < nf → (nI (fb_ct (pFa X f) nf) = nI r ↔ f = ph r)) : ∀ (q i s : Nat) (A A' : JI) (x2 : Option Value), i + q = nf → A 2 12 = nI nf → A 2 13 = nI nl → A 0 34 = nI s → s + (rTt (fun r => tW nl op cl (xM X) (ph r)) i q).length ≤ n → wAL 16 A (rTt (fun r => tW nl op cl (xM X) (ph r)) i q) = A' → JJ Γ (jj_E Y_X9_timetable) (jj_Z Γ (rI (A' 0 34) (T, R, S, blk 18 I mo (st (u2 A' 0 33 (A' 0 34)) 4 X), L, D, z)) 0 0) (jj_rm (d + 3) 0 0) 0 0 25 [some (.ref mo), some (.int (nI i)), x2] [] (T, R, S, blk 18 I mo (st A 4 X), L, D, z) := by
  intro q
  induction q with
  | zero =>
    intro i s A A' x2 hi hf hq hs hn he
    subst he
    refine jj_iload_n (q := 26) dX9_timetable_25 rfl rfl rfl ?_
    refine jj_aload_n (q := 27) dX9_timetable_26 rfl rfl rfl ?_
    refine jj_getS (q := 30) dX9_timetable_27 fl_X9_17 hm.t0 hm.r0_10 rfl rfl rfl ?_
    refine jj_bipush (v := 12) (q := 32) dX9_timetable_30 rfl rfl ?_
    refine jj_ialdW (q := 33) (j := 12) (v := nI nf) dX9_timetable_32 hm.t2 (blk_sn (by decide) (by decide)) rfl (by omega) hf rfl ?_
    refine jj_icmp_ge (q := 36) (tgt := 85) dX9_timetable_33 rfl rfl (fun h33 => ?_) (fun h33 => absurd (nI_le (show nf ≤ i by omega) (by omega)) h33)
    refine jj_aload_n (q := 86) dX9_timetable_85 rfl rfl rfl ?_
    refine jj_aload_n (q := 87) dX9_timetable_86 rfl rfl rfl ?_
    refine jj_getIv (q := 90) dX9_timetable_87 fl_X9_388 hm.t0 (blk_s0 (by decide) (by decide)) rfl rfl ?_
    refine jj_putIv (q := 93) dX9_timetable_90 fl_X9_409 hm.t0 (u2_bs0 (by decide) (by decide)) rfl rfl rfl rfl rfl ?_
    refine jj_aload_n (q := 94) dX9_timetable_93 rfl rfl rfl ?_
    refine jj_getIv (q := 97) dX9_timetable_94 fl_X9_409 hm.t0 (blk_s0 (by decide) (by decide)) rfl rfl ?_
    refine jj_iret dX9_timetable_97 rfl (Nat.zero_le _) (Nat.zero_le _) ?_
    exact ⟨rfl, rfl⟩
  | succ q ih =>
    intro i s A A' x2 hi hf hq hs hn he
    have hn30 := ho.2.2.2
    rw [rTt, wAL_app, wAL_app] at he
    rw [rTt, List.length_append, List.length_append] at hn
    have hr := rIn_in (tW nl op cl (xM X)) (p := ph i) nf 0 (by omega) (by have := (hph i (by omega)).1; omega)
    have s1 := wAL_0 (k := 16) (l := if i = 0 then ([] : List Nat) else [59]) hs (by omega)
    have s2 := wAL_0 (k := 16) (l := tW nl op cl (xM X) (ph i)) s1 (by omega)
    by_cases hi0 : i = 0
    · rw [if_pos hi0] at s1 s2 he hn
      rw [List.length_nil] at s1 s2 hn
      rw [wAL_nil] at s1 s2 he
      refine jj_iload_n (q := 26) dX9_timetable_25 rfl rfl rfl ?_
      refine jj_aload_n (q := 27) dX9_timetable_26 rfl rfl rfl ?_
      refine jj_getS (q := 30) dX9_timetable_27 fl_X9_17 hm.t0 hm.r0_10 rfl rfl rfl ?_
      refine jj_bipush (v := 12) (q := 32) dX9_timetable_30 rfl rfl ?_
      refine jj_ialdW (q := 33) (j := 12) (v := nI nf) dX9_timetable_32 hm.t2 (blk_sn (by decide) (by decide)) rfl (by omega) hf rfl ?_
      refine jj_icmp_ge (q := 36) (tgt := 85) dX9_timetable_33 rfl rfl (fun h33 => absurd h33 ((nI_ge (show i < nf by omega) (by omega)))) (fun h33 => ?_)
      refine jj_iload_n (q := 37) dX9_timetable_36 rfl rfl rfl ?_
      refine jj_if_le (q := 40) (tgt := 46) dX9_timetable_37 rfl rfl (fun h37 => ?_) (fun h37 => absurd (by rw [hi0]; decide) h37)
      refine jj_iconst (v := 0) (q := 47) dX9_timetable_46 rfl rfl ?_
      refine jj_istore_n (q := 48) dX9_timetable_47 rfl (by decide) rfl ?_
      refine lp_ttI hm ho hX hl hf8 hoc hph (show i < nf by omega) nf 0 _ _ _ (by omega) (by (repeat rw [wAL_c (c := 2) (by omega) (by omega)]); exact hf) (by (repeat rw [wAL_c (c := 2) (by omega) (by omega)]); exact hq) s1 (by rw [hr]; omega) (by rw [hr]) ?_
      refine jj_iinc (v := nI (i + 1)) (q := 82) dX9_timetable_79 rfl (nI_incn i 1 rfl) (by decide) rfl ?_
      refine jj_goto (tgt := 25) dX9_timetable_82 rfl ?_
      exact ih (i + 1) _ _ A' _ (by omega) (by (repeat rw [wAL_c (c := 2) (by omega) (by omega)]); exact hf) (by (repeat rw [wAL_c (c := 2) (by omega) (by omega)]); exact hq) s2 (by omega) he
    · rw [if_neg hi0] at s1 s2 he hn
      rw [List.length_singleton] at s1 s2 hn
      refine jj_iload_n (q := 26) dX9_timetable_25 rfl rfl rfl ?_
      refine jj_aload_n (q := 27) dX9_timetable_26 rfl rfl rfl ?_
      refine jj_getS (q := 30) dX9_timetable_27 fl_X9_17 hm.t0 hm.r0_10 rfl rfl rfl ?_
      refine jj_bipush (v := 12) (q := 32) dX9_timetable_30 rfl rfl ?_
      refine jj_ialdW (q := 33) (j := 12) (v := nI nf) dX9_timetable_32 hm.t2 (blk_sn (by decide) (by decide)) rfl (by omega) hf rfl ?_
      refine jj_icmp_ge (q := 36) (tgt := 85) dX9_timetable_33 rfl rfl (fun h33 => absurd h33 ((nI_ge (show i < nf by omega) (by omega)))) (fun h33 => ?_)
      refine jj_iload_n (q := 37) dX9_timetable_36 rfl rfl rfl ?_
      refine jj_if_le (q := 40) (tgt := 46) dX9_timetable_37 rfl rfl (fun h37 => absurd h37 (nI_ge (a := 0) (b := i) (by omega) (by omega))) (fun h37 => ?_)
      refine jj_aload_n (q := 41) dX9_timetable_40 rfl rfl rfl ?_
      refine jj_bipush (v := 59) (q := 43) dX9_timetable_41 rfl rfl ?_
      refine jj_cV1v (q := 46) dX9_timetable_43 yk_X9_writes ml_X9_391 hm.t0 (ex_writes (b := 59) hm ho hs (by rw [List.length_singleton]; omega)) rfl rfl rfl ⟨Nat.zero_le _, Nat.zero_le _⟩ ?_
      refine jj_iconst (v := 0) (q := 47) dX9_timetable_46 rfl rfl ?_
      refine jj_istore_n (q := 48) dX9_timetable_47 rfl (by decide) rfl ?_
      refine lp_ttI hm ho hX hl hf8 hoc hph (show i < nf by omega) nf 0 _ _ _ (by omega) (by (repeat rw [wAL_c (c := 2) (by omega) (by omega)]); exact hf) (by (repeat rw [wAL_c (c := 2) (by omega) (by omega)]); exact hq) s1 (by rw [hr]; omega) (by rw [hr]) ?_
      refine jj_iinc (v := nI (i + 1)) (q := 82) dX9_timetable_79 rfl (nI_incn i 1 rfl) (by decide) rfl ?_
      refine jj_goto (tgt := 25) dX9_timetable_82 rfl ?_
      exact ih (i + 1) _ _ A' _ (by omega) (by (repeat rw [wAL_c (c := 2) (by omega) (by omega)]); exact hf) (by (repeat rw [wAL_c (c := 2) (by omega) (by omega)]); exact hq) s2 (by omega) he
theorem ex_mtimetable (hm : hMo T S mo) (hX : mI X) {nl : Nat} (hq : A 2 13 = nI nl) (hl : nl ≤ 4) {nf : Nat} (hf8 : nf ≤ 8) {op cl : Nat → Nat} (hoc : ∀ f, f < nf → X (5 + f) = nI (op f) ∧ op f < 2 ^ 29 ∧ X (13 + f) = nI (cl f) ∧ cl f < 2 ^ 29) (hf : A 2 12 = nI nf) {ph : Nat → Nat} (hph : ∀ r, r < nf → ph r < nf ∧ ∀ f, f < nf → (nI (fb_ct (pFa X f) nf) = nI r ↔ f = ph r)) (hok : ¬ mOk A 1 = 0) : Ex Γ (d + 3) Y_X9_timetable [.ref mo] (T, R, S, blk 18 I mo (st A 4 X), L, D, z) 0 0 (rI (nI (rTt (fun r => tW nl op cl (xM X) (ph r)) 0 nf).length) (T, R, u2 S mo 31 (some (mo + 16)), blk 18 I mo (st (u2 (wAL 16 (u2 (tA A (tI A 1)) 0 34 0) (rTt (fun r => tW nl op cl (xM X) (ph r)) 0 nf)) 0 33 (nI (rTt (fun r => tW nl op cl (xM X) (ph r)) 0 nf).length)) 4 X), L, D, z)) := by
  have hlen := rTt_len (tw := (fun r => tW nl op cl (xM X) (ph r))) (nf := nf) (fun r hr => tW_len hl (hoc _ (hph r hr).1).2.1 (hoc _ (hph r hr).1).2.2.2 (fun l => xM20 hX l _)) nf 0 (by omega)
  have hs0 : u2 (tA A (tI A 1)) 0 34 0 0 34 = nI 0 := rfl
  have hsz := wAL_0 (k := 16) (l := (rTt (fun r => tW nl op cl (xM X) (ph r)) 0 nf)) hs0 (by omega)
  rw [Nat.zero_add] at hsz
  rw [← hsz]
  have ho : oW T (u2 S mo 31 (some (mo + 16))) mo 16 400 := ⟨Or.inr rfl, hm.t16, by rw [u2_ap, if_pos rfl, if_pos rfl], by omega⟩
  refine Ex.of (by decide) (by simp [Value.category]) (Nat.le_of_ble_eq_true rfl) rfl ?_
  refine jj_aload_n (q := 1) dX9_timetable_0 rfl rfl rfl ?_
  refine jj_iconst (v := 1) (q := 2) dX9_timetable_1 rfl rfl ?_
  refine jj_cV1i (q := 5) dX9_timetable_2 yk_X9_mayAsk ml_X9_353 hm.t0 (ex_mayAsk hm) rfl rfl rfl ⟨Nat.zero_le _, Nat.zero_le _⟩ ?_
  refine jj_if_ne (q := 8) (tgt := 10) dX9_timetable_5 rfl rfl (fun h5 => ?_) (fun h5 => by exfalso; exact hok h5)
  refine jj_aload_n (q := 11) dX9_timetable_10 rfl rfl rfl ?_
  refine jj_aload_n (q := 12) dX9_timetable_11 rfl rfl rfl ?_
  refine jj_getS (q := 15) dX9_timetable_12 fl_X9_73 hm.t0 hm.r0_30 rfl rfl rfl ?_
  refine jj_putS (q := 18) dX9_timetable_15 fl_X9_76 (by decide) hm.t0 rfl rfl rfl rfl rfl ?_
  refine jj_aload_n (q := 19) dX9_timetable_18 rfl rfl rfl ?_
  refine jj_iconst (v := 0) (q := 20) dX9_timetable_19 rfl rfl ?_
  refine jj_putIv (q := 23) dX9_timetable_20 fl_X9_388 hm.t0 (u2_bs0 (by decide) (by decide)) rfl rfl rfl rfl rfl ?_
  refine jj_iconst (v := 0) (q := 24) dX9_timetable_23 rfl rfl ?_
  refine jj_istore_n (q := 25) dX9_timetable_24 rfl (by decide) rfl ?_
  exact lp_ttO hm.out ho hX hl hf8 hoc hph nf 0 0 _ _ _ (by omega) hf hq hs0 (by omega) rfl
theorem ex_mreportByte (hm : hMo T S mo) {ln : Nat} (hq : A 0 32 = nI ln) (hl : ln ≤ 200) {b : Int32} : Ex Γ (d + 1) Y_X9_reportByte [.ref mo, .int b] (T, R, S, blk 18 I mo (st A 4 X), L, D, z) 0 0 (rI (if inI b 0 (nI ln - 1) = 0 then 0 else A 15 (nN b)) (T, R, S, blk 18 I mo (st (tA A (if inI b 0 (nI ln - 1) = 0 then 1 else 0)) 4 X), L, D, z)) := by
  rcases in_n (c := ln) (by omega) b with ⟨j, hj, rfl, hi, he⟩ | ⟨hi, he⟩
  · have hi0 : ¬ inI (nI j) 0 (nI ln - 1) = 0 := by rw [hi]; decide
    rw [if_neg hi0, if_neg hi0, nN_nI (by omega)]
    refine Ex.of (by decide) (by simp [Value.category]) (Nat.le_of_ble_eq_true rfl) rfl ?_
    refine jj_aload_n (q := 1) dX9_reportByte_0 rfl rfl rfl ?_
    refine jj_iload_n (q := 2) dX9_reportByte_1 rfl rfl rfl ?_
    refine jj_iconst (v := 0) (q := 3) dX9_reportByte_2 rfl rfl ?_
    refine jj_aload_n (q := 4) dX9_reportByte_3 rfl rfl rfl ?_
    refine jj_getIw (v := nI ln) (q := 7) dX9_reportByte_4 fl_X9_397 hm.t0 (by rw [blk_s0 (by decide) (by decide)]; exact hq) rfl rfl ?_
    refine jj_iconst (v := 1) (q := 8) dX9_reportByte_7 rfl rfl ?_
    refine jj_isub (q := 9) dX9_reportByte_8 rfl ?_
    refine jj_cS3i (q := 12) dX9_reportByte_9 yk_X9_in ml_X9_111 ex_inI rfl rfl rfl ⟨Nat.zero_le _, Nat.zero_le _⟩ ?_
    refine jj_if_eq (q := 15) (tgt := 19) dX9_reportByte_12 rfl rfl (fun h12 => absurd h12 (hi0)) (fun h12 => ?_)
    refine jj_iconst (v := 0) (q := 16) dX9_reportByte_15 rfl rfl ?_
    refine jj_goto (tgt := 20) dX9_reportByte_16 rfl ?_
    refine jj_putIv (q := 23) dX9_reportByte_20 fl_X9_82 hm.t0 (u2_bs0 (by decide) (by decide)) rfl rfl rfl rfl rfl ?_
    refine jj_aload_n (q := 24) dX9_reportByte_23 rfl rfl rfl ?_
    refine jj_getIv (q := 27) dX9_reportByte_24 fl_X9_82 hm.t0 (blk_s0 (by decide) (by decide)) rfl rfl ?_
    refine jj_if_ne (q := 30) (tgt := 39) dX9_reportByte_27 rfl rfl (fun h27 => by exfalso; exact h27 rfl) (fun h27 => ?_)
    refine jj_aload_n (q := 31) dX9_reportByte_30 rfl rfl rfl ?_
    refine jj_getS (q := 34) dX9_reportByte_31 fl_X9_70 hm.t0 hm.r0_29 rfl rfl rfl ?_
    refine jj_iload_n (q := 35) dX9_reportByte_34 rfl rfl rfl ?_
    refine jj_ialdN (q := 36) (j := j) dX9_reportByte_35 hm.t15 (blk_sn (by decide) (by decide)) rfl (by omega) rfl ?_
    refine jj_goto (tgt := 40) dX9_reportByte_36 rfl ?_
    refine jj_iret dX9_reportByte_40 rfl (Nat.zero_le _) (Nat.zero_le _) ?_
    exact ⟨rfl, rfl⟩
  · rw [if_pos hi, if_pos hi]
    refine Ex.of (by decide) (by simp [Value.category]) (Nat.le_of_ble_eq_true rfl) rfl ?_
    refine jj_aload_n (q := 1) dX9_reportByte_0 rfl rfl rfl ?_
    refine jj_iload_n (q := 2) dX9_reportByte_1 rfl rfl rfl ?_
    refine jj_iconst (v := 0) (q := 3) dX9_reportByte_2 rfl rfl ?_
    refine jj_aload_n (q := 4) dX9_reportByte_3 rfl rfl rfl ?_
    refine jj_getIw (v := nI ln) (q := 7) dX9_reportByte_4 fl_X9_397 hm.t0 (by rw [blk_s0 (by decide) (by decide)]; exact hq) rfl rfl ?_
    refine jj_iconst (v := 1) (q := 8) dX9_reportByte_7 rfl rfl ?_
    refine jj_isub (q := 9) dX9_reportByte_8 rfl ?_
    refine jj_cS3i (q := 12) dX9_reportByte_9 yk_X9_in ml_X9_111 ex_inI rfl rfl rfl ⟨Nat.zero_le _, Nat.zero_le _⟩ ?_
    refine jj_if_eq (q := 15) (tgt := 19) dX9_reportByte_12 rfl rfl (fun h12 => ?_) (fun h12 => absurd (hi) h12)
    refine jj_iconst (v := 1) (q := 20) dX9_reportByte_19 rfl rfl ?_
    refine jj_putIv (q := 23) dX9_reportByte_20 fl_X9_82 hm.t0 (u2_bs0 (by decide) (by decide)) rfl rfl rfl rfl rfl ?_
    refine jj_aload_n (q := 24) dX9_reportByte_23 rfl rfl rfl ?_
    refine jj_getIv (q := 27) dX9_reportByte_24 fl_X9_82 hm.t0 (blk_s0 (by decide) (by decide)) rfl rfl ?_
    refine jj_if_ne (q := 30) (tgt := 39) dX9_reportByte_27 rfl rfl (fun h27 => ?_) (fun h27 => by exfalso; exact absurd (show (1 : Int32) = 0 from h27) (by decide))
    refine jj_iconst (v := 0) (q := 40) dX9_reportByte_39 rfl rfl ?_
    refine jj_iret dX9_reportByte_40 rfl (Nat.zero_le _) (Nat.zero_le _) ?_
    exact ⟨rfl, rfl⟩
theorem ex_mtimetableByte (hm : hMo T S mo) {ln : Nat} (hq : A 0 33 = nI ln) (hl : ln ≤ 400) {b : Int32} : Ex Γ (d + 1) Y_X9_timetableByte [.ref mo, .int b] (T, R, S, blk 18 I mo (st A 4 X), L, D, z) 0 0 (rI (if inI b 0 (nI ln - 1) = 0 then 0 else A 16 (nN b)) (T, R, S, blk 18 I mo (st (tA A (if inI b 0 (nI ln - 1) = 0 then 1 else 0)) 4 X), L, D, z)) := by
  rcases in_n (c := ln) (by omega) b with ⟨j, hj, rfl, hi, he⟩ | ⟨hi, he⟩
  · have hi0 : ¬ inI (nI j) 0 (nI ln - 1) = 0 := by rw [hi]; decide
    rw [if_neg hi0, if_neg hi0, nN_nI (by omega)]
    refine Ex.of (by decide) (by simp [Value.category]) (Nat.le_of_ble_eq_true rfl) rfl ?_
    refine jj_aload_n (q := 1) dX9_timetableByte_0 rfl rfl rfl ?_
    refine jj_iload_n (q := 2) dX9_timetableByte_1 rfl rfl rfl ?_
    refine jj_iconst (v := 0) (q := 3) dX9_timetableByte_2 rfl rfl ?_
    refine jj_aload_n (q := 4) dX9_timetableByte_3 rfl rfl rfl ?_
    refine jj_getIw (v := nI ln) (q := 7) dX9_timetableByte_4 fl_X9_409 hm.t0 (by rw [blk_s0 (by decide) (by decide)]; exact hq) rfl rfl ?_
    refine jj_iconst (v := 1) (q := 8) dX9_timetableByte_7 rfl rfl ?_
    refine jj_isub (q := 9) dX9_timetableByte_8 rfl ?_
    refine jj_cS3i (q := 12) dX9_timetableByte_9 yk_X9_in ml_X9_111 ex_inI rfl rfl rfl ⟨Nat.zero_le _, Nat.zero_le _⟩ ?_
    refine jj_if_eq (q := 15) (tgt := 19) dX9_timetableByte_12 rfl rfl (fun h12 => absurd h12 (hi0)) (fun h12 => ?_)
    refine jj_iconst (v := 0) (q := 16) dX9_timetableByte_15 rfl rfl ?_
    refine jj_goto (tgt := 20) dX9_timetableByte_16 rfl ?_
    refine jj_putIv (q := 23) dX9_timetableByte_20 fl_X9_82 hm.t0 (u2_bs0 (by decide) (by decide)) rfl rfl rfl rfl rfl ?_
    refine jj_aload_n (q := 24) dX9_timetableByte_23 rfl rfl rfl ?_
    refine jj_getIv (q := 27) dX9_timetableByte_24 fl_X9_82 hm.t0 (blk_s0 (by decide) (by decide)) rfl rfl ?_
    refine jj_if_ne (q := 30) (tgt := 39) dX9_timetableByte_27 rfl rfl (fun h27 => by exfalso; exact h27 rfl) (fun h27 => ?_)
    refine jj_aload_n (q := 31) dX9_timetableByte_30 rfl rfl rfl ?_
    refine jj_getS (q := 34) dX9_timetableByte_31 fl_X9_73 hm.t0 hm.r0_30 rfl rfl rfl ?_
    refine jj_iload_n (q := 35) dX9_timetableByte_34 rfl rfl rfl ?_
    refine jj_ialdN (q := 36) (j := j) dX9_timetableByte_35 hm.t16 (blk_sn (by decide) (by decide)) rfl (by omega) rfl ?_
    refine jj_goto (tgt := 40) dX9_timetableByte_36 rfl ?_
    refine jj_iret dX9_timetableByte_40 rfl (Nat.zero_le _) (Nat.zero_le _) ?_
    exact ⟨rfl, rfl⟩
  · rw [if_pos hi, if_pos hi]
    refine Ex.of (by decide) (by simp [Value.category]) (Nat.le_of_ble_eq_true rfl) rfl ?_
    refine jj_aload_n (q := 1) dX9_timetableByte_0 rfl rfl rfl ?_
    refine jj_iload_n (q := 2) dX9_timetableByte_1 rfl rfl rfl ?_
    refine jj_iconst (v := 0) (q := 3) dX9_timetableByte_2 rfl rfl ?_
    refine jj_aload_n (q := 4) dX9_timetableByte_3 rfl rfl rfl ?_
    refine jj_getIw (v := nI ln) (q := 7) dX9_timetableByte_4 fl_X9_409 hm.t0 (by rw [blk_s0 (by decide) (by decide)]; exact hq) rfl rfl ?_
    refine jj_iconst (v := 1) (q := 8) dX9_timetableByte_7 rfl rfl ?_
    refine jj_isub (q := 9) dX9_timetableByte_8 rfl ?_
    refine jj_cS3i (q := 12) dX9_timetableByte_9 yk_X9_in ml_X9_111 ex_inI rfl rfl rfl ⟨Nat.zero_le _, Nat.zero_le _⟩ ?_
    refine jj_if_eq (q := 15) (tgt := 19) dX9_timetableByte_12 rfl rfl (fun h12 => ?_) (fun h12 => absurd (hi) h12)
    refine jj_iconst (v := 1) (q := 20) dX9_timetableByte_19 rfl rfl ?_
    refine jj_putIv (q := 23) dX9_timetableByte_20 fl_X9_82 hm.t0 (u2_bs0 (by decide) (by decide)) rfl rfl rfl rfl rfl ?_
    refine jj_aload_n (q := 24) dX9_timetableByte_23 rfl rfl rfl ?_
    refine jj_getIv (q := 27) dX9_timetableByte_24 fl_X9_82 hm.t0 (blk_s0 (by decide) (by decide)) rfl rfl ?_
    refine jj_if_ne (q := 30) (tgt := 39) dX9_timetableByte_27 rfl rfl (fun h27 => ?_) (fun h27 => by exfalso; exact absurd (show (1 : Int32) = 0 from h27) (by decide))
    refine jj_iconst (v := 0) (q := 40) dX9_timetableByte_39 rfl rfl ?_
    refine jj_iret dX9_timetableByte_40 rfl (Nat.zero_le _) (Nat.zero_le _) ?_
    exact ⟨rfl, rfl⟩
theorem ex_mmapByte (hm : hMo T S mo) {ln : Nat} (hq : A 0 36 = nI ln) (hl : ln ≤ 40) {b : Int32} : Ex Γ (d + 1) Y_X9_mapByte [.ref mo, .int b] (T, R, S, blk 18 I mo (st A 4 X), L, D, z) 0 0 (rI (if inI b 0 (nI ln - 1) = 0 then 0 else A 17 (nN b)) (T, R, S, blk 18 I mo (st (tA A (if inI b 0 (nI ln - 1) = 0 then 1 else 0)) 4 X), L, D, z)) := by
  rcases in_n (c := ln) (by omega) b with ⟨j, hj, rfl, hi, he⟩ | ⟨hi, he⟩
  · have hi0 : ¬ inI (nI j) 0 (nI ln - 1) = 0 := by rw [hi]; decide
    rw [if_neg hi0, if_neg hi0, nN_nI (by omega)]
    refine Ex.of (by decide) (by simp [Value.category]) (Nat.le_of_ble_eq_true rfl) rfl ?_
    refine jj_aload_n (q := 1) dX9_mapByte_0 rfl rfl rfl ?_
    refine jj_iload_n (q := 2) dX9_mapByte_1 rfl rfl rfl ?_
    refine jj_iconst (v := 0) (q := 3) dX9_mapByte_2 rfl rfl ?_
    refine jj_aload_n (q := 4) dX9_mapByte_3 rfl rfl rfl ?_
    refine jj_getIw (v := nI ln) (q := 7) dX9_mapByte_4 fl_X9_412 hm.t0 (by rw [blk_s0 (by decide) (by decide)]; exact hq) rfl rfl ?_
    refine jj_iconst (v := 1) (q := 8) dX9_mapByte_7 rfl rfl ?_
    refine jj_isub (q := 9) dX9_mapByte_8 rfl ?_
    refine jj_cS3i (q := 12) dX9_mapByte_9 yk_X9_in ml_X9_111 ex_inI rfl rfl rfl ⟨Nat.zero_le _, Nat.zero_le _⟩ ?_
    refine jj_if_eq (q := 15) (tgt := 19) dX9_mapByte_12 rfl rfl (fun h12 => absurd h12 (hi0)) (fun h12 => ?_)
    refine jj_iconst (v := 0) (q := 16) dX9_mapByte_15 rfl rfl ?_
    refine jj_goto (tgt := 20) dX9_mapByte_16 rfl ?_
    refine jj_putIv (q := 23) dX9_mapByte_20 fl_X9_82 hm.t0 (u2_bs0 (by decide) (by decide)) rfl rfl rfl rfl rfl ?_
    refine jj_aload_n (q := 24) dX9_mapByte_23 rfl rfl rfl ?_
    refine jj_getIv (q := 27) dX9_mapByte_24 fl_X9_82 hm.t0 (blk_s0 (by decide) (by decide)) rfl rfl ?_
    refine jj_if_ne (q := 30) (tgt := 39) dX9_mapByte_27 rfl rfl (fun h27 => by exfalso; exact h27 rfl) (fun h27 => ?_)
    refine jj_aload_n (q := 31) dX9_mapByte_30 rfl rfl rfl ?_
    refine jj_getS (q := 34) dX9_mapByte_31 fl_X9_79 hm.t0 hm.r0_35 rfl rfl rfl ?_
    refine jj_iload_n (q := 35) dX9_mapByte_34 rfl rfl rfl ?_
    refine jj_ialdN (q := 36) (j := j) dX9_mapByte_35 hm.t17 (blk_sn (by decide) (by decide)) rfl (by omega) rfl ?_
    refine jj_goto (tgt := 40) dX9_mapByte_36 rfl ?_
    refine jj_iret dX9_mapByte_40 rfl (Nat.zero_le _) (Nat.zero_le _) ?_
    exact ⟨rfl, rfl⟩
  · rw [if_pos hi, if_pos hi]
    refine Ex.of (by decide) (by simp [Value.category]) (Nat.le_of_ble_eq_true rfl) rfl ?_
    refine jj_aload_n (q := 1) dX9_mapByte_0 rfl rfl rfl ?_
    refine jj_iload_n (q := 2) dX9_mapByte_1 rfl rfl rfl ?_
    refine jj_iconst (v := 0) (q := 3) dX9_mapByte_2 rfl rfl ?_
    refine jj_aload_n (q := 4) dX9_mapByte_3 rfl rfl rfl ?_
    refine jj_getIw (v := nI ln) (q := 7) dX9_mapByte_4 fl_X9_412 hm.t0 (by rw [blk_s0 (by decide) (by decide)]; exact hq) rfl rfl ?_
    refine jj_iconst (v := 1) (q := 8) dX9_mapByte_7 rfl rfl ?_
    refine jj_isub (q := 9) dX9_mapByte_8 rfl ?_
    refine jj_cS3i (q := 12) dX9_mapByte_9 yk_X9_in ml_X9_111 ex_inI rfl rfl rfl ⟨Nat.zero_le _, Nat.zero_le _⟩ ?_
    refine jj_if_eq (q := 15) (tgt := 19) dX9_mapByte_12 rfl rfl (fun h12 => ?_) (fun h12 => absurd (hi) h12)
    refine jj_iconst (v := 1) (q := 20) dX9_mapByte_19 rfl rfl ?_
    refine jj_putIv (q := 23) dX9_mapByte_20 fl_X9_82 hm.t0 (u2_bs0 (by decide) (by decide)) rfl rfl rfl rfl rfl ?_
    refine jj_aload_n (q := 24) dX9_mapByte_23 rfl rfl rfl ?_
    refine jj_getIv (q := 27) dX9_mapByte_24 fl_X9_82 hm.t0 (blk_s0 (by decide) (by decide)) rfl rfl ?_
    refine jj_if_ne (q := 30) (tgt := 39) dX9_mapByte_27 rfl rfl (fun h27 => ?_) (fun h27 => by exfalso; exact absurd (show (1 : Int32) = 0 from h27) (by decide))
    refine jj_iconst (v := 0) (q := 40) dX9_mapByte_39 rfl rfl ?_
    refine jj_iret dX9_mapByte_40 rfl (Nat.zero_le _) (Nat.zero_le _) ?_
    exact ⟨rfl, rfl⟩
end M59
