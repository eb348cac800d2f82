/-! A LINE of the component, all of it -/
section B1
variable {Γ : Gam} {d : Nat} {T : JT} {R S : JR} {I C P K : JI} {L : JL} {D : JD} {tk dr : Int64} {pa pl sa E p : Nat} {F : JV} {b : Nat → Nat} {N X : JV} {H : Nat → Tst} {kf kl kc kk c sz m : Nat}
theorem ct_line (hp : hPa T R pa) (hb : pB_ C b E) (hs : cSt b E p F) (hcp : cP6 P) (hd : hDj pa pl sa) (hpl : hPl T R pl) (hsa : hSt T R sa) (y1 : yN N kf kl kc kk sz) (y2 : yX X kf c) (r1 : pPl N P kf kl kc) (r2 : pTe P H kk m) (hm : 2 * m ≤ p) (r3 : pSt0 X K dr kf c) (r4 : pTk N kf kl sz tk) : Ex Γ (d + 31) Y_X2_readLine [.ref pa, .ref pl, .ref sa] (cM T R S I L D C pa pl sa F P K tk dr) (ec (eN (lnC b E kf kl kc kk c sz N X H p))) (es (eN (lnC b E kf kl kc kk c sz N X H p))) (rC (cM T R S I L D C pa pl sa) (lnC b E kf kl kc kk c sz N X H p) (fun _ => none) (cRl b E)) := by
  have hnb := tN_bd (b := b) hs.2.1
  have hy1 := y1.1
  generalize hR : lnC b E kf kl kc kk c sz N X H p = RES
  unfold lnC at hR
  by_cases h_0 : isW b E p wd_flight = true
  · rw [if_pos h_0] at hR
    unfold lnF pBg at hR
    refine Ex.of (by decide) (by simp [Value.category]) (Nat.le_of_ble_eq_true rfl) rfl ?_
    refine jj_aload_n (q := 1) dX2_readLine_0 rfl rfl rfl ?_
    refine jj_ldcS (q := 3) dX2_readLine_1 ks_X2_129 rfl ?_
    refine jj_cV1i (q := 6) dX2_readLine_3 yk_X2_isWord ml_X2_131 hp.t0 (ex_isWord hp hb hs.2.1 hs.1 ks_X2_129 wl_flight (by decide) (by decide)) rfl rfl rfl ⟨Nat.zero_le _, Nat.zero_le _⟩ ?_
    refine jj_if_eq (q := 9) (tgt := 28) dX2_readLine_6 rfl rfl (fun h6 => by exfalso; exact absurd ((if_pos h_0).symm.trans h6) (by decide)) (fun h6 => ?_)
    refine jj_aload_n (q := 10) dX2_readLine_9 rfl rfl rfl ?_
    refine jj_aload_n (q := 11) dX2_readLine_10 rfl rfl rfl ?_
    refine jj_getIw (v := nI kf) (q := 14) dX2_readLine_11 fl_X2_76 hpl.t0 ((congrFun (c_p0 hd) _).trans r1.2.2.1.1) rfl rfl ?_
    refine jj_bipush (v := 8) (q := 16) dX2_readLine_14 rfl rfl ?_
    refine jj_tV2v (q := 19) dX2_readLine_16 yk_X2_beginLine ml_X2_135 hp.t0 (ct_begin (d := d + 23) hp hb hs hcp (n := kf) (most := 8) (by omega) (by omega)) rfl rfl rfl rfl ((fun e h => by rw [← hR, h]; rfl)) (fun x16 pp16 F16 P16 K16 t16 r16 h16 R16 => ?_)
    have ne16 : kf ≠ 8 := fun h => by rw [if_pos h] at h16; cases h16
    have g16 : pp16 = tN b E p := by rw [if_neg ne16] at h16; exact (congrArg Prod.snd (Sum.inr.inj h16)).symm
    obtain ⟨s16, rfl, rfl, rfl, rfl⟩ := R16
    rw [h16, Res.bd_r] at hR
    dsimp only at hR
    refine jj_aload_n (q := 20) dX2_readLine_19 rfl rfl rfl ?_
    refine jj_aload_n (q := 21) dX2_readLine_20 rfl rfl rfl ?_
    refine jj_aload_n (q := 22) dX2_readLine_21 rfl rfl rfl ?_
    refine jj_tV2v (q := 25) dX2_readLine_22 yk_X2_readFlight ml_X2_139 hp.t0 (ct_flight (d := d + 21) hp hb s16 hcp hd hpl hsa y1 y2 r1 r2 (by omega) r3 r4 (by omega)) rfl rfl rfl rfl ((fun e h => hR.symm.trans h)) (fun x22 pp22 F22 P22 K22 t22 r22 h22 R22 => ?_)
    have e22 := hR.symm.trans h22
    subst e22
    refine jj_goto (tgt := 147) dX2_readLine_25 rfl ?_
    refine jj_vret dX2_readLine_147 rfl (Nat.zero_le _) (Nat.zero_le _) ?_
    exact ⟨rfl, _, _, _, _, _, R22, rfl⟩
  · skip
    by_cases h_1 : isW b E p wd_lane = true
    · rw [if_neg h_0, if_pos h_1] at hR
      unfold lnA pBg at hR
      refine Ex.of (by decide) (by simp [Value.category]) (Nat.le_of_ble_eq_true rfl) rfl ?_
      refine jj_aload_n (q := 1) dX2_readLine_0 rfl rfl rfl ?_
      refine jj_ldcS (q := 3) dX2_readLine_1 ks_X2_129 rfl ?_
      refine jj_cV1i (q := 6) dX2_readLine_3 yk_X2_isWord ml_X2_131 hp.t0 (ex_isWord hp hb hs.2.1 hs.1 ks_X2_129 wl_flight (by decide) (by decide)) rfl rfl rfl ⟨Nat.zero_le _, Nat.zero_le _⟩ ?_
      refine jj_if_eq (q := 9) (tgt := 28) dX2_readLine_6 rfl rfl (fun h6 => ?_) (fun h6 => absurd (if_neg h_0) h6)
      refine jj_aload_n (q := 29) dX2_readLine_28 rfl rfl rfl ?_
      refine jj_ldcS (q := 31) dX2_readLine_29 ks_X2_142 rfl ?_
      refine jj_cV1i (q := 34) dX2_readLine_31 yk_X2_isWord ml_X2_131 hp.t0 (ex_isWord hp hb hs.2.1 hs.1 ks_X2_142 wl_lane (by decide) (by decide)) rfl rfl rfl ⟨Nat.zero_le _, Nat.zero_le _⟩ ?_
      refine jj_if_eq (q := 37) (tgt := 54) dX2_readLine_34 rfl rfl (fun h34 => by exfalso; exact absurd ((if_pos h_1).symm.trans h34) (by decide)) (fun h34 => ?_)
      refine jj_aload_n (q := 38) dX2_readLine_37 rfl rfl rfl ?_
      refine jj_aload_n (q := 39) dX2_readLine_38 rfl rfl rfl ?_
      refine jj_getIw (v := nI kl) (q := 42) dX2_readLine_39 fl_X2_144 hpl.t0 ((congrFun (c_p0 hd) _).trans r1.2.2.1.2.1) rfl rfl ?_
      refine jj_iconst (v := 4) (q := 43) dX2_readLine_42 rfl rfl ?_
      refine jj_tV2v (q := 46) dX2_readLine_43 yk_X2_beginLine ml_X2_135 hp.t0 (ct_begin (d := d + 23) hp hb hs hcp (n := kl) (most := 4) (by omega) (by omega)) rfl rfl rfl rfl ((fun e h => by rw [← hR, h]; rfl)) (fun x43 pp43 F43 P43 K43 t43 r43 h43 R43 => ?_)
      have ne43 : kl ≠ 4 := fun h => by rw [if_pos h] at h43; cases h43
      have g43 : pp43 = tN b E p := by rw [if_neg ne43] at h43; exact (congrArg Prod.snd (Sum.inr.inj h43)).symm
      obtain ⟨s43, rfl, rfl, rfl, rfl⟩ := R43
      rw [h43, Res.bd_r] at hR
      dsimp only at hR
      refine jj_aload_n (q := 47) dX2_readLine_46 rfl rfl rfl ?_
      refine jj_aload_n (q := 48) dX2_readLine_47 rfl rfl rfl ?_
      refine jj_tV1v (q := 51) dX2_readLine_48 yk_X2_readLane ml_X2_147 hp.t0 (ct_lane (d := d + 21) hp hb s43 hcp hd hpl hsa y1 y2 r1 r2 (by omega) r3 r4 (by omega)) rfl rfl rfl rfl ((fun e h => hR.symm.trans h)) (fun x48 pp48 F48 P48 K48 t48 r48 h48 R48 => ?_)
      have e48 := hR.symm.trans h48
      subst e48
      refine jj_goto (tgt := 147) dX2_readLine_51 rfl ?_
      refine jj_vret dX2_readLine_147 rfl (Nat.zero_le _) (Nat.zero_le _) ?_
      exact ⟨rfl, _, _, _, _, _, R48, rfl⟩
    · skip
      by_cases h_2 : isW b E p wd_bags = true
      · rw [if_neg h_0, if_neg h_1, if_pos h_2] at hR
        unfold lnB at hR
        refine Ex.of (by decide) (by simp [Value.category]) (Nat.le_of_ble_eq_true rfl) rfl ?_
        refine jj_aload_n (q := 1) dX2_readLine_0 rfl rfl rfl ?_
        refine jj_ldcS (q := 3) dX2_readLine_1 ks_X2_129 rfl ?_
        refine jj_cV1i (q := 6) dX2_readLine_3 yk_X2_isWord ml_X2_131 hp.t0 (ex_isWord hp hb hs.2.1 hs.1 ks_X2_129 wl_flight (by decide) (by decide)) rfl rfl rfl ⟨Nat.zero_le _, Nat.zero_le _⟩ ?_
        refine jj_if_eq (q := 9) (tgt := 28) dX2_readLine_6 rfl rfl (fun h6 => ?_) (fun h6 => absurd (if_neg h_0) h6)
        refine jj_aload_n (q := 29) dX2_readLine_28 rfl rfl rfl ?_
        refine jj_ldcS (q := 31) dX2_readLine_29 ks_X2_142 rfl ?_
        refine jj_cV1i (q := 34) dX2_readLine_31 yk_X2_isWord ml_X2_131 hp.t0 (ex_isWord hp hb hs.2.1 hs.1 ks_X2_142 wl_lane (by decide) (by decide)) rfl rfl rfl ⟨Nat.zero_le _, Nat.zero_le _⟩ ?_
        refine jj_if_eq (q := 37) (tgt := 54) dX2_readLine_34 rfl rfl (fun h34 => ?_) (fun h34 => absurd (if_neg h_1) h34)
        refine jj_aload_n (q := 55) dX2_readLine_54 rfl rfl rfl ?_
        refine jj_ldcS (q := 57) dX2_readLine_55 ks_X2_151 rfl ?_
        refine jj_cV1i (q := 60) dX2_readLine_57 yk_X2_isWord ml_X2_131 hp.t0 (ex_isWord hp hb hs.2.1 hs.1 ks_X2_151 wl_bags (by decide) (by decide)) rfl rfl rfl ⟨Nat.zero_le _, Nat.zero_le _⟩ ?_
        refine jj_if_eq (q := 63) (tgt := 76) dX2_readLine_60 rfl rfl (fun h60 => by exfalso; exact absurd ((if_pos h_2).symm.trans h60) (by decide)) (fun h60 => ?_)
        refine jj_aload_n (q := 64) dX2_readLine_63 rfl rfl rfl ?_
        refine jj_cV0v (q := 67) dX2_readLine_64 yk_X2_step ml_X2_58 hp.t0 (ct_step (d := d + 26) hp hb hs) rfl rfl rfl ⟨Nat.zero_le _, Nat.zero_le _⟩ ?_
        refine jj_aload_n (q := 68) dX2_readLine_67 rfl rfl rfl ?_
        refine jj_aload_n (q := 69) dX2_readLine_68 rfl rfl rfl ?_
        refine jj_aload_n (q := 70) dX2_readLine_69 rfl rfl rfl ?_
        refine jj_tV2v (q := 73) dX2_readLine_70 yk_X2_readBags ml_X2_153 hp.t0 (ct_bags (d := d + 21) hp hb hs.st hcp hd hpl hsa y1 y2 r1 r2 (by omega) r3 r4 ) rfl rfl rfl rfl ((fun e h => hR.symm.trans h)) (fun x70 pp70 F70 P70 K70 t70 r70 h70 R70 => ?_)
        have e70 := hR.symm.trans h70
        subst e70
        refine jj_goto (tgt := 147) dX2_readLine_73 rfl ?_
        refine jj_vret dX2_readLine_147 rfl (Nat.zero_le _) (Nat.zero_le _) ?_
        exact ⟨rfl, _, _, _, _, _, R70, rfl⟩
      · skip
        by_cases h_3 : isW b E p wd_shift = true
        · rw [if_neg h_0, if_neg h_1, if_neg h_2, if_pos h_3] at hR
          unfold lnS pBg at hR
          refine Ex.of (by decide) (by simp [Value.category]) (Nat.le_of_ble_eq_true rfl) rfl ?_
          refine jj_aload_n (q := 1) dX2_readLine_0 rfl rfl rfl ?_
          refine jj_ldcS (q := 3) dX2_readLine_1 ks_X2_129 rfl ?_
          refine jj_cV1i (q := 6) dX2_readLine_3 yk_X2_isWord ml_X2_131 hp.t0 (ex_isWord hp hb hs.2.1 hs.1 ks_X2_129 wl_flight (by decide) (by decide)) rfl rfl rfl ⟨Nat.zero_le _, Nat.zero_le _⟩ ?_
          refine jj_if_eq (q := 9) (tgt := 28) dX2_readLine_6 rfl rfl (fun h6 => ?_) (fun h6 => absurd (if_neg h_0) h6)
          refine jj_aload_n (q := 29) dX2_readLine_28 rfl rfl rfl ?_
          refine jj_ldcS (q := 31) dX2_readLine_29 ks_X2_142 rfl ?_
          refine jj_cV1i (q := 34) dX2_readLine_31 yk_X2_isWord ml_X2_131 hp.t0 (ex_isWord hp hb hs.2.1 hs.1 ks_X2_142 wl_lane (by decide) (by decide)) rfl rfl rfl ⟨Nat.zero_le _, Nat.zero_le _⟩ ?_
          refine jj_if_eq (q := 37) (tgt := 54) dX2_readLine_34 rfl rfl (fun h34 => ?_) (fun h34 => absurd (if_neg h_1) h34)
          refine jj_aload_n (q := 55) dX2_readLine_54 rfl rfl rfl ?_
          refine jj_ldcS (q := 57) dX2_readLine_55 ks_X2_151 rfl ?_
          refine jj_cV1i (q := 60) dX2_readLine_57 yk_X2_isWord ml_X2_131 hp.t0 (ex_isWord hp hb hs.2.1 hs.1 ks_X2_151 wl_bags (by decide) (by decide)) rfl rfl rfl ⟨Nat.zero_le _, Nat.zero_le _⟩ ?_
          refine jj_if_eq (q := 63) (tgt := 76) dX2_readLine_60 rfl rfl (fun h60 => ?_) (fun h60 => absurd (if_neg h_2) h60)
          refine jj_aload_n (q := 77) dX2_readLine_76 rfl rfl rfl ?_
          refine jj_ldcS (q := 79) dX2_readLine_77 ks_X2_156 rfl ?_
          refine jj_cV1i (q := 82) dX2_readLine_79 yk_X2_isWord ml_X2_131 hp.t0 (ex_isWord hp hb hs.2.1 hs.1 ks_X2_156 wl_shift (by decide) (by decide)) rfl rfl rfl ⟨Nat.zero_le _, Nat.zero_le _⟩ ?_
          refine jj_if_eq (q := 85) (tgt := 102) dX2_readLine_82 rfl rfl (fun h82 => by exfalso; exact absurd ((if_pos h_3).symm.trans h82) (by decide)) (fun h82 => ?_)
          refine jj_aload_n (q := 86) dX2_readLine_85 rfl rfl rfl ?_
          refine jj_aload_n (q := 87) dX2_readLine_86 rfl rfl rfl ?_
          refine jj_getIw (v := nI kc) (q := 90) dX2_readLine_87 fl_X2_158 hpl.t0 ((congrFun (c_p0 hd) _).trans r1.2.2.1.2.2) rfl rfl ?_
          refine jj_iconst (v := 4) (q := 91) dX2_readLine_90 rfl rfl ?_
          refine jj_tV2v (q := 94) dX2_readLine_91 yk_X2_beginLine ml_X2_135 hp.t0 (ct_begin (d := d + 23) hp hb hs hcp (n := kc) (most := 4) (by omega) (by omega)) rfl rfl rfl rfl ((fun e h => by rw [← hR, h]; rfl)) (fun x91 pp91 F91 P91 K91 t91 r91 h91 R91 => ?_)
          have ne91 : kc ≠ 4 := fun h => by rw [if_pos h] at h91; cases h91
          have g91 : pp91 = tN b E p := by rw [if_neg ne91] at h91; exact (congrArg Prod.snd (Sum.inr.inj h91)).symm
          obtain ⟨s91, rfl, rfl, rfl, rfl⟩ := R91
          rw [h91, Res.bd_r] at hR
          dsimp only at hR
          refine jj_aload_n (q := 95) dX2_readLine_94 rfl rfl rfl ?_
          refine jj_aload_n (q := 96) dX2_readLine_95 rfl rfl rfl ?_
          refine jj_tV1v (q := 99) dX2_readLine_96 yk_X2_readShift ml_X2_161 hp.t0 (ct_shift (d := d + 21) hp hb s91 hcp hd hpl hsa y1 y2 r1 r2 (by omega) r3 r4 (by omega)) rfl rfl rfl rfl ((fun e h => hR.symm.trans h)) (fun x96 pp96 F96 P96 K96 t96 r96 h96 R96 => ?_)
          have e96 := hR.symm.trans h96
          subst e96
          refine jj_goto (tgt := 147) dX2_readLine_99 rfl ?_
          refine jj_vret dX2_readLine_147 rfl (Nat.zero_le _) (Nat.zero_le _) ?_
          exact ⟨rfl, _, _, _, _, _, R96, rfl⟩
        · skip
          by_cases h_4 : isW b E p wd_keep = true
          · rw [if_neg h_0, if_neg h_1, if_neg h_2, if_neg h_3, if_pos h_4] at hR
            unfold lnK pBg at hR
            refine Ex.of (by decide) (by simp [Value.category]) (Nat.le_of_ble_eq_true rfl) rfl ?_
            refine jj_aload_n (q := 1) dX2_readLine_0 rfl rfl rfl ?_
            refine jj_ldcS (q := 3) dX2_readLine_1 ks_X2_129 rfl ?_
            refine jj_cV1i (q := 6) dX2_readLine_3 yk_X2_isWord ml_X2_131 hp.t0 (ex_isWord hp hb hs.2.1 hs.1 ks_X2_129 wl_flight (by decide) (by decide)) rfl rfl rfl ⟨Nat.zero_le _, Nat.zero_le _⟩ ?_
            refine jj_if_eq (q := 9) (tgt := 28) dX2_readLine_6 rfl rfl (fun h6 => ?_) (fun h6 => absurd (if_neg h_0) h6)
            refine jj_aload_n (q := 29) dX2_readLine_28 rfl rfl rfl ?_
            refine jj_ldcS (q := 31) dX2_readLine_29 ks_X2_142 rfl ?_
            refine jj_cV1i (q := 34) dX2_readLine_31 yk_X2_isWord ml_X2_131 hp.t0 (ex_isWord hp hb hs.2.1 hs.1 ks_X2_142 wl_lane (by decide) (by decide)) rfl rfl rfl ⟨Nat.zero_le _, Nat.zero_le _⟩ ?_
            refine jj_if_eq (q := 37) (tgt := 54) dX2_readLine_34 rfl rfl (fun h34 => ?_) (fun h34 => absurd (if_neg h_1) h34)
            refine jj_aload_n (q := 55) dX2_readLine_54 rfl rfl rfl ?_
            refine jj_ldcS (q := 57) dX2_readLine_55 ks_X2_151 rfl ?_
            refine jj_cV1i (q := 60) dX2_readLine_57 yk_X2_isWord ml_X2_131 hp.t0 (ex_isWord hp hb hs.2.1 hs.1 ks_X2_151 wl_bags (by decide) (by decide)) rfl rfl rfl ⟨Nat.zero_le _, Nat.zero_le _⟩ ?_
            refine jj_if_eq (q := 63) (tgt := 76) dX2_readLine_60 rfl rfl (fun h60 => ?_) (fun h60 => absurd (if_neg h_2) h60)
            refine jj_aload_n (q := 77) dX2_readLine_76 rfl rfl rfl ?_
            refine jj_ldcS (q := 79) dX2_readLine_77 ks_X2_156 rfl ?_
            refine jj_cV1i (q := 82) dX2_readLine_79 yk_X2_isWord ml_X2_131 hp.t0 (ex_isWord hp hb hs.2.1 hs.1 ks_X2_156 wl_shift (by decide) (by decide)) rfl rfl rfl ⟨Nat.zero_le _, Nat.zero_le _⟩ ?_
            refine jj_if_eq (q := 85) (tgt := 102) dX2_readLine_82 rfl rfl (fun h82 => ?_) (fun h82 => absurd (if_neg h_3) h82)
            refine jj_aload_n (q := 103) dX2_readLine_102 rfl rfl rfl ?_
            refine jj_ldcS (q := 105) dX2_readLine_103 ks_X2_164 rfl ?_
            refine jj_cV1i (q := 108) dX2_readLine_105 yk_X2_isWord ml_X2_131 hp.t0 (ex_isWord hp hb hs.2.1 hs.1 ks_X2_164 wl_keep (by decide) (by decide)) rfl rfl rfl ⟨Nat.zero_le _, Nat.zero_le _⟩ ?_
            refine jj_if_eq (q := 111) (tgt := 142) dX2_readLine_108 rfl rfl (fun h108 => by exfalso; exact absurd ((if_pos h_4).symm.trans h108) (by decide)) (fun h108 => ?_)
            refine jj_aload_n (q := 112) dX2_readLine_111 rfl rfl rfl ?_
            refine jj_aload_n (q := 113) dX2_readLine_112 rfl rfl rfl ?_
            refine jj_getR (q := 116) dX2_readLine_113 fl_X2_166 hpl.t0 hpl.r0_16 rfl rfl rfl ?_
            refine jj_getIw (v := nI kk) (q := 119) dX2_readLine_116 fl_X2_170 hpl.t11 ((congrFun (c_p hd (by decide)) _).trans r2.1) rfl rfl ?_
            refine jj_iconst (v := 3) (q := 120) dX2_readLine_119 rfl rfl ?_
            refine jj_tV2v (q := 123) dX2_readLine_120 yk_X2_beginLine ml_X2_135 hp.t0 (ct_begin (d := d + 23) hp hb hs hcp (n := kk) (most := 3) (by omega) (by omega)) rfl rfl rfl rfl ((fun e h => by rw [← hR, h]; rfl)) (fun x120 pp120 F120 P120 K120 t120 r120 h120 R120 => ?_)
            have ne120 : kk ≠ 3 := fun h => by rw [if_pos h] at h120; cases h120
            have g120 : pp120 = tN b E p := by rw [if_neg ne120] at h120; exact (congrArg Prod.snd (Sum.inr.inj h120)).symm
            obtain ⟨s120, rfl, rfl, rfl, rfl⟩ := R120
            rw [h120, Res.bd_r] at hR
            dsimp only at hR
            refine jj_aload_n (q := 124) dX2_readLine_123 rfl rfl rfl ?_
            refine jj_aload_n (q := 125) dX2_readLine_124 rfl rfl rfl ?_
            refine jj_getR (q := 128) dX2_readLine_125 fl_X2_166 hpl.t0 hpl.r0_16 rfl rfl rfl ?_
            refine jj_iconst (v := 0) (q := 129) dX2_readLine_128 rfl rfl ?_
            refine jj_tV2v (q := 132) dX2_readLine_129 yk_X2_readTest ml_X2_175 hp.t0 (ct_top (d := d) hp hb s120 hcp hd hpl (k := m) r2.2.1 (by omega)) rfl rfl rfl rfl ((fun e h => by rw [← hR, h]; rfl)) (fun x129 pp129 F129 P129 K129 t129 r129 h129 R129 => ?_)
            have Rq0 := R129
            obtain ⟨⟨s129, rfl, rfl, rfl⟩, k2, b1, b2, b3, b4, b5, b6⟩ := R129
            rw [h129, Res.bd_r] at hR
            dsimp only at hR
            subst hR
            refine jj_aload_n (q := 133) dX2_readLine_132 rfl rfl rfl ?_
            refine jj_getR (q := 136) dX2_readLine_133 fl_X2_166 hpl.t0 hpl.r0_16 rfl rfl rfl ?_
            refine jj_cV0v (q := 139) dX2_readLine_136 yk_X5_endTest ml_X2_179 hpl.t11 (ct_endTest (d := d + 29) hd hpl (k := kk) (m := k2) ((b4 11 0 (by omega) (by omega) (by omega)).trans r2.1) (by omega) b1) rfl rfl rfl ⟨Nat.zero_le _, Nat.zero_le _⟩ ?_
            refine jj_goto (tgt := 147) dX2_readLine_139 rfl ?_
            refine jj_vret dX2_readLine_147 rfl (Nat.zero_le _) (Nat.zero_le _) ?_
            refine ⟨rfl, _, _, _, _, _, ?_, rfl⟩
            have e1 : ∀ k j, k < 11 → u2 (u2 P129 12 kk (nI k2)) 11 0 (nI (kk + 1)) k j = P k j := fun k j hk => by
              rw [← b4 k j (by omega) (by omega) (by omega)]
              simp [u2, show ¬ k = 11 by omega, show ¬ k = 12 by omega]
            exact ⟨s129, hcp.cg (fun j => e1 6 j (by omega)), kf, kl, kc, kk + 1, c, sz, k2, y1.kp (by omega), y2, r1.cg (fun j hj => w1_ne (by omega)) e1 (by omega) (by omega), r2.kp (by omega) b1 b2 b4 b5 b6, by omega, r3, r4.cg (fun j hj => w1_ne (by omega)) (by omega) (by omega)⟩
          · rw [if_neg h_0, if_neg h_1, if_neg h_2, if_neg h_3, if_neg h_4] at hR
            subst hR
            refine Ex.of (by decide) (by simp [Value.category]) (Nat.le_of_ble_eq_true rfl) rfl ?_
            refine jj_aload_n (q := 1) dX2_readLine_0 rfl rfl rfl ?_
            refine jj_ldcS (q := 3) dX2_readLine_1 ks_X2_129 rfl ?_
            refine jj_cV1i (q := 6) dX2_readLine_3 yk_X2_isWord ml_X2_131 hp.t0 (ex_isWord hp hb hs.2.1 hs.1 ks_X2_129 wl_flight (by decide) (by decide)) rfl rfl rfl ⟨Nat.zero_le _, Nat.zero_le _⟩ ?_
            refine jj_if_eq (q := 9) (tgt := 28) dX2_readLine_6 rfl rfl (fun h6 => ?_) (fun h6 => absurd (if_neg h_0) h6)
            refine jj_aload_n (q := 29) dX2_readLine_28 rfl rfl rfl ?_
            refine jj_ldcS (q := 31) dX2_readLine_29 ks_X2_142 rfl ?_
            refine jj_cV1i (q := 34) dX2_readLine_31 yk_X2_isWord ml_X2_131 hp.t0 (ex_isWord hp hb hs.2.1 hs.1 ks_X2_142 wl_lane (by decide) (by decide)) rfl rfl rfl ⟨Nat.zero_le _, Nat.zero_le _⟩ ?_
            refine jj_if_eq (q := 37) (tgt := 54) dX2_readLine_34 rfl rfl (fun h34 => ?_) (fun h34 => absurd (if_neg h_1) h34)
            refine jj_aload_n (q := 55) dX2_readLine_54 rfl rfl rfl ?_
            refine jj_ldcS (q := 57) dX2_readLine_55 ks_X2_151 rfl ?_
            refine jj_cV1i (q := 60) dX2_readLine_57 yk_X2_isWord ml_X2_131 hp.t0 (ex_isWord hp hb hs.2.1 hs.1 ks_X2_151 wl_bags (by decide) (by decide)) rfl rfl rfl ⟨Nat.zero_le _, Nat.zero_le _⟩ ?_
            refine jj_if_eq (q := 63) (tgt := 76) dX2_readLine_60 rfl rfl (fun h60 => ?_) (fun h60 => absurd (if_neg h_2) h60)
            refine jj_aload_n (q := 77) dX2_readLine_76 rfl rfl rfl ?_
            refine jj_ldcS (q := 79) dX2_readLine_77 ks_X2_156 rfl ?_
            refine jj_cV1i (q := 82) dX2_readLine_79 yk_X2_isWord ml_X2_131 hp.t0 (ex_isWord hp hb hs.2.1 hs.1 ks_X2_156 wl_shift (by decide) (by decide)) rfl rfl rfl ⟨Nat.zero_le _, Nat.zero_le _⟩ ?_
            refine jj_if_eq (q := 85) (tgt := 102) dX2_readLine_82 rfl rfl (fun h82 => ?_) (fun h82 => absurd (if_neg h_3) h82)
            refine jj_aload_n (q := 103) dX2_readLine_102 rfl rfl rfl ?_
            refine jj_ldcS (q := 105) dX2_readLine_103 ks_X2_164 rfl ?_
            refine jj_cV1i (q := 108) dX2_readLine_105 yk_X2_isWord ml_X2_131 hp.t0 (ex_isWord hp hb hs.2.1 hs.1 ks_X2_164 wl_keep (by decide) (by decide)) rfl rfl rfl ⟨Nat.zero_le _, Nat.zero_le _⟩ ?_
            refine jj_if_eq (q := 111) (tgt := 142) dX2_readLine_108 rfl rfl (fun h108 => ?_) (fun h108 => absurd (if_neg h_4) h108)
            refine jj_aload_n (q := 143) dX2_readLine_142 rfl rfl rfl ?_
            refine jj_iconst (v := 1) (q := 144) dX2_readLine_143 rfl rfl ?_
            refine jj_xV1 (q := 147) dX2_readLine_144 yk_X2_fail ml_X2_72 hp.t0 (ct_fail (d := d + 24) hp hb hs hcp (c := 1)) rfl rfl rfl ⟨Nat.le_refl _, Nat.le_refl _⟩ rfl (Nat.le_refl _) (Nat.le_refl _) ?_
            exact rC_x hs hcp
end B1
