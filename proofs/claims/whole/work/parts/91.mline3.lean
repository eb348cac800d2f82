/-! LINES of the model: keep; readLine -/
section M91
variable {Γ : Gam} {d : Nat} {T : JT} {R S : JR} {I A A' : JI} {L : JL} {D : JD} {z : Option Nat} {mo E n : Nat} {G G' M N X : JV} {b : Nat → Nat} {H : Nat → Tst} {kf kl ksq kk kcq sz bq k p : Nat}
theorem ln_keep (hE : E ≤ 1200) (hs : mSt b E (.inr ((), p)) G) (h26 : G 26 = nI k) (hkp : 2 * k ≤ p) (hq : eqN M N) (hd : bdN N X kf kl ksq kk kcq sz) (ht : kpT bq k kk H (qA A M X) M) (h1 : ¬ isW b E p wd_flight = true) (h2 : ¬ isW b E p wd_shift = true) (h3w : ¬ isW b E p wd_lane = true) (h4w : ¬ isW b E p wd_bags = true) (hw : isW b E p wd_keep = true) (hk : kpP b E bq k kk p (kpR b E kk (.inr ((), p))) (qA A M X) M G n A' G') : lnP b E bq k p (pLin b E N X H p) (qA A M X) G n A' G' := by
  have hpE : p ≤ E := hs.2.1
  obtain ⟨hq1, hq2, hq3, hq4, hq5, hq6, hq7, hq8, hq9, hq10, hq11, hq12⟩ := hd
  have ep : pLin b E N X H p = (kpR b E kk (.inr ((), p))).bd (fun t q => .inr ((w1 N 14 (nI (kk + 1)), X, fun i => if i = kk then t else H i), q)) := by
    unfold pLin
    rw [if_neg h1, if_neg h2, if_neg h3w, if_neg h4w, if_pos hw, hq7, nN_nI (by omega)]
  obtain ⟨k2, g1, g2, g3, g4, hg5, g6, g7, g8⟩ := hk
  rw [ep]
  have eU : rU ((kpR b E kk (.inr ((), p))).bd (fun t q => .inr ((w1 N 14 (nI (kk + 1)), X, fun i => if i = kk then t else H i), q)) : Res PSt) = rU (kpR b E kk (.inr ((), p))) := by
    cases kpR b E kk (.inr ((), p)) with
    | inl e => rfl
    | inr y => rfl
  refine ⟨k2, g1, g2, g3, g4, by rw [eU]; exact hg5, fun c h3 h5 hc => g6 c h3 hc, fun c j h3 h5 hj => g7 c j h3 hj, fun x hx => ?_⟩
  cases hr : kpR b E kk (.inr ((), p)) with
  | inl e => rw [hr] at hx; cases hx
  | inr y =>
    rw [hr] at hx
    cases hx
    obtain ⟨a1, a2, a3, a4, a5, a6⟩ := g8 y hr
    have hkn : kk ≠ 3 := by
      unfold kpR at hr
      cases hb : rBg b E 3 kk (.inr ((), p)) with
      | inl e => rw [hb] at hr; cases hr
      | inr u => exact rBg_n hb
    have e0 : nIx bq k = (1 - bq) * 700 + k := rfl
    have e1 : nIx bq k2 = (1 - bq) * 700 + k2 := rfl
    have e2 : nIx bq 0 = (1 - bq) * 700 + 0 := rfl
    refine ⟨a1, a2, (g6 5 (by omega) (by omega)).trans rfl, fun j hj => ?_, kf, kl, ksq, kk + 1, kcq, sz, ?_, fun i hi => ?_⟩
    · show A' 3 j = w1 N 14 _ j
      rw [a5]
      by_cases e : j = 14
      · rw [e, w1_eq, w1_eq]
      · rw [w1_ne e, w1_ne (by omega), w1_ne e]; exact hq j hj
    · show bdN (w1 N 14 _) X _ _ _ _ _ _
      exact ⟨(w1_ne (by omega)).trans hq1, hq2, (w1_ne (by omega)).trans hq3, hq4, (w1_ne (by omega)).trans hq5, hq6, w1_eq, by omega, hq9, hq10, (w1_ne (by omega)).trans hq11, hq12⟩
    · dsimp only
      by_cases e : i = kk
      · subst e
        refine ⟨n, nIx bq k, by rw [a5, w1_ne (by omega), w1_eq], by omega, a4, fun X' c => ?_⟩
        rw [if_pos rfl]
        exact a6 X' c
      · obtain ⟨n0, lo, b1, b2, b3, b4⟩ := ht i (by omega)
        refine ⟨n0, lo, by rw [a5, w1_ne (by omega), w1_ne (by omega)]; exact b1, b2, by omega, fun X' c => ?_⟩
        rw [if_neg e]
        exact vN_rg 11 _ _ _ (fun j hj hj2 => ⟨(g7 11 j (by omega) (by omega)).symm, (g7 12 j (by omega) (by omega)).symm, (g7 13 j (by omega) (by omega)).symm⟩) (fun j hj hj2 => (g7 14 j (by omega) (by omega)).symm) (b4 X' c)
theorem ln_none (hE : E ≤ 1200) (hs : mSt b E (.inr ((), p)) G) (h26 : G 26 = nI k) (hkp : 2 * k ≤ p) (hq : eqN M N) (hd : bdN N X kf kl ksq kk kcq sz) (ht : kpT bq k kk H (qA A M X) M) (h1 : ¬ isW b E p wd_flight = true) (h2 : ¬ isW b E p wd_shift = true) (h3w : ¬ isW b E p wd_lane = true) (h4w : ¬ isW b E p wd_bags = true) (h5w : ¬ isW b E p wd_keep = true) : lnP b E bq k p (pLin b E N X H p) (qA A M X) G 0 (qA A M X) (gF b E 1 (.inr ((), p)) G) := by
  have hpE : p ≤ E := hs.2.1
  obtain ⟨hq1, hq2, hq3, hq4, hq5, hq6, hq7, hq8, hq9, hq10, hq11, hq12⟩ := hd
  have ep : pLin b E N X H p = .inl (1, tS b E p) := by
    unfold pLin
    rw [if_neg h1, if_neg h2, if_neg h3w, if_neg h4w, if_neg h5w]
  rw [ep]
  exact ⟨k, Nat.le_refl _, by omega, (gF_o (by omega)).trans h26, fun j hj _ _ => gF_o (by omega), hs.f (by omega), fun c _ _ _ => rfl, fun c j _ _ _ => rfl, fun x hx => by cases hx⟩
theorem exM_line (hm : hMo T S mo) (hv : hVs Γ R mo) (hb : mB_ A b E) (h25 : G 25 = nI bq) (hbq : bq ≤ 1) (hE : E ≤ 1200) (hs : mSt b E (.inr ((), p)) G) (h26 : G 26 = nI k) (hkp : 2 * k ≤ p) (hq : eqN M N) (hd : bdN N X kf kl ksq kk kcq sz) (ht : kpT bq k kk H (qA A M X) M) : Ex Γ (d + 41) Y_X9_readLine [.ref mo] (T, R, S, blk 18 I mo (st (qA A M X) 0 G), L, D, z) 0 0 (rPv (lnP b E bq k p (pLin b E N X H p) (qA A M X) G) (fun A' G' => (T, R, S, blk 18 I mo (st A' 0 G'), L, D, z))) := by
  have hd0 := hd
  obtain ⟨hq1, hq2, hq3, hq4, hq5, hq6, hq7, hq8, hq9, hq10, hq11, hq12⟩ := hd
  have m12 := (hq 12 (by omega)).trans hq1
  have m13 := (hq 13 (by omega)).trans hq3
  have m34 := (hq 34 (by omega)).trans hq5
  have m14 := (hq 14 (by omega)).trans hq7
  have m0 := (hq 0 (by omega)).trans hq11
  by_cases x1 : isW b E p wd_flight = true
  · skip
    refine Ex.of (by decide) (by simp [Value.category]) (Nat.le_of_ble_eq_true rfl) rfl ?_
    refine jj_aload_n (q := 1) dX9_readLine_0 rfl rfl rfl ?_
    refine jj_ldcS (q := 3) dX9_readLine_1 ks_X9_209 rfl ?_
    refine jj_cV1i (q := 6) dX9_readLine_3 yk_X9_isWord ml_X9_130 hm.t0 (exM_word hm hb.q hs ks_X9_209 wl_flight (by decide) (by decide)) rfl rfl rfl ⟨Nat.zero_le _, Nat.zero_le _⟩ ?_
    refine jj_if_eq (q := 9) (tgt := 16) dX9_readLine_6 rfl rfl (fun h6 => by exfalso; exact absurd ((if_pos x1).symm.trans h6) (by decide)) (fun h6 => ?_)
    refine jj_aload_n (q := 10) dX9_readLine_9 rfl rfl rfl ?_
    refine jj_cV0v (q := 13) dX9_readLine_10 yk_X9_readFlight ml_X9_211 hm.t0 (exM_flight hm hb hs m12 hq2 m13 hq4 m0 hq12) rfl rfl rfl ⟨Nat.zero_le _, Nat.zero_le _⟩ ?_
    refine jj_goto (tgt := 85) dX9_readLine_13 rfl ?_
    refine jj_vret dX9_readLine_85 rfl (Nat.zero_le _) (Nat.zero_le _) ?_
    exact ⟨0, _, _, ln_flight hE hs h26 hkp hq hd0 ht x1, rfl, rfl⟩
  · skip
    by_cases x2 : isW b E p wd_shift = true
    · skip
      refine Ex.of (by decide) (by simp [Value.category]) (Nat.le_of_ble_eq_true rfl) rfl ?_
      refine jj_aload_n (q := 1) dX9_readLine_0 rfl rfl rfl ?_
      refine jj_ldcS (q := 3) dX9_readLine_1 ks_X9_209 rfl ?_
      refine jj_cV1i (q := 6) dX9_readLine_3 yk_X9_isWord ml_X9_130 hm.t0 (exM_word hm hb.q hs ks_X9_209 wl_flight (by decide) (by decide)) rfl rfl rfl ⟨Nat.zero_le _, Nat.zero_le _⟩ ?_
      refine jj_if_eq (q := 9) (tgt := 16) dX9_readLine_6 rfl rfl (fun h6 => ?_) (fun h6 => absurd (if_neg x1) h6)
      refine jj_aload_n (q := 17) dX9_readLine_16 rfl rfl rfl ?_
      refine jj_ldcS (q := 19) dX9_readLine_17 ks_X9_214 rfl ?_
      refine jj_cV1i (q := 22) dX9_readLine_19 yk_X9_isWord ml_X9_130 hm.t0 (exM_word hm hb.q hs ks_X9_214 wl_shift (by decide) (by decide)) rfl rfl rfl ⟨Nat.zero_le _, Nat.zero_le _⟩ ?_
      refine jj_if_eq (q := 25) (tgt := 32) dX9_readLine_22 rfl rfl (fun h22 => by exfalso; exact absurd ((if_pos x2).symm.trans h22) (by decide)) (fun h22 => ?_)
      refine jj_aload_n (q := 26) dX9_readLine_25 rfl rfl rfl ?_
      refine jj_cV0v (q := 29) dX9_readLine_26 yk_X9_readShift ml_X9_216 hm.t0 (exM_shift hm hb hs m34 hq6) rfl rfl rfl ⟨Nat.zero_le _, Nat.zero_le _⟩ ?_
      refine jj_goto (tgt := 85) dX9_readLine_29 rfl ?_
      refine jj_vret dX9_readLine_85 rfl (Nat.zero_le _) (Nat.zero_le _) ?_
      exact ⟨0, _, _, ln_shift hE hs h26 hkp hq hd0 ht x1 x2, rfl, rfl⟩
    · skip
      by_cases x3 : isW b E p wd_lane = true
      · skip
        refine Ex.of (by decide) (by simp [Value.category]) (Nat.le_of_ble_eq_true rfl) rfl ?_
        refine jj_aload_n (q := 1) dX9_readLine_0 rfl rfl rfl ?_
        refine jj_ldcS (q := 3) dX9_readLine_1 ks_X9_209 rfl ?_
        refine jj_cV1i (q := 6) dX9_readLine_3 yk_X9_isWord ml_X9_130 hm.t0 (exM_word hm hb.q hs ks_X9_209 wl_flight (by decide) (by decide)) rfl rfl rfl ⟨Nat.zero_le _, Nat.zero_le _⟩ ?_
        refine jj_if_eq (q := 9) (tgt := 16) dX9_readLine_6 rfl rfl (fun h6 => ?_) (fun h6 => absurd (if_neg x1) h6)
        refine jj_aload_n (q := 17) dX9_readLine_16 rfl rfl rfl ?_
        refine jj_ldcS (q := 19) dX9_readLine_17 ks_X9_214 rfl ?_
        refine jj_cV1i (q := 22) dX9_readLine_19 yk_X9_isWord ml_X9_130 hm.t0 (exM_word hm hb.q hs ks_X9_214 wl_shift (by decide) (by decide)) rfl rfl rfl ⟨Nat.zero_le _, Nat.zero_le _⟩ ?_
        refine jj_if_eq (q := 25) (tgt := 32) dX9_readLine_22 rfl rfl (fun h22 => ?_) (fun h22 => absurd (if_neg x2) h22)
        refine jj_aload_n (q := 33) dX9_readLine_32 rfl rfl rfl ?_
        refine jj_ldcS (q := 35) dX9_readLine_33 ks_X9_219 rfl ?_
        refine jj_cV1i (q := 38) dX9_readLine_35 yk_X9_isWord ml_X9_130 hm.t0 (exM_word hm hb.q hs ks_X9_219 wl_lane (by decide) (by decide)) rfl rfl rfl ⟨Nat.zero_le _, Nat.zero_le _⟩ ?_
        refine jj_if_eq (q := 41) (tgt := 48) dX9_readLine_38 rfl rfl (fun h38 => by exfalso; exact absurd ((if_pos x3).symm.trans h38) (by decide)) (fun h38 => ?_)
        refine jj_aload_n (q := 42) dX9_readLine_41 rfl rfl rfl ?_
        refine jj_cV0v (q := 45) dX9_readLine_42 yk_X9_readLane ml_X9_221 hm.t0 (exM_lane hm hb hs m12 hq2 m13 hq4 m0 hq12) rfl rfl rfl ⟨Nat.zero_le _, Nat.zero_le _⟩ ?_
        refine jj_goto (tgt := 85) dX9_readLine_45 rfl ?_
        refine jj_vret dX9_readLine_85 rfl (Nat.zero_le _) (Nat.zero_le _) ?_
        exact ⟨0, _, _, ln_lane hE hs h26 hkp hq hd0 ht x1 x2 x3, rfl, rfl⟩
      · skip
        by_cases x4 : isW b E p wd_bags = true
        · skip
          refine Ex.of (by decide) (by simp [Value.category]) (Nat.le_of_ble_eq_true rfl) rfl ?_
          refine jj_aload_n (q := 1) dX9_readLine_0 rfl rfl rfl ?_
          refine jj_ldcS (q := 3) dX9_readLine_1 ks_X9_209 rfl ?_
          refine jj_cV1i (q := 6) dX9_readLine_3 yk_X9_isWord ml_X9_130 hm.t0 (exM_word hm hb.q hs ks_X9_209 wl_flight (by decide) (by decide)) rfl rfl rfl ⟨Nat.zero_le _, Nat.zero_le _⟩ ?_
          refine jj_if_eq (q := 9) (tgt := 16) dX9_readLine_6 rfl rfl (fun h6 => ?_) (fun h6 => absurd (if_neg x1) h6)
          refine jj_aload_n (q := 17) dX9_readLine_16 rfl rfl rfl ?_
          refine jj_ldcS (q := 19) dX9_readLine_17 ks_X9_214 rfl ?_
          refine jj_cV1i (q := 22) dX9_readLine_19 yk_X9_isWord ml_X9_130 hm.t0 (exM_word hm hb.q hs ks_X9_214 wl_shift (by decide) (by decide)) rfl rfl rfl ⟨Nat.zero_le _, Nat.zero_le _⟩ ?_
          refine jj_if_eq (q := 25) (tgt := 32) dX9_readLine_22 rfl rfl (fun h22 => ?_) (fun h22 => absurd (if_neg x2) h22)
          refine jj_aload_n (q := 33) dX9_readLine_32 rfl rfl rfl ?_
          refine jj_ldcS (q := 35) dX9_readLine_33 ks_X9_219 rfl ?_
          refine jj_cV1i (q := 38) dX9_readLine_35 yk_X9_isWord ml_X9_130 hm.t0 (exM_word hm hb.q hs ks_X9_219 wl_lane (by decide) (by decide)) rfl rfl rfl ⟨Nat.zero_le _, Nat.zero_le _⟩ ?_
          refine jj_if_eq (q := 41) (tgt := 48) dX9_readLine_38 rfl rfl (fun h38 => ?_) (fun h38 => absurd (if_neg x3) h38)
          refine jj_aload_n (q := 49) dX9_readLine_48 rfl rfl rfl ?_
          refine jj_ldcS (q := 51) dX9_readLine_49 ks_X9_224 rfl ?_
          refine jj_cV1i (q := 54) dX9_readLine_51 yk_X9_isWord ml_X9_130 hm.t0 (exM_word hm hb.q hs ks_X9_224 wl_bags (by decide) (by decide)) rfl rfl rfl ⟨Nat.zero_le _, Nat.zero_le _⟩ ?_
          refine jj_if_eq (q := 57) (tgt := 64) dX9_readLine_54 rfl rfl (fun h54 => by exfalso; exact absurd ((if_pos x4).symm.trans h54) (by decide)) (fun h54 => ?_)
          refine jj_aload_n (q := 58) dX9_readLine_57 rfl rfl rfl ?_
          refine jj_cV0v (q := 61) dX9_readLine_58 yk_X9_readBags ml_X9_226 hm.t0 (exM_bags hm hb hs m12 hq2 hq9 hq10) rfl rfl rfl ⟨Nat.zero_le _, Nat.zero_le _⟩ ?_
          refine jj_goto (tgt := 85) dX9_readLine_61 rfl ?_
          refine jj_vret dX9_readLine_85 rfl (Nat.zero_le _) (Nat.zero_le _) ?_
          exact ⟨0, _, _, ln_bags hE hs h26 hkp hq hd0 ht x1 x2 x3 x4, rfl, rfl⟩
        · skip
          by_cases x5 : isW b E p wd_keep = true
          · skip
            refine Ex.of (by decide) (by simp [Value.category]) (Nat.le_of_ble_eq_true rfl) rfl ?_
            refine jj_aload_n (q := 1) dX9_readLine_0 rfl rfl rfl ?_
            refine jj_ldcS (q := 3) dX9_readLine_1 ks_X9_209 rfl ?_
            refine jj_cV1i (q := 6) dX9_readLine_3 yk_X9_isWord ml_X9_130 hm.t0 (exM_word hm hb.q hs ks_X9_209 wl_flight (by decide) (by decide)) rfl rfl rfl ⟨Nat.zero_le _, Nat.zero_le _⟩ ?_
            refine jj_if_eq (q := 9) (tgt := 16) dX9_readLine_6 rfl rfl (fun h6 => ?_) (fun h6 => absurd (if_neg x1) h6)
            refine jj_aload_n (q := 17) dX9_readLine_16 rfl rfl rfl ?_
            refine jj_ldcS (q := 19) dX9_readLine_17 ks_X9_214 rfl ?_
            refine jj_cV1i (q := 22) dX9_readLine_19 yk_X9_isWord ml_X9_130 hm.t0 (exM_word hm hb.q hs ks_X9_214 wl_shift (by decide) (by decide)) rfl rfl rfl ⟨Nat.zero_le _, Nat.zero_le _⟩ ?_
            refine jj_if_eq (q := 25) (tgt := 32) dX9_readLine_22 rfl rfl (fun h22 => ?_) (fun h22 => absurd (if_neg x2) h22)
            refine jj_aload_n (q := 33) dX9_readLine_32 rfl rfl rfl ?_
            refine jj_ldcS (q := 35) dX9_readLine_33 ks_X9_219 rfl ?_
            refine jj_cV1i (q := 38) dX9_readLine_35 yk_X9_isWord ml_X9_130 hm.t0 (exM_word hm hb.q hs ks_X9_219 wl_lane (by decide) (by decide)) rfl rfl rfl ⟨Nat.zero_le _, Nat.zero_le _⟩ ?_
            refine jj_if_eq (q := 41) (tgt := 48) dX9_readLine_38 rfl rfl (fun h38 => ?_) (fun h38 => absurd (if_neg x3) h38)
            refine jj_aload_n (q := 49) dX9_readLine_48 rfl rfl rfl ?_
            refine jj_ldcS (q := 51) dX9_readLine_49 ks_X9_224 rfl ?_
            refine jj_cV1i (q := 54) dX9_readLine_51 yk_X9_isWord ml_X9_130 hm.t0 (exM_word hm hb.q hs ks_X9_224 wl_bags (by decide) (by decide)) rfl rfl rfl ⟨Nat.zero_le _, Nat.zero_le _⟩ ?_
            refine jj_if_eq (q := 57) (tgt := 64) dX9_readLine_54 rfl rfl (fun h54 => ?_) (fun h54 => absurd (if_neg x4) h54)
            refine jj_aload_n (q := 65) dX9_readLine_64 rfl rfl rfl ?_
            refine jj_ldcS (q := 67) dX9_readLine_65 ks_X9_229 rfl ?_
            refine jj_cV1i (q := 70) dX9_readLine_67 yk_X9_isWord ml_X9_130 hm.t0 (exM_word hm hb.q hs ks_X9_229 wl_keep (by decide) (by decide)) rfl rfl rfl ⟨Nat.zero_le _, Nat.zero_le _⟩ ?_
            refine jj_if_eq (q := 73) (tgt := 80) dX9_readLine_70 rfl rfl (fun h70 => by exfalso; exact absurd ((if_pos x5).symm.trans h70) (by decide)) (fun h70 => ?_)
            refine jj_aload_n (q := 74) dX9_readLine_73 rfl rfl rfl ?_
            refine jj_pV0v (q := 77) dX9_readLine_74 yk_X9_readKeep ml_X9_231 hm.t0 (exM_keep hm hE hv hb hs h25 hbq h26 hkp m14 hq8) rfl rfl rfl ⟨Nat.zero_le _, Nat.zero_le _⟩ (fun n A2 Gb hu2 => ?_)
            refine jj_goto (tgt := 85) dX9_readLine_77 rfl ?_
            refine jj_vret dX9_readLine_85 rfl (Nat.zero_le _) (Nat.zero_le _) ?_
            exact ⟨n, _, _, ln_keep hE hs h26 hkp hq hd0 ht x1 x2 x3 x4 x5 hu2, rfl, rfl⟩
          · skip
            refine Ex.of (by decide) (by simp [Value.category]) (Nat.le_of_ble_eq_true rfl) rfl ?_
            refine jj_aload_n (q := 1) dX9_readLine_0 rfl rfl rfl ?_
            refine jj_ldcS (q := 3) dX9_readLine_1 ks_X9_209 rfl ?_
            refine jj_cV1i (q := 6) dX9_readLine_3 yk_X9_isWord ml_X9_130 hm.t0 (exM_word hm hb.q hs ks_X9_209 wl_flight (by decide) (by decide)) rfl rfl rfl ⟨Nat.zero_le _, Nat.zero_le _⟩ ?_
            refine jj_if_eq (q := 9) (tgt := 16) dX9_readLine_6 rfl rfl (fun h6 => ?_) (fun h6 => absurd (if_neg x1) h6)
            refine jj_aload_n (q := 17) dX9_readLine_16 rfl rfl rfl ?_
            refine jj_ldcS (q := 19) dX9_readLine_17 ks_X9_214 rfl ?_
            refine jj_cV1i (q := 22) dX9_readLine_19 yk_X9_isWord ml_X9_130 hm.t0 (exM_word hm hb.q hs ks_X9_214 wl_shift (by decide) (by decide)) rfl rfl rfl ⟨Nat.zero_le _, Nat.zero_le _⟩ ?_
            refine jj_if_eq (q := 25) (tgt := 32) dX9_readLine_22 rfl rfl (fun h22 => ?_) (fun h22 => absurd (if_neg x2) h22)
            refine jj_aload_n (q := 33) dX9_readLine_32 rfl rfl rfl ?_
            refine jj_ldcS (q := 35) dX9_readLine_33 ks_X9_219 rfl ?_
            refine jj_cV1i (q := 38) dX9_readLine_35 yk_X9_isWord ml_X9_130 hm.t0 (exM_word hm hb.q hs ks_X9_219 wl_lane (by decide) (by decide)) rfl rfl rfl ⟨Nat.zero_le _, Nat.zero_le _⟩ ?_
            refine jj_if_eq (q := 41) (tgt := 48) dX9_readLine_38 rfl rfl (fun h38 => ?_) (fun h38 => absurd (if_neg x3) h38)
            refine jj_aload_n (q := 49) dX9_readLine_48 rfl rfl rfl ?_
            refine jj_ldcS (q := 51) dX9_readLine_49 ks_X9_224 rfl ?_
            refine jj_cV1i (q := 54) dX9_readLine_51 yk_X9_isWord ml_X9_130 hm.t0 (exM_word hm hb.q hs ks_X9_224 wl_bags (by decide) (by decide)) rfl rfl rfl ⟨Nat.zero_le _, Nat.zero_le _⟩ ?_
            refine jj_if_eq (q := 57) (tgt := 64) dX9_readLine_54 rfl rfl (fun h54 => ?_) (fun h54 => absurd (if_neg x4) h54)
            refine jj_aload_n (q := 65) dX9_readLine_64 rfl rfl rfl ?_
            refine jj_ldcS (q := 67) dX9_readLine_65 ks_X9_229 rfl ?_
            refine jj_cV1i (q := 70) dX9_readLine_67 yk_X9_isWord ml_X9_130 hm.t0 (exM_word hm hb.q hs ks_X9_229 wl_keep (by decide) (by decide)) rfl rfl rfl ⟨Nat.zero_le _, Nat.zero_le _⟩ ?_
            refine jj_if_eq (q := 73) (tgt := 80) dX9_readLine_70 rfl rfl (fun h70 => ?_) (fun h70 => absurd (if_neg x5) h70)
            refine jj_aload_n (q := 81) dX9_readLine_80 rfl rfl rfl ?_
            refine jj_iconst (v := 1) (q := 82) dX9_readLine_81 rfl rfl ?_
            refine jj_cV1v (q := 85) dX9_readLine_82 yk_X9_faults ml_X9_140 hm.t0 (exM_faults (c := 1) hm hb.q hs) rfl rfl rfl ⟨Nat.zero_le _, Nat.zero_le _⟩ ?_
            refine jj_vret dX9_readLine_85 rfl (Nat.zero_le _) (Nat.zero_le _) ?_
            exact ⟨0, _, _, ln_none hE hs h26 hkp hq hd0 ht x1 x2 x3 x4 x5, rfl, rfl⟩
end M91
