/-! UNITS AND TESTS of the component -/
def adP (P : JI) (k : Nat) (kd v : Int32) : JI := u2 (u2 (u2 P 13 k kd) 14 k v) 11 1 (nI (k + 1))
/-- what a test that was read leaves behind -/
def tRl (b : Nat → Nat) (E p k e : Nat) (P K : JI) (tk dr : Int64) (t : Tst) (q : Nat) (Fa : JV) (Pa Ka : JI) (ta da : Int64) : Prop := (cSt b E q Fa ∧ K = Ka ∧ tk = ta ∧ dr = da) ∧ ∃ k', Pa 11 1 = nI k' ∧ k ≤ k' ∧ 2 * k' + p ≤ q + 2 * k ∧ (∀ c j, c ≠ 13 → c ≠ 14 → ¬ (c = 11 ∧ j = 1) → Pa c j = P c j) ∧ (∀ j, j < k → Pa 13 j = P 13 j ∧ Pa 14 j = P 14 j) ∧ cdR Pa k k' e t
theorem adP_o {P : JI} {k c j : Nat} {kd v : Int32} (h1 : c ≠ 13) (h2 : c ≠ 14) (h3 : ¬ (c = 11 ∧ j = 1)) : adP P k kd v c j = P c j := by
  unfold adP u2
  by_cases h : c = 11
  · subst h
    simp [show ¬ j = 1 from fun w => h3 ⟨rfl, w⟩]
  · simp [h, h1, h2]
theorem adP_13 {P : JI} {k j : Nat} {kd v : Int32} : adP P k kd v 13 j = if j = k then kd else P 13 j := by simp [adP, u2]
theorem adP_14 {P : JI} {k j : Nat} {kd v : Int32} : adP P k kd v 14 j = if j = k then v else P 14 j := by simp [adP, u2]
theorem adP_11 {P : JI} {k : Nat} {kd v : Int32} : adP P k kd v 11 1 = nI (k + 1) := by simp [adP, u2]
theorem cdR.ad {P : JI} {fr to k e : Nat} {kd v : Int32} {t : Tst} (h : cdR P fr to e t) (hk : to ≤ k) : cdR (adP P k kd v) fr to e t := h.cg (fun j _ h2 => by rw [adP_13, adP_14, if_neg (by omega), if_neg (by omega)]; exact ⟨rfl, rfl⟩)
theorem cP6.cg {P P' : JI} (h : cP6 P) (h6 : ∀ j, P' 6 j = P 6 j) : cP6 P' := fun l hl => by rw [h6]; exact h l hl
theorem tRl.p6 {b : Nat → Nat} {E p k e q : Nat} {P K Pa Ka : JI} {tk dr ta da : Int64} {t : Tst} {Fa : JV} (h : tRl b E p k e P K tk dr t q Fa Pa Ka ta da) (hc : cP6 P) : cP6 Pa := by
  obtain ⟨_, k', _, _, _, h4, _⟩ := h
  exact hc.cg (fun j => h4 6 j (by omega) (by omega) (by omega))
section A5
variable {Γ : Gam} {d : Nat} {T : JT} {R S : JR} {I C P K : JI} {L : JL} {D : JD} {tk dr : Int64} {pa pl sa E p : Nat} {F : JV} {b : Nat → Nat}
theorem ct_addPart (hd : hDj pa pl sa) (hpl : hPl T R pl) {k : Nat} (hk : P 11 1 = nI k) (hk6 : k < 600) {kd v : Int32} : Ex Γ (d + 1) Y_X5_addPart [.ref (pl + 11), .int kd, .int v] (cM T R S I L D C pa pl sa F P K tk dr) 0 0 (rV (cM T R S I L D C pa pl sa F (adP P k kd v) K tk dr)) := by
  refine Ex.of (by decide) (by simp [Value.category]) (Nat.le_of_ble_eq_true rfl) rfl ?_
  refine jj_aload_n (q := 1) dX5_addPart_0 rfl rfl rfl ?_
  refine jj_getR (q := 4) dX5_addPart_1 fl_X5_22 hpl.t11 hpl.r11_3 rfl rfl rfl ?_
  refine jj_aload_n (q := 5) dX5_addPart_4 rfl rfl rfl ?_
  refine jj_getIw (v := nI k) (q := 8) dX5_addPart_5 fl_X5_15 hpl.t11 (by rw [c_p hd (by decide)]; exact hk) rfl rfl ?_
  refine jj_iload_n (q := 9) dX5_addPart_8 rfl rfl rfl ?_
  refine jj_cN3v (q := 12) dX5_addPart_9 yk_X8_put ml_X5_31 (ex_putv hpl.t13 ((c_pp hd (by decide)).trans (by rw [putI_nI hk6 (by omega)])) rfl) rfl rfl rfl ⟨Nat.zero_le _, Nat.zero_le _⟩ ?_
  refine jj_aload_n (q := 13) dX5_addPart_12 rfl rfl rfl ?_
  refine jj_getR (q := 16) dX5_addPart_13 fl_X5_25 hpl.t11 hpl.r11_4 rfl rfl rfl ?_
  refine jj_aload_n (q := 17) dX5_addPart_16 rfl rfl rfl ?_
  refine jj_getIw (v := nI k) (q := 20) dX5_addPart_17 fl_X5_15 hpl.t11 (by rw [c_p hd (by decide)]; exact hk) rfl rfl ?_
  refine jj_iload_n (q := 21) dX5_addPart_20 rfl rfl rfl ?_
  refine jj_cN3v (q := 24) dX5_addPart_21 yk_X8_put ml_X5_31 (ex_putv hpl.t14 ((c_pp hd (by decide)).trans (by rw [putI_nI hk6 (by omega)])) rfl) rfl rfl rfl ⟨Nat.zero_le _, Nat.zero_le _⟩ ?_
  refine jj_aload_n (q := 25) dX5_addPart_24 rfl rfl rfl ?_
  refine jj_dup (q := 26) dX5_addPart_25 rfl rfl ?_
  refine jj_getIw (v := nI k) (q := 29) dX5_addPart_26 fl_X5_15 hpl.t11 (by rw [c_p hd (by decide)]; exact hk) rfl rfl ?_
  refine jj_iconst (v := 1) (q := 30) dX5_addPart_29 rfl rfl ?_
  refine jj_iaddN (q := 31) (a := k) (b := 1) dX5_addPart_30 rfl rfl rfl ?_
  refine jj_putIv (q := 34) dX5_addPart_31 fl_X5_15 hpl.t11 (c_pw hd (by decide)) rfl rfl rfl rfl rfl ?_
  refine jj_vret dX5_addPart_34 rfl (Nat.zero_le _) (Nat.zero_le _) ?_
  exact ⟨rfl, rfl⟩
theorem ct_endTest (hd : hDj pa pl sa) (hpl : hPl T R pl) {k m : Nat} (hk : P 11 0 = nI k) (hk6 : k < 3) (hm : P 11 1 = nI m) : Ex Γ (d + 1) Y_X5_endTest [.ref (pl + 11)] (cM T R S I L D C pa pl sa F P K tk dr) 0 0 (rV (cM T R S I L D C pa pl sa F (u2 (u2 P 12 k (nI m)) 11 0 (nI (k + 1))) K tk dr)) := by
  refine Ex.of (by decide) (by simp [Value.category]) (Nat.le_of_ble_eq_true rfl) rfl ?_
  refine jj_aload_n (q := 1) dX5_endTest_0 rfl rfl rfl ?_
  refine jj_getR (q := 4) dX5_endTest_1 fl_X5_18 hpl.t11 hpl.r11_2 rfl rfl rfl ?_
  refine jj_aload_n (q := 5) dX5_endTest_4 rfl rfl rfl ?_
  refine jj_getIw (v := nI k) (q := 8) dX5_endTest_5 fl_X5_9 hpl.t11 (by rw [c_p hd (by decide)]; exact hk) rfl rfl ?_
  refine jj_aload_n (q := 9) dX5_endTest_8 rfl rfl rfl ?_
  refine jj_getIw (v := nI m) (q := 12) dX5_endTest_9 fl_X5_15 hpl.t11 (by rw [c_p hd (by decide)]; exact hm) rfl rfl ?_
  refine jj_cN3v (q := 15) dX5_endTest_12 yk_X8_put ml_X5_31 (ex_putv hpl.t12 ((c_pp hd (by decide)).trans (by rw [putI_nI hk6 (by omega)])) rfl) rfl rfl rfl ⟨Nat.zero_le _, Nat.zero_le _⟩ ?_
  refine jj_aload_n (q := 16) dX5_endTest_15 rfl rfl rfl ?_
  refine jj_dup (q := 17) dX5_endTest_16 rfl rfl ?_
  refine jj_getIw (v := nI k) (q := 20) dX5_endTest_17 fl_X5_9 hpl.t11 (by rw [c_p hd (by decide)]; exact hk) rfl rfl ?_
  refine jj_iconst (v := 1) (q := 21) dX5_endTest_20 rfl rfl ?_
  refine jj_iaddN (q := 22) (a := k) (b := 1) dX5_endTest_21 rfl rfl rfl ?_
  refine jj_putIv (q := 25) dX5_endTest_22 fl_X5_9 hpl.t11 (c_pw hd (by decide)) rfl rfl rfl rfl rfl ?_
  refine jj_vret dX5_endTest_25 rfl (Nat.zero_le _) (Nat.zero_le _) ?_
  exact ⟨rfl, rfl⟩
theorem ct_valueWord (hp : hPa T R pa) (hb : pB_ C b E) (hs : cSt b E p F) (hcp : cP6 P) (hd : hDj pa pl sa) (hpl : hPl T R pl) : Ex Γ (d + 5) Y_X2_valueWord [.ref pa] (cM T R S I L D C pa pl sa F P K tk dr) 0 0 (rI (if wV b E p = 5 then -1 else nI (wV b E p)) (cM T R S I L D C pa pl sa F P K tk dr)) := by
  by_cases h_0 : isW b E p wd_wait = true
  · rw [show wV b E p = 0 by unfold wV; rw [if_pos h_0], if_neg (by decide)]
    refine Ex.of (by decide) (by simp [Value.category]) (Nat.le_of_ble_eq_true rfl) rfl ?_
    refine jj_aload_n (q := 1) dX2_valueWord_0 rfl rfl rfl ?_
    refine jj_ldcS (q := 3) dX2_valueWord_1 ks_X2_245 rfl ?_
    refine jj_cV1i (q := 6) dX2_valueWord_3 yk_X2_isWord ml_X2_131 hp.t0 (ex_isWord hp hb hs.2.1 hs.1 ks_X2_245 wl_wait (by decide) (by decide)) rfl rfl rfl ⟨Nat.zero_le _, Nat.zero_le _⟩ ?_
    refine jj_if_eq (q := 9) (tgt := 11) dX2_valueWord_6 rfl rfl (fun h6 => by exfalso; exact absurd ((if_pos h_0).symm.trans h6) (by decide)) (fun h6 => ?_)
    refine jj_iconst (v := 0) (q := 10) dX2_valueWord_9 rfl rfl ?_
    refine jj_iret dX2_valueWord_10 rfl (Nat.zero_le _) (Nat.zero_le _) ?_
    exact ⟨rfl, rfl⟩
  · skip
    by_cases h_1 : isW b E p wd_laps = true
    · rw [show wV b E p = 1 by unfold wV; rw [if_neg h_0, if_pos h_1], if_neg (by decide)]
      refine Ex.of (by decide) (by simp [Value.category]) (Nat.le_of_ble_eq_true rfl) rfl ?_
      refine jj_aload_n (q := 1) dX2_valueWord_0 rfl rfl rfl ?_
      refine jj_ldcS (q := 3) dX2_valueWord_1 ks_X2_245 rfl ?_
      refine jj_cV1i (q := 6) dX2_valueWord_3 yk_X2_isWord ml_X2_131 hp.t0 (ex_isWord hp hb hs.2.1 hs.1 ks_X2_245 wl_wait (by decide) (by decide)) rfl rfl rfl ⟨Nat.zero_le _, Nat.zero_le _⟩ ?_
      refine jj_if_eq (q := 9) (tgt := 11) dX2_valueWord_6 rfl rfl (fun h6 => ?_) (fun h6 => absurd (if_neg h_0) h6)
      refine jj_aload_n (q := 12) dX2_valueWord_11 rfl rfl rfl ?_
      refine jj_ldcS (q := 14) dX2_valueWord_12 ks_X2_247 rfl ?_
      refine jj_cV1i (q := 17) dX2_valueWord_14 yk_X2_isWord ml_X2_131 hp.t0 (ex_isWord hp hb hs.2.1 hs.1 ks_X2_247 wl_laps (by decide) (by decide)) rfl rfl rfl ⟨Nat.zero_le _, Nat.zero_le _⟩ ?_
      refine jj_if_eq (q := 20) (tgt := 22) dX2_valueWord_17 rfl rfl (fun h17 => by exfalso; exact absurd ((if_pos h_1).symm.trans h17) (by decide)) (fun h17 => ?_)
      refine jj_iconst (v := 1) (q := 21) dX2_valueWord_20 rfl rfl ?_
      refine jj_iret dX2_valueWord_21 rfl (Nat.zero_le _) (Nat.zero_le _) ?_
      exact ⟨rfl, rfl⟩
    · skip
      by_cases h_2 : isW b E p wd_level = true
      · rw [show wV b E p = 2 by unfold wV; rw [if_neg h_0, if_neg h_1, if_pos h_2], if_neg (by decide)]
        refine Ex.of (by decide) (by simp [Value.category]) (Nat.le_of_ble_eq_true rfl) rfl ?_
        refine jj_aload_n (q := 1) dX2_valueWord_0 rfl rfl rfl ?_
        refine jj_ldcS (q := 3) dX2_valueWord_1 ks_X2_245 rfl ?_
        refine jj_cV1i (q := 6) dX2_valueWord_3 yk_X2_isWord ml_X2_131 hp.t0 (ex_isWord hp hb hs.2.1 hs.1 ks_X2_245 wl_wait (by decide) (by decide)) rfl rfl rfl ⟨Nat.zero_le _, Nat.zero_le _⟩ ?_
        refine jj_if_eq (q := 9) (tgt := 11) dX2_valueWord_6 rfl rfl (fun h6 => ?_) (fun h6 => absurd (if_neg h_0) h6)
        refine jj_aload_n (q := 12) dX2_valueWord_11 rfl rfl rfl ?_
        refine jj_ldcS (q := 14) dX2_valueWord_12 ks_X2_247 rfl ?_
        refine jj_cV1i (q := 17) dX2_valueWord_14 yk_X2_isWord ml_X2_131 hp.t0 (ex_isWord hp hb hs.2.1 hs.1 ks_X2_247 wl_laps (by decide) (by decide)) rfl rfl rfl ⟨Nat.zero_le _, Nat.zero_le _⟩ ?_
        refine jj_if_eq (q := 20) (tgt := 22) dX2_valueWord_17 rfl rfl (fun h17 => ?_) (fun h17 => absurd (if_neg h_1) h17)
        refine jj_aload_n (q := 23) dX2_valueWord_22 rfl rfl rfl ?_
        refine jj_ldcS (q := 25) dX2_valueWord_23 ks_X2_107 rfl ?_
        refine jj_cV1i (q := 28) dX2_valueWord_25 yk_X2_isWord ml_X2_131 hp.t0 (ex_isWord hp hb hs.2.1 hs.1 ks_X2_107 wl_level (by decide) (by decide)) rfl rfl rfl ⟨Nat.zero_le _, Nat.zero_le _⟩ ?_
        refine jj_if_eq (q := 31) (tgt := 33) dX2_valueWord_28 rfl rfl (fun h28 => by exfalso; exact absurd ((if_pos h_2).symm.trans h28) (by decide)) (fun h28 => ?_)
        refine jj_iconst (v := 2) (q := 32) dX2_valueWord_31 rfl rfl ?_
        refine jj_iret dX2_valueWord_32 rfl (Nat.zero_le _) (Nat.zero_le _) ?_
        exact ⟨rfl, rfl⟩
      · skip
        by_cases h_3 : isW b E p wd_load = true
        · rw [show wV b E p = 3 by unfold wV; rw [if_neg h_0, if_neg h_1, if_neg h_2, if_pos h_3], if_neg (by decide)]
          refine Ex.of (by decide) (by simp [Value.category]) (Nat.le_of_ble_eq_true rfl) rfl ?_
          refine jj_aload_n (q := 1) dX2_valueWord_0 rfl rfl rfl ?_
          refine jj_ldcS (q := 3) dX2_valueWord_1 ks_X2_245 rfl ?_
          refine jj_cV1i (q := 6) dX2_valueWord_3 yk_X2_isWord ml_X2_131 hp.t0 (ex_isWord hp hb hs.2.1 hs.1 ks_X2_245 wl_wait (by decide) (by decide)) rfl rfl rfl ⟨Nat.zero_le _, Nat.zero_le _⟩ ?_
          refine jj_if_eq (q := 9) (tgt := 11) dX2_valueWord_6 rfl rfl (fun h6 => ?_) (fun h6 => absurd (if_neg h_0) h6)
          refine jj_aload_n (q := 12) dX2_valueWord_11 rfl rfl rfl ?_
          refine jj_ldcS (q := 14) dX2_valueWord_12 ks_X2_247 rfl ?_
          refine jj_cV1i (q := 17) dX2_valueWord_14 yk_X2_isWord ml_X2_131 hp.t0 (ex_isWord hp hb hs.2.1 hs.1 ks_X2_247 wl_laps (by decide) (by decide)) rfl rfl rfl ⟨Nat.zero_le _, Nat.zero_le _⟩ ?_
          refine jj_if_eq (q := 20) (tgt := 22) dX2_valueWord_17 rfl rfl (fun h17 => ?_) (fun h17 => absurd (if_neg h_1) h17)
          refine jj_aload_n (q := 23) dX2_valueWord_22 rfl rfl rfl ?_
          refine jj_ldcS (q := 25) dX2_valueWord_23 ks_X2_107 rfl ?_
          refine jj_cV1i (q := 28) dX2_valueWord_25 yk_X2_isWord ml_X2_131 hp.t0 (ex_isWord hp hb hs.2.1 hs.1 ks_X2_107 wl_level (by decide) (by decide)) rfl rfl rfl ⟨Nat.zero_le _, Nat.zero_le _⟩ ?_
          refine jj_if_eq (q := 31) (tgt := 33) dX2_valueWord_28 rfl rfl (fun h28 => ?_) (fun h28 => absurd (if_neg h_2) h28)
          refine jj_aload_n (q := 34) dX2_valueWord_33 rfl rfl rfl ?_
          refine jj_ldcS (q := 36) dX2_valueWord_34 ks_X2_249 rfl ?_
          refine jj_cV1i (q := 39) dX2_valueWord_36 yk_X2_isWord ml_X2_131 hp.t0 (ex_isWord hp hb hs.2.1 hs.1 ks_X2_249 wl_load (by decide) (by decide)) rfl rfl rfl ⟨Nat.zero_le _, Nat.zero_le _⟩ ?_
          refine jj_if_eq (q := 42) (tgt := 44) dX2_valueWord_39 rfl rfl (fun h39 => by exfalso; exact absurd ((if_pos h_3).symm.trans h39) (by decide)) (fun h39 => ?_)
          refine jj_iconst (v := 3) (q := 43) dX2_valueWord_42 rfl rfl ?_
          refine jj_iret dX2_valueWord_43 rfl (Nat.zero_le _) (Nat.zero_le _) ?_
          exact ⟨rfl, rfl⟩
        · skip
          by_cases h_4 : isW b E p wd_time = true
          · rw [show wV b E p = 4 by unfold wV; rw [if_neg h_0, if_neg h_1, if_neg h_2, if_neg h_3, if_pos h_4], if_neg (by decide)]
            refine Ex.of (by decide) (by simp [Value.category]) (Nat.le_of_ble_eq_true rfl) rfl ?_
            refine jj_aload_n (q := 1) dX2_valueWord_0 rfl rfl rfl ?_
            refine jj_ldcS (q := 3) dX2_valueWord_1 ks_X2_245 rfl ?_
            refine jj_cV1i (q := 6) dX2_valueWord_3 yk_X2_isWord ml_X2_131 hp.t0 (ex_isWord hp hb hs.2.1 hs.1 ks_X2_245 wl_wait (by decide) (by decide)) rfl rfl rfl ⟨Nat.zero_le _, Nat.zero_le _⟩ ?_
            refine jj_if_eq (q := 9) (tgt := 11) dX2_valueWord_6 rfl rfl (fun h6 => ?_) (fun h6 => absurd (if_neg h_0) h6)
            refine jj_aload_n (q := 12) dX2_valueWord_11 rfl rfl rfl ?_
            refine jj_ldcS (q := 14) dX2_valueWord_12 ks_X2_247 rfl ?_
            refine jj_cV1i (q := 17) dX2_valueWord_14 yk_X2_isWord ml_X2_131 hp.t0 (ex_isWord hp hb hs.2.1 hs.1 ks_X2_247 wl_laps (by decide) (by decide)) rfl rfl rfl ⟨Nat.zero_le _, Nat.zero_le _⟩ ?_
            refine jj_if_eq (q := 20) (tgt := 22) dX2_valueWord_17 rfl rfl (fun h17 => ?_) (fun h17 => absurd (if_neg h_1) h17)
            refine jj_aload_n (q := 23) dX2_valueWord_22 rfl rfl rfl ?_
            refine jj_ldcS (q := 25) dX2_valueWord_23 ks_X2_107 rfl ?_
            refine jj_cV1i (q := 28) dX2_valueWord_25 yk_X2_isWord ml_X2_131 hp.t0 (ex_isWord hp hb hs.2.1 hs.1 ks_X2_107 wl_level (by decide) (by decide)) rfl rfl rfl ⟨Nat.zero_le _, Nat.zero_le _⟩ ?_
            refine jj_if_eq (q := 31) (tgt := 33) dX2_valueWord_28 rfl rfl (fun h28 => ?_) (fun h28 => absurd (if_neg h_2) h28)
            refine jj_aload_n (q := 34) dX2_valueWord_33 rfl rfl rfl ?_
            refine jj_ldcS (q := 36) dX2_valueWord_34 ks_X2_249 rfl ?_
            refine jj_cV1i (q := 39) dX2_valueWord_36 yk_X2_isWord ml_X2_131 hp.t0 (ex_isWord hp hb hs.2.1 hs.1 ks_X2_249 wl_load (by decide) (by decide)) rfl rfl rfl ⟨Nat.zero_le _, Nat.zero_le _⟩ ?_
            refine jj_if_eq (q := 42) (tgt := 44) dX2_valueWord_39 rfl rfl (fun h39 => ?_) (fun h39 => absurd (if_neg h_3) h39)
            refine jj_aload_n (q := 45) dX2_valueWord_44 rfl rfl rfl ?_
            refine jj_ldcS (q := 47) dX2_valueWord_45 ks_X2_251 rfl ?_
            refine jj_cV1i (q := 50) dX2_valueWord_47 yk_X2_isWord ml_X2_131 hp.t0 (ex_isWord hp hb hs.2.1 hs.1 ks_X2_251 wl_time (by decide) (by decide)) rfl rfl rfl ⟨Nat.zero_le _, Nat.zero_le _⟩ ?_
            refine jj_if_eq (q := 53) (tgt := 57) dX2_valueWord_50 rfl rfl (fun h50 => by exfalso; exact absurd ((if_pos h_4).symm.trans h50) (by decide)) (fun h50 => ?_)
            refine jj_iconst (v := 4) (q := 54) dX2_valueWord_53 rfl rfl ?_
            refine jj_goto (tgt := 58) dX2_valueWord_54 rfl ?_
            refine jj_iret dX2_valueWord_58 rfl (Nat.zero_le _) (Nat.zero_le _) ?_
            exact ⟨rfl, rfl⟩
          · rw [show wV b E p = 5 by unfold wV; rw [if_neg h_0, if_neg h_1, if_neg h_2, if_neg h_3, if_neg h_4], if_pos rfl]
            refine Ex.of (by decide) (by simp [Value.category]) (Nat.le_of_ble_eq_true rfl) rfl ?_
            refine jj_aload_n (q := 1) dX2_valueWord_0 rfl rfl rfl ?_
            refine jj_ldcS (q := 3) dX2_valueWord_1 ks_X2_245 rfl ?_
            refine jj_cV1i (q := 6) dX2_valueWord_3 yk_X2_isWord ml_X2_131 hp.t0 (ex_isWord hp hb hs.2.1 hs.1 ks_X2_245 wl_wait (by decide) (by decide)) rfl rfl rfl ⟨Nat.zero_le _, Nat.zero_le _⟩ ?_
            refine jj_if_eq (q := 9) (tgt := 11) dX2_valueWord_6 rfl rfl (fun h6 => ?_) (fun h6 => absurd (if_neg h_0) h6)
            refine jj_aload_n (q := 12) dX2_valueWord_11 rfl rfl rfl ?_
            refine jj_ldcS (q := 14) dX2_valueWord_12 ks_X2_247 rfl ?_
            refine jj_cV1i (q := 17) dX2_valueWord_14 yk_X2_isWord ml_X2_131 hp.t0 (ex_isWord hp hb hs.2.1 hs.1 ks_X2_247 wl_laps (by decide) (by decide)) rfl rfl rfl ⟨Nat.zero_le _, Nat.zero_le _⟩ ?_
            refine jj_if_eq (q := 20) (tgt := 22) dX2_valueWord_17 rfl rfl (fun h17 => ?_) (fun h17 => absurd (if_neg h_1) h17)
            refine jj_aload_n (q := 23) dX2_valueWord_22 rfl rfl rfl ?_
            refine jj_ldcS (q := 25) dX2_valueWord_23 ks_X2_107 rfl ?_
            refine jj_cV1i (q := 28) dX2_valueWord_25 yk_X2_isWord ml_X2_131 hp.t0 (ex_isWord hp hb hs.2.1 hs.1 ks_X2_107 wl_level (by decide) (by decide)) rfl rfl rfl ⟨Nat.zero_le _, Nat.zero_le _⟩ ?_
            refine jj_if_eq (q := 31) (tgt := 33) dX2_valueWord_28 rfl rfl (fun h28 => ?_) (fun h28 => absurd (if_neg h_2) h28)
            refine jj_aload_n (q := 34) dX2_valueWord_33 rfl rfl rfl ?_
            refine jj_ldcS (q := 36) dX2_valueWord_34 ks_X2_249 rfl ?_
            refine jj_cV1i (q := 39) dX2_valueWord_36 yk_X2_isWord ml_X2_131 hp.t0 (ex_isWord hp hb hs.2.1 hs.1 ks_X2_249 wl_load (by decide) (by decide)) rfl rfl rfl ⟨Nat.zero_le _, Nat.zero_le _⟩ ?_
            refine jj_if_eq (q := 42) (tgt := 44) dX2_valueWord_39 rfl rfl (fun h39 => ?_) (fun h39 => absurd (if_neg h_3) h39)
            refine jj_aload_n (q := 45) dX2_valueWord_44 rfl rfl rfl ?_
            refine jj_ldcS (q := 47) dX2_valueWord_45 ks_X2_251 rfl ?_
            refine jj_cV1i (q := 50) dX2_valueWord_47 yk_X2_isWord ml_X2_131 hp.t0 (ex_isWord hp hb hs.2.1 hs.1 ks_X2_251 wl_time (by decide) (by decide)) rfl rfl rfl ⟨Nat.zero_le _, Nat.zero_le _⟩ ?_
            refine jj_if_eq (q := 53) (tgt := 57) dX2_valueWord_50 rfl rfl (fun h50 => ?_) (fun h50 => absurd (if_neg h_4) h50)
            refine jj_iconst (v := -1) (q := 58) dX2_valueWord_57 rfl rfl ?_
            refine jj_iret dX2_valueWord_58 rfl (Nat.zero_le _) (Nat.zero_le _) ?_
            exact ⟨rfl, rfl⟩
theorem ct_rel (hp : hPa T R pa) (hb : pB_ C b E) (hs : cSt b E p F) (hcp : cP6 P) (hd : hDj pa pl sa) (hpl : hPl T R pl) : Ex Γ (d + 7) Y_X2_takeRelation [.ref pa] (cM T R S I L D C pa pl sa F P K tk dr) (ec (eN (pRel b E p))) (es (eN (pRel b E p))) (rC (cM T R S I L D C pa pl sa) (pRel b E p) (fun v => some (.int (nI v))) (fun v q Fa Pa Ka ta da => cR0 b E P K tk dr v q Fa Pa Ka ta da ∧ v < 3)) := by
  by_cases h_0 : isS b E p 60 = true
  · rw [show pRel b E p = .inr (0, tN b E p) by unfold pRel; rw [if_pos h_0]]
    refine Ex.of (by decide) (by simp [Value.category]) (Nat.le_of_ble_eq_true rfl) rfl ?_
    refine jj_aload_n (q := 1) dX2_takeRelation_0 rfl rfl rfl ?_
    refine jj_bipush (v := 60) (q := 3) dX2_takeRelation_1 rfl rfl ?_
    refine jj_cV1i (q := 6) dX2_takeRelation_3 yk_X2_isSign ml_X2_65 hp.t0 (ex_isSign hp hb hs.2.1 hs.1 (c := 60) (by decide)) rfl rfl rfl ⟨Nat.zero_le _, Nat.zero_le _⟩ ?_
    refine jj_if_eq (q := 9) (tgt := 13) dX2_takeRelation_6 rfl rfl (fun h6 => by exfalso; exact absurd ((if_pos h_0).symm.trans h6) (by decide)) (fun h6 => ?_)
    refine jj_iconst (v := 0) (q := 10) dX2_takeRelation_9 rfl rfl ?_
    refine jj_goto (tgt := 27) dX2_takeRelation_10 rfl ?_
    refine jj_istore_n (q := 28) dX2_takeRelation_27 rfl (by decide) rfl ?_
    refine jj_iload_n (q := 29) dX2_takeRelation_28 rfl rfl rfl ?_
    refine jj_iconst (v := 2) (q := 30) dX2_takeRelation_29 rfl rfl ?_
    refine jj_icmp_ne (q := 33) (tgt := 47) dX2_takeRelation_30 rfl rfl (fun h30 => ?_) (fun h30 => by exfalso; exact absurd h30 (by decide))
    refine jj_aload_n (q := 48) dX2_takeRelation_47 rfl rfl rfl ?_
    refine jj_cV0v (q := 51) dX2_takeRelation_48 yk_X2_step ml_X2_58 hp.t0 (ct_step (d := d + 2) hp hb hs) rfl rfl rfl ⟨Nat.zero_le _, Nat.zero_le _⟩ ?_
    refine jj_iload_n (q := 52) dX2_takeRelation_51 rfl rfl rfl ?_
    refine jj_iret dX2_takeRelation_52 rfl (Nat.zero_le _) (Nat.zero_le _) ?_
    exact ⟨rfl, _, P, K, tk, dr, ⟨⟨hs.st, rfl, rfl, rfl, rfl⟩, by omega⟩, rfl⟩
  · skip
    by_cases h_1 : isS b E p 62 = true
    · rw [show pRel b E p = .inr (1, tN b E p) by unfold pRel; rw [if_neg h_0, if_pos h_1]]
      refine Ex.of (by decide) (by simp [Value.category]) (Nat.le_of_ble_eq_true rfl) rfl ?_
      refine jj_aload_n (q := 1) dX2_takeRelation_0 rfl rfl rfl ?_
      refine jj_bipush (v := 60) (q := 3) dX2_takeRelation_1 rfl rfl ?_
      refine jj_cV1i (q := 6) dX2_takeRelation_3 yk_X2_isSign ml_X2_65 hp.t0 (ex_isSign hp hb hs.2.1 hs.1 (c := 60) (by decide)) rfl rfl rfl ⟨Nat.zero_le _, Nat.zero_le _⟩ ?_
      refine jj_if_eq (q := 9) (tgt := 13) dX2_takeRelation_6 rfl rfl (fun h6 => ?_) (fun h6 => absurd (if_neg h_0) h6)
      refine jj_aload_n (q := 14) dX2_takeRelation_13 rfl rfl rfl ?_
      refine jj_bipush (v := 62) (q := 16) dX2_takeRelation_14 rfl rfl ?_
      refine jj_cV1i (q := 19) dX2_takeRelation_16 yk_X2_isSign ml_X2_65 hp.t0 (ex_isSign hp hb hs.2.1 hs.1 (c := 62) (by decide)) rfl rfl rfl ⟨Nat.zero_le _, Nat.zero_le _⟩ ?_
      refine jj_if_eq (q := 22) (tgt := 26) dX2_takeRelation_19 rfl rfl (fun h19 => by exfalso; exact absurd ((if_pos h_1).symm.trans h19) (by decide)) (fun h19 => ?_)
      refine jj_iconst (v := 1) (q := 23) dX2_takeRelation_22 rfl rfl ?_
      refine jj_goto (tgt := 27) dX2_takeRelation_23 rfl ?_
      refine jj_istore_n (q := 28) dX2_takeRelation_27 rfl (by decide) rfl ?_
      refine jj_iload_n (q := 29) dX2_takeRelation_28 rfl rfl rfl ?_
      refine jj_iconst (v := 2) (q := 30) dX2_takeRelation_29 rfl rfl ?_
      refine jj_icmp_ne (q := 33) (tgt := 47) dX2_takeRelation_30 rfl rfl (fun h30 => ?_) (fun h30 => by exfalso; exact absurd h30 (by decide))
      refine jj_aload_n (q := 48) dX2_takeRelation_47 rfl rfl rfl ?_
      refine jj_cV0v (q := 51) dX2_takeRelation_48 yk_X2_step ml_X2_58 hp.t0 (ct_step (d := d + 2) hp hb hs) rfl rfl rfl ⟨Nat.zero_le _, Nat.zero_le _⟩ ?_
      refine jj_iload_n (q := 52) dX2_takeRelation_51 rfl rfl rfl ?_
      refine jj_iret dX2_takeRelation_52 rfl (Nat.zero_le _) (Nat.zero_le _) ?_
      exact ⟨rfl, _, P, K, tk, dr, ⟨⟨hs.st, rfl, rfl, rfl, rfl⟩, by omega⟩, rfl⟩
    · skip
      by_cases h_2 : isS b E p 61 = true
      · rw [show pRel b E p = .inr (2, tN b E p) by unfold pRel; rw [if_neg h_0, if_neg h_1, if_pos h_2]]
        refine Ex.of (by decide) (by simp [Value.category]) (Nat.le_of_ble_eq_true rfl) rfl ?_
        refine jj_aload_n (q := 1) dX2_takeRelation_0 rfl rfl rfl ?_
        refine jj_bipush (v := 60) (q := 3) dX2_takeRelation_1 rfl rfl ?_
        refine jj_cV1i (q := 6) dX2_takeRelation_3 yk_X2_isSign ml_X2_65 hp.t0 (ex_isSign hp hb hs.2.1 hs.1 (c := 60) (by decide)) rfl rfl rfl ⟨Nat.zero_le _, Nat.zero_le _⟩ ?_
        refine jj_if_eq (q := 9) (tgt := 13) dX2_takeRelation_6 rfl rfl (fun h6 => ?_) (fun h6 => absurd (if_neg h_0) h6)
        refine jj_aload_n (q := 14) dX2_takeRelation_13 rfl rfl rfl ?_
        refine jj_bipush (v := 62) (q := 16) dX2_takeRelation_14 rfl rfl ?_
        refine jj_cV1i (q := 19) dX2_takeRelation_16 yk_X2_isSign ml_X2_65 hp.t0 (ex_isSign hp hb hs.2.1 hs.1 (c := 62) (by decide)) rfl rfl rfl ⟨Nat.zero_le _, Nat.zero_le _⟩ ?_
        refine jj_if_eq (q := 22) (tgt := 26) dX2_takeRelation_19 rfl rfl (fun h19 => ?_) (fun h19 => absurd (if_neg h_1) h19)
        refine jj_iconst (v := 2) (q := 27) dX2_takeRelation_26 rfl rfl ?_
        refine jj_istore_n (q := 28) dX2_takeRelation_27 rfl (by decide) rfl ?_
        refine jj_iload_n (q := 29) dX2_takeRelation_28 rfl rfl rfl ?_
        refine jj_iconst (v := 2) (q := 30) dX2_takeRelation_29 rfl rfl ?_
        refine jj_icmp_ne (q := 33) (tgt := 47) dX2_takeRelation_30 rfl rfl (fun h30 => absurd h30 (by decide)) (fun h30 => ?_)
        refine jj_aload_n (q := 34) dX2_takeRelation_33 rfl rfl rfl ?_
        refine jj_bipush (v := 61) (q := 36) dX2_takeRelation_34 rfl rfl ?_
        refine jj_cV1i (q := 39) dX2_takeRelation_36 yk_X2_isSign ml_X2_65 hp.t0 (ex_isSign hp hb hs.2.1 hs.1 (c := 61) (by decide)) rfl rfl rfl ⟨Nat.zero_le _, Nat.zero_le _⟩ ?_
        refine jj_if_ne (q := 42) (tgt := 47) dX2_takeRelation_39 rfl rfl (fun h39 => ?_) (fun h39 => by exfalso; exact absurd ((if_pos h_2).symm.trans h39) (by decide))
        refine jj_aload_n (q := 48) dX2_takeRelation_47 rfl rfl rfl ?_
        refine jj_cV0v (q := 51) dX2_takeRelation_48 yk_X2_step ml_X2_58 hp.t0 (ct_step (d := d + 2) hp hb hs) rfl rfl rfl ⟨Nat.zero_le _, Nat.zero_le _⟩ ?_
        refine jj_iload_n (q := 52) dX2_takeRelation_51 rfl rfl rfl ?_
        refine jj_iret dX2_takeRelation_52 rfl (Nat.zero_le _) (Nat.zero_le _) ?_
        exact ⟨rfl, _, P, K, tk, dr, ⟨⟨hs.st, rfl, rfl, rfl, rfl⟩, by omega⟩, rfl⟩
      · rw [show pRel b E p = .inl (1, tS b E p) by unfold pRel; rw [if_neg h_0, if_neg h_1, if_neg h_2]]
        refine Ex.of (by decide) (by simp [Value.category]) (Nat.le_of_ble_eq_true rfl) rfl ?_
        refine jj_aload_n (q := 1) dX2_takeRelation_0 rfl rfl rfl ?_
        refine jj_bipush (v := 60) (q := 3) dX2_takeRelation_1 rfl rfl ?_
        refine jj_cV1i (q := 6) dX2_takeRelation_3 yk_X2_isSign ml_X2_65 hp.t0 (ex_isSign hp hb hs.2.1 hs.1 (c := 60) (by decide)) rfl rfl rfl ⟨Nat.zero_le _, Nat.zero_le _⟩ ?_
        refine jj_if_eq (q := 9) (tgt := 13) dX2_takeRelation_6 rfl rfl (fun h6 => ?_) (fun h6 => absurd (if_neg h_0) h6)
        refine jj_aload_n (q := 14) dX2_takeRelation_13 rfl rfl rfl ?_
        refine jj_bipush (v := 62) (q := 16) dX2_takeRelation_14 rfl rfl ?_
        refine jj_cV1i (q := 19) dX2_takeRelation_16 yk_X2_isSign ml_X2_65 hp.t0 (ex_isSign hp hb hs.2.1 hs.1 (c := 62) (by decide)) rfl rfl rfl ⟨Nat.zero_le _, Nat.zero_le _⟩ ?_
        refine jj_if_eq (q := 22) (tgt := 26) dX2_takeRelation_19 rfl rfl (fun h19 => ?_) (fun h19 => absurd (if_neg h_1) h19)
        refine jj_iconst (v := 2) (q := 27) dX2_takeRelation_26 rfl rfl ?_
        refine jj_istore_n (q := 28) dX2_takeRelation_27 rfl (by decide) rfl ?_
        refine jj_iload_n (q := 29) dX2_takeRelation_28 rfl rfl rfl ?_
        refine jj_iconst (v := 2) (q := 30) dX2_takeRelation_29 rfl rfl ?_
        refine jj_icmp_ne (q := 33) (tgt := 47) dX2_takeRelation_30 rfl rfl (fun h30 => absurd h30 (by decide)) (fun h30 => ?_)
        refine jj_aload_n (q := 34) dX2_takeRelation_33 rfl rfl rfl ?_
        refine jj_bipush (v := 61) (q := 36) dX2_takeRelation_34 rfl rfl ?_
        refine jj_cV1i (q := 39) dX2_takeRelation_36 yk_X2_isSign ml_X2_65 hp.t0 (ex_isSign hp hb hs.2.1 hs.1 (c := 61) (by decide)) rfl rfl rfl ⟨Nat.zero_le _, Nat.zero_le _⟩ ?_
        refine jj_if_ne (q := 42) (tgt := 47) dX2_takeRelation_39 rfl rfl (fun h39 => by exfalso; exact h39 (if_neg h_2)) (fun h39 => ?_)
        refine jj_aload_n (q := 43) dX2_takeRelation_42 rfl rfl rfl ?_
        refine jj_iconst (v := 1) (q := 44) dX2_takeRelation_43 rfl rfl ?_
        refine jj_xV1 (q := 47) dX2_takeRelation_44 yk_X2_fail ml_X2_72 hp.t0 (ct_fail hp hb hs hcp (c := 1)) rfl rfl rfl ⟨Nat.le_refl _, Nat.le_refl _⟩ rfl (Nat.le_refl _) (Nat.le_refl _) ?_
        exact rC_x hs hcp
end A5
