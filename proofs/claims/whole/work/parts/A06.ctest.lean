/-! UNITS AND TESTS of the component, by depth -/
def kUn (Γ : Gam) (T : JT) (R S : JR) (I : JI) (L : JL) (D : JD) (C : JI) (pa pl sa : Nat) (b : Nat → Nat) (E f : Nat) : Prop := ∀ (d p k : Nat) (F : JV) (P K : JI) (tk dr : Int64), cSt b E p F → cP6 P → P 11 1 = nI k → 2 * k ≤ p → Ex Γ (d + 2 * f + 9) Y_X2_readUnit [.ref pa, .ref (pl + 11), .int (nI (10 - f))] (cM T R S I L D C pa pl sa F P K tk dr) (ec (eN (pU b E f p))) (es (eN (pU b E f p))) (rC (cM T R S I L D C pa pl sa) (pU b E f p) (fun _ => none) (tRl b E p k (f) P K tk dr))
def kTe (Γ : Gam) (T : JT) (R S : JR) (I : JI) (L : JL) (D : JD) (C : JI) (pa pl sa : Nat) (b : Nat → Nat) (E f : Nat) : Prop := ∀ (d p k : Nat) (F : JV) (P K : JI) (tk dr : Int64), cSt b E p F → cP6 P → P 11 1 = nI k → 2 * k ≤ p → Ex Γ (d + 2 * f + 10) Y_X2_readTest [.ref pa, .ref (pl + 11), .int (nI (10 - f))] (cM T R S I L D C pa pl sa F P K tk dr) (ec (eN (pT b E (pU b E f) p))) (es (eN (pT b E (pU b E f) p))) (rC (cM T R S I L D C pa pl sa) (pT b E (pU b E f) p) (fun _ => none) (tRl b E p k (f + 1) P K tk dr))
section A6
variable {Γ : Gam} {d : Nat} {T : JT} {R S : JR} {I C P K : JI} {L : JL} {D : JD} {tk dr : Int64} {pa pl sa E p : Nat} {F : JV} {b : Nat → Nat}
theorem lp_ct (hp : hPa T R pa) (hb : pB_ C b E) (hd : hDj pa pl sa) (hpl : hPl T R pl) {f k : Nat} (hf : f ≤ 10) (hU : kUn Γ T R S I L D C pa pl sa b E f) {RES : Res Tst} (hcp : cP6 P) (hkp : 2 * k ≤ p) : ∀ (n i : Nat) (t : Tst) (q : Nat) (Fa : JV) (Pq1 : JI) (v4 : Option Value), i + n = 1200 → tRl b E p k (f + 1) P K tk dr t q Fa Pq1 K tk dr → pL b E (pU b E f) n t q = RES → JJ Γ (jj_E Y_X2_readTest) (jj_Z Γ (rC (cM T R S I L D C pa pl sa) RES (fun _ => none) (tRl b E p k (f + 1) P K tk dr)) (ec (eN RES)) (es (eN RES))) (jj_rm (d + 2 * f + 10) (ec (eN RES)) (es (eN RES))) 0 0 8 [some (.ref pa), some (.ref (pl + 11)), some (.int (nI (10 - f))), some (.int (nI i)), v4] [] (cM T R S I L D C pa pl sa Fa Pq1 K tk dr) := by
  have h12 := hb.1
  intro n
  induction n with
  | zero =>
    intro i t q Fa Pq1 v4 hi hT hR
    have e : i = 1200 := by omega
    subst e
    subst hR
    refine jj_iload_n (q := 9) dX2_readTest_8 rfl rfl rfl ?_
    refine jj_sipush (v := 1200) (q := 12) dX2_readTest_9 rfl rfl ?_
    refine jj_icmp_ge (q := 15) (tgt := 74) dX2_readTest_12 rfl rfl (fun h12 => ?_) (fun h12 => absurd (nI_le (a := 1200) (b := 1200) (Nat.le_refl _) (by omega)) h12)
    refine jj_vret dX2_readTest_74 rfl (Nat.zero_le _) (Nat.zero_le _) ?_
    exact ⟨rfl, _, _, _, _, _, hT, rfl⟩
  | succ n ih =>
    intro i t q Fa Pq1 v4 hi hT hR
    have hT0 := hT
    obtain ⟨⟨hs, _, _, _⟩, k1, a1, a2, a3, a4, a5, a6⟩ := hT
    have hqE := hs.2.1
    have hp1 := hT0.p6 hcp
    have hnx := hs.st
    have hnE := (tN_bd (b := b) hqE).2.1
    have lt12 : ¬ (1200 : Int32) ≤ nI i := nI_ge (a := i) (b := 1200) (by omega) (by omega)
    by_cases wAnd : isW b E q wd_and = true
    · have hw := isW_n hqE wAnd
      have hl3 : wd_and.length = 3 := rfl
      rw [show pL b E (pU b E f) (n + 1) t q = (pU b E f (tN b E q)).bd (fun t2 q2 => pL b E (pU b E f) n (opT true t t2) q2) from if_pos wAnd] at hR
      refine jj_iload_n (q := 9) dX2_readTest_8 rfl rfl rfl ?_
      refine jj_sipush (v := 1200) (q := 12) dX2_readTest_9 rfl rfl ?_
      refine jj_icmp_ge (q := 15) (tgt := 74) dX2_readTest_12 rfl rfl (fun h12 => absurd h12 (lt12)) (fun h12 => ?_)
      refine jj_aload_n (q := 16) dX2_readTest_15 rfl rfl rfl ?_
      refine jj_ldcS (q := 18) dX2_readTest_16 ks_X2_226 rfl ?_
      refine jj_cV1i (q := 21) dX2_readTest_18 yk_X2_isWord ml_X2_131 hp.t0 (ex_isWord hp hb hs.2.1 hs.1 ks_X2_226 wl_and (by decide) (by decide)) rfl rfl rfl ⟨Nat.zero_le _, Nat.zero_le _⟩ ?_
      refine jj_if_ne (q := 24) (tgt := 33) dX2_readTest_21 rfl rfl (fun h21 => ?_) (fun h21 => by exfalso; exact absurd ((if_pos wAnd).symm.trans h21) (by decide))
      refine jj_aload_n (q := 34) dX2_readTest_33 rfl rfl rfl ?_
      refine jj_ldcS (q := 36) dX2_readTest_34 ks_X2_226 rfl ?_
      refine jj_cV1i (q := 39) dX2_readTest_36 yk_X2_isWord ml_X2_131 hp.t0 (ex_isWord hp hb hs.2.1 hs.1 ks_X2_226 wl_and (by decide) (by decide)) rfl rfl rfl ⟨Nat.zero_le _, Nat.zero_le _⟩ ?_
      refine jj_if_eq (q := 42) (tgt := 47) dX2_readTest_39 rfl rfl (fun h39 => by exfalso; exact absurd ((if_pos wAnd).symm.trans h39) (by decide)) (fun h39 => ?_)
      refine jj_bipush (v := 16) (q := 44) dX2_readTest_42 rfl rfl ?_
      refine jj_goto (tgt := 49) dX2_readTest_44 rfl ?_
      refine jj_istore (q := 51) dX2_readTest_49 (by decide) rfl ?_
      refine jj_aload_n (q := 52) dX2_readTest_51 rfl rfl rfl ?_
      refine jj_cV0v (q := 55) dX2_readTest_52 yk_X2_step ml_X2_58 hp.t0 (ct_step (d := d + 2 * f + 5) hp hb hs) rfl rfl rfl ⟨Nat.zero_le _, Nat.zero_le _⟩ ?_
      refine jj_aload_n (q := 56) dX2_readTest_55 rfl rfl rfl ?_
      refine jj_aload_n (q := 57) dX2_readTest_56 rfl rfl rfl ?_
      refine jj_iload_n (q := 58) dX2_readTest_57 rfl rfl rfl ?_
      refine jj_tV2v (q := 61) dX2_readTest_58 yk_X2_readUnit ml_X2_223 hp.t0 (hU d (tN b E q) k1 _ Pq1 K tk dr hnx hp1 a1 (by omega)) rfl rfl rfl rfl ((fun e h => by rw [← hR, h]; rfl)) (fun x58 pp58 F58 P58 K58 t58 r58 h58 R58 => ?_)
      have Rq0 := R58
      obtain ⟨⟨s58, rfl, rfl, rfl⟩, k2, b1, b2, b3, b4, b5, b6⟩ := R58
      have hc58 := Rq0.p6 hp1
      have hE58 := s58.2.1
      rw [h58, Res.bd_r] at hR
      dsimp only at hR
      refine jj_aload_n (q := 62) dX2_readTest_61 rfl rfl rfl ?_
      refine jj_iload (q := 64) dX2_readTest_62 rfl rfl ?_
      refine jj_iconst (v := 0) (q := 65) dX2_readTest_64 rfl rfl ?_
      refine jj_cV2v (q := 68) dX2_readTest_65 yk_X5_addPart ml_X2_230 hpl.t11 (ct_addPart (d := d + 2 * f + 8) hd hpl b1 (by omega)) rfl rfl rfl ⟨Nat.zero_le _, Nat.zero_le _⟩ ?_
      refine jj_iinc (v := nI (i + 1)) (q := 71) dX2_readTest_68 rfl (nI_incn i 1 rfl) (by decide) rfl ?_
      refine jj_goto (tgt := 8) dX2_readTest_71 rfl ?_
      have hrel : tRl b E p k (f + 1) P K tk dr (opT true t x58) pp58 F58 (adP P58 k2 16 0) K tk dr := by
        refine ⟨⟨s58, rfl, rfl, rfl⟩, k2 + 1, adP_11, by omega, by omega, fun c j h1 h2 h3 => ?_, fun j hj => ?_, ?_⟩
        · rw [adP_o h1 h2 h3, b4 c j h1 h2 h3]; exact a4 c j h1 h2 h3
        · rw [adP_13, adP_14, if_neg (by omega), if_neg (by omega), (b5 j (by omega)).1, (b5 j (by omega)).2]; exact a5 j hj
        · refine cdR.op (e := f) ((a6.cg (fun j h1 h2 => ⟨(b5 j h2).1.symm, (b5 j h2).2.symm⟩)).ad b2) (b6.ad (Nat.le_refl _)) ?_ (by omega)
          rw [adP_13, if_pos rfl]
          rfl
      exact ih (i + 1) _ _ _ _ _ (by omega) hrel hR
    · by_cases wOr : isW b E q wd_or = true
      · have hw := isW_n hqE wOr
        have hl3 : wd_or.length = 2 := rfl
        rw [show pL b E (pU b E f) (n + 1) t q = (pU b E f (tN b E q)).bd (fun t2 q2 => pL b E (pU b E f) n (opT false t t2) q2) from (if_neg wAnd).trans (if_pos wOr)] at hR
        refine jj_iload_n (q := 9) dX2_readTest_8 rfl rfl rfl ?_
        refine jj_sipush (v := 1200) (q := 12) dX2_readTest_9 rfl rfl ?_
        refine jj_icmp_ge (q := 15) (tgt := 74) dX2_readTest_12 rfl rfl (fun h12 => absurd h12 (lt12)) (fun h12 => ?_)
        refine jj_aload_n (q := 16) dX2_readTest_15 rfl rfl rfl ?_
        refine jj_ldcS (q := 18) dX2_readTest_16 ks_X2_226 rfl ?_
        refine jj_cV1i (q := 21) dX2_readTest_18 yk_X2_isWord ml_X2_131 hp.t0 (ex_isWord hp hb hs.2.1 hs.1 ks_X2_226 wl_and (by decide) (by decide)) rfl rfl rfl ⟨Nat.zero_le _, Nat.zero_le _⟩ ?_
        refine jj_if_ne (q := 24) (tgt := 33) dX2_readTest_21 rfl rfl (fun h21 => by exfalso; exact h21 (if_neg wAnd)) (fun h21 => ?_)
        refine jj_aload_n (q := 25) dX2_readTest_24 rfl rfl rfl ?_
        refine jj_ldcS (q := 27) dX2_readTest_25 ks_X2_228 rfl ?_
        refine jj_cV1i (q := 30) dX2_readTest_27 yk_X2_isWord ml_X2_131 hp.t0 (ex_isWord hp hb hs.2.1 hs.1 ks_X2_228 wl_or (by decide) (by decide)) rfl rfl rfl ⟨Nat.zero_le _, Nat.zero_le _⟩ ?_
        refine jj_if_eq (q := 33) (tgt := 74) dX2_readTest_30 rfl rfl (fun h30 => by exfalso; exact absurd ((if_pos wOr).symm.trans h30) (by decide)) (fun h30 => ?_)
        refine jj_aload_n (q := 34) dX2_readTest_33 rfl rfl rfl ?_
        refine jj_ldcS (q := 36) dX2_readTest_34 ks_X2_226 rfl ?_
        refine jj_cV1i (q := 39) dX2_readTest_36 yk_X2_isWord ml_X2_131 hp.t0 (ex_isWord hp hb hs.2.1 hs.1 ks_X2_226 wl_and (by decide) (by decide)) rfl rfl rfl ⟨Nat.zero_le _, Nat.zero_le _⟩ ?_
        refine jj_if_eq (q := 42) (tgt := 47) dX2_readTest_39 rfl rfl (fun h39 => ?_) (fun h39 => absurd (if_neg wAnd) h39)
        refine jj_bipush (v := 17) (q := 49) dX2_readTest_47 rfl rfl ?_
        refine jj_istore (q := 51) dX2_readTest_49 (by decide) rfl ?_
        refine jj_aload_n (q := 52) dX2_readTest_51 rfl rfl rfl ?_
        refine jj_cV0v (q := 55) dX2_readTest_52 yk_X2_step ml_X2_58 hp.t0 (ct_step (d := d + 2 * f + 5) hp hb hs) rfl rfl rfl ⟨Nat.zero_le _, Nat.zero_le _⟩ ?_
        refine jj_aload_n (q := 56) dX2_readTest_55 rfl rfl rfl ?_
        refine jj_aload_n (q := 57) dX2_readTest_56 rfl rfl rfl ?_
        refine jj_iload_n (q := 58) dX2_readTest_57 rfl rfl rfl ?_
        refine jj_tV2v (q := 61) dX2_readTest_58 yk_X2_readUnit ml_X2_223 hp.t0 (hU d (tN b E q) k1 _ Pq1 K tk dr hnx hp1 a1 (by omega)) rfl rfl rfl rfl ((fun e h => by rw [← hR, h]; rfl)) (fun x58 pp58 F58 P58 K58 t58 r58 h58 R58 => ?_)
        have Rq0 := R58
        obtain ⟨⟨s58, rfl, rfl, rfl⟩, k2, b1, b2, b3, b4, b5, b6⟩ := R58
        have hc58 := Rq0.p6 hp1
        have hE58 := s58.2.1
        rw [h58, Res.bd_r] at hR
        dsimp only at hR
        refine jj_aload_n (q := 62) dX2_readTest_61 rfl rfl rfl ?_
        refine jj_iload (q := 64) dX2_readTest_62 rfl rfl ?_
        refine jj_iconst (v := 0) (q := 65) dX2_readTest_64 rfl rfl ?_
        refine jj_cV2v (q := 68) dX2_readTest_65 yk_X5_addPart ml_X2_230 hpl.t11 (ct_addPart (d := d + 2 * f + 8) hd hpl b1 (by omega)) rfl rfl rfl ⟨Nat.zero_le _, Nat.zero_le _⟩ ?_
        refine jj_iinc (v := nI (i + 1)) (q := 71) dX2_readTest_68 rfl (nI_incn i 1 rfl) (by decide) rfl ?_
        refine jj_goto (tgt := 8) dX2_readTest_71 rfl ?_
        have hrel : tRl b E p k (f + 1) P K tk dr (opT false t x58) pp58 F58 (adP P58 k2 17 0) K tk dr := by
          refine ⟨⟨s58, rfl, rfl, rfl⟩, k2 + 1, adP_11, by omega, by omega, fun c j h1 h2 h3 => ?_, fun j hj => ?_, ?_⟩
          · rw [adP_o h1 h2 h3, b4 c j h1 h2 h3]; exact a4 c j h1 h2 h3
          · rw [adP_13, adP_14, if_neg (by omega), if_neg (by omega), (b5 j (by omega)).1, (b5 j (by omega)).2]; exact a5 j hj
          · refine cdR.op (e := f) ((a6.cg (fun j h1 h2 => ⟨(b5 j h2).1.symm, (b5 j h2).2.symm⟩)).ad b2) (b6.ad (Nat.le_refl _)) ?_ (by omega)
            rw [adP_13, if_pos rfl]
            rfl
        exact ih (i + 1) _ _ _ _ _ (by omega) hrel hR
      · rw [show pL b E (pU b E f) (n + 1) t q = .inr (t, q) from (if_neg wAnd).trans (if_neg wOr)] at hR
        subst hR
        refine jj_iload_n (q := 9) dX2_readTest_8 rfl rfl rfl ?_
        refine jj_sipush (v := 1200) (q := 12) dX2_readTest_9 rfl rfl ?_
        refine jj_icmp_ge (q := 15) (tgt := 74) dX2_readTest_12 rfl rfl (fun h12 => absurd h12 (lt12)) (fun h12 => ?_)
        refine jj_aload_n (q := 16) dX2_readTest_15 rfl rfl rfl ?_
        refine jj_ldcS (q := 18) dX2_readTest_16 ks_X2_226 rfl ?_
        refine jj_cV1i (q := 21) dX2_readTest_18 yk_X2_isWord ml_X2_131 hp.t0 (ex_isWord hp hb hs.2.1 hs.1 ks_X2_226 wl_and (by decide) (by decide)) rfl rfl rfl ⟨Nat.zero_le _, Nat.zero_le _⟩ ?_
        refine jj_if_ne (q := 24) (tgt := 33) dX2_readTest_21 rfl rfl (fun h21 => by exfalso; exact h21 (if_neg wAnd)) (fun h21 => ?_)
        refine jj_aload_n (q := 25) dX2_readTest_24 rfl rfl rfl ?_
        refine jj_ldcS (q := 27) dX2_readTest_25 ks_X2_228 rfl ?_
        refine jj_cV1i (q := 30) dX2_readTest_27 yk_X2_isWord ml_X2_131 hp.t0 (ex_isWord hp hb hs.2.1 hs.1 ks_X2_228 wl_or (by decide) (by decide)) rfl rfl rfl ⟨Nat.zero_le _, Nat.zero_le _⟩ ?_
        refine jj_if_eq (q := 33) (tgt := 74) dX2_readTest_30 rfl rfl (fun h30 => ?_) (fun h30 => absurd (if_neg wOr) h30)
        refine jj_vret dX2_readTest_74 rfl (Nat.zero_le _) (Nat.zero_le _) ?_
        exact ⟨rfl, _, _, _, _, _, hT0, rfl⟩
theorem ct_test (hp : hPa T R pa) (hb : pB_ C b E) (hd : hDj pa pl sa) (hpl : hPl T R pl) {f : Nat} (hf : f ≤ 10) (hU : kUn Γ T R S I L D C pa pl sa b E f) : kTe Γ T R S I L D C pa pl sa b E f := by
  intro d p k F P K tk dr hs hcp hk hkp
  generalize hR : pT b E (pU b E f) p = RES
  unfold pT at hR
  refine Ex.of (by decide) (by simp [Value.category]) (Nat.le_of_ble_eq_true rfl) rfl ?_
  refine jj_aload_n (q := 1) dX2_readTest_0 rfl rfl rfl ?_
  refine jj_aload_n (q := 2) dX2_readTest_1 rfl rfl rfl ?_
  refine jj_iload_n (q := 3) dX2_readTest_2 rfl rfl rfl ?_
  refine jj_tV2v (q := 6) dX2_readTest_3 yk_X2_readUnit ml_X2_223 hp.t0 (hU d p k F P K tk dr hs hcp hk hkp) rfl rfl rfl rfl ((fun e h => by rw [← hR, h]; rfl)) (fun x3 pp3 F3 P3 K3 t3 r3 h3 R3 => ?_)
  rw [h3, Res.bd_r] at hR
  dsimp only at hR
  obtain ⟨⟨s3, rfl, rfl, rfl⟩, k2, b1, b2, b3, b4, b5, b6⟩ := R3
  refine jj_iconst (v := 0) (q := 7) dX2_readTest_6 rfl rfl ?_
  refine jj_istore_n (q := 8) dX2_readTest_7 rfl (by decide) rfl ?_
  exact lp_ct hp hb hd hpl hf hU hcp hkp 1200 0 _ _ _ _ _ (by omega) ⟨⟨s3, rfl, rfl, rfl⟩, k2, b1, b2, b3, b4, b5, b6.up (by omega)⟩ hR
theorem cun_head (hp : hPa T R pa) (hb : pB_ C b E) (hs : cSt b E p F) (hcp : cP6 P) (hd : hDj pa pl sa) (hpl : hPl T R pl) {f k : Nat} {RES : Res Tst} (hR : pU b E f p = RES) (h33 : ¬ noT b E p = true → JJ Γ (jj_E Y_X2_readUnit) (jj_Z Γ (rC (cM T R S I L D C pa pl sa) RES (fun _ => none) (tRl b E p k f P K tk dr)) (ec (eN RES)) (es (eN RES))) (jj_rm (d + 2 * f + 9) (ec (eN RES)) (es (eN RES))) 0 0 33 [some (.ref pa), some (.ref (pl + 11)), some (.int (nI (10 - f))), some (.int (if wV b E p = 5 then -1 else nI (wV b E p))), none] [] (cM T R S I L D C pa pl sa F P K tk dr)) : JJ Γ (jj_E Y_X2_readUnit) (jj_Z Γ (rC (cM T R S I L D C pa pl sa) RES (fun _ => none) (tRl b E p k f P K tk dr)) (ec (eN RES)) (es (eN RES))) (jj_rm (d + 2 * f + 9) (ec (eN RES)) (es (eN RES))) 0 0 0 [some (.ref pa), some (.ref (pl + 11)), some (.int (nI (10 - f))), none, none] [] (cM T R S I L D C pa pl sa F P K tk dr) := by
  by_cases hn : noT b E p = true
  · have hn0 := hn
    unfold noT at hn0
    rw [Bool.and_eq_true, Bool.and_eq_true, decide_eq_true_iff] at hn0
    have n1 : ¬ isW b E p wd_not = true := fun w => by have := hn0.1.2; rw [w] at this; cases this
    have n2 : ¬ isS b E p 40 = true := fun w => by have := hn0.2; rw [w] at this; cases this
    have e : pU b E f p = .inl (1, tS b E p) := by
      cases f with
      | zero => exact if_pos hn
      | succ f => exact if_pos hn
    rw [e] at hR
    subst hR
    have hv : (if wV b E p = 5 then -1 else nI (wV b E p)) = -1 := if_pos hn0.1.1
    refine jj_aload_n (q := 1) dX2_readUnit_0 rfl rfl rfl ?_
    refine jj_cV0i (q := 4) dX2_readUnit_1 yk_X2_valueWord ml_X2_233 hp.t0 (ct_valueWord (d := d + 2 * f + 3) hp hb hs hcp hd hpl) rfl rfl rfl ⟨Nat.zero_le _, Nat.zero_le _⟩ ?_
    refine jj_istore_n (q := 5) dX2_readUnit_4 rfl (by decide) rfl ?_
    refine jj_iload_n (q := 6) dX2_readUnit_5 rfl rfl rfl ?_
    refine jj_iconst (v := -1) (q := 7) dX2_readUnit_6 rfl rfl ?_
    refine jj_icmp_ne (q := 10) (tgt := 33) dX2_readUnit_7 rfl rfl (fun h7 => by exfalso; exact h7 hv) (fun h7 => ?_)
    refine jj_aload_n (q := 11) dX2_readUnit_10 rfl rfl rfl ?_
    refine jj_ldcS (q := 13) dX2_readUnit_11 ks_X2_237 rfl ?_
    refine jj_cV1i (q := 16) dX2_readUnit_13 yk_X2_isWord ml_X2_131 hp.t0 (ex_isWord hp hb hs.2.1 hs.1 ks_X2_237 wl_not (by decide) (by decide)) rfl rfl rfl ⟨Nat.zero_le _, Nat.zero_le _⟩ ?_
    refine jj_if_ne (q := 19) (tgt := 33) dX2_readUnit_16 rfl rfl (fun h16 => by exfalso; exact h16 (if_neg n1)) (fun h16 => ?_)
    refine jj_aload_n (q := 20) dX2_readUnit_19 rfl rfl rfl ?_
    refine jj_bipush (v := 40) (q := 22) dX2_readUnit_20 rfl rfl ?_
    refine jj_cV1i (q := 25) dX2_readUnit_22 yk_X2_isSign ml_X2_65 hp.t0 (ex_isSign hp hb hs.2.1 hs.1 (c := 40) (by decide)) rfl rfl rfl ⟨Nat.zero_le _, Nat.zero_le _⟩ ?_
    refine jj_if_ne (q := 28) (tgt := 33) dX2_readUnit_25 rfl rfl (fun h25 => by exfalso; exact h25 (if_neg n2)) (fun h25 => ?_)
    refine jj_aload_n (q := 29) dX2_readUnit_28 rfl rfl rfl ?_
    refine jj_iconst (v := 1) (q := 30) dX2_readUnit_29 rfl rfl ?_
    refine jj_xV1 (q := 33) dX2_readUnit_30 yk_X2_fail ml_X2_72 hp.t0 (ct_fail (d := d + 2 * f + 2) hp hb hs hcp (c := 1)) rfl rfl rfl ⟨Nat.le_refl _, Nat.le_refl _⟩ rfl (Nat.le_refl _) (Nat.le_refl _) ?_
    exact rC_x hs hcp
  · have hn0 := hn
    unfold noT at hn0
    rw [Bool.and_eq_true, Bool.and_eq_true, decide_eq_true_iff] at hn0
    by_cases hw : wV b E p = 5
    · have hv : (if wV b E p = 5 then -1 else nI (wV b E p)) = -1 := if_pos hw
      by_cases n1 : isW b E p wd_not = true
      · skip
        refine jj_aload_n (q := 1) dX2_readUnit_0 rfl rfl rfl ?_
        refine jj_cV0i (q := 4) dX2_readUnit_1 yk_X2_valueWord ml_X2_233 hp.t0 (ct_valueWord (d := d + 2 * f + 3) hp hb hs hcp hd hpl) rfl rfl rfl ⟨Nat.zero_le _, Nat.zero_le _⟩ ?_
        refine jj_istore_n (q := 5) dX2_readUnit_4 rfl (by decide) rfl ?_
        refine jj_iload_n (q := 6) dX2_readUnit_5 rfl rfl rfl ?_
        refine jj_iconst (v := -1) (q := 7) dX2_readUnit_6 rfl rfl ?_
        refine jj_icmp_ne (q := 10) (tgt := 33) dX2_readUnit_7 rfl rfl (fun h7 => by exfalso; exact h7 hv) (fun h7 => ?_)
        refine jj_aload_n (q := 11) dX2_readUnit_10 rfl rfl rfl ?_
        refine jj_ldcS (q := 13) dX2_readUnit_11 ks_X2_237 rfl ?_
        refine jj_cV1i (q := 16) dX2_readUnit_13 yk_X2_isWord ml_X2_131 hp.t0 (ex_isWord hp hb hs.2.1 hs.1 ks_X2_237 wl_not (by decide) (by decide)) rfl rfl rfl ⟨Nat.zero_le _, Nat.zero_le _⟩ ?_
        refine jj_if_ne (q := 19) (tgt := 33) dX2_readUnit_16 rfl rfl (fun h16 => ?_) (fun h16 => by exfalso; exact absurd ((if_pos n1).symm.trans h16) (by decide))
        exact h33 hn
      · have n2 : isS b E p 40 = true := by
          cases h9 : isS b E p 40 with
          | true => rfl
          | false =>
            have h8 : isW b E p wd_not = false := by simpa using n1
            exact absurd ⟨⟨hw, by rw [h8]; rfl⟩, by rw [h9]; rfl⟩ hn0
        refine jj_aload_n (q := 1) dX2_readUnit_0 rfl rfl rfl ?_
        refine jj_cV0i (q := 4) dX2_readUnit_1 yk_X2_valueWord ml_X2_233 hp.t0 (ct_valueWord (d := d + 2 * f + 3) hp hb hs hcp hd hpl) rfl rfl rfl ⟨Nat.zero_le _, Nat.zero_le _⟩ ?_
        refine jj_istore_n (q := 5) dX2_readUnit_4 rfl (by decide) rfl ?_
        refine jj_iload_n (q := 6) dX2_readUnit_5 rfl rfl rfl ?_
        refine jj_iconst (v := -1) (q := 7) dX2_readUnit_6 rfl rfl ?_
        refine jj_icmp_ne (q := 10) (tgt := 33) dX2_readUnit_7 rfl rfl (fun h7 => by exfalso; exact h7 hv) (fun h7 => ?_)
        refine jj_aload_n (q := 11) dX2_readUnit_10 rfl rfl rfl ?_
        refine jj_ldcS (q := 13) dX2_readUnit_11 ks_X2_237 rfl ?_
        refine jj_cV1i (q := 16) dX2_readUnit_13 yk_X2_isWord ml_X2_131 hp.t0 (ex_isWord hp hb hs.2.1 hs.1 ks_X2_237 wl_not (by decide) (by decide)) rfl rfl rfl ⟨Nat.zero_le _, Nat.zero_le _⟩ ?_
        refine jj_if_ne (q := 19) (tgt := 33) dX2_readUnit_16 rfl rfl (fun h16 => by exfalso; exact h16 (if_neg n1)) (fun h16 => ?_)
        refine jj_aload_n (q := 20) dX2_readUnit_19 rfl rfl rfl ?_
        refine jj_bipush (v := 40) (q := 22) dX2_readUnit_20 rfl rfl ?_
        refine jj_cV1i (q := 25) dX2_readUnit_22 yk_X2_isSign ml_X2_65 hp.t0 (ex_isSign hp hb hs.2.1 hs.1 (c := 40) (by decide)) rfl rfl rfl ⟨Nat.zero_le _, Nat.zero_le _⟩ ?_
        refine jj_if_ne (q := 28) (tgt := 33) dX2_readUnit_25 rfl rfl (fun h25 => ?_) (fun h25 => by exfalso; exact absurd ((if_pos n2).symm.trans h25) (by decide))
        exact h33 hn
    · have hv : ¬ (if wV b E p = 5 then -1 else nI (wV b E p)) = -1 := by
        rw [if_neg hw]
        exact fun w => nI_ltz (k := wV b E p) (by have := (wV_w hs.2.1 hw).1; omega) (by rw [w]; decide)
      refine jj_aload_n (q := 1) dX2_readUnit_0 rfl rfl rfl ?_
      refine jj_cV0i (q := 4) dX2_readUnit_1 yk_X2_valueWord ml_X2_233 hp.t0 (ct_valueWord (d := d + 2 * f + 3) hp hb hs hcp hd hpl) rfl rfl rfl ⟨Nat.zero_le _, Nat.zero_le _⟩ ?_
      refine jj_istore_n (q := 5) dX2_readUnit_4 rfl (by decide) rfl ?_
      refine jj_iload_n (q := 6) dX2_readUnit_5 rfl rfl rfl ?_
      refine jj_iconst (v := -1) (q := 7) dX2_readUnit_6 rfl rfl ?_
      refine jj_icmp_ne (q := 10) (tgt := 33) dX2_readUnit_7 rfl rfl (fun h7 => ?_) (fun h7 => by exfalso; exact hv h7)
      exact h33 hn
end A6
