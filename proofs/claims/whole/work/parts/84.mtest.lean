/-! TESTS of the model: test -/
def cUn (Γ : Gam) (T : JT) (R S : JR) (I : JI) (L : JL) (D : JD) (z : Option Nat) (mo : Nat) (b : Nat → Nat) (E f : Nat) : Prop := ∀ (d bq k p slk dq : Nat) (A : JI) (G : JV), mB_ A b E → mSt b E (.inr ((), p)) G → G 25 = nI bq → bq ≤ 1 → G 26 = nI k → 2 * k + slk ≤ p → G 27 = nI dq → dq + f = 10 → Ex Γ (d + 3 * f + 8) Y_X9_unit [.ref mo] (T, R, S, blk 18 I mo (st A 0 G), L, D, z) 0 0 (rPi (uP b E bq k p slk (2 * f) f (pU b E f p) A G) (fun A' G' => (T, R, S, blk 18 I mo (st A' 0 G'), L, D, z)))
def cTe (Γ : Gam) (T : JT) (R S : JR) (I : JI) (L : JL) (D : JD) (z : Option Nat) (mo : Nat) (b : Nat → Nat) (E f : Nat) : Prop := ∀ (d bq k p slk dq : Nat) (A : JI) (G : JV), mB_ A b E → mSt b E (.inr ((), p)) G → G 25 = nI bq → bq ≤ 1 → G 26 = nI k → 2 * k + slk ≤ p → G 27 = nI dq → dq + f = 10 → Ex Γ (d + 3 * f + 9) Y_X9_test [.ref mo] (T, R, S, blk 18 I mo (st A 0 G), L, D, z) 0 0 (rPi (uP b E bq k p slk (2 * f + 1) (f + 1) (pT b E (pU b E f) p) A G) (fun A' G' => (T, R, S, blk 18 I mo (st A' 0 G'), L, D, z)))
section M84
variable {Γ : Gam} {d : Nat} {T : JT} {R S : JR} {I A : JI} {L : JL} {D : JD} {z : Option Nat} {mo E : Nat} {G N X : JV} {b : Nat → Nat} {r : Res Unit}
theorem te_x (hm : hMo T S mo) (hb : mB_ A b E) {e : Nat × Nat} (hs : mSt b E (.inl e) G) {n f : Nat} {x2 x3 : Option Value} {Pq : Nat → JI → JV → Prop} (hP : Pq n A G) : JJ Γ (jj_E Y_X9_test) (jj_Z Γ (rPi Pq (fun A' G' => (T, R, S, blk 18 I mo (st A' 0 G'), L, D, z))) 0 0) (jj_rm (d + 3 * f + 9) 0 0) 0 0 5 [some (.ref mo), some (.int (nI n)), x2, x3] [] (T, R, S, blk 18 I mo (st A 0 G), L, D, z) := by
  refine jj_aload_n (q := 6) dX9_test_5 rfl rfl rfl ?_
  refine jj_ldcS (q := 8) dX9_test_6 ks_X9_181 rfl ?_
  refine jj_cV1i (q := 11) dX9_test_8 yk_X9_isWord ml_X9_130 hm.t0 (exM_word hm hb hs ks_X9_181 wl_and (by decide) (by decide)) rfl rfl rfl ⟨Nat.zero_le _, Nat.zero_le _⟩ ?_
  refine jj_if_ne (q := 14) (tgt := 23) dX9_test_11 rfl rfl (fun h11 => by exfalso; exact h11 rfl) (fun h11 => ?_)
  refine jj_aload_n (q := 15) dX9_test_14 rfl rfl rfl ?_
  refine jj_ldcS (q := 17) dX9_test_15 ks_X9_183 rfl ?_
  refine jj_cV1i (q := 20) dX9_test_17 yk_X9_isWord ml_X9_130 hm.t0 (exM_word hm hb hs ks_X9_183 wl_or (by decide) (by decide)) rfl rfl rfl ⟨Nat.zero_le _, Nat.zero_le _⟩ ?_
  refine jj_if_eq (q := 23) (tgt := 70) dX9_test_20 rfl rfl (fun h20 => ?_) (fun h20 => absurd (rfl) h20)
  refine jj_iload_n (q := 71) dX9_test_70 rfl rfl rfl ?_
  refine jj_iret dX9_test_71 rfl (Nat.zero_le _) (Nat.zero_le _) ?_
  exact ⟨n, A, G, hP, rfl, rfl⟩
theorem lp_te (hm : hMo T S mo) (hE : E ≤ 1200) {f : Nat} (hf : f ≤ 10) (hU : cUn Γ T R S I L D z mo b E f) {bq k p slk dq : Nat} {RES : Res Tst} (hb : mB_ A b E) (h25 : G 25 = nI bq) (hbq : bq ≤ 1) (h27 : G 27 = nI dq) (hdq : dq + f = 10) : ∀ (fu : Nat) (t : Tst) (q n1 : Nat) (A1 : JI) (Ga : JV) (x2 x3 : Option Value), E - q ≤ fu → uP b E bq k p slk (2 * f) (f + 1) (.inr (t, q)) A G n1 A1 Ga → pL b E (pU b E f) fu t q = RES → JJ Γ (jj_E Y_X9_test) (jj_Z Γ (rPi (uP b E bq k p slk (2 * f + 1) (f + 1) RES A G) (fun A' G' => (T, R, S, blk 18 I mo (st A' 0 G'), L, D, z))) 0 0) (jj_rm (d + 3 * f + 9) 0 0) 0 0 5 [some (.ref mo), some (.int (nI n1)), x2, x3] [] (T, R, S, blk 18 I mo (st A1 0 Ga), L, D, z) := by
  intro fu
  induction fu with
  | zero =>
    intro t q n1 A1 Ga x2 x3 hfu hu hR
    have hfin : (uP b E bq k p slk (2 * f + 1) (f + 1) RES A G) n1 A1 Ga := by
      rw [← hR]
      obtain ⟨k1, hc1, hc2, hc3, hc4, hc5, hc6⟩ := hu
      exact ⟨k1, hc1, by omega, hc3, hc4, hc5, hc6⟩
    obtain ⟨k1, hc1, hc2, hc3, hc4, hc5, hc6⟩ := hu
    have hqE : q ≤ E := hc5.2.1
    have hbb := hb.a hc4
    have hs1 : mSt b E (.inr ((), q)) Ga := hc5
    have hno : ∀ l, ¬ isW b E q l = true := fun l hl => by
      have h1 := isW_n hqE hl
      have h2 := (tN_bd (b := b) hqE).2
      have := h2.2.2 (by omega)
      omega
    refine jj_aload_n (q := 6) dX9_test_5 rfl rfl rfl ?_
    refine jj_ldcS (q := 8) dX9_test_6 ks_X9_181 rfl ?_
    refine jj_cV1i (q := 11) dX9_test_8 yk_X9_isWord ml_X9_130 hm.t0 (exM_word hm hbb hs1 ks_X9_181 wl_and (by decide) (by decide)) rfl rfl rfl ⟨Nat.zero_le _, Nat.zero_le _⟩ ?_
    refine jj_if_ne (q := 14) (tgt := 23) dX9_test_11 rfl rfl (fun h11 => by exfalso; exact h11 (if_neg (hno _))) (fun h11 => ?_)
    refine jj_aload_n (q := 15) dX9_test_14 rfl rfl rfl ?_
    refine jj_ldcS (q := 17) dX9_test_15 ks_X9_183 rfl ?_
    refine jj_cV1i (q := 20) dX9_test_17 yk_X9_isWord ml_X9_130 hm.t0 (exM_word hm hbb hs1 ks_X9_183 wl_or (by decide) (by decide)) rfl rfl rfl ⟨Nat.zero_le _, Nat.zero_le _⟩ ?_
    refine jj_if_eq (q := 23) (tgt := 70) dX9_test_20 rfl rfl (fun h20 => ?_) (fun h20 => absurd (if_neg (hno _)) h20)
    refine jj_iload_n (q := 71) dX9_test_70 rfl rfl rfl ?_
    refine jj_iret dX9_test_71 rfl (Nat.zero_le _) (Nat.zero_le _) ?_
    exact ⟨n1, A1, Ga, hfin, rfl, rfl⟩
  | succ fu ih =>
    intro t q n1 A1 Ga x2 x3 hfu hu hR
    have hu0 := hu
    obtain ⟨k1, hc1, hc2, hc3, hc4, hc5, hc6⟩ := hu
    obtain ⟨hc7, hc8, hc9, hc10, hc11⟩ := hc6 (t, q) rfl
    have hqE : q ≤ E := hc5.2.1
    have hbb := hb.a hc4
    have hs1 : mSt b E (.inr ((), q)) Ga := hc5
    have hnb := tN_bd (b := b) hqE
    have hsn : mSt b E (.inr ((), tN b E q)) (gN b E (.inr ((), q)) Ga) := hs1.n
    have e0 : nIx bq k1 = (1 - bq) * 700 + k1 := rfl
    have e2 : nIx bq k = (1 - bq) * 700 + k := rfl
    have e3 : nIx bq 700 = (1 - bq) * 700 + 700 := rfl
    have a25 : gN b E (.inr ((), q)) Ga 25 = nI bq := (gN_o (by omega)).trans ((hc3.2 25 (by omega) (by omega)).trans h25)
    have a26 : gN b E (.inr ((), q)) Ga 26 = nI k1 := (gN_o (by omega)).trans hc3.1
    have a27 : gN b E (.inr ((), q)) Ga 27 = nI dq := (gN_o (by omega)).trans ((hc3.2 27 (by omega) (by omega)).trans h27)
    have hrest : ∀ (ob : Bool) (s : Nat) (A2 : JI) (Gb : JV) (x3 : Option Value), tK b E q = 1 → ((pU b E f (tN b E q)).bd (fun t2 q2 => pL b E (pU b E f) fu (opT ob t t2) q2)) = RES → uP b E bq k1 (tN b E q) (slk + 2) (2 * f) f (pU b E f (tN b E q)) A1 (gN b E (.inr ((), q)) Ga) s A2 Gb → JJ Γ (jj_E Y_X9_test) (jj_Z Γ (rPi (uP b E bq k p slk (2 * f + 1) (f + 1) RES A G) (fun A' G' => (T, R, S, blk 18 I mo (st A' 0 G'), L, D, z))) 0 0) (jj_rm (d + 3 * f + 9) 0 0) 0 0 46 [some (.ref mo), some (.int (nI n1)), some (.int (if ob = true then 0 else 1)), x3] [.int (nI s)] (T, R, S, blk 18 I mo (st A2 0 Gb), L, D, z) := by
      intro ob s A2 Gb x3 hk1 hRE hu2
      cases hr : pU b E f (tN b E q) with
      | inl e =>
        rw [hr] at hu2 hRE
        have hu3 := hu2
        obtain ⟨k2, g1, g2, g3, g4, hg5, g6⟩ := hu2
        have e1 : nIx bq k2 = (1 - bq) * 700 + k2 := rfl
        have hse : mSt b E (.inl e) (w1 Gb 26 (nI (k2 + 1))) := mSt.w (r := .inl e) hg5 (by omega)
        have hfin : (uP b E bq k p slk (2 * f + 1) (f + 1) RES A G) (nIx bq k2) (ovA A2 (nIx bq k2) n1 (if ob = true then 0 else 1) (nI n1) (nI s)) (w1 Gb 26 (nI (k2 + 1))) := by
          rw [← hRE]
          exact ⟨k2 + 1, by omega, by omega, (hc3.t (gTs.gn hc3.1)).t (g3.t gTs.k), (hc4.t g4 (by omega)).t (aTs.ov (lo := nIx bq k) (by omega) (by omega) (by omega)) (Nat.le_refl _), hse, fun x hx => by cases hx⟩
        refine jj_istore_n (q := 47) dX9_test_46 rfl (by decide) rfl ?_
        refine jj_aload_n (q := 48) dX9_test_47 rfl rfl rfl ?_
        refine jj_getS (q := 51) dX9_test_48 fl_X9_67 hm.t0 hm.r0_24 rfl rfl rfl ?_
        refine jj_iload_n (q := 52) dX9_test_51 rfl rfl rfl ?_
        refine jj_aload_n (q := 53) dX9_test_52 rfl rfl rfl ?_
        refine jj_iload_n (q := 54) dX9_test_53 rfl rfl rfl ?_
        refine jj_iload_n (q := 55) dX9_test_54 rfl rfl rfl ?_
        refine jj_iload_n (q := 56) dX9_test_55 rfl rfl rfl ?_
        refine jj_cV3i (q := 59) dX9_test_56 yk_X9_node ml_X9_185 hm.t0 (exM_node hm ((g3.2 25 (by omega) (by omega)).trans a25) hbq g3.1 (by omega)) rfl rfl rfl ⟨Nat.zero_le _, Nat.zero_le _⟩ ?_
        refine jj_iastN (q := 60) (j := n1) dX9_test_59 hm.t14 (u2_bsk (by decide) (by decide)) rfl (by omega) rfl ?_
        refine jj_aload_n (q := 61) dX9_test_60 rfl rfl rfl ?_
        refine jj_getS (q := 64) dX9_test_61 fl_X9_67 hm.t0 hm.r0_24 rfl rfl rfl ?_
        refine jj_iload_n (q := 65) dX9_test_64 rfl rfl rfl ?_
        refine jj_ialdW (q := 66) (j := n1) (v := nI (nIx bq k2)) dX9_test_65 hm.t14 (blk_sn (by decide) (by decide)) rfl (by omega) (by simp [nodA, u2]) rfl ?_
        refine jj_istore_n (q := 67) dX9_test_66 rfl (by decide) rfl ?_
        refine jj_goto (tgt := 5) dX9_test_67 rfl ?_
        exact te_x hm ((hbb.a g4).a (aTs.ov (lo := nIx bq k) (hi := nIx bq 700) (by omega) (by omega) (by omega))) hse hfin
      | inr y =>
        rw [hr] at hu2 hRE
        obtain ⟨k2, hd1, hd2, hd3, hd4, hd5⟩ := uP.app (o := ob) (t := t) hbq hE ⟨hc1, hc3, hc4, hc7, hc9, hc10, hc11⟩ hnb.2.2.1 hu2
        obtain ⟨k2x, g1, g2, g3, g4, hg5, g6⟩ := hu2
        have e1 : nIx bq k2 = (1 - bq) * 700 + k2 := rfl
        have hyq := (g6 y rfl).1
        have := hnb.2.2.2 (by omega)
        refine jj_istore_n (q := 47) dX9_test_46 rfl (by decide) rfl ?_
        refine jj_aload_n (q := 48) dX9_test_47 rfl rfl rfl ?_
        refine jj_getS (q := 51) dX9_test_48 fl_X9_67 hm.t0 hm.r0_24 rfl rfl rfl ?_
        refine jj_iload_n (q := 52) dX9_test_51 rfl rfl rfl ?_
        refine jj_aload_n (q := 53) dX9_test_52 rfl rfl rfl ?_
        refine jj_iload_n (q := 54) dX9_test_53 rfl rfl rfl ?_
        refine jj_iload_n (q := 55) dX9_test_54 rfl rfl rfl ?_
        refine jj_iload_n (q := 56) dX9_test_55 rfl rfl rfl ?_
        refine jj_cV3i (q := 59) dX9_test_56 yk_X9_node ml_X9_185 hm.t0 (exM_node hm ((g3.2 25 (by omega) (by omega)).trans a25) hbq hd1 (by omega)) rfl rfl rfl ⟨Nat.zero_le _, Nat.zero_le _⟩ ?_
        refine jj_iastN (q := 60) (j := n1) dX9_test_59 hm.t14 (u2_bsk (by decide) (by decide)) rfl (by omega) rfl ?_
        refine jj_aload_n (q := 61) dX9_test_60 rfl rfl rfl ?_
        refine jj_getS (q := 64) dX9_test_61 fl_X9_67 hm.t0 hm.r0_24 rfl rfl rfl ?_
        refine jj_iload_n (q := 65) dX9_test_64 rfl rfl rfl ?_
        refine jj_ialdW (q := 66) (j := n1) (v := nI (nIx bq k2)) dX9_test_65 hm.t14 (blk_sn (by decide) (by decide)) rfl (by omega) (by simp [nodA, u2]) rfl ?_
        refine jj_istore_n (q := 67) dX9_test_66 rfl (by decide) rfl ?_
        refine jj_goto (tgt := 5) dX9_test_67 rfl ?_
        exact ih _ _ _ _ _ _ _ (by omega) hd5 hRE
    by_cases wAnd : isW b E q wd_and = true
    · have hw := isW_n hqE wAnd
      have hl3 : wd_and.length = 3 := rfl
      have hRE : (pU b E f (tN b E q)).bd (fun t2 q2 => pL b E (pU b E f) fu (opT true t t2) q2) = RES := by rw [← hR]; exact (if_pos wAnd).symm
      refine jj_aload_n (q := 6) dX9_test_5 rfl rfl rfl ?_
      refine jj_ldcS (q := 8) dX9_test_6 ks_X9_181 rfl ?_
      refine jj_cV1i (q := 11) dX9_test_8 yk_X9_isWord ml_X9_130 hm.t0 (exM_word hm hbb hs1 ks_X9_181 wl_and (by decide) (by decide)) rfl rfl rfl ⟨Nat.zero_le _, Nat.zero_le _⟩ ?_
      refine jj_if_ne (q := 14) (tgt := 23) dX9_test_11 rfl rfl (fun h11 => ?_) (fun h11 => by exfalso; exact absurd ((if_pos wAnd).symm.trans h11) (by decide))
      refine jj_aload_n (q := 24) dX9_test_23 rfl rfl rfl ?_
      refine jj_ldcS (q := 26) dX9_test_24 ks_X9_181 rfl ?_
      refine jj_cV1i (q := 29) dX9_test_26 yk_X9_isWord ml_X9_130 hm.t0 (exM_word hm hbb hs1 ks_X9_181 wl_and (by decide) (by decide)) rfl rfl rfl ⟨Nat.zero_le _, Nat.zero_le _⟩ ?_
      refine jj_if_eq (q := 32) (tgt := 36) dX9_test_29 rfl rfl (fun h29 => by exfalso; exact absurd ((if_pos wAnd).symm.trans h29) (by decide)) (fun h29 => ?_)
      refine jj_iconst (v := 0) (q := 33) dX9_test_32 rfl rfl ?_
      refine jj_goto (tgt := 37) dX9_test_33 rfl ?_
      refine jj_istore_n (q := 38) dX9_test_37 rfl (by decide) rfl ?_
      refine jj_aload_n (q := 39) dX9_test_38 rfl rfl rfl ?_
      refine jj_cV0v (q := 42) dX9_test_39 yk_X9_nextToken ml_X9_134 hm.t0 (exM_next hm hbb hs1) rfl rfl rfl ⟨Nat.zero_le _, Nat.zero_le _⟩ ?_
      refine jj_aload_n (q := 43) dX9_test_42 rfl rfl rfl ?_
      refine jj_pV0i (q := 46) dX9_test_43 yk_X9_unit ml_X9_178 hm.t0 (hU (d + 0) bq k1 (tN b E q) (slk + 2) dq A1 _ hbb hsn a25 hbq a26 (by omega) a27 hdq) rfl rfl rfl ⟨Nat.zero_le _, Nat.zero_le _⟩ (fun s A2 Gb hu2 => ?_)
      exact hrest true s A2 Gb _ hw.2 hRE hu2
    · by_cases hor : isW b E q wd_or = true
      · have hw := isW_n hqE hor
        have hl3 : wd_or.length = 2 := rfl
        have hRE : (pU b E f (tN b E q)).bd (fun t2 q2 => pL b E (pU b E f) fu (opT false t t2) q2) = RES := by rw [← hR]; exact ((if_neg wAnd).trans (if_pos hor)).symm
        refine jj_aload_n (q := 6) dX9_test_5 rfl rfl rfl ?_
        refine jj_ldcS (q := 8) dX9_test_6 ks_X9_181 rfl ?_
        refine jj_cV1i (q := 11) dX9_test_8 yk_X9_isWord ml_X9_130 hm.t0 (exM_word hm hbb hs1 ks_X9_181 wl_and (by decide) (by decide)) rfl rfl rfl ⟨Nat.zero_le _, Nat.zero_le _⟩ ?_
        refine jj_if_ne (q := 14) (tgt := 23) dX9_test_11 rfl rfl (fun h11 => by exfalso; exact h11 (if_neg wAnd)) (fun h11 => ?_)
        refine jj_aload_n (q := 15) dX9_test_14 rfl rfl rfl ?_
        refine jj_ldcS (q := 17) dX9_test_15 ks_X9_183 rfl ?_
        refine jj_cV1i (q := 20) dX9_test_17 yk_X9_isWord ml_X9_130 hm.t0 (exM_word hm hbb hs1 ks_X9_183 wl_or (by decide) (by decide)) rfl rfl rfl ⟨Nat.zero_le _, Nat.zero_le _⟩ ?_
        refine jj_if_eq (q := 23) (tgt := 70) dX9_test_20 rfl rfl (fun h20 => by exfalso; exact absurd ((if_pos hor).symm.trans h20) (by decide)) (fun h20 => ?_)
        refine jj_aload_n (q := 24) dX9_test_23 rfl rfl rfl ?_
        refine jj_ldcS (q := 26) dX9_test_24 ks_X9_181 rfl ?_
        refine jj_cV1i (q := 29) dX9_test_26 yk_X9_isWord ml_X9_130 hm.t0 (exM_word hm hbb hs1 ks_X9_181 wl_and (by decide) (by decide)) rfl rfl rfl ⟨Nat.zero_le _, Nat.zero_le _⟩ ?_
        refine jj_if_eq (q := 32) (tgt := 36) dX9_test_29 rfl rfl (fun h29 => ?_) (fun h29 => absurd (if_neg wAnd) h29)
        refine jj_iconst (v := 1) (q := 37) dX9_test_36 rfl rfl ?_
        refine jj_istore_n (q := 38) dX9_test_37 rfl (by decide) rfl ?_
        refine jj_aload_n (q := 39) dX9_test_38 rfl rfl rfl ?_
        refine jj_cV0v (q := 42) dX9_test_39 yk_X9_nextToken ml_X9_134 hm.t0 (exM_next hm hbb hs1) rfl rfl rfl ⟨Nat.zero_le _, Nat.zero_le _⟩ ?_
        refine jj_aload_n (q := 43) dX9_test_42 rfl rfl rfl ?_
        refine jj_pV0i (q := 46) dX9_test_43 yk_X9_unit ml_X9_178 hm.t0 (hU (d + 0) bq k1 (tN b E q) (slk + 2) dq A1 _ hbb hsn a25 hbq a26 (by omega) a27 hdq) rfl rfl rfl ⟨Nat.zero_le _, Nat.zero_le _⟩ (fun s A2 Gb hu2 => ?_)
        exact hrest false s A2 Gb _ hw.2 hRE hu2
      · have hfin : (uP b E bq k p slk (2 * f + 1) (f + 1) RES A G) n1 A1 Ga := by
          rw [← hR, show pL b E (pU b E f) (fu + 1) t q = .inr (t, q) from (if_neg wAnd).trans (if_neg hor)]
          obtain ⟨k1, hc1, hc2, hc3, hc4, hc5, hc6⟩ := hu0
          exact ⟨k1, hc1, by omega, hc3, hc4, hc5, hc6⟩
        refine jj_aload_n (q := 6) dX9_test_5 rfl rfl rfl ?_
        refine jj_ldcS (q := 8) dX9_test_6 ks_X9_181 rfl ?_
        refine jj_cV1i (q := 11) dX9_test_8 yk_X9_isWord ml_X9_130 hm.t0 (exM_word hm hbb hs1 ks_X9_181 wl_and (by decide) (by decide)) rfl rfl rfl ⟨Nat.zero_le _, Nat.zero_le _⟩ ?_
        refine jj_if_ne (q := 14) (tgt := 23) dX9_test_11 rfl rfl (fun h11 => by exfalso; exact h11 (if_neg wAnd)) (fun h11 => ?_)
        refine jj_aload_n (q := 15) dX9_test_14 rfl rfl rfl ?_
        refine jj_ldcS (q := 17) dX9_test_15 ks_X9_183 rfl ?_
        refine jj_cV1i (q := 20) dX9_test_17 yk_X9_isWord ml_X9_130 hm.t0 (exM_word hm hbb hs1 ks_X9_183 wl_or (by decide) (by decide)) rfl rfl rfl ⟨Nat.zero_le _, Nat.zero_le _⟩ ?_
        refine jj_if_eq (q := 23) (tgt := 70) dX9_test_20 rfl rfl (fun h20 => ?_) (fun h20 => absurd (if_neg hor) h20)
        refine jj_iload_n (q := 71) dX9_test_70 rfl rfl rfl ?_
        refine jj_iret dX9_test_71 rfl (Nat.zero_le _) (Nat.zero_le _) ?_
        exact ⟨n1, A1, Ga, hfin, rfl, rfl⟩
theorem exM_test (hm : hMo T S mo) (hE : E ≤ 1200) {f : Nat} (hf : f ≤ 10) (hU : cUn Γ T R S I L D z mo b E f) : cTe Γ T R S I L D z mo b E f := by
  intro d bq k p slk dq A G hb hs h25 hbq h26 hkp h27 hdq
  refine Ex.of (by decide) (by simp [Value.category]) (Nat.le_of_ble_eq_true rfl) rfl ?_
  refine jj_aload_n (q := 1) dX9_test_0 rfl rfl rfl ?_
  refine jj_pV0i (q := 4) dX9_test_1 yk_X9_unit ml_X9_178 hm.t0 (hU (d + 0) bq k p slk dq A G hb hs h25 hbq h26 hkp h27 hdq) rfl rfl rfl ⟨Nat.zero_le _, Nat.zero_le _⟩ (fun s A2 Gb hu2 => ?_)
  refine jj_istore_n (q := 5) dX9_test_4 rfl (by decide) rfl ?_
  cases hr : pU b E f p with
  | inl e =>
    rw [hr] at hu2
    have ep : pT b E (pU b E f) p = .inl e := by unfold pT; rw [hr]; rfl
    rw [ep]
    obtain ⟨k2, g1, g2, g3, g4, hg5, g6⟩ := hu2
    exact te_x hm (hb.a g4) (e := e) hg5 ⟨k2, g1, by omega, g3, g4, hg5, fun x hx => by cases hx⟩
  | inr y =>
    rw [hr] at hu2
    have ep : pT b E (pU b E f) p = pL b E (pU b E f) 1200 y.1 y.2 := by unfold pT; rw [hr]; rfl
    refine lp_te hm hE hf hU hb h25 hbq h27 hdq 1200 y.1 y.2 s A2 Gb _ _ (by omega) ?_ ep.symm
    obtain ⟨k2, g1, g2, g3, g4, hg5, g6⟩ := hu2
    refine ⟨k2, g1, g2, g3, g4, hg5, fun x hx => ?_⟩
    cases hx
    obtain ⟨g7, g8, g9, g10, g11⟩ := g6 y rfl
    exact ⟨g7, g8, g9, g10, fun X c => vN_up f (g11 X c)⟩
end M84
