/-! THE STEPS OF A TICK keep the relation -/
section STEP
variable {nf : Nat} {P K : JI} {r : Int64} {Q X : JV}
theorem mW.st8 {e b : Nat} (h : mW Q X e) (hb : b < mC X) : xSt X b < 14 ∧ X (373 + b) = nI (xSt X b) := h.2.2.2.1 b hb
theorem RV.cnt (h : RV nf K r X) : K 1 0 = X 2 := h.get mt1 ⟨fun _ _ => by omega, fun e => by omega, fun e => by omega⟩
/-- an owner's place -/
theorem RV.own {k : Nat} {v : Int32} (h : RV nf K r X) (hX : mI X) (hk : k < 12) (hv : v = -1 ∨ K 16 k = X (121 + k)) : RV nf (u2 K 15 k v) r (w1 X (109 + k) v) := by
  obtain ⟨h1, h2, h3, h4, h5, h6⟩ := h
  have hc := hX.c.2
  have hE := hX.e.2
  have hC : mC (w1 X (109 + k) v) = mC X := mC_w1 (by omega)
  refine ⟨fun k' j' i' hm2 hv => ?_, ?_, fun b hb => ?_, fun m hm2 => ?_, fun q hq => ?_, fun e he => ?_⟩
  · exact mt_upd (mt15 hk) hm2 (h1 k' j' i' hm2 (vd_cg hm2 hC (fun l hl => mHe_w1 (by omega)) hv))
  · rw [w1_ne (by omega)]; exact h2
  · rw [hC] at hb
    rw [xSt_w1 (by omega), u2_ne (by omega), w1_ne (by omega)]; exact h3 b hb
  · rw [u2_ne (by omega), w1_ne (i := 121 + m) (by omega)]
    by_cases e : m = k
    · subst e; rw [w1_eq]; exact hv
    · rw [w1_ne (by omega)]; exact h4 m hm2
  · rw [u2_ne (by omega), hC, h5 q hq]
    congr 1
    exact fb_ct_cong fun x hx => by unfold pSt_; rw [w1_ne (by omega)]
  · rw [mE_w1 (by omega)] at he
    unfold RVe evX
    rw [u2_ne (by omega), w1_ne (by omega), w1_ne (by omega), w1_ne (by omega), w1_ne (by omega)]
    exact h6 e he
/-- the ticks that a machine has left -/
theorem RV.left {k : Nat} {v w : Int32} (h : RV nf K r X) (hX : mI X) (hk : k < 12) (hv : X (109 + k) = -1 ∨ v = w) : RV nf (u2 K 16 k v) r (w1 X (121 + k) w) := by
  obtain ⟨h1, h2, h3, h4, h5, h6⟩ := h
  have hc := hX.c.2
  have hE := hX.e.2
  have hC : mC (w1 X (121 + k) w) = mC X := mC_w1 (by omega)
  refine ⟨fun k' j' i' hm2 hv => ?_, ?_, fun b hb => ?_, fun m hm2 => ?_, fun q hq => ?_, fun e he => ?_⟩
  · have hf := mt_f hm2
    rw [u2_ne (by omega), w1_ne (by omega)]
    exact h1 k' j' i' hm2 (vd_cg hm2 hC (fun l hl => mHe_w1 (by omega)) hv)
  · rw [w1_ne (by omega)]; exact h2
  · rw [hC] at hb
    rw [xSt_w1 (by omega), u2_ne (by omega), w1_ne (by omega)]; exact h3 b hb
  · rw [w1_ne (i := 109 + m) (by omega)]
    by_cases e : m = k
    · subst e; rw [u2_at, w1_eq]; exact hv
    · rw [u2_nj e, w1_ne (by omega)]; exact h4 m hm2
  · rw [u2_ne (by omega), hC, h5 q hq]
    congr 1
    exact fb_ct_cong fun x hx => by unfold pSt_; rw [w1_ne (by omega)]
  · rw [mE_w1 (by omega)] at he
    unfold RVe evX
    rw [u2_ne (by omega), w1_ne (by omega), w1_ne (by omega), w1_ne (by omega), w1_ne (by omega)]
    exact h6 e he
/-- (a) arrivals -/
theorem ad_same {i : Nat} (h : RV nf K r X) (hW : mW Q X 100) (hi : i < mC X) : RV nf (adS i K) r (mAr X i) := by
  have hX := hW.1.1
  have hc := hX.c.2
  have hst := hW.st8 hi
  have e0 := h.st (by omega) hi
  unfold adS mAr
  rw [e0, h.ar hX hi, h.clk]
  by_cases h1 : X (373 + i) = 0
  · rw [if_pos h1, if_pos h1]
    by_cases h2 : X (273 + i) = X 0
    · rw [if_pos h2, if_pos h2]
      have hk : K 2 i = nI 0 := e0.trans h1
      rw [show (1 : Int32) = nI 1 from rfl, kEn_lo (by omega) (show (0 : Nat) < 14 by omega) (by omega) hk]
      exact h.enLo hX hi (by omega) (by omega) h1 (fun w => by omega)
    · rw [if_neg h2, if_neg h2]; exact h
  · rw [if_neg h1, if_neg h1]; exact h
theorem adL_same : ∀ (k i : Nat) (K : JI) (X : JV), i + k ≤ mC X → RV nf K r X → mW Q X 100 → RV nf (adL k i K) r (mArL k i X)
  | 0, _, _, _, _, h, _ => h
  | k + 1, i, K, X, hk, h, hW => adL_same k (i + 1) _ _ (by rw [mAr_C]; omega) (ad_same h hW (by omega)) (mAr_W hW (by omega))
theorem mArL_no : ∀ (k i : Nat) (X : JV), (∀ b, i ≤ b → b < i + k → ¬ X (373 + b) = 0) → mArL k i X = X
  | 0, _, _, _ => rfl
  | k + 1, i, X, h => by
    have e : mAr X i = X := by unfold mAr; rw [if_neg (h i (by omega) (by omega))]
    rw [mArL, e]
    exact mArL_no k (i + 1) X (fun b h1 h2 => h b (by omega) (by omega))
theorem ct0 (h : RV nf K r X) {q : Nat} (hq : q < 14) (hc : mC X ≤ 100) (h0 : K 8 q = 0) : ∀ b, b < mC X → ¬ X (373 + b) = nI q := fun b hb e => by
  have e1 := h.2.2.2.2.1 q hq
  rw [h0] at e1
  have e2 := nI_inj' (a := 0) (by omega) (by have := fb_ct_le (pSt_ X q) (mC X); omega) e1
  have := fb_ct_zero.mp e2.symm b hb
  unfold pSt_ at this
  rw [e] at this
  exact absurd rfl (of_decide_eq_false this)
theorem adA_same (h : RV nf K r X) (hW : mW Q X 100) : RV nf (adA (mC X) K) r (mArL (mC X) 0 X) := by
  unfold adA
  by_cases h0 : K 8 0 = 0
  · rw [if_pos h0, mArL_no _ _ _ (fun b _ hb => ct0 h (by omega) hW.c h0 b (by omega))]
    exact h
  · rw [if_neg h0]
    exact adL_same _ _ _ _ (by omega) h hW
/-- (g) the entry -/
theorem en_same (h : RV nf K r X) (hp : RP nf P Q) (hQ : mQ Q) (hW : mW Q X 100) (hN : mN nf X) : RV nf (fEn P (mC X) K) r (mEn Q X) := by
  have hX := hW.1.1
  have hc := hX.c.2
  have he := nQen hQ
  have hl := nQ0 hQ
  have hfl : ∀ b, b < mC X → mF X b < nf := fun b hb => by rw [hp.2.2.2.2.2.1]; exact hW.2.2.2.2.2 b hb
  unfold fEn mEn
  rw [hp.1.2.1, he.1, atV_nI (show qEn Q < 40 by omega) (by omega), h.lo (show qEn Q < 40 by omega)]
  by_cases h1 : X (133 + qEn Q) = -1
  · rw [if_pos h1, if_pos h1]
    unfold mEn2
    have e7 : kFQ K 7 (mC X) = mFi X 7 (mC X) := fq_same (w := 7) h hX hp.2.2.2.2.2.2 hN hfl (by omega)
    rw [e7]
    by_cases h2 : mFi X 7 (mC X) = -1
    · rw [if_pos h2, if_pos h2]; exact h
    · rw [if_neg h2, if_neg h2]
      have hs := mFi_s (X := X) (s := 7) (mC X) (by omega) h2
      have hb := mFi_n hX h2
      rw [hb.1]
      generalize nN (mFi X 7 (mC X)) = b at *
      rw [nN_nI (by omega), putI_nI (show qEn Q < 40 by omega) (by omega), putI_nI (show b < 100 by omega) (by omega)]
      unfold mEnY
      have g1 := h.set (v := nI b) hX (mt14 (show qEn Q < 40 by omega)) (by omega)
      have x1 : mI (w1 X (133 + qEn Q) (nI b)) := hX.set (rg_loop (by omega) (Or.inr (nB_nI (by omega) (by omega))))
      have g2 := g1.set (v := 0) x1 (mt5 (show b < 100 by omega)) (by omega)
      have x2 := x1.set (i := 573 + b) (v := 0) (rg_free (by omega))
      have g3 := g2.place (i := 473 + b) (v := nI (qEn Q)) x2 (by omega)
      have x3 := x2.set (i := 473 + b) (v := nI (qEn Q)) (rg_free (by omega))
      have hst3 : w1 (w1 (w1 X (133 + qEn Q) (nI b)) (573 + b) 0) (473 + b) (nI (qEn Q)) (373 + b) = nI 7 := by
        rw [w1_ne (by omega), w1_ne (by omega), w1_ne (by omega)]; exact hs.1
      have hC3 : mC (w1 (w1 (w1 X (133 + qEn Q) (nI b)) (573 + b) 0) (473 + b) (nI (qEn Q))) = mC X := by rw [mC_w1 (by omega), mC_w1 (by omega), mC_w1 (by omega)]
      have hk : u2 (u2 K 14 (qEn Q) (nI b)) 5 b 0 2 b = nI 7 := by rw [u2_ne (by omega), u2_ne (by omega), h.st (by omega) hs.2]; exact hs.1
      rw [show (8 : Int32) = nI 8 from rfl, kEn_lo (by omega) (show (7 : Nat) < 14 by omega) (by omega) hk]
      have g4 := g3.enLo (b := b) (s := 7) (s' := 8) x3 (by rw [hC3]; exact hs.2) (by omega) (by omega) hst3 (fun w => by omega)
      unfold mOn
      rw [w1_comm (i := 573 + b) (j := 473 + b) (by omega), w1_comm (i := 573 + b) (j := 373 + b) (by omega)] at g4
      exact g4
  · rw [if_neg h1, if_neg h1]; exact h
/-- (f) a machine takes a bag -/
theorem fm_same {lv m : Nat} (h : RV nf K r X) (hp : RP nf P Q) (hQ : mQ Q) (hW : mW Q X 100) (hN : mN nf X) (hl : lv < 3) (hm : m < 4) : RV nf (fmS P (mC X) (nI (lv + 1)) m K) r (mOc Q X lv m) := by
  have hX := hW.1.1
  have hc := hX.c.2
  have hk : 4 * lv + m < 12 := by omega
  have hfl : ∀ b, b < mC X → mF X b < nf := fun b hb => by rw [hp.2.2.2.2.2.1]; exact hW.2.2.2.2.2 b hb
  have hwk := wk_same (K := K) (r := r) h hp hQ hl hm
  have e1 : (2 : Int32) * nI (lv + 1) - 1 = nI (2 * lv + 1) := by
    rw [show (2 : Int32) = nI 2 from rfl, pk_mul, show 2 * (lv + 1) = (2 * lv + 1) + 1 by omega, nI_pred]
  unfold fmS mOc
  rw [mi_same, atV_nI hk (by omega), h.ow hk, e1]
  by_cases h1 : X (109 + (4 * lv + m)) = -1
  · rw [if_pos h1, if_pos h1]
    by_cases h2 : mOu Q X lv m = 0
    · rw [if_pos h2, if_neg (fun q => hwk.mp q h2), fq_same h hX hp.2.2.2.2.2.2 hN hfl (show 2 * lv + 1 < 14 by omega)]
      unfold mOc2
      by_cases h3 : mFi X (nI (2 * lv + 1)) (mC X) = -1
      · rw [if_pos h3, if_pos h3]; exact h
      · rw [if_neg h3, if_neg h3]
        have hs := mFi_s (X := X) (s := nI (2 * lv + 1)) (mC X) (by omega) h3
        have hb := mFi_n hX h3
        rw [hb.1]
        generalize nN (mFi X (nI (2 * lv + 1)) (mC X)) = b at *
        rw [nN_nI (by omega), putI_nI hk (by omega), putI_nI hk (by omega), putI_nI (show b < 100 by omega) (by omega), nI_pred, atV_nI hl (by omega), (hp.2.1 lv hl).2.1, ← nI_succ]
        have g1 := h.left (v := Q (6 + lv)) (w := Q (6 + lv)) hX hk (Or.inr rfl)
        have x1 := hX.set (i := 121 + (4 * lv + m)) (v := Q (6 + lv)) (rg_free (by omega))
        have g2 := g1.own (v := nI b) x1 hk (Or.inr (by rw [u2_at, w1_eq]))
        have x2 := x1.set (i := 109 + (4 * lv + m)) (v := nI b) (rg_own (by omega) (Or.inr (nB_nI (by omega) (by omega))))
        have g3 := g2.set (v := nI (lv + 1)) x2 (mt6 (show b < 100 by omega)) (by omega)
        have x3 := x2.set (i := 673 + b) (v := nI (lv + 1)) (rg_free (by omega))
        rw [u2_comm (k := 16) (k' := 15) (by omega)] at g3
        have hst3 : w1 (w1 (w1 X (121 + (4 * lv + m)) (Q (6 + lv))) (109 + (4 * lv + m)) (nI b)) (673 + b) (nI (lv + 1)) (373 + b) = nI (2 * lv + 1) := by
          rw [w1_ne (by omega), w1_ne (by omega), w1_ne (by omega)]; exact hs.1
        have hC3 : mC (w1 (w1 (w1 X (121 + (4 * lv + m)) (Q (6 + lv))) (109 + (4 * lv + m)) (nI b)) (673 + b) (nI (lv + 1))) = mC X := by rw [mC_w1 (by omega), mC_w1 (by omega), mC_w1 (by omega)]
        have hk2 : u2 (u2 (u2 K 15 (4 * lv + m) (nI b)) 16 (4 * lv + m) (Q (6 + lv))) 6 b (nI (lv + 1)) 2 b = nI (2 * lv + 1) := by rw [u2_ne (by omega), u2_ne (by omega), u2_ne (by omega), h.st (by omega) hs.2]; exact hs.1
        rw [kEn_lo (by omega) (show 2 * lv + 1 < 14 by omega) (by omega) hk2]
        have g4 := g3.enLo (b := b) (s := 2 * lv + 1) (s' := 2 * lv + 1 + 1) x3 (by rw [hC3]; exact hs.2) (by omega) (by omega) hst3 (fun w => by omega)
        unfold mOcY
        rw [w1_comm (i := 121 + (4 * lv + m)) (j := 109 + (4 * lv + m)) (by omega), w1_comm (i := 673 + b) (j := 373 + b) (by omega)] at g4
        exact g4
    · rw [if_neg h2, if_pos (hwk.mpr h2)]; exact h
  · rw [if_neg h1, if_neg h1]; exact h
end STEP
