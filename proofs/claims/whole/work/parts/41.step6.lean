/-! LETTING BAGS OUT OF A LANE on both sides: the step -/
section STEP6
variable {nf : Nat} {P K : JI} {r : Int64} {Q X : JV}
theorem em_same {l : Nat} (h : RV nf K r X) (hp : RP nf P Q) (hQ : mQ Q) (hQt : mQt Q) (hW : mW Q X 100) (hN : mN nf X) (hl : l < qLn Q) : RV nf (emS P l K) r (mLo Q X l) := by
  have hX := hW.1.1
  have hc := hX.c.2
  have hl4 : l < 4 := by have := nQln hQ; omega
  have hhe := hX.he hl4
  have hlp := nQlp hQ hl4
  have hlb := hX.lb (l := 20 * l) (by omega)
  have hfl : ∀ b, b < mC X → mF X b < nf := fun b hb => by rw [hp.2.2.2.2.2.1]; exact hW.2.2.2.2.2 b hb
  unfold emS mLo
  rw [(h.bl hl4).2, hhe.1, (hp.2.2.2.1 l hl).1, hlp.1, atV_nI (show qLp Q l < 40 by omega) (by omega), h.lo (show qLp Q l < 40 by omega)]
  by_cases h0 : mHe X l = 0
  · rw [h0, if_pos (by decide), if_pos (show nI 0 = 0 from rfl)]; exact h
  · rw [if_neg (show ¬ nI (mHe X l) ≤ 0 from nI_ge (a := 0) (b := mHe X l) (by omega) (by omega)), if_neg (show ¬ nI (mHe X l) = 0 from fun q => h0 (nI_inj' (b := 0) (by omega) (by omega) q))]
    have hbc := hW.2.1.2.2.1 l 0 hl4 (by omega)
    have eb : xLa X l 0 = mLb X (20 * l) := rfl
    rw [eb] at hbc
    have e13 : K 13 (l * 20) = nI (mLb X (20 * l)) := (h.la hX hl4 (j := 0) (by omega)).trans hlb.1
    rw [e13]
    have hst := hW.st8 hbc.1
    have ho := h.unlane hX hl4 (by omega)
    have hWo := hW.offLane hl4 (by omega)
    have eY : ∀ m, m < 21 ∨ 109 ≤ m → mSf (29 + 20 * l) (mHe X l - 1) 0 (w1 X (21 + l) (nI (mHe X l - 1))) m = X m := fun m hm => by rw [mSf_out _ _ _ (by omega), w1_ne (by omega)]
    have ePh := phB_same h hX hp.2.2.2.2.2.2 hbc.1 (hfl _ hbc.1)
    rw [ePh]
    by_cases h1 : X (133 + qLp Q l) = -1
    · rw [if_pos h1, if_pos h1]
      by_cases h2 : mOf X (mLb X (20 * l)) = 0
      · rw [if_pos h2, if_pos h2]; exact h
      · rw [if_neg h2, if_neg h2]
        unfold mLoY
        rw [nI_clamp (show mHe X l < 2 ^ 31 by omega), putI_nI (show qLp Q l < 40 by omega) (by omega), mOn_eq hlb.2 (by omega), w1_comm (i := 133 + qLp Q l) (by omega), w1_comm (i := 473 + mLb X (20 * l)) (by omega), w1_comm (i := 373 + mLb X (20 * l)) (by omega), mSf_w1 _ _ _ (by omega), mSf_w1 _ _ _ (by omega), mSf_w1 _ _ _ (by omega)]
        generalize mSf (29 + 20 * l) (mHe X l - 1) 0 (w1 X (21 + l) (nI (mHe X l - 1))) = Y at *
        generalize mLb X (20 * l) = b at *
        have x0 := hWo.1.1
        have g1 := ho.set (v := nI b) x0 (mt14 (show qLp Q l < 40 by omega)) (by omega)
        have x1 := x0.set (i := 133 + qLp Q l) (v := nI b) (rg_loop (by omega) (Or.inr (nB_nI (by omega) (by omega))))
        have g2 := g1.place (i := 473 + b) (v := nI (qLp Q l)) x1 (by omega)
        have x2 := x1.set (i := 473 + b) (v := nI (qLp Q l)) (rg_free (by omega))
        have hC : mC (w1 (w1 Y (133 + qLp Q l) (nI b)) (473 + b) (nI (qLp Q l))) = mC X := by rw [mC_w1 (by omega), mC_w1 (by omega)]; unfold mC; rw [eY 2 (by omega)]
        have hk : u2 (kRF K l (mHe X l)) 14 (qLp Q l) (nI b) 2 b = nI (xSt X b) := by rw [u2_ne (by omega), kRF_ne (by omega) (by omega), h.st (by omega) hbc.1]; exact hst.2
        rw [show (8 : Int32) = nI 8 from rfl, kEn_lo (by omega) hst.1 (by omega) hk]
        have g3 := g2.enLo (b := b) (s := xSt X b) (s' := 8) x2 (by rw [hC]; exact hbc.1) hst.1 (by omega) (by rw [w1_ne (by omega), w1_ne (by omega), eY _ (by omega)]; exact hst.2) (fun w => by omega)
        rw [w1_comm (i := 133 + qLp Q l) (j := 473 + b) (by omega), w1_comm (i := 133 + qLp Q l) (j := 373 + b) (by omega), w1_comm (i := 473 + b) (j := 373 + b) (by omega)] at g3
        exact g3
    · rw [if_neg h1, if_neg h1, ite_self]; exact h
end STEP6
