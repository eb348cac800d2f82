/-! TAKING OFF THE LOOP on both sides -/
section STEP4
variable {nf : Nat} {P K : JI} {r : Int64} {Q X : JV}
theorem RV.lane {l b : Nat} (h : RV nf K r X) (hX : mI X) (hl : l < 4) (h20 : mHe X l < 20) : RV nf (u2 (u2 K 13 (l * 20 + mHe X l) (nI b)) 12 l (nI (mHe X l + 1))) r (w1 (w1 X (29 + 20 * l + mHe X l) (nI b)) (21 + l) (nI (mHe X l + 1))) := by
  obtain ⟨h1, h2, h3, h4, h5, h6⟩ := h
  have hc := hX.c.2
  have hE := hX.e.2
  have hC : mC (w1 (w1 X (29 + 20 * l + mHe X l) (nI b)) (21 + l) (nI (mHe X l + 1))) = mC X := by rw [mC_w1 (by omega), mC_w1 (by omega)]
  have hHl : mHe (w1 (w1 X (29 + 20 * l + mHe X l) (nI b)) (21 + l) (nI (mHe X l + 1))) l = mHe X l + 1 := by
    show nN _ = _
    rw [w1_eq, nN_nI (by omega)]
  have hHn : ∀ k, k < 4 → k ≠ l → mHe (w1 (w1 X (29 + 20 * l + mHe X l) (nI b)) (21 + l) (nI (mHe X l + 1))) k = mHe X k := fun k hk hn => by rw [mHe_w1 (by omega), mHe_w1 (by omega)]
  have m13 : mt 13 (l * 20 + mHe X l) (29 + 20 * l + mHe X l) := by
    have := mt13 (j := l * 20 + mHe X l) (by omega)
    rw [show 29 + (l * 20 + mHe X l) = 29 + 20 * l + mHe X l by omega] at this
    exact this
  refine ⟨fun k' j' i' hm2 hv => ?_, ?_, fun x hx => ?_, fun m hm2 => ?_, fun q hq => ?_, fun e he => ?_⟩
  · have hf := mt_f hm2
    refine mt_upd (mt12 hl) hm2 ?_
    by_cases e : k' = 13 ∧ j' = l * 20 + mHe X l
    · have ei := (mt_inj m13 hm2).mp ⟨e.1.symm, e.2.symm⟩
      rw [e.1, e.2, ← ei, u2_at, w1_eq]
    · refine mt_upd m13 hm2 (h1 k' j' i' hm2 ?_)
      obtain ⟨v1, v2, v3⟩ := hv
      rw [hC] at v1
      refine ⟨v1, v2, fun ek => ?_⟩
      have v4 := v3 ek
      have hj := hf.1 ek
      by_cases el : j' / 20 = l
      · rw [el, hHl] at v4
        rw [el]
        have : j' ≠ l * 20 + mHe X l := fun w => e ⟨ek, w⟩
        omega
      · rw [hHn _ (by omega) el] at v4; exact v4
  · rw [w1_ne (by omega), w1_ne (by omega)]; exact h2
  · rw [hC] at hx
    rw [xSt_w1 (by omega), xSt_w1 (by omega), u2_ne (by omega), u2_ne (by omega), w1_ne (by omega), w1_ne (by omega)]; exact h3 x hx
  · rw [u2_ne (by omega), u2_ne (by omega), w1_ne (by omega), w1_ne (by omega), w1_ne (by omega), w1_ne (by omega)]; exact h4 m hm2
  · rw [u2_ne (by omega), u2_ne (by omega), hC, h5 q hq]
    congr 1
    exact fb_ct_cong fun x hx => by unfold pSt_; rw [w1_ne (by omega), w1_ne (by omega)]
  · rw [mE_w1 (by omega), mE_w1 (by omega)] at he
    unfold RVe evX
    rw [u2_ne (by omega), u2_ne (by omega), w1_ne (by omega), w1_ne (by omega), w1_ne (by omega), w1_ne (by omega), w1_ne (by omega), w1_ne (by omega), w1_ne (by omega), w1_ne (by omega)]
    exact h6 e he
theorem mPh_c (X : JV) (f : Nat) : mPh X f = 0 ∨ mPh X f = 1 ∨ mPh X f = 2 := by
  unfold mPh
  repeat' split
  all_goals first | exact Or.inl rfl | exact Or.inr (Or.inl rfl) | exact Or.inr (Or.inr rfl)
/-- a bag leaves the loop and enters a state that is an event -/
theorem off_same {i b s' : Nat} (h : RV nf K r X) (hW : mW Q X 100) (hN : mN nf X) (hi : i < 40) (hb : b < 100) (hl : X (133 + i) = nI b) (hs1 : 9 ≤ s') (hs' : s' < 14) : RV nf (kEn (u2 K 14 i (-1)) (nI b) (nI s')) r (mBe (mLv X i b) b (nI s')) := by
  have hX := hW.1.1
  have hbb := loB hW hi hb hl
  have hst := hW.st8 hbb.1
  have g1 := h.set (v := -1) hX (mt14 hi) (by omega)
  have x1 := hX.set (i := 133 + i) (v := -1) (rg_loop (by omega) (Or.inl rfl))
  have g2 := g1.place (i := 473 + b) (v := -1) x1 (by omega)
  have x2 := x1.set (i := 473 + b) (v := -1) (rg_free (by omega))
  refine RV.enHi (s := xSt X b) g2 x2 ?_ hst.1 hs1 hs' ?_ ?_
  · unfold mLv; rw [mC_w1 (by omega), mC_w1 (by omega)]; exact hbb.1
  · unfold mLv; rw [w1_ne (by omega), w1_ne (by omega)]; exact hst.2
  · unfold mLv; rw [w1_ne (by omega), w1_ne (by omega)]; exact hN.1
theorem mLh_lt {p : Nat} (h : ¬ mLh Q p = -1) (h5 : qLn Q < 2 ^ 31) : nN (mLh Q p) < qLn Q := by
  unfold mLh srch at h ⊢
  by_cases e : fa_first (fun l => decide (Q (23 + l) = nI p)) (qLn Q) < qLn Q
  · rw [if_pos e, nN_nI (by omega)]; exact e
  · rw [if_neg e] at h; exact absurd rfl h
theorem tk_same {H : Nat → JV → Nat → Bool} {i : Nat} (h : RV nf K r X) (hp : RP nf P Q) (hQ : mQ Q) (hW : mW Q X 100) (hN : mN nf X) (hi : i < 40) (hH : ∀ b, b < mC X → (kHB P K (nI b) = 0 ↔ mHB H Q X b = 0)) : RV nf (tkS P i K) r (mLkS H Q X i) := by
  have hX := hW.1.1
  have hc := hX.c.2
  have hfl : ∀ b, b < mC X → mF X b < nf := fun b hb => by rw [hp.2.2.2.2.2.1]; exact hW.2.2.2.2.2 b hb
  have hn8 := hp.2.2.2.2.2.2
  unfold tkS mLkS
  rw [h.lo hi]
  by_cases h1 : X (133 + i) = -1
  · rw [if_pos h1, if_pos h1]; exact h
  · rw [if_neg h1, if_neg h1]
    have ho := oB_n (hX.lo hi) h1
    have hbb := loB hW hi ho.2 ho.1
    have hoff := fun s' (w1' : 9 ≤ s') w2 => off_same (s' := s') h hW hN hi ho.2 ho.1 w1' w2
    rw [ho.1]
    generalize nN (X (133 + i)) = b at *
    rw [nN_nI (by omega)]
    have ePh := phB_same h hX hn8 hbb.1 (hfl b hbb.1)
    have e15 : atV 8 (P 4) (atV 100 (K 3) (nI b)) = Q (15 + mF X b) := by
      have := hfl b hbb.1
      rw [atV_nI (by omega) (by omega), h.fl hX hbb.1, atV_nI (by omega) (by omega), hp.2.2.1 _ this]
    have n8 : ¬ (10 : Int32) = 8 := by decide
    have n9 : ¬ (10 : Int32) = 9 := by decide
    have n8' : ¬ (11 : Int32) = 8 := by decide
    have n9' : ¬ (11 : Int32) = 9 := by decide
    have hk : kSA P K (nI i) (nI b) = if mOf X b = 1 then (if Q (15 + mF X b) = nI i then 10 else 8) else if mOf X b = 2 then (if nI i = Q 2 then 11 else 8) else if mLh Q i = -1 then 8 else if kLT P K (mLh Q i) (nI b) = 0 then 8 else if kHB P K (nI b) = 0 then 9 else 8 := by
      unfold kSA
      rw [ePh, e15, hp.1.2.2.1, on_same hp hQ]
    rw [hk]
    unfold mLk mLk2 mLk3
    rcases mPh_c X (mF X b) with q | q | q
    · have q' : mOf X b = 0 := q
      rw [q', if_neg (show ¬ (0 : Int32) = 1 by decide), if_neg (show ¬ (0 : Int32) = 2 by decide), if_neg (show ¬ (0 : Int32) = 1 by decide), if_neg (show ¬ (0 : Int32) = 2 by decide), if_pos rfl, ite_self, ite_self]
      by_cases hlh : mLh Q i = -1
      · rw [if_pos hlh, if_pos hlh, if_pos rfl]; exact h
      · rw [if_neg hlh, if_neg hlh]
        have hl4 := mLh_b hQ hlh
        have hln := mLh_lt hlh (by have := nQln hQ; omega)
        have elt := lt_same h hp hQ hW.1 hW.2.1 hfl hln hbb.1
        have eHB := hH b hbb.1
        rw [hl4.1]
        generalize nN (mLh Q i) = l at *
        rw [nN_nI (by omega)]
        by_cases hr : mRoom Q X l b = 0
        · rw [if_pos (show kLT P K (nI l) (nI b) = 0 by rw [elt]; exact hr), if_pos hr, if_pos rfl]; exact h
        · rw [if_neg (show ¬ kLT P K (nI l) (nI b) = 0 by rw [elt]; exact hr), if_neg hr]
          by_cases hk2 : mHB H Q X b = 0
          · rw [if_pos (eHB.mpr hk2), if_pos hk2, if_neg (show ¬ (9 : Int32) = 8 by decide), if_pos rfl]
            have g : RV nf (kEn (u2 K 14 i (-1)) (nI b) 9) r (mBe (mLv X i b) b 9) := hoff 9 (by omega) (by omega)
            have hW2 : mW Q (mBe (mLv X i b) b 9) b := (hW.lv hi (by omega) ho.1).be (s := 9) (by omega) (by omega)
            have hee : mHe (mBe (mLv X i b) b 9) l = mHe X l := by
              unfold mHe
              rw [mBe_lo (by omega) (by omega), mLv_lo (by omega)]
            have hle := hW.1.2 l hl4.2
            have hcap := (hQ.2.2.2.2.2.2.2 l hl4.2).2
            have hlt : mHe X l < nN (Q (27 + l)) := by
              have hne : ¬ X (21 + l) = Q (27 + l) := fun e => hr (by
                unfold mRoom
                split
                · rfl
                · rfl)
              have : mHe X l ≠ nN (Q (27 + l)) := fun e => hne (by rw [(hX.he hl4.2).1, e]; exact (hQ.2.2.2.2.2.2.2 l hl4.2).1.symm)
              omega
            have hbl := (g.bl hl4.2).2.trans (hW2.1.1.he hl4.2).1
            have g2 := g.lane (b := b) hW2.1.1 hl4.2 (by omega)
            have x2 := (hW2.1.1.set (i := 29 + 20 * l + mHe (mBe (mLv X i b) b 9) l) (v := nI b) (rg_lane (by omega) (nB_nI (by omega) (by omega)))).set (i := 21 + l) (v := nI (mHe (mBe (mLv X i b) b 9) l + 1)) (rg_held (by omega) (nB_nI (by omega) (by omega)))
            have g3 := g2.place (i := 473 + b) (v := nI l) x2 (by omega)
            unfold kAL mSto
            rw [on_same hp hQ, hl4.1, atV_nI (show l < 4 by omega) (by omega), hbl, l20, putI_nI (show l * 20 + mHe (mBe (mLv X i b) b 9) l < 80 by omega) (by omega), putI_nI hl4.2 (by omega), ← nI_succ]
            exact g3
          · rw [if_neg (fun w => hk2 (eHB.mp w)), if_neg hk2, if_pos rfl]; exact h
    · have q' : mOf X b = 1 := q
      rw [q', if_pos rfl, if_pos rfl, if_neg (show ¬ (1 : Int32) = 2 by decide), if_neg (show ¬ (1 : Int32) = 0 by decide), ite_self, ite_self]
      by_cases h2 : Q (15 + mF X b) = nI i
      · rw [if_pos h2, if_pos h2, if_neg n8, if_neg n9]
        exact hoff 10 (by omega) (by omega)
      · rw [if_neg h2, if_neg h2, if_pos rfl]; exact h
    · have q' : mOf X b = 2 := q
      rw [q', if_neg (show ¬ (2 : Int32) = 1 by decide), if_pos rfl, if_neg (show ¬ (2 : Int32) = 1 by decide), if_pos rfl, if_neg (show ¬ (2 : Int32) = 0 by decide), ite_self, ite_self]
      by_cases h2 : nI i = Q 2
      · rw [if_pos h2, if_pos h2, if_neg n8', if_neg n9']
        exact hoff 11 (by omega) (by omega)
      · rw [if_neg h2, if_neg h2, if_pos rfl]; exact h
end STEP4
