/-! THE LOOP TURNS on both sides -/
section STEP3
variable {nf : Nat} {P K : JI} {r : Int64} {Q X : JV}
theorem mMv2_out (hQ : mQ Q) (h : ij X) {m : Nat} (h1 : m < 133 ∨ 173 ≤ m) (h2 : m < 473 ∨ 573 ≤ m) : mMv2 Q X m = X m := by
  have hl := nQ0 hQ
  unfold mMv2
  rw [mPL_out h2 _ _ _ (by omega) (mMv1_ij hl.2.2 (by omega) h), mMv1_o hl.2.2 (by omega)]
theorem mMv2_lo (hQ : mQ Q) (h : ij X) {p : Nat} (hp : p < 40) : mMv2 Q X (133 + p) = X (133 + bk (qLen Q) p) := by
  have hl := nQ0 hQ
  unfold mMv2
  rw [mPL_out (by omega) _ _ _ (by omega) (mMv1_ij hl.2.2 (by omega) h), mMv1_bk hl.2.2 hp]
theorem mPL_id : ∀ (k i : Nat) (X : JV), (∀ p, i ≤ p → p < i + k → X (133 + p) = -1) → mPL k i X = X
  | 0, _, _, _ => rfl
  | k + 1, i, X, h => by
    have e : mPs X i = X := by unfold mPs; rw [if_pos (h i (by omega) (by omega))]
    rw [mPL, e]
    exact mPL_id k (i + 1) X (fun p h1 h2 => h p (by omega) (by omega))
theorem mMv_id (hQ : mQ Q) (h : ∀ p, p < 40 → X (133 + p) = -1) : mMv Q X = X := by
  have hl := nQ0 hQ
  have he := nQen hQ
  have e1 : mMv1 Q X = X := by
    funext m
    by_cases hm : 133 ≤ m ∧ m < 173
    · have := mMv1_bk (Q := Q) (X := X) (p := m - 133) hl.2.2 (by omega)
      rw [show 133 + (m - 133) = m by omega] at this
      rw [this, h _ (bk_lt hl.2.2 (by omega) (by omega))]
      have := h (m - 133) (by omega)
      rw [show 133 + (m - 133) = m by omega] at this
      exact this.symm
    · exact mMv1_o hl.2.2 (by omega)
  unfold mMv mMv2 mMv3
  rw [e1, mPL_id _ _ _ (fun p _ hp => h p (by omega)), if_pos (h _ (by omega))]
theorem lo_none (h : RV nf K r X) (hW : mW Q X 100) (h0 : K 8 8 = 0) : ∀ p, p < 40 → X (133 + p) = -1 := fun p hp => by
  by_cases hn : X (133 + p) = -1
  · exact hn
  · have ho := oB_n (hW.1.1.lo hp) hn
    have hb := loB hW hp ho.2 ho.1
    have := (hW.st8 hb.1).2
    rw [hb.2.1] at this
    exact absurd this (ct0 h (by omega) hW.c h0 _ hb.1)
theorem turn_same (h : RV nf K r X) (hp : RP nf P Q) (hQ : mQ Q) (hW : mW Q X 100) (h4 : 4 ≤ plen P) : RV nf (mv1 P K) r (mMv2 Q X) := by
  have hX := hW.1.1
  have hc := hX.c.2
  have hE := hX.e.2
  have hl := nQ0 hQ
  have hij := hW.ij
  have hpl : plen P = qLen Q := by unfold plen qLen nN; rw [hp.1.1]
  have hC : mC (mMv2 Q X) = mC X := by unfold mC; rw [mMv2_out hQ hij (by omega) (by omega)]
  have hK : ∀ k, k ≠ 14 → mv1 P K k = K k := fun k hk => mv1_ne hk
  have h14 : ∀ p, p < 40 → mv1 P K 14 p = K 14 (bk (qLen Q) p) := fun p hp' => by
    unfold mv1
    rw [hpl]
    unfold bk
    by_cases e0 : p = 0
    · subst e0; rw [u2_at, if_pos (by omega), if_pos rfl]
    · rw [u2_nj e0, uC_eq]
      by_cases e1 : p < qLen Q
      · rw [if_pos e1, if_neg e0]
        rw [pk_cpy_in (by omega) (by omega), show 0 + (p - 1) = p - 1 by omega]
      · rw [if_neg e1]
        rw [pk_cpy_out (by omega)]
  obtain ⟨h1, h2, h3, h4', h5, h6⟩ := id h
  refine ⟨fun k' j' i' hm2 hv => ?_, ?_, fun b hb => ?_, fun m hm2 => ?_, fun q hq => ?_, fun e he => ?_⟩
  · have hf := mt_f hm2
    have hv' : vd nf X k' j' := vd_cg hm2 hC (fun l hl => by unfold mHe; rw [mMv2_out hQ hij (by omega) (by omega)]) hv
    by_cases ek : k' = 14
    · subst ek
      have hj : j' < 40 ∧ i' = 133 + j' := by unfold mt at hm2; omega
      rw [hj.2, h14 j' hj.1, mMv2_lo hQ hij hj.1]
      exact h.lo (bk_lt hl.2.2 (by omega) hj.1)
    · have hi : i' < 133 ∨ 173 ≤ i' := by
        rcases Nat.lt_or_ge i' 133 with w | w
        · exact Or.inl w
        · rcases Nat.lt_or_ge i' 173 with v | v
          · exact absurd ((mt_inj (mt14 (j := i' - 133) (by omega)) hm2).mpr (by omega)).1.symm ek
          · exact Or.inr v
      rw [hK _ ek, mMv2_out hQ hij hi (by omega)]
      exact h1 k' j' i' hm2 hv'
  · rw [mMv2_out hQ hij (by omega) (by omega)]; exact h2
  · rw [hC] at hb
    unfold xSt
    rw [hK 7 (by omega), mMv2_out hQ hij (by omega) (by omega), mMv2_out hQ hij (by omega) (by omega)]; exact h3 b hb
  · rw [hK 16 (by omega), mMv2_out hQ hij (by omega) (by omega), mMv2_out hQ hij (by omega) (by omega)]; exact h4' m hm2
  · rw [hK 8 (by omega), hC, h5 q hq]
    congr 1
    exact fb_ct_cong fun x hx => by unfold pSt_; rw [mMv2_out hQ hij (by omega) (by omega)]
  · unfold mE at he
    rw [mMv2_out hQ hij (by omega) (by omega)] at he
    unfold RVe evX
    rw [hK 18 (by omega), mMv2_out hQ hij (by omega) (by omega), mMv2_out hQ hij (by omega) (by omega), mMv2_out hQ hij (by omega) (by omega), mMv2_out hQ hij (by omega) (by omega)]
    exact h6 e he
theorem mv_same (h : RV nf K r X) (hp : RP nf P Q) (hQ : mQ Q) (hW : mW Q X 100) (h4 : 4 ≤ plen P) : RV nf (mvL P K) r (mMv Q X) := by
  have hl := nQ0 hQ
  have he := nQen hQ
  have hc := hW.1.1.c.2
  unfold mvL
  by_cases h0 : K 8 8 = 0
  · rw [if_pos h0, mMv_id hQ (lo_none h hW h0)]; exact h
  · rw [if_neg h0]
    have g := turn_same h hp hQ hW h4
    have hJ2 : mJ Q (mMv2 Q X) := mPL_J _ _ _ (mMv1_J hQ hW.1)
    unfold mMv mMv3
    rw [hp.1.2.1, he.1, atV_nI (show qEn Q < 40 by omega) (by omega), g.lo (show qEn Q < 40 by omega)]
    by_cases h1 : mMv2 Q X (133 + qEn Q) = -1
    · rw [if_pos h1, if_pos h1]; exact g
    · rw [if_neg h1, if_neg h1]
      have ho := oB_n (hJ2.1.lo (show qEn Q < 40 by omega)) h1
      have hlo := mMv2_lo hQ hW.ij (show qEn Q < 40 by omega)
      have hbb := loB hW (bk_lt hl.2.2 (by omega) (show qEn Q < 40 by omega)) ho.2 (hlo.symm.trans ho.1)
      rw [ho.1]
      generalize nN (mMv2 Q X (133 + qEn Q)) = b at *
      have hC : mC (mMv2 Q X) = mC X := by unfold mC; rw [mMv2_out hQ hW.ij (by omega) (by omega)]
      rw [nN_nI (by omega), atV_nI (show b < 100 by omega) (by omega), putI_nI (show b < 100 by omega) (by omega), g.get (mt5 (show b < 100 by omega)) ⟨fun _ _ => by rw [hC]; exact hbb.1, fun e => by omega, fun e => by omega⟩]
      exact g.set hJ2.1 (mt5 (show b < 100 by omega)) (by omega)
end STEP3
