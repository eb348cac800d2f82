/-! LETTING BAGS OUT OF A LANE on both sides -/
theorem rfL_out {l m : Nat} : ∀ (k i : Nat) (K : JI), 1 ≤ i → (m + 1 < l * 20 + i ∨ l * 20 + i + k ≤ m + 1) → rfL l k i K 13 m = K 13 m
  | 0, _, _, _, _ => rfl
  | k + 1, i, K, h1, h => by rw [rfL, rfL_out k (i + 1) _ (by omega) (by omega), u2_nj (by omega)]
theorem rfL_val {l j : Nat} : ∀ (k i : Nat) (K : JI), 1 ≤ i → i ≤ j + 1 → j + 1 < i + k → rfL l k i K 13 (l * 20 + j) = K 13 (l * 20 + j + 1)
  | 0, i, _, _, h1, h2 => by omega
  | k + 1, i, K, h0, h1, h2 => by
    rw [rfL]
    by_cases e : j + 1 = i
    · rw [rfL_out k (i + 1) _ (by omega) (by omega), show l * 20 + i - 1 = l * 20 + j by omega, u2_at, show l * 20 + i = l * 20 + j + 1 by omega]
    · rw [rfL_val k (i + 1) _ (by omega) (by omega) (by omega), u2_nj (by omega)]
section STEP5
variable {nf : Nat} {P K : JI} {r : Int64} {Q X : JV}
theorem RV.unlane {l : Nat} (h : RV nf K r X) (hX : mI X) (hl : l < 4) (h0 : 0 < mHe X l) : RV nf (kRF K l (mHe X l)) r (mSf (29 + 20 * l) (mHe X l - 1) 0 (w1 X (21 + l) (nI (mHe X l - 1)))) := by
  have hla := fun j hj => h.la hX hl (j := j) hj
  obtain ⟨h1, h2, h3, h4, h5, h6⟩ := id h
  have hc := hX.c.2
  have hE := hX.e.2
  have h20 := (hX.he hl).2
  have ho : ∀ m, m < 29 + 20 * l ∨ 29 + 20 * l + (mHe X l - 1) ≤ m → m ≠ 21 + l → mSf (29 + 20 * l) (mHe X l - 1) 0 (w1 X (21 + l) (nI (mHe X l - 1))) m = X m := fun m hm h2 => by
    rw [mSf_out _ _ _ (by omega), w1_ne h2]
  have e21 : mSf (29 + 20 * l) (mHe X l - 1) 0 (w1 X (21 + l) (nI (mHe X l - 1))) (21 + l) = nI (mHe X l - 1) := by rw [mSf_out _ _ _ (by omega), w1_eq]
  have hdec : nI (mHe X l) - 1 = nI (mHe X l - 1) := by
    have := nI_pred (mHe X l - 1)
    rw [show mHe X l - 1 + 1 = mHe X l by omega] at this
    exact this
  have hKn : ∀ k, k ≠ 12 → k ≠ 13 → kRF K l (mHe X l) k = K k := fun k a1 a2 => kRF_ne a1 a2
  have hK13 : kRF K l (mHe X l) 13 = rfL l (mHe X l - 1) 1 K 13 := by unfold kRF; rw [u2_ne (by omega)]
  generalize hY : mSf (29 + 20 * l) (mHe X l - 1) 0 (w1 X (21 + l) (nI (mHe X l - 1))) = Y at *
  have hC : mC Y = mC X := by unfold mC; rw [ho 2 (by omega) (by omega)]
  have hHl : mHe Y l = mHe X l - 1 := by show nN _ = _; rw [e21, nN_nI (by omega)]
  have hHn : ∀ k, k < 4 → k ≠ l → mHe Y k = mHe X k := fun k hk hn => by unfold mHe; rw [ho _ (by omega) (by omega)]
  refine ⟨fun k' j' i' hm2 hv => ?_, ?_, fun x hx => ?_, fun m hm2 => ?_, fun q hq => ?_, fun e he => ?_⟩
  · have hf := mt_f hm2
    obtain ⟨v1, v2, v3⟩ := hv
    rw [hC] at v1
    by_cases e12 : k' = 12
    · subst e12
      have hj : j' < 4 ∧ i' = 21 + j' := by unfold mt at hm2; omega
      rw [hj.2]
      unfold kRF
      by_cases e : j' = l
      · subst e; rw [u2_at, e21, hdec]
      · rw [u2_nj e, rfL_ne (by omega), ho _ (by omega) (by omega)]
        exact (h.bl hj.1).2
    · by_cases e13 : k' = 13
      · subst e13
        have hj : j' < 80 ∧ i' = 29 + j' := by unfold mt at hm2; omega
        have v4 := v3 rfl
        rw [hj.2, hK13]
        by_cases el : j' / 20 = l
        · rw [el, hHl] at v4
          have ej : j' = l * 20 + j' % 20 := by omega
          rw [ej, rfL_val _ _ _ (by omega) (by omega) (by omega), show l * 20 + j' % 20 + 1 = l * 20 + (j' % 20 + 1) by omega, hla _ (by omega), ← hY, show 29 + (l * 20 + j' % 20) = 29 + 20 * l + j' % 20 by omega, mSf_val _ _ _ (by omega) (by omega), w1_ne (by omega)]
          rfl
        · rw [hHn _ (by omega) el] at v4
          rw [rfL_out _ _ _ (by omega) (by omega), ho _ (by omega) (by omega)]
          exact h1 13 j' _ (mt13 hj.1) ⟨fun _ _ => by omega, fun e => by omega, fun _ => v4⟩
      · have hi : (i' < 21 ∨ 25 ≤ i') ∧ (i' < 29 ∨ 109 ≤ i') := by
          refine ⟨?_, ?_⟩
          · rcases Nat.lt_or_ge i' 21 with w | w
            · exact Or.inl w
            · rcases Nat.lt_or_ge i' 25 with v | v
              · exact absurd ((mt_inj (mt12 (j := i' - 21) (by omega)) hm2).mpr (by omega)).1.symm e12
              · exact Or.inr v
          · rcases Nat.lt_or_ge i' 29 with w | w
            · exact Or.inl w
            · rcases Nat.lt_or_ge i' 109 with v | v
              · exact absurd ((mt_inj (mt13 (j := i' - 29) (by omega)) hm2).mpr (by omega)).1.symm e13
              · exact Or.inr v
        rw [hKn _ e12 e13, ho _ (by omega) (by omega)]
        exact h1 k' j' i' hm2 ⟨v1, v2, fun e => absurd e e13⟩
  · rw [ho _ (by omega) (by omega)]; exact h2
  · rw [hC] at hx
    unfold xSt
    rw [hKn 7 (by omega) (by omega), ho _ (by omega) (by omega), ho _ (by omega) (by omega)]; exact h3 x hx
  · rw [hKn 16 (by omega) (by omega), ho _ (by omega) (by omega), ho _ (by omega) (by omega)]; exact h4 m hm2
  · rw [hKn 8 (by omega) (by omega), hC, h5 q hq]
    congr 1
    exact fb_ct_cong fun x hx => by unfold pSt_; rw [ho _ (by omega) (by omega)]
  · unfold mE at he
    rw [ho _ (by omega) (by omega)] at he
    unfold RVe evX
    rw [hKn 18 (by omega) (by omega), ho _ (by omega) (by omega), ho _ (by omega) (by omega), ho _ (by omega) (by omega), ho _ (by omega) (by omega)]
    exact h6 e he
end STEP5
