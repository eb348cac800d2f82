/-! DRAWS, AND A MACHINE THAT GOES ON -/
def nxt (n : Nat) : Nat := (n * 1103515245 + 12345) % 2147483648
theorem lN_mask (n : Nat) : lN n &&& 2147483647 = lN (n % 2147483648) := by
  have e : lN n &&& lN (2 ^ 31 - 1) = lN (n &&& (2 ^ 31 - 1)) := by
    apply Int64.toBitVec_inj.1
    show BitVec.ofNat 64 n &&& BitVec.ofNat 64 (2 ^ 31 - 1) = BitVec.ofNat 64 (n &&& (2 ^ 31 - 1))
    apply BitVec.eq_of_getLsbD_eq
    intro i hi
    simp [hi]
  rw [Nat.and_two_pow_sub_one_eq_mod] at e
  exact e
theorem rDraw_n (n : Nat) : rDraw (lN n) = lN (nxt n) := by
  unfold rDraw nxt
  rw [fa_litL 1103515245, fa_litL 12345, lN_mul, lN_add]
  exact lN_mask _
theorem mDw_n {X : JV} {n : Nat} (hn : n < 2 ^ 31) (h : X 1 = nI n) : mDw X = nI (nxt n) := by
  unfold mDw nxt
  rw [h, nI_l hn, fa_litL 1103515245, fa_litL 12345, fa_litL 2147483648, lN_mul, lN_add, pk_lRem (by omega) (by omega) (by omega), lN_i]
theorem nxt_lt (n : Nat) : nxt n < 2 ^ 31 := Nat.mod_lt _ (by decide)
theorem draw_same {nf : Nat} {K : JI} {r : Int64} {X : JV} (h : RV nf K r X) : dDraw r = mDd X := by
  obtain ⟨_, ⟨n, hn, h1, h2⟩, _⟩ := h
  have hl := nxt_lt n
  unfold dDraw mDd
  rw [show r = lN n from h2, rDraw_n, mDw_n hn h1, fa_litL 65536, fa_litL 1000, pk_lDiv (by omega) (by omega) (by omega), pk_lRem (by omega) (by omega) (by omega), lN_i, fa_lit 65536, fa_lit 1000, pk_div hl (by omega) (by omega), pk_rem (by omega) (by omega) (by omega)]
theorem RV.dr {nf : Nat} {K : JI} {r : Int64} {X : JV} (h : RV nf K r X) (hX : mI X) : RV nf K (rDraw r) (mDr X) := by
  obtain ⟨h1, ⟨n, hn, e1, e2⟩, h3, h4, h5, h6⟩ := h
  have hc := hX.c.2
  have hC : mC (mDr X) = mC X := mC_w1 (by omega)
  refine ⟨fun k' j' i' hm2 hv => ?_, ⟨nxt n, nxt_lt n, by unfold mDr; rw [w1_eq]; exact mDw_n hn e1, by rw [show r = lN n from e2]; exact rDraw_n n⟩, fun b hb => ?_, fun m hm2 => ?_, fun q hq => ?_, fun e he => ?_⟩
  · have hf := mt_f hm2
    unfold mDr at hv ⊢
    rw [w1_ne (by omega)]
    exact h1 k' j' i' hm2 (vd_cg hm2 hC (fun l hl => mHe_w1 (by omega)) hv)
  · rw [hC] at hb
    unfold mDr
    rw [xSt_w1 (by omega), w1_ne (by omega)]; exact h3 b hb
  · unfold mDr
    rw [w1_ne (by omega), w1_ne (by omega)]; exact h4 m hm2
  · rw [hC, h5 q hq]
    congr 1
    exact fb_ct_cong fun x hx => by unfold pSt_ mDr; rw [w1_ne (by omega)]
  · unfold mDr at he ⊢
    rw [mE_w1 (by omega)] at he
    unfold RVe evX
    rw [w1_ne (by omega), w1_ne (by omega), w1_ne (by omega), w1_ne (by omega)]
    exact h6 e he
section STEP2
variable {nf : Nat} {P K : JI} {r : Int64} {Q X : JV}
theorem wm_same {lv m : Nat} (h : RV nf K r X) (hp : RP nf P Q) (hQ : mQ Q) (hW : mW Q X 100) (hN : mN nf X) (hl : lv < 3) (hm : m < 4) : RV nf (wmS P (nI (lv + 1)) m (K, r)).1 (wmS P (nI (lv + 1)) m (K, r)).2 (mGo Q X lv m) := by
  have hX := hW.1.1
  have hc := hX.c.2
  have hk : 4 * lv + m < 12 := by omega
  have hwk := wk_same (K := K) (r := r) h hp hQ hl hm
  unfold wmS mGo
  dsimp only
  rw [mi_same, atV_nI (f := K 15) hk (by omega), h.ow hk, atV_nI (f := K 16) hk (by omega)]
  by_cases h1 : X (109 + (4 * lv + m)) = -1
  · rw [if_pos h1, if_pos h1]; exact h
  · rw [if_neg h1, if_neg h1]
    by_cases h2 : mOu Q X lv m = 0
    · rw [if_neg (fun q => hwk.mp q h2), if_pos h2]
      have ho := oB_n (hX.ow hk) h1
      have hob := owB hW hk ho.2 ho.1
      obtain ⟨t, ht, ht1, ht2⟩ := (hW.2.2.1 _ hk).resolve_left h1
      have h16 : K 16 (4 * lv + m) = X (121 + (4 * lv + m)) := (h.2.2.2.1 _ hk).resolve_left h1
      have et : X (121 + (4 * lv + m)) - 1 = nI (t - 1) := by
        have := nI_pred (t - 1)
        rw [show t - 1 + 1 = t by omega] at this
        rw [ht]; exact this
      rw [h16, et]
      by_cases h3 : t = 1
      · have z1 : nI (t - 1) = 0 := by rw [h3]; rfl
        rw [if_pos z1, if_pos (show nI (t - 1) ≤ 0 by rw [z1]; exact Int32.le_refl _)]
        dsimp only
        rw [putI_nI hk (by omega), putI_nI hk (by omega), nI_pred, atV_nI hl (by omega), (hp.2.1 lv hl).2.2]
        have g1 := h.left (v := nI (t - 1)) (w := nI (t - 1)) hX hk (Or.inr rfl)
        have x1 := hX.set (i := 121 + (4 * lv + m)) (v := nI (t - 1)) (rg_free (by omega))
        have g2 := g1.own (v := -1) x1 hk (Or.inl rfl)
        have x2 := x1.set (i := 109 + (4 * lv + m)) (v := -1) (rg_own (by omega) (Or.inl rfl))
        have eZ : w1 (w1 X (121 + (4 * lv + m)) (nI (t - 1))) (109 + (4 * lv + m)) (-1) = mGoZ X (4 * lv + m) := by unfold mGoZ mGoY; rw [et]
        rw [eZ] at g2 x2
        have hd := draw_same g2
        have g3 := g2.dr x2
        have x3 : mI (mDr (mGoZ X (4 * lv + m))) := x2.set (rg_free (by omega))
        have hb : ∀ j, 2 ≤ j → (j < 109 ∨ 133 ≤ j) → mDr (mGoZ X (4 * lv + m)) j = X j := fun j w1' w2 => by
          unfold mDr mGoZ mGoY
          rw [w1_ne (by omega), w1_ne (by omega), w1_ne (by omega)]
        have hC3 : mC (mDr (mGoZ X (4 * lv + m))) = mC X := by unfold mC; rw [hb 2 (by omega) (by omega)]
        rw [hd]
        unfold mGo2
        rw [ho.1]
        generalize nN (X (109 + (4 * lv + m))) = b at *
        rw [nN_nI (by omega)]
        have hst := hW.st8 hob.1
        have hst3 : mDr (mGoZ X (4 * lv + m)) (373 + b) = nI (xSt X b) := by rw [hb _ (by omega) (by omega)]; exact hst.2
        have hk3 : u2 (u2 K 16 (4 * lv + m) (nI (t - 1))) 15 (4 * lv + m) (-1) 2 b = nI (xSt X b) := by rw [u2_ne (by omega), u2_ne (by omega), h.st (by omega) hob.1]; exact hst.2
        have hlo : ∀ s, s < 9 → RV nf (kEn (u2 (u2 K 16 (4 * lv + m) (nI (t - 1))) 15 (4 * lv + m) (-1)) (nI b) (nI s)) (rDraw r) (w1 (mDr (mGoZ X (4 * lv + m))) (373 + b) (nI s)) := fun s hs => by
          rw [kEn_lo (by omega) hst.1 hs hk3]
          exact g3.enLo x3 (by rw [hC3]; exact hob.1) hst.1 (by omega) hst3 (fun w => by omega)
        by_cases h4 : Q (9 + lv) ≤ mDd (mGoZ X (4 * lv + m))
        · rw [if_pos h4, if_pos h4]
          exact hlo 7 (by omega)
        · rw [if_neg h4, if_neg h4]
          unfold kAA
          by_cases h5 : lv = 2
          · subst h5
            rw [if_pos (show nI (2 + 1) = 3 from rfl), if_pos (show nI 2 = 2 from rfl)]
            exact g3.enHi (s' := 12) x3 (by rw [hC3]; exact hob.1) hst.1 (by omega) (by omega) hst3 (by rw [show mDr (mGoZ X (4 * 2 + m)) 0 = X 0 by unfold mDr mGoZ mGoY; rw [w1_ne (by omega), w1_ne (by omega), w1_ne (by omega)]]; exact hN.1)
          · rw [if_neg (show ¬ nI (lv + 1) = 3 from fun q => h5 (by have := nI_inj' (b := 3) (by omega) (by omega) q; omega)), if_neg (show ¬ nI lv = 2 from fun q => h5 (nI_inj' (b := 2) (by omega) (by omega) q))]
            have e5 : (2 : Int32) * (nI (lv + 1) + 1) - 1 = nI (2 * lv + 3) := by
              rw [← nI_succ, show (2 : Int32) = nI 2 from rfl, pk_mul, show 2 * (lv + 1 + 1) = (2 * lv + 3) + 1 by omega, nI_pred]
            rw [e5]
            exact hlo (2 * lv + 3) (by omega)
      · have hne : ¬ nI (t - 1) = 0 := fun q => by have := nI_inj' (a := t - 1) (b := 0) (by omega) (by omega) q; omega
        rw [if_neg hne, if_neg (show ¬ nI (t - 1) ≤ 0 from nI_ge (a := 0) (b := t - 1) (by omega) (by omega))]
        dsimp only
        rw [putI_nI hk (by omega)]
        unfold mGoY
        rw [et]
        exact h.left hX hk (Or.inr rfl)
    · rw [if_pos (hwk.mpr h2), if_neg h2]; exact h
end STEP2
