/-! THE SMALL NUMBERS STAY during a tick -/
/-- what a tick leaves alone behind its first step -/
def qi (i : Nat) : Prop := i = 0 ∨ i = 2 ∨ 4 ≤ i ∧ i < 21 ∨ 173 ≤ i ∧ i < 373
def qe (X Y : JV) : Prop := ∀ i, qi i → Y i = X i
theorem qe.tr {X Y Z : JV} (h : qe X Y) (h' : qe Y Z) : qe X Z := fun i hi => (h' i hi).trans (h i hi)
theorem qe.rf (X : JV) : qe X X := fun _ _ => rfl
theorem qe.w {X Y : JV} {i : Nat} {v : Int32} (h : qe X Y) (hi : ¬ qi i) : qe X (w1 Y i v) := fun j hj => by
  rw [w1_ne (fun e => hi (by rw [← e]; exact hj))]
  exact h j hj
theorem mN.ag {nf : Nat} {X Y : JV} (h : mN nf X) (hn : nf ≤ 8) (hc : mC X ≤ 100) (e : qe X Y) : mN nf Y := by
  have hC : mC Y = mC X := by unfold mC; rw [e 2 (by unfold qi; omega)]
  refine ⟨by rw [e 0 (by unfold qi; omega)]; exact h.1, by rw [e 4 (by unfold qi; omega)]; exact h.2.1, fun f hf => ?_, fun b hb => ?_⟩
  · rw [e (5 + f) (by unfold qi; omega), e (13 + f) (by unfold qi; omega)]; exact h.2.2.1 f hf
  · rw [hC] at hb
    rw [e (273 + b) (by unfold qi; omega)]; exact h.2.2.2 b hb
theorem qe_be {X Y : JV} {b : Nat} {s : Int32} (h : qe X Y) (hb : b < 100) : qe X (mBe Y b s) := fun i hi => by
  have hi' := hi
  unfold qi at hi'
  rw [← h i hi]
  unfold mBe
  have h1 : mBe1 Y b s i = Y i := mBe1_3 (by omega)
  split
  · exact h1
  · unfold mBe2
    rw [w1_ne (by omega), w1_ne (by omega), w1_ne (by omega), w1_ne (by omega), w1_ne (by omega)]
    exact h1
theorem qe_mv {Q X : JV} (hQ : mQ Q) (h : ij X) : qe X (mMv Q X) := fun i hi => by
  have hi' := hi
  unfold qi at hi'
  have h2 : mMv2 Q X i = X i := mMv2_out hQ h (by omega) (by omega)
  unfold mMv mMv3
  split
  · exact h2
  · rw [w1_ne (by omega)]; exact h2
theorem qe_oc {Q X : JV} {lv m : Nat} (hl : lv < 3) (hm : m < 4) : qe X (mOc Q X lv m) := by
  unfold mOc
  split
  · split
    · unfold mOc2
      split
      · exact qe.rf X
      · exact ((((qe.rf X).w (by unfold qi; omega)).w (by unfold qi; omega)).w (by unfold qi; omega)).w (by unfold qi; omega)
    · exact qe.rf X
  · exact qe.rf X
theorem qe_go {Q X : JV} {lv m : Nat} (hX : mI X) (hl : lv < 3) (hm : m < 4) : qe X (mGo Q X lv m) := by
  unfold mGo
  split
  · exact qe.rf X
  · rename_i hn
    have ho := oB_n (hX.ow (show 4 * lv + m < 12 by omega)) hn
    have hz : qe X (mDr (mGoZ X (4 * lv + m))) := (((qe.rf X).w (by unfold qi; omega)).w (by unfold qi; omega)).w (by unfold qi; omega)
    split
    · split
      · unfold mGo2
        split
        · exact hz.w (by unfold qi; omega)
        · split
          · exact qe_be hz ho.2
          · exact hz.w (by unfold qi; omega)
      · exact (qe.rf X).w (by unfold qi; omega)
    · exact qe.rf X
theorem qe_en {Q X : JV} (hQ : mQ Q) : qe X (mEn Q X) := by
  have he := nQen hQ
  have hl := nQ0 hQ
  unfold mEn
  split
  · unfold mEn2
    split
    · exact qe.rf X
    · exact ((((qe.rf X).w (by unfold qi; omega)).w (by unfold qi; omega)).w (by unfold qi; omega)).w (by unfold qi; omega)
  · exact qe.rf X
theorem qe_ar {X : JV} {b : Nat} : qe X (mAr X b) := by
  unfold mAr
  split
  · split
    · exact (qe.rf X).w (by unfold qi; omega)
    · exact qe.rf X
  · exact qe.rf X
theorem qe_lk {H : Nat → JV → Nat → Bool} {Q X : JV} {p b : Nat} (hQ : mQ Q) (hJ : mJ Q X) (hp : p < 40) (hb : b < 100) : qe X (mLk H Q X p b) := by
  have hv : qe X (mLv X p b) := ((qe.rf X).w (by unfold qi; omega)).w (by unfold qi; omega)
  have h3 : qe X (mLk3 H Q X p b) := by
    unfold mLk3
    split
    · exact qe.rf X
    · rename_i hlh
      have hl4 := mLh_b hQ hlh
      split
      · split
        · exact qe.rf X
        · split
          · have hj9 : mJ Q (mBe (mLv X p b) b 9) := mBe_J (mLv_J hJ hp) hb
            have hh := hj9.1.he hl4.2
            exact (((qe_be hv hb).w (by unfold qi; omega)).w (by unfold qi; omega)).w (by unfold qi; omega)
          · exact qe.rf X
      · exact qe.rf X
  have h2 : qe X (mLk2 H Q X p b) := by
    unfold mLk2
    split
    · split
      · exact qe_be hv hb
      · exact h3
    · exact h3
  unfold mLk
  split
  · split
    · exact qe_be hv hb
    · exact h2
  · exact h2
theorem qe_sf {X Y : JV} {at' : Nat} (h29 : 29 ≤ at') (h3 : at' + 19 < 109) : ∀ (k i : Nat) (Y : JV), i + k ≤ 19 → qe X Y → qe X (mSf at' k i Y)
  | 0, _, _, _, h => h
  | k + 1, i, Y, hk, h => qe_sf (Y := Y) h29 h3 k (i + 1) _ (by omega) (h.w (by unfold qi; omega))
theorem qe_lo {Q X : JV} {l : Nat} (hQ : mQ Q) (hX : mI X) (hl : l < 4) : qe X (mLo Q X l) := by
  have hhe := hX.he hl
  have hlp := nQlp hQ hl
  have hlb := hX.lb (l := 20 * l) (by omega)
  unfold mLo
  split
  · exact qe.rf X
  · split
    · exact qe.rf X
    · split
      · exact qe_sf (Y := X) (by omega) (by omega) _ _ _ (by omega) (((((qe.rf X).w (by unfold qi; omega)).w (by unfold qi; omega)).w (by unfold qi; omega)).w (by unfold qi; omega))
      · exact qe.rf X
