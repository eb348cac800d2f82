/-! PLACES: -1 or a number under 40; times of ends: -1 or a number under 10000; what ticks leave -/
def pO (v : Int32) : Prop := v = -1 ∨ nB 40 v
def fO (v : Int32) : Prop := v = -1 ∨ nB 10000 v
def pp (X : JV) : Prop := nB 10000 (X 0) ∧ (∀ b, b < 100 → pO (X (473 + b))) ∧ ∀ b, b < 100 → fO (X (773 + b))
section PP
variable {H : Nat → JV → Nat → Bool} {Q X Y : JV} {i b p l s : Nat} {v : Int32}
theorem pp.w (h : pp X) (h0 : 0 < i) (hv : 473 ≤ i → i < 573 → pO v) (hf : 773 ≤ i → i < 873 → fO v) : pp (w1 X i v) := by
  refine ⟨by rw [w1_ne (by omega)]; exact h.1, fun b hb => ?_, fun b hb => ?_⟩
  · by_cases e : 473 + b = i
    · subst e
      rw [w1_eq]
      exact hv (by omega) (by omega)
    · rw [w1_ne e]
      exact h.2.1 b hb
  · by_cases e : 773 + b = i
    · subst e
      rw [w1_eq]
      exact hf (by omega) (by omega)
    · rw [w1_ne e]
      exact h.2.2 b hb
theorem pp.o (h : pp X) (hi : 0 < i ∧ (i < 473 ∨ 573 ≤ i ∧ i < 773 ∨ 873 ≤ i)) : pp (w1 X i v) := h.w (by omega) (fun h1 h2 => by omega) (fun h1 h2 => by omega)
theorem pO_n {n : Nat} (h : n < 40) : pO (nI n) := Or.inr (nB_nI h (by omega))
theorem pp_ar (h : pp X) (hb : b < 100) : pp (mAr X b) := by
  unfold mAr
  split
  · split
    · exact h.o (by omega)
    · exact h
  · exact h
theorem pp_arL : ∀ (k i : Nat) (X : JV), i + k ≤ 100 → pp X → pp (mArL k i X)
  | 0, _, _, _, h => h
  | k + 1, i, X, hk, h => pp_arL k (i + 1) _ (by omega) (pp_ar h (by omega))
theorem pp_be (h : pp X) (hb : b < 100) : pp (mBe X b v) := by
  have h1 : pp (mBe1 X b v) := by
    unfold mBe1
    refine (h.o (by omega)).w (by omega) (fun h1 h2 => by omega) (fun _ _ => ?_)
    split
    · exact Or.inl rfl
    · exact Or.inr h.1
  unfold mBe mBe2
  split
  · exact h1
  · exact ((((h1.o (by omega)).o (by omega)).o (by omega)).o (by omega)).o (by omega)
theorem pp_lv (h : pp X) (hp : p < 40) (hb : b < 100) : pp (mLv X p b) := (h.o (by omega)).w (by omega) (fun _ _ => Or.inl rfl) (fun h1 h2 => by omega)
theorem pp_on (h : pp X) (hp : p < 40) (hb : b < 100) : pp (mOn X b p) := ((h.o (by omega)).w (by omega) (fun _ _ => pO_n hp) (fun h1 h2 => by omega)).o (by omega)
theorem pp_pL : ∀ (k i : Nat) (X : JV), i + k ≤ 40 → mJ Q X → pp X → pp (mPL k i X)
  | 0, _, _, _, _, h => h
  | k + 1, i, X, hk, hJ, h => pp_pL k (i + 1) _ (by omega) (mPs_J hJ) (by
    unfold mPs
    split
    · exact h
    · rename_i g
      have hb := (oB_n (hJ.1.lo (by omega)) g).2
      exact h.w (by omega) (fun _ _ => pO_n (by omega)) (fun h1 h2 => by omega))
theorem pp_mv (hQ : mQ Q) (hJ : mJ Q X) (h : pp X) : pp (mMv Q X) := by
  have hl : qLen Q < 41 := hQ.1.1.2
  have h1 : pp (mMv1 Q X) := by
    unfold mMv1
    refine pp.o ⟨?_, fun b hb => ?_, fun b hb => ?_⟩ (by omega)
    · unfold mSh
      rw [if_neg (by omega)]
      exact h.1
    · unfold mSh
      rw [if_neg (by omega)]
      exact h.2.1 b hb
    · unfold mSh
      rw [if_neg (by omega)]
      exact h.2.2 b hb
  have hJ1 : mJ Q (mMv1 Q X) := mMv1_J hQ hJ
  have hJ2 : mJ Q (mMv2 Q X) := mPL_J _ _ _ hJ1
  have h2 : pp (mMv2 Q X) := pp_pL _ _ _ (by omega) hJ1 h1
  have hqe : qEn Q < 40 := by have := hQ.2.1.2; have := hQ.1.1.2; unfold qEn; omega
  unfold mMv mMv3
  split
  · exact h2
  · rename_i g
    have hb := (oB_n (hJ2.1.lo hqe) g).2
    exact h2.o (by omega)
theorem be_lo (hi : i < 133) (h3 : i ≠ 3) : mBe X b v i = X i := by
  unfold mBe mBe1 mBe2
  split <;> (repeat (rw [w1_ne (by omega)]))
theorem pp_lk (hQ : mQ Q) (h : pp X) (hJ : mJ Q X) (hp : p < 40) (hb : b < 100) : pp (mLk H Q X p b) := by
  have h3 : pp (mLk3 H Q X p b) := by
    unfold mLk3
    split
    · exact h
    · rename_i g
      have g4 := (mLh_b hQ g).2
      have hhe := (hJ.1.he g4).2
      have hm : mHe (mBe (mLv X p b) b 9) (nN (mLh Q p)) = mHe X (nN (mLh Q p)) := by
        unfold mHe mLv
        rw [be_lo (by omega) (by omega), w1_ne (by omega), w1_ne (by omega)]
      split
      · split
        · exact h
        · split
          · unfold mSto
            rw [hm]
            exact (((pp_be (pp_lv h hp hb) hb).o (by omega)).o (by omega)).w (by omega) (fun _ _ => pO_n (by omega)) (fun h1 h2 => by omega)
          · exact h
      · exact h
  have h2 : pp (mLk2 H Q X p b) := by
    unfold mLk2
    split
    · split
      · exact pp_be (pp_lv h hp hb) hb
      · exact h3
    · exact h3
  unfold mLk
  split
  · split
    · exact pp_be (pp_lv h hp hb) hb
    · exact h2
  · exact h2
theorem pp_lkL (hQ : mQ Q) : ∀ (k i : Nat) (X : JV), i + k ≤ 40 → mJ Q X → pp X → pp (mLkL H Q k i X)
  | 0, _, _, _, _, h => h
  | k + 1, i, X, hk, hJ, h => pp_lkL hQ k (i + 1) _ (by omega) (mLkS_J hQ hJ (by omega)) (by
    unfold mLkS
    split
    · exact h
    · rename_i g
      exact pp_lk hQ h hJ (by omega) (oB_n (hJ.1.lo (by omega)) g).2)
theorem pp_sf {at' : Nat} (h29 : 29 ≤ at') (h3 : at' + 19 < 109) : ∀ (k i : Nat) (X : JV), i + k ≤ 19 → pp X → pp (mSf at' k i X)
  | 0, _, _, _, h => h
  | k + 1, i, X, hk, h => pp_sf h29 h3 k (i + 1) _ (by omega) (h.o (by omega))
theorem pp_lo (hQ : mQ Q) (hX : mI X) (hl : l < 4) (h : pp X) : pp (mLo Q X l) := by
  have hhe := hX.he hl
  have hlp := nQlp hQ hl
  have hlb := hX.lb (l := 20 * l) (by omega)
  unfold mLo
  split
  · exact h
  · split
    · exact h
    · split
      · unfold mLoY
        exact pp_sf (by omega) (by omega) _ _ _ (by have := hhe.2; omega) ((pp_on h hlp.2 hlb.2).o (by omega))
      · exact h
theorem pp_loL (hQ : mQ Q) : ∀ (k i : Nat) (X : JV), i + k ≤ 4 → mJ Q X → pp X → pp (mLoL Q k i X)
  | 0, _, _, _, _, h => h
  | k + 1, i, X, hk, hJ, h => pp_loL hQ k (i + 1) _ (by omega) (mLo_J hQ hJ (by omega)) (pp_lo hQ hJ.1 (by omega) h)
theorem pp_go {lv m : Nat} (hX : mI X) (hl : lv < 3) (hm : m < 4) (h : pp X) : pp (mGo Q X lv m) := by
  unfold mGo
  split
  · exact h
  · rename_i g
    have hb := (oB_n (hX.ow (by omega)) g).2
    split
    · split
      · unfold mGo2 mGoZ mGoY mDr
        split
        · exact (((h.o (by omega)).o (by omega)).o (by omega)).o (by omega)
        · split
          · exact pp_be (((h.o (by omega)).o (by omega)).o (by omega)) hb
          · exact (((h.o (by omega)).o (by omega)).o (by omega)).o (by omega)
      · unfold mGoY
        exact h.o (by omega)
    · exact h
theorem pp_goL {lv : Nat} (hl : lv < 3) : ∀ (k i : Nat) (X : JV), i + k ≤ 4 → mJ Q X → pp X → pp (mGoL Q lv k i X)
  | 0, _, _, _, _, h => h
  | k + 1, i, X, hk, hJ, h => pp_goL hl k (i + 1) _ (by omega) (mGo_J hJ hl (by omega)) (pp_go hJ.1 hl (by omega) h)
theorem pp_oc {lv m : Nat} (hX : mI X) (hl : lv < 3) (hm : m < 4) (h : pp X) : pp (mOc Q X lv m) := by
  unfold mOc
  split
  · split
    · unfold mOc2
      split
      · exact h
      · rename_i g
        have hb := (mFi_n hX g).2
        unfold mOcY
        exact (((h.o (by omega)).o (by omega)).o (by omega)).o (by omega)
    · exact h
  · exact h
theorem pp_ocL (hQ : mQ Q) {lv : Nat} (hl : lv < 3) : ∀ (k i : Nat) (X : JV), i + k ≤ 4 → mJ Q X → pp X → pp (mOcL Q lv k i X)
  | 0, _, _, _, _, h => h
  | k + 1, i, X, hk, hJ, h => pp_ocL hQ hl k (i + 1) _ (by omega) (mOc_J hJ hl (by omega)) (pp_oc hJ.1 hl (by omega) h)
theorem pp_en (hQ : mQ Q) (hX : mI X) (h : pp X) : pp (mEn Q X) := by
  unfold mEn
  split
  · unfold mEn2
    split
    · exact h
    · rename_i g
      have hb := (mFi_n hX g).2
      unfold mEnY
      exact (pp_on h (by have := hQ.2.1.2; have := hQ.1.1.2; unfold qEn; omega) hb).o (by omega)
  · exact h
end PP
/-- what a tick leaves -/
theorem TI.tick2 {nf c : Nat} {P : JI} {Q X : JV} {H : Nat → JV → Nat → Bool} {x : JI × Int64} (h : TI nf c Q x X) (hp : RP nf P Q) (hQ : mQ Q) (hQt : mQt Q) (hH : RH nf P H Q) (hP4 : 4 ≤ plen P) (ht : nN (X 0) + 1 < 10000) (hpp : pp X) : qe (w1 X 0 (X 0 + 1)) (mTick H Q X) ∧ pp (mTick H Q X) := by
  have h0 := h.t0 hp.2.2.2.2.2.2 (by omega)
  have hc : mC X = c := h.2.2.2
  have p0 : pp (w1 X 0 (X 0 + 1)) := ⟨by rw [w1_eq, hpp.1.1, show (1 : Int32) = nI 1 from rfl, nI_add]; exact nB_nI ht (by omega), fun b hb => by rw [w1_ne (by omega)]; exact hpp.2.1 b hb, fun b hb => by rw [w1_ne (by omega)]; exact hpp.2.2 b hb⟩
  unfold mTick
  rw [hc]
  generalize w1 X 0 (X 0 + 1) = Y at *
  have hln : qLen Q < 41 := hQ.1.1.2
  have hlq : qLn Q < 5 := (nQln hQ).2
  have hmn : ∀ q, q < 3 → qMn Q q < 5 := fun q hq => (hQ.2.2.1 q hq).2
  have hc1 : c ≤ 100 := by rw [← hc]; exact h.2.1.c
  have t1 := h0.ad hp
  have q1 := qe_arL c 0 Y
  have p1 := pp_arL c 0 Y (by omega) p0
  have t2 := t1.mv hp hQ hP4
  have q2 : qe (mArL c 0 Y) (mT1 Q (mArL c 0 Y)) := by
    unfold mT1
    split
    · exact qe.rf _
    · exact qe_mv hQ t1.2.1.ij
  have p2 : pp (mT1 Q (mArL c 0 Y)) := by
    unfold mT1
    split
    · exact p1
    · exact pp_mv hQ t1.2.1.1 p1
  have t3 := t2.tk hp hQ hH
  have q3 := qe_lkL (H := H) hQ (qLen Q) 0 _ (by omega) t2.2.1.1
  have p3 := pp_lkL (H := H) hQ (qLen Q) 0 _ (by omega) t2.2.1.1 p2
  have t4 := t3.em hp hQ hQt
  have q4 := qe_loL hQ (qLn Q) 0 _ (by omega) t3.2.1.1
  have p4 := pp_loL hQ (qLn Q) 0 _ (by omega) t3.2.1.1 p3
  have m0 := hmn 0 (by omega)
  have m1 := hmn 1 (by omega)
  have m2 := hmn 2 (by omega)
  have t5 := t4.wm (lv := 2) hp hQ (by omega)
  have q5 := qe_goL (Q := Q) (lv := 2) (by omega) (qMn Q 2) 0 _ (by omega) t4.2.1.1
  have p5 := pp_goL (Q := Q) (lv := 2) (by omega) (qMn Q 2) 0 _ (by omega) t4.2.1.1 p4
  have t6 := t5.wm (lv := 1) hp hQ (by omega)
  have q6 := qe_goL (Q := Q) (lv := 1) (by omega) (qMn Q 1) 0 _ (by omega) t5.2.1.1
  have p6 := pp_goL (Q := Q) (lv := 1) (by omega) (qMn Q 1) 0 _ (by omega) t5.2.1.1 p5
  have t7 := t6.wm (lv := 0) hp hQ (by omega)
  have q7 := qe_goL (Q := Q) (lv := 0) (by omega) (qMn Q 0) 0 _ (by omega) t6.2.1.1
  have p7 := pp_goL (Q := Q) (lv := 0) (by omega) (qMn Q 0) 0 _ (by omega) t6.2.1.1 p6
  have t8 := t7.fm (lv := 2) hp hQ hQt (by omega)
  have p8 := pp_ocL hQ (lv := 2) (by omega) (qMn Q 2) 0 _ (by omega) t7.2.1.1 p7
  have t9 := t8.fm (lv := 1) hp hQ hQt (by omega)
  have p9 := pp_ocL hQ (lv := 1) (by omega) (qMn Q 1) 0 _ (by omega) t8.2.1.1 p8
  have t10 := t9.fm (lv := 0) hp hQ hQt (by omega)
  have p10 := pp_ocL hQ (lv := 0) (by omega) (qMn Q 0) 0 _ (by omega) t9.2.1.1 p9
  exact ⟨((((((((((q1.tr q2).tr q3).tr q4).tr q5).tr q6).tr q7).tr (qe_ocL (Q := Q) (lv := 2) (by omega) (qMn Q 2) 0 _ (by omega))).tr (qe_ocL (Q := Q) (lv := 1) (by omega) (qMn Q 1) 0 _ (by omega))).tr (qe_ocL (Q := Q) (lv := 0) (by omega) (qMn Q 0) 0 _ (by omega))).tr (qe_en hQ)), pp_en hQ t10.2.1.1.1 p10⟩
theorem pp.ag {X Y : JV} (h : pp X) (e : ag X Y) : pp Y := ⟨by rw [e 0 (by omega)]; exact h.1, fun b hb => by rw [e (473 + b) (by omega)]; exact h.2.1 b hb, fun b hb => by rw [e (773 + b) (by omega)]; exact h.2.2 b hb⟩
