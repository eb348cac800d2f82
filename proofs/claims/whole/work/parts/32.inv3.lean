/-! THE MODEL'S STEPS KEEP mW -/
theorem w1_comm {X : JV} {i j : Nat} {v w : Int32} (h : i ≠ j) : w1 (w1 X i v) j w = w1 (w1 X j w) i v := by
  funext k
  by_cases h1 : k = i
  · subst h1; rw [w1_ne h, w1_eq, w1_eq]
  · by_cases h2 : k = j
    · subst h2; rw [w1_eq, w1_ne h1, w1_eq]
    · rw [w1_ne h2, w1_ne h1, w1_ne h1, w1_ne h2]
theorem mSf_out {at' m : Nat} : ∀ (k i : Nat) (X : JV), (m < at' + i ∨ at' + i + k ≤ m) → mSf at' k i X m = X m
  | 0, _, _, _ => rfl
  | k + 1, i, X, h => by rw [mSf, mSf_out k (i + 1) _ (by omega), w1_ne (by omega)]
theorem mSf_val {at' j : Nat} : ∀ (k i : Nat) (X : JV), i ≤ j → j < i + k → mSf at' k i X (at' + j) = X (at' + j + 1)
  | 0, i, _, h1, h2 => by omega
  | k + 1, i, X, h1, h2 => by
    rw [mSf]
    by_cases e : j = i
    · subst e; rw [mSf_out k (j + 1) _ (by omega), w1_eq]
    · rw [mSf_val k (i + 1) _ (by omega) (by omega), w1_ne (by omega)]
theorem mSf_w1 {at' j : Nat} {v : Int32} : ∀ (k i : Nat) (X : JV), (j < at' + i ∨ at' + i + k < j) → mSf at' k i (w1 X j v) = w1 (mSf at' k i X) j v
  | 0, _, _, _ => rfl
  | k + 1, i, X, h => by
    rw [mSf, mSf, w1_ne (by omega), w1_comm (by omega), mSf_w1 k (i + 1) _ (by omega)]
theorem mW.offLane {Q X : JV} {l : Nat} (h : mW Q X 100) (hl : l < 4) (h0 : 0 < mHe X l) : mW Q (mSf (29 + 20 * l) (mHe X l - 1) 0 (w1 X (21 + l) (nI (mHe X l - 1)))) (mLb X (20 * l)) := by
  have hc := h.c
  have h20 : ∀ l, l < 4 → mHe X l ≤ 20 := fun l hl => h.h20 hl
  have h20l := h20 l hl
  obtain ⟨hJ, hS, r1, r2, r3, r4⟩ := h
  have ho : ∀ m, m < 29 + 20 * l ∨ 29 + 20 * l + (mHe X l - 1) ≤ m → m ≠ 21 + l → mSf (29 + 20 * l) (mHe X l - 1) 0 (w1 X (21 + l) (nI (mHe X l - 1))) m = X m := fun m hm h2 => by
    rw [mSf_out _ _ _ (by omega), w1_ne h2]
  have hC : mC (mSf (29 + 20 * l) (mHe X l - 1) 0 (w1 X (21 + l) (nI (mHe X l - 1)))) = mC X := by unfold mC; rw [ho 2 (by omega) (by omega)]
  have hle := hJ.2 l hl
  refine ⟨mSf_J (by omega) (by omega) _ _ _ (by omega) (hJ.held hl (by omega) (by omega)), ?_, fun k' hk' => ?_, fun b' hb' => ?_, fun b' hb' he' => ?_, fun b' hb' => ?_⟩
  · unfold sI
    rw [hC]
    refine (sJ.offLane (b := mLb X (20 * l)) (la' := xLa (mSf (29 + 20 * l) (mHe X l - 1) 0 (w1 X (21 + l) (nI (mHe X l - 1))))) (he' := fun k => if k = l then mHe X l - 1 else mHe X k) hS hc hl h0 rfl (fun k => rfl) ?_ ?_).ext (fun p hp => by unfold xLo; rw [ho _ (by omega) (by omega)]) (fun x hx => by unfold xSt; rw [ho _ (by omega) (by omega)]) (fun x hx => by unfold xPl; rw [ho _ (by omega) (by omega)]) (fun l j hl hj => rfl) (fun k hk => ?_) (fun k hk => by unfold xOw; rw [ho _ (by omega) (by omega)])
    · intro j hj
      unfold xLa
      rw [mSf_val _ _ _ (by omega) (by omega), w1_ne (by omega), show 29 + 20 * l + j + 1 = 29 + 20 * l + (j + 1) by omega]
    · intro k j hk hkl hj
      have := h20 k hk
      unfold xLa
      rw [ho _ (by omega) (by omega)]
    · try dsimp only
      by_cases q : k = l
      · subst q; rw [if_pos rfl]
        show nN (mSf _ _ _ _ _) = _
        rw [mSf_out _ _ _ (by omega), w1_eq]; exact nN_nI (by omega)
      · rw [if_neg q]; exact congrArg nN (ho (21 + k) (by omega) (by omega))
  · rw [ho _ (by omega) (by omega), ho _ (by omega) (by omega)]; exact r1 k' hk'
  · rw [hC] at hb'
    unfold xSt
    rw [ho _ (by omega) (by omega)]; exact r2 b' hb'
  · rw [hC] at hb'
    unfold xSt
    rw [ho _ (by omega) (by omega), ho _ (by omega) (by omega)]; exact r3 b' hb' (by omega)
  · rw [hC] at hb'
    unfold mF
    rw [ho _ (by omega) (by omega)]; exact r4 b' hb'
theorem mOn_eq {X : JV} {b p : Nat} (hb : b < 100) (hp : p < 40) : mOn X b p = w1 (w1 (w1 X (373 + b) (nI 8)) (473 + b) (nI p)) (133 + p) (nI b) := by
  unfold mOn
  rw [w1_comm (i := 473 + b) (by omega), w1_comm (i := 133 + p) (by omega), w1_comm (i := 133 + p) (by omega)]
  rfl
theorem mW.on {Q X : JV} {b p : Nat} (h : mW Q X b) (hbc : b < mC X) (hp : p < 40) (hpl : p < qLen Q) (hl : X (133 + p) = -1) (hf : X (773 + b) = -1) : mW Q (mOn X b p) 100 := by
  have hc := h.c
  rw [mOn_eq (by omega) hp]
  refine (((h.st (s := 8) (by omega) (by omega)).pl (v := nI p) (by omega))).onLoop ?_ hp hpl ?_ ?_ ?_ ?_
  · rw [mC_w1 (by omega), mC_w1 (by omega)]; exact hbc
  · rw [w1_ne (by omega), w1_ne (by omega)]; exact hl
  · rw [xSt_w1 (by omega)]; unfold xSt; rw [w1_eq]; rfl
  · unfold xPl; rw [w1_eq]; exact dO_n (by omega)
  · rw [w1_ne (by omega), w1_ne (by omega)]; exact hf
theorem mW.lv {Q X : JV} {b p : Nat} (h : mW Q X 100) (hp : p < 40) (hb : b < 100) (hl : X (133 + p) = nI b) : mW Q (mLv X p b) b := (h.offLoop hp hb hl).pl hb
theorem mBe_st {X : JV} {b : Nat} {s : Int32} (hb : b < 100) : mBe X b s (373 + b) = s := by
  unfold mBe
  have h1 : mBe1 X b s (373 + b) = s := by unfold mBe1; rw [w1_ne (by omega), w1_eq]
  split
  · exact h1
  · unfold mBe2
    rw [w1_ne (by omega), w1_ne (by omega), w1_ne (by omega), w1_ne (by omega), w1_ne (by omega)]
    exact h1
theorem mBe_fi {X : JV} {b : Nat} {s : Int32} (hb : b < 100) : mBe X b s (773 + b) = if s = 9 then -1 else X 0 := by
  unfold mBe
  have h1 : mBe1 X b s (773 + b) = if s = 9 then -1 else X 0 := by unfold mBe1; rw [w1_eq]
  split
  · exact h1
  · unfold mBe2
    rw [w1_ne (by omega), w1_ne (by omega), w1_ne (by omega), w1_ne (by omega), w1_ne (by omega)]
    exact h1
theorem mBe_2 {X : JV} {b : Nat} {s : Int32} : mBe X b s 2 = X 2 := by
  unfold mBe
  split
  · exact mBe1_3 (by omega)
  · unfold mBe2
    rw [w1_ne (by omega), w1_ne (by omega), w1_ne (by omega), w1_ne (by omega), w1_ne (by omega)]
    exact mBe1_3 (by omega)
theorem mW.beF {Q X : JV} {b s : Nat} (h : mW Q X b) (hb : b < 100) (hs : 10 ≤ s) (hs2 : s < 14) : mW Q (mBe X b (nI s)) 100 := by
  refine (h.be hb hs2).free ?_ ?_
  · unfold xSt; rw [mBe_st hb, nN_nI (by omega)]; omega
  · unfold xSt; rw [mBe_st hb, nN_nI (by omega)]; omega
theorem loB {Q X : JV} {p b : Nat} (h : mW Q X 100) (hp : p < 40) (hb : b < 100) (hl : X (133 + p) = nI b) : b < mC X ∧ xSt X b = 8 ∧ xPl X b = p ∧ p < qLen Q := by
  have e : xLo X p = b := by unfold xLo; rw [hl]; exact dO_n (by omega)
  have q := (h.2.1.1 p hp).resolve_left (by omega)
  rw [e] at q
  exact ⟨q.1, q.2.2.1, q.2.2.2.1, q.2.2.2.2⟩
theorem mLk_W {H : Nat → JV → Nat → Bool} {Q X : JV} {p b : Nat} (hQ : mQ Q) (h : mW Q X 100) (hp : p < 40) (hb : b < 100) (hl : X (133 + p) = nI b) : mW Q (mLk H Q X p b) 100 := by
  have hv := h.lv hp hb hl
  have hB : ∀ s, 10 ≤ s → s < 14 → mW Q (mBe (mLv X p b) b (nI s)) 100 := fun s h1 h2 => hv.beF hb h1 h2
  have hbc := (loB h hp hb hl).1
  have h3 : mW Q (mLk3 H Q X p b) 100 := by
    unfold mLk3
    split
    · exact h
    · rename_i hlh
      split
      · split
        · exact h
        · split
          · rename_i hr hk
            obtain ⟨e1, e2⟩ := mLh_b hQ hlh
            generalize nN (mLh Q p) = l at *
            have hle := h.1.2 l e2
            have hcap := (hQ.2.2.2.2.2.2.2 l e2).2
            have hlt : mHe X l < nN (Q (27 + l)) := by
              have hne : ¬ X (21 + l) = Q (27 + l) := fun e => hr (by
                unfold mRoom
                split
                · rfl
                · rfl)
              have : mHe X l ≠ nN (Q (27 + l)) := fun e => hne (by rw [(h.1.1.he e2).1, e]; exact (hQ.2.2.2.2.2.2.2 l e2).1.symm)
              omega
            have hee : mHe (mBe (mLv X p b) b 9) l = mHe X l := by
              unfold mHe
              rw [mBe_lo (by omega) (by omega), mLv_lo (by omega)]
            unfold mSto
            rw [w1_comm (i := 21 + l) (by omega), w1_comm (i := 29 + 20 * l + _) (by omega)]
            have h9 := (hv.be (s := 9) hb (by omega)).pl (v := nI l) hb
            have hh9 : mHe (w1 (mBe (mLv X p b) b 9) (473 + b) (nI l)) l = mHe (mBe (mLv X p b) b 9) l := mHe_w1 (by omega)
            rw [← hh9]
            refine mW.onLane h9 ?_ e2 ?_ ?_ ?_ ?_ ?_
            · rw [mC_w1 (by omega)]; unfold mC; rw [mBe_2, mLv_lo (by omega)]; exact hbc
            · rw [xSt_w1 (by omega)]; unfold xSt; rw [mBe_st hb]; rfl
            · unfold xPl; rw [w1_eq]; exact dO_n (by omega)
            · rw [w1_ne (by omega)]
              exact (mBe_fi hb).trans (if_pos rfl)
            · exact hh9.trans hee ▸ hlt
            · have := hh9.trans hee; show mHe _ _ < _; omega
          · exact h
      · exact h
  have h2 : mW Q (mLk2 H Q X p b) 100 := by
    unfold mLk2
    split
    · split
      · exact hB 11 (by omega) (by omega)
      · exact h3
    · exact h3
  unfold mLk
  split
  · split
    · exact hB 10 (by omega) (by omega)
    · exact h2
  · exact h2
theorem mAr_W {Q X : JV} {b : Nat} (h : mW Q X 100) (hb : b < mC X) : mW Q (mAr X b) 100 := by
  have hc := h.c
  unfold mAr
  split
  · rename_i h0
    split
    · have hs0 : xSt X b = 0 := by unfold xSt; rw [h0]; rfl
      have hf : X (773 + b) = -1 := h.2.2.2.2.1 b hb (by omega) (by omega)
      have hg := h.hang (b := b) (by unfold lo_; omega)
      refine (hg.st (s := 1) (by omega) (by omega)).free ?_ ?_
      · unfold xSt; rw [w1_eq, nN_nI (by omega)]; omega
      · rw [w1_ne (by omega)]; exact fun _ => hf
    · exact h
  · exact h
theorem mAr_C {X : JV} {b : Nat} : mC (mAr X b) = mC X := by unfold mC; rw [mAr_2 (by omega)]
theorem mArL_W {Q : JV} : ∀ (k i : Nat) (X : JV), i + k ≤ mC X → mW Q X 100 → mW Q (mArL k i X) 100
  | 0, _, _, _, h => h
  | k + 1, i, X, hk, h => mArL_W k (i + 1) _ (by rw [mAr_C]; omega) (mAr_W h (by omega))
theorem mLo_W {Q X : JV} {l : Nat} (hQ : mQ Q) (hln : qLp Q l < qLen Q) (h : mW Q X 100) (hl : l < 4) : mW Q (mLo Q X l) 100 := by
  have hhe := h.1.1.he hl
  have hlp := nQlp hQ hl
  have hlb := h.1.1.lb (l := 20 * l) (by omega)
  have h20 := h.h20 hl
  unfold mLo
  split
  · exact h
  · rename_i h0
    split
    · exact h
    · split
      · rename_i hlo
        have hn0 : 0 < mHe X l := by
          have : mHe X l ≠ 0 := fun e => h0 (by rw [hhe.1, e]; rfl)
          omega
        have hbc := h.2.1.2.2.1 l 0 hl hn0
        have eb : xLa X l 0 = mLb X (20 * l) := rfl
        rw [eb] at hbc
        have hf : X (773 + mLb X (20 * l)) = -1 := h.2.2.2.2.1 _ hbc.1 (by omega) (by omega)
        have ho := h.offLane hl hn0
        unfold mLoY
        rw [mOn_eq hlb.2 (by omega), w1_comm (i := 133 + qLp Q l) (by omega), w1_comm (i := 473 + mLb X (20 * l)) (by omega), w1_comm (i := 373 + mLb X (20 * l)) (by omega), mSf_w1 _ _ _ (by omega), mSf_w1 _ _ _ (by omega), mSf_w1 _ _ _ (by omega), ← mOn_eq hlb.2 (by omega)]
        refine ho.on ?_ (by omega) hln ?_ ?_
        · unfold mC
          rw [mSf_out _ _ _ (by omega), w1_ne (by omega)]
          exact hbc.1
        · rw [mSf_out _ _ _ (by omega), w1_ne (by omega)]; exact hlo
        · rw [mSf_out _ _ _ (by omega), w1_ne (by omega)]; exact hf
      · exact h
theorem owB {Q X : JV} {k b : Nat} (h : mW Q X 100) (hk : k < 12) (hb : b < 100) (hl : X (109 + k) = nI b) : b < mC X ∧ xSt X b = 2 * (k / 4) + 2 := by
  have e : xOw X k = b := by unfold xOw; rw [hl]; exact dO_n (by omega)
  have q := (h.2.1.2.2.2.2.2.1 k hk).resolve_left (by omega)
  rw [e] at q
  exact ⟨q.1, q.2.2⟩
theorem mGo_W {Q X : JV} {lv m : Nat} (h : mW Q X 100) (hl : lv < 3) (hm : m < 4) : mW Q (mGo Q X lv m) 100 := by
  have hk : 4 * lv + m < 12 := by omega
  have hk4 : (4 * lv + m) / 4 = lv := by omega
  unfold mGo
  split
  · exact h
  · rename_i hn
    have ho := oB_n (h.1.1.ow hk) hn
    obtain ⟨t, ht, ht1, ht2⟩ := (h.2.2.1 _ hk).resolve_left hn
    have hob := owB h hk ho.2 ho.1
    have hf : X (773 + nN (X (109 + (4 * lv + m)))) = -1 := h.2.2.2.2.1 _ hob.1 (by omega) (by omega)
    split
    · split
      · have hz : mW Q (mDr (mGoZ X (4 * lv + m))) (nN (X (109 + (4 * lv + m)))) := by
          unfold mGoZ mGoY
          rw [w1_comm (by omega)]
          exact (((h.offMach hk ho.2 ho.1).left hk (Or.inl w1_eq))).fr (by unfold fre; omega) (rg_free (by omega))
        have hzf : ∀ j, 773 ≤ j → mDr (mGoZ X (4 * lv + m)) j = X j := fun j hj => by
          unfold mDr mGoZ mGoY
          rw [w1_ne (by omega), w1_ne (by omega), w1_ne (by omega)]
        have hst : ∀ s, s < 9 → s ≠ 8 → mW Q (w1 (mDr (mGoZ X (4 * lv + m))) (373 + nN (X (109 + (4 * lv + m)))) (nI s)) 100 := fun s h9 h8 => by
          refine (hz.st ho.2 (by omega)).free ?_ ?_
          · unfold xSt; rw [w1_eq, nN_nI (by omega)]; omega
          · rw [w1_ne (by omega), hzf _ (by omega)]; exact fun _ => hf
        unfold mGo2
        split
        · exact hst 7 (by omega) (by omega)
        · split
          · exact hz.beF (s := 12) ho.2 (by omega) (by omega)
          · rename_i h2
            have : lv ≠ 2 := fun e => h2 (by rw [e]; rfl)
            exact hst (2 * lv + 3) (by omega) (by omega)
      · rename_i hle
        refine h.left hk (Or.inr ?_)
        rw [ht] at hle ⊢
        cases t with
        | zero => omega
        | succ t =>
          rw [nI_pred] at hle ⊢
          refine ⟨t, rfl, ?_, by omega⟩
          have : t ≠ 0 := fun e => hle (by rw [e]; decide)
          omega
    · exact h
def mQt (Q : JV) : Prop := (∀ q, q < 3 → ∃ t, Q (6 + q) = nI t ∧ 1 ≤ t ∧ t ≤ 99) ∧ (∀ l, l < qLn Q → qLp Q l < qLen Q)
theorem mFi_s {X : JV} {s : Int32} : ∀ n, n ≤ 100 → ¬ mFi X s n = -1 → X (373 + nN (mFi X s n)) = s ∧ nN (mFi X s n) < n
  | 0, _, h => absurd rfl h
  | n + 1, hn, h => by
    have ih := mFi_s (X := X) (s := s) n (by omega)
    have hi : X (373 + n) = s → X (373 + nN (nI n)) = s ∧ nN (nI n) < n + 1 := fun e => by rw [nN_nI (by omega)]; exact ⟨e, by omega⟩
    rw [mFi, mFs] at h ⊢
    by_cases hs : X (373 + n) = s
    · rw [if_pos hs] at h ⊢
      by_cases hb : mFi X s n = -1
      · rw [if_pos hb]; exact hi hs
      · rw [if_neg hb]
        by_cases ha : mAh X n (nN (mFi X s n)) = 0
        · rw [if_pos ha]; have := ih hb; exact ⟨this.1, by omega⟩
        · rw [if_neg ha]; exact hi hs
    · rw [if_neg hs] at h ⊢
      have := ih h
      exact ⟨this.1, by omega⟩
theorem mOc_W {Q X : JV} {lv m : Nat} (hQt : mQt Q) (h : mW Q X 100) (hl : lv < 3) (hm : m < 4) : mW Q (mOc Q X lv m) 100 := by
  have hk : 4 * lv + m < 12 := by omega
  have hk4 : (4 * lv + m) / 4 = lv := by omega
  have hc := h.c
  unfold mOc
  split
  · rename_i hn
    split
    · unfold mOc2
      split
      · exact h
      · rename_i hf
        have hs := mFi_s (X := X) (s := nI (2 * lv + 1)) (mC X) hc hf
        generalize nN (mFi X (nI (2 * lv + 1)) (mC X)) = b at *
        have hxs : xSt X b = 2 * lv + 1 := by unfold xSt; rw [hs.1]; exact nN_nI (by omega)
        have hfi : X (773 + b) = -1 := h.2.2.2.2.1 b hs.2 (by omega) (by omega)
        have hg := h.hang (b := b) (by unfold lo_; omega)
        obtain ⟨t, ht, ht1, ht2⟩ := hQt.1 lv hl
        unfold mOcY
        rw [w1_comm (i := 109 + (4 * lv + m)) (by omega), w1_comm (i := 109 + (4 * lv + m)) (by omega), w1_comm (i := 109 + (4 * lv + m)) (by omega)]
        refine mW.onMach (t := t) (((hg.left hk (Or.inl hn)).st (s := 2 * lv + 2) (by omega) (by omega)).fr (by unfold fre; omega) (rg_free (by omega))) ?_ hk ?_ ?_ ?_ ?_
        · rw [mC_w1 (by omega), mC_w1 (by omega), mC_w1 (by omega)]; exact hs.2
        · rw [w1_ne (by omega), w1_ne (by omega), w1_ne (by omega)]; exact hn
        · rw [xSt_w1 (by omega)]; unfold xSt; rw [w1_eq, nN_nI (by omega)]; omega
        · rw [w1_ne (by omega), w1_ne (by omega), w1_eq]; exact ⟨ht, ht1, ht2⟩
        · rw [w1_ne (by omega), w1_ne (by omega), w1_ne (by omega)]; exact hfi
    · exact h
  · exact h
theorem mEn_W {Q X : JV} (hQ : mQ Q) (h : mW Q X 100) : mW Q (mEn Q X) 100 := by
  have he := nQen hQ
  have hl := nQ0 hQ
  have hc := h.c
  unfold mEn
  split
  · rename_i hn
    unfold mEn2
    split
    · exact h
    · rename_i hf
      have hs := mFi_s (X := X) (s := 7) (mC X) hc hf
      generalize nN (mFi X 7 (mC X)) = b at *
      have hxs : xSt X b = 7 := by unfold xSt; rw [hs.1]; rfl
      have hfi : X (773 + b) = -1 := h.2.2.2.2.1 b hs.2 (by omega) (by omega)
      have hg := h.hang (b := b) (by unfold lo_; omega)
      exact (hg.on hs.2 (by omega) he.2 hn hfi).fr (by unfold fre; omega) (rg_free (by omega))
  · exact h
/-! the loop turns -/
def ij (X : JV) : Prop := (∀ p, p < 40 → oB (X (133 + p))) ∧ ∀ p q, p < 40 → q < 40 → X (133 + p) = X (133 + q) → X (133 + p) = -1 ∨ p = q
theorem mPs_out {X : JV} {p m : Nat} (h : ij X) (hp : p < 40) (hm : m < 473 ∨ 573 ≤ m) : mPs X p m = X m := by
  unfold mPs
  split
  · rfl
  · rename_i hn
    have := oB_n (h.1 p hp) hn
    rw [w1_ne (by omega)]
theorem mPs_ij {X : JV} {p : Nat} (h : ij X) (hp : p < 40) : ij (mPs X p) := ⟨fun q hq => by rw [mPs_out h hp (by omega)]; exact h.1 q hq, fun a b ha hb => by rw [mPs_out h hp (by omega), mPs_out h hp (by omega)]; exact h.2 a b ha hb⟩
theorem mPL_out {m : Nat} (hm : m < 473 ∨ 573 ≤ m) : ∀ (k i : Nat) (X : JV), i + k ≤ 40 → ij X → mPL k i X m = X m
  | 0, _, _, _, _ => rfl
  | k + 1, i, X, hk, h => by rw [mPL, mPL_out hm k (i + 1) _ (by omega) (mPs_ij h (by omega)), mPs_out h (by omega) hm]
theorem mPL_no {b : Nat} (hb : b < 100) : ∀ (k i : Nat) (X : JV), i + k ≤ 40 → ij X → (∀ q, i ≤ q → q < i + k → ¬ X (133 + q) = nI b) → mPL k i X (473 + b) = X (473 + b)
  | 0, _, _, _, _, _ => rfl
  | k + 1, i, X, hk, h, hn => by
    rw [mPL, mPL_no hb k (i + 1) _ (by omega) (mPs_ij h (by omega)) (fun q h1 h2 => by rw [mPs_out h (by omega) (by omega)]; exact hn q (by omega) (by omega))]
    unfold mPs
    split
    · rfl
    · rename_i hm
      have ho := oB_n (h.1 i (by omega)) hm
      rw [w1_ne]
      intro e
      exact hn i (by omega) (by omega) (by rw [ho.1]; congr 1; omega)
theorem mPL_val {b : Nat} (hb : b < 100) : ∀ (k i q : Nat) (X : JV), i + k ≤ 40 → ij X → i ≤ q → q < i + k → X (133 + q) = nI b → mPL k i X (473 + b) = nI q
  | 0, _, _, _, _, _, h1, h2, _ => by omega
  | k + 1, i, q, X, hk, h, h1, h2, hq => by
    rw [mPL]
    by_cases e : q = i
    · subst e
      have hne : ¬ nI b = -1 := fun w => by
        have := congrArg dO w
        rw [dO_n (by omega), dO_m] at this
        omega
      rw [mPL_no hb k (q + 1) _ (by omega) (mPs_ij h (by omega)) (fun p p1 p2 w => by
        rw [mPs_out h (by omega) (by omega)] at w
        rcases h.2 p q (by omega) (by omega) (by rw [w, hq]) with v | v
        · exact hne (by rw [← w]; exact v)
        · omega)]
      unfold mPs
      rw [if_neg (by rw [hq]; exact hne), hq, nN_nI (by omega), w1_eq]
    · exact mPL_val hb k (i + 1) q _ (by omega) (mPs_ij h (by omega)) (by omega) (by omega) (by rw [mPs_out h (by omega) (by omega)]; exact hq)
theorem mW.ij {Q X : JV} (h : mW Q X 100) : ij X := ⟨fun p hp => h.1.1.lo hp, fun p q hp hq e => by
  by_cases hn : X (133 + p) = -1
  · exact Or.inl hn
  · have ho := oB_n (h.1.1.lo hp) hn
    have a1 := loB h hp ho.2 ho.1
    have a2 := loB h hq ho.2 (e.symm.trans ho.1)
    right; omega⟩
theorem mMv1_0 {Q X : JV} (hl : 1 ≤ qLen Q) : mMv1 Q X (133 + 0) = X (133 + (qLen Q - 1)) := by unfold mMv1; exact w1_eq
theorem mMv1_s {Q X : JV} {p : Nat} (hp : p + 1 < qLen Q) : mMv1 Q X (133 + (p + 1)) = X (133 + p) := by
  unfold mMv1
  rw [w1_ne (by omega)]
  unfold mSh
  rw [if_pos (by omega), show 133 + (p + 1) - 1 = 133 + p by omega]
theorem mMv1_o {Q X : JV} {m : Nat} (hl : 1 ≤ qLen Q) (hm : m < 133 ∨ 133 + qLen Q ≤ m) : mMv1 Q X m = X m := by
  unfold mMv1
  rw [w1_ne (by omega)]
  unfold mSh
  rw [if_neg (by omega)]
/-- where it was before the turn -/
def bk (len p : Nat) : Nat := if p < len then (if p = 0 then len - 1 else p - 1) else p
theorem bk_lt {len p : Nat} (hl : 1 ≤ len) (h40 : len ≤ 40) (hp : p < 40) : bk len p < 40 := by
  unfold bk
  repeat' split
  all_goals omega
theorem mMv1_bk {Q X : JV} {p : Nat} (hl : 1 ≤ qLen Q) (hp : p < 40) : mMv1 Q X (133 + p) = X (133 + bk (qLen Q) p) := by
  unfold bk
  split
  · split
    · rename_i e; subst e; exact mMv1_0 hl
    · rename_i h1 h0
      have := mMv1_s (Q := Q) (X := X) (p := p - 1) (by omega)
      rw [show p - 1 + 1 = p by omega] at this
      exact this
  · exact mMv1_o hl (by omega)
theorem mMv1_ij {Q X : JV} (hl : 1 ≤ qLen Q) (h40 : qLen Q ≤ 40) (h : ij X) : ij (mMv1 Q X) := ⟨fun p hp => by
  rw [mMv1_bk hl hp]
  exact h.1 _ (bk_lt hl h40 hp), fun p q hp hq => by
  rw [mMv1_bk hl hp, mMv1_bk hl hq]
  intro e
  rcases h.2 _ _ (bk_lt hl h40 hp) (bk_lt hl h40 hq) e with v | v
  · exact Or.inl v
  · right
    unfold bk at v
    repeat' split at v
    all_goals omega⟩
theorem mMv_W {Q X : JV} (hQ : mQ Q) (h : mW Q X 100) : mW Q (mMv Q X) 100 := by
  have hl := nQ0 hQ
  have hc := h.c
  have h20 : ∀ l, l < 4 → mHe X l ≤ 20 := fun l hl => h.h20 hl
  have hij := mMv1_ij (Q := Q) hl.2.2 (by omega) h.ij
  have ho : ∀ m, (m < 133 ∨ 173 ≤ m) → (m < 473 ∨ 573 ≤ m) → mMv2 Q X m = X m := fun m h1 h2 => by
    unfold mMv2
    rw [mPL_out h2 _ _ _ (by omega) hij, mMv1_o hl.2.2 (by omega)]
  have hlo : ∀ p, p < 40 → mMv2 Q X (133 + p) = X (133 + bk (qLen Q) p) := fun p hp => by
    unfold mMv2
    rw [mPL_out (by omega) _ _ _ (by omega) hij, mMv1_bk hl.2.2 hp]
  have h2 : mW Q (mMv2 Q X) 100 := by
    obtain ⟨hJ, hS, r1, r2, r3, r4⟩ := id h
    have hC : mC (mMv2 Q X) = mC X := by unfold mC; rw [ho 2 (by omega) (by omega)]
    refine ⟨mPL_J _ _ _ (mMv1_J hQ hJ), ?_, fun k hk => ?_, fun b hb => ?_, fun b hb hbe => ?_, fun b hb => ?_⟩
    · unfold sI
      rw [hC]
      refine (sJ.turn (lo' := xLo (mMv2 Q X)) (pl' := xPl (mMv2 Q X)) hS hc (by omega) (by omega) ?_ ?_ ?_ ?_ ?_).ext (fun p hp => rfl) (fun x hx => by unfold xSt; rw [ho _ (by omega) (by omega)]) (fun x hx => rfl) (fun l j hl hj => by have := h20 l hl; unfold xLa; rw [ho _ (by omega) (by omega)]) (fun l hl => by unfold mHe; rw [ho _ (by omega) (by omega)]) (fun k hk => by unfold xOw; rw [ho _ (by omega) (by omega)])
      · unfold xLo
        rw [hlo 0 (by omega)]
        unfold bk
        rw [if_pos (by omega), if_pos rfl]
      · intro p hp
        unfold xLo
        rw [hlo (p + 1) (by omega)]
        unfold bk
        rw [if_pos hp, if_neg (by omega), Nat.add_sub_cancel]
      · intro p h1 h2
        unfold xLo
        rw [hlo p h2]
        unfold bk
        rw [if_neg (by omega)]
      · intro p hp hn
        have hob : oB (mMv2 Q X (133 + p)) := by rw [hlo p (by omega)]; exact hJ.1.lo (bk_lt hl.2.2 (by omega) (by omega))
        have hn1 : ¬ mMv2 Q X (133 + p) = -1 := fun e => hn ((dO_100 hob).mpr e)
        have hb := oB_n hob hn1
        have e1 : xLo (mMv2 Q X) p = nN (mMv2 Q X (133 + p)) := by unfold xLo dO; rw [if_neg hn1]
        rw [e1]
        generalize nN (mMv2 Q X (133 + p)) = b at *
        unfold xPl
        have hv : mMv2 Q X (473 + b) = nI p := by
          unfold mMv2
          refine mPL_val hb.2 _ 0 p _ (by omega) hij (by omega) (by omega) ?_
          have := hb.1
          unfold mMv2 at this
          rw [mPL_out (by omega) _ _ _ (by omega) hij] at this
          exact this
        rw [hv]
        exact dO_n (by omega)
      · intro x hx hno
        unfold xPl
        have hv : mMv2 Q X (473 + x) = X (473 + x) := by
          unfold mMv2
          rw [mPL_no (by omega) _ 0 _ (by omega) hij (fun q _ hq e => hno q (by omega) (by
            unfold xLo mMv2
            rw [mPL_out (by omega) _ _ _ (by omega) hij, e]
            exact dO_n (by omega))), mMv1_o hl.2.2 (by omega)]
        rw [hv]
    · rw [ho _ (by omega) (by omega), ho _ (by omega) (by omega)]; exact r1 k hk
    · rw [hC] at hb
      unfold xSt
      rw [ho _ (by omega) (by omega)]; exact r2 b hb
    · rw [hC] at hb
      unfold xSt
      rw [ho _ (by omega) (by omega), ho _ (by omega) (by omega)]; exact r3 b hb hbe
    · rw [hC] at hb
      unfold mF
      rw [ho _ (by omega) (by omega)]; exact r4 b hb
  unfold mMv mMv3
  split
  · exact h2
  · rename_i hn
    have he := nQen hQ
    have := oB_n (h2.1.1.lo (show qEn Q < 40 by omega)) hn
    exact h2.fr (by unfold fre; omega) (rg_free (by omega))
theorem mLkS_W {H : Nat → JV → Nat → Bool} {Q X : JV} {p : Nat} (hQ : mQ Q) (h : mW Q X 100) (hp : p < 40) : mW Q (mLkS H Q X p) 100 := by
  unfold mLkS
  split
  · exact h
  · rename_i hn
    have ho := oB_n (h.1.1.lo hp) hn
    exact mLk_W hQ h hp ho.2 ho.1
theorem mLkL_W {H : Nat → JV → Nat → Bool} {Q : JV} (hQ : mQ Q) : ∀ (k i : Nat) (X : JV), i + k ≤ 40 → mW Q X 100 → mW Q (mLkL H Q k i X) 100
  | 0, _, _, _, h => h
  | k + 1, i, X, hk, h => mLkL_W hQ k (i + 1) _ (by omega) (mLkS_W hQ h (by omega))
theorem mLoL_W {Q : JV} (hQ : mQ Q) (hQt : mQt Q) : ∀ (k i : Nat) (X : JV), i + k ≤ qLn Q → mW Q X 100 → mW Q (mLoL Q k i X) 100
  | 0, _, _, _, h => h
  | k + 1, i, X, hk, h => mLoL_W hQ hQt k (i + 1) _ (by omega) (mLo_W hQ (hQt.2 i (by omega)) h (by have := nQln hQ; omega))
theorem mGoL_W {Q : JV} {lv : Nat} (hl : lv < 3) : ∀ (k i : Nat) (X : JV), i + k ≤ 4 → mW Q X 100 → mW Q (mGoL Q lv k i X) 100
  | 0, _, _, _, h => h
  | k + 1, i, X, hk, h => mGoL_W hl k (i + 1) _ (by omega) (mGo_W h hl (by omega))
theorem mOcL_W {Q : JV} {lv : Nat} (hQt : mQt Q) (hl : lv < 3) : ∀ (k i : Nat) (X : JV), i + k ≤ 4 → mW Q X 100 → mW Q (mOcL Q lv k i X) 100
  | 0, _, _, _, h => h
  | k + 1, i, X, hk, h => mOcL_W hQt hl k (i + 1) _ (by omega) (mOc_W hQt h hl (by omega))
theorem mGoA_W {Q : JV} (hQ : mQ Q) : ∀ (k : Nat) (X : JV), k ≤ 3 → mW Q X 100 → mW Q (mGoA Q k X) 100
  | 0, _, _, h => h
  | k + 1, X, hk, h => mGoA_W hQ k _ (by omega) (mGoL_W (by omega) _ _ _ (by have := nQmn hQ (k := k) (by omega); omega) h)
theorem mOcA_W {Q : JV} (hQ : mQ Q) (hQt : mQt Q) : ∀ (k : Nat) (X : JV), k ≤ 3 → mW Q X 100 → mW Q (mOcA Q k X) 100
  | 0, _, _, h => h
  | k + 1, X, hk, h => mOcA_W hQ hQt k _ (by omega) (mOcL_W hQt (by omega) _ _ _ (by have := nQmn hQ (k := k) (by omega); omega) h)
theorem mT1_W {Q X : JV} (hQ : mQ Q) (h : mW Q X 100) : mW Q (mT1 Q X) 100 := by
  unfold mT1
  split
  · exact h
  · exact mMv_W hQ h
theorem mT0_W {Q X : JV} (h : mW Q X 100) : mW Q (mArL (mC X) 0 (w1 X 0 (X 0 + 1))) 100 := mArL_W _ _ _ (by rw [mC_w1 (by omega)]; omega) (h.fr (by unfold fre; omega) (rg_free (by omega)))
theorem mTick_W {H : Nat → JV → Nat → Bool} {Q X : JV} (hQ : mQ Q) (hQt : mQt Q) (h : mW Q X 100) : mW Q (mTick H Q X) 100 := by
  have hl := nQ0 hQ
  exact mEn_W hQ (mOcA_W hQ hQt 3 _ (by omega) (mGoA_W hQ 3 _ (by omega) (mLoL_W hQ hQt _ _ _ (by omega) (mLkL_W hQ _ _ _ (by omega) (mT1_W hQ (mT0_W h))))))
theorem mRun_W {H : Nat → JV → Nat → Bool} {Q : JV} (hQ : mQ Q) (hQt : mQt Q) : ∀ (n : Nat) (X : JV), mW Q X 100 → mW Q (mRun H Q n X) 100
  | 0, _, h => h
  | n + 1, X, h => mRun_W hQ hQt n _ (mTick_W hQ hQt h)
