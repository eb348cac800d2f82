/-! THE MODEL'S STEPS KEEP mW -/
theorem w1_comm {X : JV} {i j : Nat} {v w : Int32} (h : i ≠ j) : w1 (w1 X i v) j w = w1 (w1 X j w) i v := by
  funext k
  by_cases h1 : k = i
  · subst h1; rw [w1_ne h, w1_eq, w1_eq]
  · by_cases h2 : k = j
    · subst h2; rw [w1_eq, w1_ne h1, w1_eq]
    · rw [w1_ne h2, w1_ne h1, w1_ne h1, w1_ne h2]
theorem mSf_out {at' m : Nat} : ∀ (k i : Nat) (X : JV), (m < at' + i ∨ at' + i + k ≤ m) → mSf at' k i X m = X m
  | 0, _, _, _ => rfl
  | k + 1, i, X, h => by rw [mSf, mSf_out k (i + 1) _ (by omega), w1_ne (by omega)]
theorem mSf_val {at' j : Nat} : ∀ (k i : Nat) (X : JV), i ≤ j → j < i + k → mSf at' k i X (at' + j) = X (at' + j + 1)
  | 0, i, _, h1, h2 => by omega
  | k + 1, i, X, h1, h2 => by
    rw [mSf]
    by_cases e : j = i
    · subst e; rw [mSf_out k (j + 1) _ (by omega), w1_eq]
    · rw [mSf_val k (i + 1) _ (by omega) (by omega), w1_ne (by omega)]
theorem mSf_w1 {at' j : Nat} {v : Int32} : ∀ (k i : Nat) (X : JV), (j < at' + i ∨ at' + i + k < j) → mSf at' k i (w1 X j v) = w1 (mSf at' k i X) j v
  | 0, _, _, _ => rfl
  | k + 1, i, X, h => by
    rw [mSf, mSf, w1_ne (by omega), w1_comm (by omega), mSf_w1 k (i + 1) _ (by omega)]
theorem mW.offLane {Q X : JV} {l : Nat} (h : mW Q X 100) (hl : l < 4) (h0 : 0 < mHe X l) : mW Q (mSf (29 + 20 * l) (mHe X l - 1) 0 (w1 X (21 + l) (nI (mHe X l - 1)))) (mLb X (20 * l)) := by
  have hc := h.c
  have h20 : ∀ l, l < 4 → mHe X l ≤ 20 := fun l hl => h.h20 hl
  have h20l := h20 l hl
  obtain ⟨hJ, hS, r1, r2, r3, r4⟩ := h
  have ho : ∀ m, m < 29 + 20 * l ∨ 29 + 20 * l + (mHe X l - 1) ≤ m → m ≠ 21 + l → mSf (29 + 20 * l) (mHe X l - 1) 0 (w1 X (21 + l) (nI (mHe X l - 1))) m = X m := fun m hm h2 => by
    rw [mSf_out _ _ _ (by omega), w1_ne h2]
  have hC : mC (mSf (29 + 20 * l) (mHe X l - 1) 0 (w1 X (21 + l) (nI (mHe X l - 1)))) = mC X := by unfold mC; rw [ho 2 (by omega) (by omega)]
  have hle := hJ.2 l hl
  refine ⟨mSf_J (by omega) (by omega) _ _ _ (by omega) (hJ.held hl (by omega) (by omega)), ?_, fun k' hk' => ?_, fun b' hb' => ?_, fun b' hb' he' => ?_, fun b' hb' => ?_⟩
  · unfold sI
    rw [hC]
    refine (sJ.offLane (b := mLb X (20 * l)) (la' := xLa (mSf (29 + 20 * l) (mHe X l - 1) 0 (w1 X (21 + l) (nI (mHe X l - 1))))) (he' := fun k => if k = l then mHe X l - 1 else mHe X k) hS hc hl h0 rfl (fun k => rfl) ?_ ?_).ext (fun p hp => by unfold xLo; rw [ho _ (by omega) (by omega)]) (fun x hx => by unfold xSt; rw [ho _ (by omega) (by omega)]) (fun x hx => by unfold xPl; rw [ho _ (by omega) (by omega)]) (fun l j hl hj => rfl) (fun k hk => ?_) (fun k hk => by unfold xOw; rw [ho _ (by omega) (by omega)])
    · intro j hj
      unfold xLa
      rw [mSf_val _ _ _ (by omega) (by omega), w1_ne (by omega), show 29 + 20 * l + j + 1 = 29 + 20 * l + (j + 1) by omega]
    · intro k j hk hkl hj
      have := h20 k hk
      unfold xLa
      rw [ho _ (by omega) (by omega)]
    · try dsimp only
      by_cases q : k = l
      · subst q; rw [if_pos rfl]
        show nN (mSf _ _ _ _ _) = _
        rw [mSf_out _ _ _ (by omega), w1_eq]; exact nN_nI (by omega)
      · rw [if_neg q]; exact congrArg nN (ho (21 + k) (by omega) (by omega))
  · rw [ho _ (by omega) (by omega), ho _ (by omega) (by omega)]; exact r1 k' hk'
  · rw [hC] at hb'
    unfold xSt
    rw [ho _ (by omega) (by omega)]; exact r2 b' hb'
  · rw [hC] at hb'
    unfold xSt
    rw [ho _ (by omega) (by omega), ho _ (by omega) (by omega)]; exact r3 b' hb' (by omega)
  · rw [hC] at hb'
    unfold mF
    rw [ho _ (by omega) (by omega)]; exact r4 b' hb'
theorem mOn_eq {X : JV} {b p : Nat} (hb : b < 100) (hp : p < 40) : mOn X b p = w1 (w1 (w1 X (373 + b) (nI 8)) (473 + b) (nI p)) (133 + p) (nI b) := by
  unfold mOn
  rw [w1_comm (i := 473 + b) (by omega), w1_comm (i := 133 + p) (by omega), w1_comm (i := 133 + p) (by omega)]
  rfl
theorem mW.on {Q X : JV} {b p : Nat} (h : mW Q X b) (hbc : b < mC X) (hp : p < 40) (hpl : p < qLen Q) (hl : X (133 + p) = -1) (hf : X (773 + b) = -1) : mW Q (mOn X b p) 100 := by
  have hc := h.c
  rw [mOn_eq (by omega) hp]
  refine (((h.st (s := 8) (by omega) (by omega)).pl (v := nI p) (by omega))).onLoop ?_ hp hpl ?_ ?_ ?_ ?_
  · rw [mC_w1 (by omega), mC_w1 (by omega)]; exact hbc
  · rw [w1_ne (by omega), w1_ne (by omega)]; exact hl
  · rw [xSt_w1 (by omega)]; unfold xSt; rw [w1_eq]; rfl
  · unfold xPl; rw [w1_eq]; exact dO_n (by omega)
  · rw [w1_ne (by omega), w1_ne (by omega)]; exact hf
theorem mW.lv {Q X : JV} {b p : Nat} (h : mW Q X 100) (hp : p < 40) (hb : b < 100) (hl : X (133 + p) = nI b) : mW Q (mLv X p b) b := (h.offLoop hp hb hl).pl hb
theorem mBe_st {X : JV} {b : Nat} {s : Int32} (hb : b < 100) : mBe X b s (373 + b) = s := by
  unfold mBe
  have h1 : mBe1 X b s (373 + b) = s := by unfold mBe1; rw [w1_ne (by omega), w1_eq]
  split
  · exact h1
  · unfold mBe2
    rw [w1_ne (by omega), w1_ne (by omega), w1_ne (by omega), w1_ne (by omega), w1_ne (by omega)]
    exact h1
theorem mBe_fi {X : JV} {b : Nat} {s : Int32} (hb : b < 100) : mBe X b s (773 + b) = if s = 9 then -1 else X 0 := by
  unfold mBe
  have h1 : mBe1 X b s (773 + b) = if s = 9 then -1 else X 0 := by unfold mBe1; rw [w1_eq]
  split
  · exact h1
  · unfold mBe2
    rw [w1_ne (by omega), w1_ne (by omega), w1_ne (by omega), w1_ne (by omega), w1_ne (by omega)]
    exact h1
theorem mBe_2 {X : JV} {b : Nat} {s : Int32} : mBe X b s 2 = X 2 := by
  unfold mBe
  split
  · exact mBe1_3 (by omega)
  · unfold mBe2
    rw [w1_ne (by omega), w1_ne (by omega), w1_ne (by omega), w1_ne (by omega), w1_ne (by omega)]
    exact mBe1_3 (by omega)
theorem mW.beF {Q X : JV} {b s : Nat} (h : mW Q X b) (hb : b < 100) (hs : 10 ≤ s) (hs2 : s < 14) : mW Q (mBe X b (nI s)) 100 := by
  refine (h.be hb hs2).free ?_ ?_
  · unfold xSt; rw [mBe_st hb, nN_nI (by omega)]; omega
  · unfold xSt; rw [mBe_st hb, nN_nI (by omega)]; omega
theorem loB {Q X : JV} {p b : Nat} (h : mW Q X 100) (hp : p < 40) (hb : b < 100) (hl : X (133 + p) = nI b) : b < mC X ∧ xSt X b = 8 ∧ xPl X b = p ∧ p < qLen Q := by
  have e : xLo X p = b := by unfold xLo; rw [hl]; exact dO_n (by omega)
  have q := (h.2.1.1 p hp).resolve_left (by omega)
  rw [e] at q
  exact ⟨q.1, q.2.2.1, q.2.2.2.1, q.2.2.2.2⟩
theorem mLk_W {H : Nat → JV → Nat → Bool} {Q X : JV} {p b : Nat} (hQ : mQ Q) (h : mW Q X 100) (hp : p < 40) (hb : b < 100) (hl : X (133 + p) = nI b) : mW Q (mLk H Q X p b) 100 := by
  have hv := h.lv hp hb hl
  have hB : ∀ s, 10 ≤ s → s < 14 → mW Q (mBe (mLv X p b) b (nI s)) 100 := fun s h1 h2 => hv.beF hb h1 h2
  have hbc := (loB h hp hb hl).1
  have h3 : mW Q (mLk3 H Q X p b) 100 := by
    unfold mLk3
    split
    · exact h
    · rename_i hlh
      split
      · split
        · exact h
        · split
          · rename_i hr hk
            obtain ⟨e1, e2⟩ := mLh_b hQ hlh
            generalize nN (mLh Q p) = l at *
            have hle := h.1.2 l e2
            have hcap := (hQ.2.2.2.2.2.2.2 l e2).2
            have hlt : mHe X l < nN (Q (27 + l)) := by
              have hne : ¬ X (21 + l) = Q (27 + l) := fun e => hr (by
                unfold mRoom
                split
                · rfl
                · rfl)
              have : mHe X l ≠ nN (Q (27 + l)) := fun e => hne (by rw [(h.1.1.he e2).1, e]; exact (hQ.2.2.2.2.2.2.2 l e2).1.symm)
              omega
            have hee : mHe (mBe (mLv X p b) b 9) l = mHe X l := by
              unfold mHe
              rw [mBe_lo (by omega) (by omega), mLv_lo (by omega)]
            unfold mSto
            rw [w1_comm (i := 21 + l) (by omega), w1_comm (i := 29 + 20 * l + _) (by omega)]
            have h9 := (hv.be (s := 9) hb (by omega)).pl (v := nI l) hb
            have hh9 : mHe (w1 (mBe (mLv X p b) b 9) (473 + b) (nI l)) l = mHe (mBe (mLv X p b) b 9) l := mHe_w1 (by omega)
            rw [← hh9]
            refine mW.onLane h9 ?_ e2 ?_ ?_ ?_ ?_ ?_
            · rw [mC_w1 (by omega)]; unfold mC; rw [mBe_2, mLv_lo (by omega)]; exact hbc
            · rw [xSt_w1 (by omega)]; unfold xSt; rw [mBe_st hb]; rfl
            · unfold xPl; rw [w1_eq]; exact dO_n (by omega)
            · rw [w1_ne (by omega)]
              exact (mBe_fi hb).trans (if_pos rfl)
            · exact hh9.trans hee ▸ hlt
            · have := hh9.trans hee; show mHe _ _ < _; omega
          · exact h
      · exact h
  have h2 : mW Q (mLk2 H Q X p b) 100 := by
    unfold mLk2
    split
    · split
      · exact hB 11 (by omega) (by omega)
      · exact h3
    · exact h3
  unfold mLk
  split
  · split
    · exact hB 10 (by omega) (by omega)
    · exact h2
  · exact h2
theorem mAr_W {Q X : JV} {b : Nat} (h : mW Q X 100) (hb : b < mC X) : mW Q (mAr X b) 100 := by
  have hc := h.c
  unfold mAr
  split
  · rename_i h0
    split
    · have hs0 : xSt X b = 0 := by unfold xSt; rw [h0]; rfl
      have hf : X (773 + b) = -1 := h.2.2.2.2.1 b hb (by omega) (by omega)
      have hg := h.hang (b := b) (by unfold lo_; omega)
      refine (hg.st (s := 1) (by omega) (by omega)).free ?_ ?_
      · unfold xSt; rw [w1_eq, nN_nI (by omega)]; omega
      · rw [w1_ne (by omega)]; exact fun _ => hf
    · exact h
  · exact h
theorem mAr_C {X : JV} {b : Nat} : mC (mAr X b) = mC X := by unfold mC; rw [mAr_2 (by omega)]
theorem mArL_W {Q : JV} : ∀ (k i : Nat) (X : JV), i + k ≤ mC X → mW Q X 100 → mW Q (mArL k i X) 100
  | 0, _, _, _, h => h
  | k + 1, i, X, hk, h => mArL_W k (i + 1) _ (by rw [mAr_C]; omega) (mAr_W h (by omega))
theorem mLo_W {Q X : JV} {l : Nat} (hQ : mQ Q) (hln : qLp Q l < qLen Q) (h : mW Q X 100) (hl : l < 4) : mW Q (mLo Q X l) 100 := by
  have hhe := h.1.1.he hl
  have hlp := nQlp hQ hl
  have hlb := h.1.1.lb (l := 20 * l) (by omega)
  have h20 := h.h20 hl
  unfold mLo
  split
  · exact h
  · rename_i h0
    split
    · exact h
    · split
      · rename_i hlo
        have hn0 : 0 < mHe X l := by
          have : mHe X l ≠ 0 := fun e => h0 (by rw [hhe.1, e]; rfl)
          omega
        have hbc := h.2.1.2.2.1 l 0 hl hn0
        have eb : xLa X l 0 = mLb X (20 * l) := rfl
        rw [eb] at hbc
        have hf : X (773 + mLb X (20 * l)) = -1 := h.2.2.2.2.1 _ hbc.1 (by omega) (by omega)
        have ho := h.offLane hl hn0
        unfold mLoY
        rw [mOn_eq hlb.2 (by omega), w1_comm (i := 133 + qLp Q l) (by omega), w1_comm (i := 473 + mLb X (20 * l)) (by omega), w1_comm (i := 373 + mLb X (20 * l)) (by omega), mSf_w1 _ _ _ (by omega), mSf_w1 _ _ _ (by omega), mSf_w1 _ _ _ (by omega), ← mOn_eq hlb.2 (by omega)]
        refine ho.on ?_ (by omega) hln ?_ ?_
        · unfold mC
          rw [mSf_out _ _ _ (by omega), w1_ne (by omega)]
          exact hbc.1
        · rw [mSf_out _ _ _ (by omega), w1_ne (by omega)]; exact hlo
        · rw [mSf_out _ _ _ (by omega), w1_ne (by omega)]; exact hf
      · exact h
theorem owB {Q X : JV} {k b : Nat} (h : mW Q X 100) (hk : k < 12) (hb : b < 100) (hl : X (109 + k) = nI b) : b < mC X ∧ xSt X b = 2 * (k / 4) + 2 := by
  have e : xOw X k = b := by unfold xOw; rw [hl]; exact dO_n (by omega)
  have q := (h.2.1.2.2.2.2.2.1 k hk).resolve_left (by omega)
  rw [e] at q
  exact ⟨q.1, q.2.2⟩
theorem mGo_W {Q X : JV} {lv m : Nat} (h : mW Q X 100) (hl : lv < 3) (hm : m < 4) : mW Q (mGo Q X lv m) 100 := by
  have hk : 4 * lv + m < 12 := by omega
  have hk4 : (4 * lv + m) / 4 = lv := by omega
  unfold mGo
  split
  · exact h
  · rename_i hn
    have ho := oB_n (h.1.1.ow hk) hn
    obtain ⟨t, ht, ht1, ht2⟩ := (h.2.2.1 _ hk).resolve_left hn
    have hob := owB h hk ho.2 ho.1
    have hf : X (773 + nN (X (109 + (4 * lv + m)))) = -1 := h.2.2.2.2.1 _ hob.1 (by omega) (by omega)
    split
    · split
      · have hz : mW Q (mDr (mGoZ X (4 * lv + m))) (nN (X (109 + (4 * lv + m)))) := by
          unfold mGoZ mGoY
          rw [w1_comm (by omega)]
          exact (((h.offMach hk ho.2 ho.1).left hk (Or.inl w1_eq))).fr (by unfold fre; omega) (rg_free (by omega))
        have hzf : ∀ j, 773 ≤ j → mDr (mGoZ X (4 * lv + m)) j = X j := fun j hj => by
          unfold mDr mGoZ mGoY
          rw [w1_ne (by omega), w1_ne (by omega), w1_ne (by omega)]
        have hst : ∀ s, s < 9 → s ≠ 8 → mW Q (w1 (mDr (mGoZ X (4 * lv + m))) (373 + nN (X (109 + (4 * lv + m)))) (nI s)) 100 := fun s h9 h8 => by
          refine (hz.st ho.2 (by omega)).free ?_ ?_
          · unfold xSt; rw [w1_eq, nN_nI (by omega)]; omega
          · rw [w1_ne (by omega), hzf _ (by omega)]; exact fun _ => hf
        unfold mGo2
        split
        · exact hst 7 (by omega) (by omega)
        · split
          · exact hz.beF (s := 12) ho.2 (by omega) (by omega)
          · rename_i h2
            have : lv ≠ 2 := fun e => h2 (by rw [e]; rfl)
            exact hst (2 * lv + 3) (by omega) (by omega)
      · rename_i hle
        refine h.left hk (Or.inr ?_)
        rw [ht] at hle ⊢
        cases t with
        | zero => omega
        | succ t =>
          rw [nI_pred] at hle ⊢
          refine ⟨t, rfl, ?_, by omega⟩
          have : t ≠ 0 := fun e => hle (by rw [e]; decide)
          omega
    · exact h
def mQt (Q : JV) : Prop := (∀ q, q < 3 → ∃ t, Q (6 + q) = nI t ∧ 1 ≤ t ∧ t ≤ 99) ∧ (∀ l, l < qLn Q → qLp Q l < qLen Q)
theorem mFi_s {X : JV} {s : Int32} : ∀ n, ¬ mFi X s n = -1 → X (373 + nN (mFi X s n)) = s
  | 0, h => absurd rfl h
  | n + 1, h => by
    rw [mFi, mFs] at h ⊢
    split
    · rename_i hs
      rw [if_pos hs] at h
      split
      · rename_i he
        sorry
      · sorry
    · rename_i hs
      rw [if_neg hs] at h
      exact mFi_s n h
