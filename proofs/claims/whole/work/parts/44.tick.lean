/-! A TICK AS A WHOLE keeps the relation -/
section TICK
variable {nf : Nat} {P K : JI} {r : Int64} {Q X : JV} {H : Nat → JV → Nat → Bool}
/-- the keep lines say the same on both sides -/
def RH (nf : Nat) (P : JI) (H : Nat → JV → Nat → Bool) (Q : JV) : Prop := ∀ (K : JI) (r : Int64) (X : JV), RV nf K r X → mW Q X 100 → mN nf X → ∀ b, b < mC X → (kHB P K (nI b) = 0 ↔ mHB H Q X b = 0)
theorem mLkL_no : ∀ (k i : Nat) (X : JV), (∀ p, i ≤ p → p < i + k → X (133 + p) = -1) → mLkL H Q k i X = X
  | 0, _, _, _ => rfl
  | k + 1, i, X, h => by
    have e : mLkS H Q X i = X := by unfold mLkS; rw [if_pos (h i (by omega) (by omega))]
    rw [mLkL, e]
    exact mLkL_no k (i + 1) X (fun b h1 h2 => h b (by omega) (by omega))
theorem qe_lkS (hQ : mQ Q) (hJ : mJ Q X) {p : Nat} (hp : p < 40) : qe X (mLkS H Q X p) := by
  unfold mLkS
  split
  · exact qe.rf X
  · rename_i hn
    exact qe_lk hQ hJ hp (oB_n (hJ.1.lo hp) hn).2
theorem RV.c0 (h : RV nf K r X) (hc : mC X ≤ 100) {q : Nat} (hq : q < 14) (h0 : K 8 q ≤ 0) : K 8 q = 0 := by
  have e := h.2.2.2.2.1 q hq
  have hle := fb_ct_le (pSt_ X q) (mC X)
  rw [e] at h0 ⊢
  have := (nI_le_iff (a := fb_ct (pSt_ X q) (mC X)) (b := 0) (by omega) (by omega)).mp h0
  rw [show fb_ct (pSt_ X q) (mC X) = 0 by omega]
  rfl
theorem tkL_same (hp : RP nf P Q) (hQ : mQ Q) (hH : RH nf P H Q) : ∀ (k i : Nat) (K : JI) (X : JV), i + k ≤ 40 → RV nf K r X → mW Q X 100 → mN nf X → RV nf (tkL P k i K) r (mLkL H Q k i X)
  | 0, _, _, _, _, h, _, _ => h
  | k + 1, i, K, X, hk, h, hW, hN => by
    by_cases h0 : K 8 8 ≤ 0
    · have hn := lo_none h hW (h.c0 hW.c (by omega) h0)
      rw [mLkL_no (H := H) (Q := Q) (k + 1) i X (fun p _ h2 => hn p (by omega)), tkL, if_pos h0]
      exact h
    · rw [tkL, mLkL, if_neg h0]
      exact tkL_same hp hQ hH k (i + 1) _ _ (by omega) (tk_same h hp hQ hW hN (by omega) (hH K r X h hW hN)) (mLkS_W hQ hW (by omega)) (hN.ag hp.2.2.2.2.2.2 hW.c (qe_lkS hQ hW.1 (by omega)))
theorem mFi_none {s : Int32} {n : Nat} (hn : n ≤ 100) (h : ∀ b, b < n → ¬ X (373 + b) = s) : mFi X s n = -1 := by
  by_cases e : mFi X s n = -1
  · exact e
  · have := mFi_s n hn e
    exact absurd this.1 (h _ this.2)
theorem mOc_no {lv m : Nat} (h : mFi X (nI (2 * lv + 1)) (mC X) = -1) : mOc Q X lv m = X := by
  unfold mOc mOc2
  rw [if_pos h]
  repeat' split
  all_goals rfl
theorem mOcL_no {lv : Nat} : ∀ (k i : Nat) (X : JV), mFi X (nI (2 * lv + 1)) (mC X) = -1 → mOcL Q lv k i X = X
  | 0, _, _, _ => rfl
  | k + 1, i, X, h => by rw [mOcL, mOc_no h]; exact mOcL_no k (i + 1) X h
theorem fmA_same (hp : RP nf P Q) (hQ : mQ Q) (hQt : mQt Q) {lv c n : Nat} (hl : lv < 3) (hn : n ≤ 4) (hc : mC X = c) (h : RV nf K r X) (hW : mW Q X 100) (hN : mN nf X) : RV nf (fmA P c (nI (lv + 1)) n K) r (mOcL Q lv n 0 X) := by
  have e1 : (2 : Int32) * nI (lv + 1) - 1 = nI (2 * lv + 1) := by
    rw [show (2 : Int32) = nI 2 from rfl, pk_mul, show 2 * (lv + 1) = (2 * lv + 1) + 1 by omega, nI_pred]
  unfold fmA
  rw [e1, atV_nI (show 2 * lv + 1 < 14 by omega) (by omega)]
  by_cases h0 : K 8 (2 * lv + 1) = 0
  · rw [if_pos h0, mOcL_no _ _ _ (mFi_none hW.c (ct0 h (by omega) hW.c h0))]; exact h
  · rw [if_neg h0]; exact fmL_same hp hQ hQt hl n 0 K X (by omega) hc h hW hN
/-! what stays, over the loops -/
theorem qe_arL : ∀ (k i : Nat) (X : JV), qe X (mArL k i X)
  | 0, _, X => qe.rf X
  | k + 1, i, X => qe_ar.tr (qe_arL k (i + 1) _)
theorem qe_lkL (hQ : mQ Q) : ∀ (k i : Nat) (X : JV), i + k ≤ 40 → mJ Q X → qe X (mLkL H Q k i X)
  | 0, _, X, _, _ => qe.rf X
  | k + 1, i, X, hk, hJ => (qe_lkS hQ hJ (by omega)).tr (qe_lkL hQ k (i + 1) _ (by omega) (mLkS_J hQ hJ (by omega)))
theorem qe_loL (hQ : mQ Q) : ∀ (k i : Nat) (X : JV), i + k ≤ 4 → mJ Q X → qe X (mLoL Q k i X)
  | 0, _, X, _, _ => qe.rf X
  | k + 1, i, X, hk, hJ => (qe_lo hQ hJ.1 (by omega)).tr (qe_loL hQ k (i + 1) _ (by omega) (mLo_J hQ hJ (by omega)))
theorem qe_goL {lv : Nat} (hl : lv < 3) : ∀ (k i : Nat) (X : JV), i + k ≤ 4 → mJ Q X → qe X (mGoL Q lv k i X)
  | 0, _, X, _, _ => qe.rf X
  | k + 1, i, X, hk, hJ => (qe_go hJ.1 hl (by omega)).tr (qe_goL hl k (i + 1) _ (by omega) (mGo_J hJ hl (by omega)))
theorem qe_ocL {lv : Nat} (hl : lv < 3) : ∀ (k i : Nat) (X : JV), i + k ≤ 4 → qe X (mOcL Q lv k i X)
  | 0, _, X, _ => qe.rf X
  | k + 1, i, X, hk => (qe_oc hl (by omega)).tr (qe_ocL hl k (i + 1) _ (by omega))
/-! the states on both sides, between two steps -/
def TI (nf c : Nat) (Q : JV) (x : JI × Int64) (X : JV) : Prop := RV nf x.1 x.2 X ∧ mW Q X 100 ∧ mN nf X ∧ mC X = c
theorem TI.go {c : Nat} {x y : JI × Int64} {Y : JV} (h : TI nf c Q x X) (hn : nf ≤ 8) (hr : RV nf y.1 y.2 Y) (hw : mW Q Y 100) (hq : qe X Y) : TI nf c Q y Y := ⟨hr, hw, h.2.2.1.ag hn h.2.1.c hq, (qeC hq).trans h.2.2.2⟩
theorem TI.ad {c : Nat} {x : JI × Int64} (h : TI nf c Q x X) (hp : RP nf P Q) : TI nf c Q (adA c x.1, x.2) (mArL c 0 X) := by
  obtain ⟨h1, h2, h3, h4⟩ := id h
  subst h4
  exact h.go hp.2.2.2.2.2.2 (adA_same h1 h2) (mArL_W _ _ _ (by omega) h2) (qe_arL _ _ _)
theorem TI.mv {c : Nat} {x : JI × Int64} (h : TI nf c Q x X) (hp : RP nf P Q) (hQ : mQ Q) (hP4 : 4 ≤ plen P) : TI nf c Q (if x.1 0 0 ≤ x.1 0 3 then x.1 else mvL P x.1, x.2) (mT1 Q X) := by
  obtain ⟨h1, h2, h3, h4⟩ := id h
  have e3 : x.1 0 3 = X 2085 := h1.get mt03 ⟨fun _ _ => by omega, fun e => by omega, fun e => by omega⟩
  unfold mT1
  rw [h1.clk, e3]
  by_cases hc : X 0 ≤ X 2085
  · rw [if_pos hc, if_pos hc]; exact h
  · rw [if_neg hc, if_neg hc]
    exact h.go hp.2.2.2.2.2.2 (mv_same h1 hp hQ h2 hP4) (mMv_W hQ h2) (qe_mv hQ h2.ij)
theorem TI.tk {c : Nat} {x : JI × Int64} (h : TI nf c Q x X) (hp : RP nf P Q) (hQ : mQ Q) (hH : RH nf P H Q) : TI nf c Q (tkL P (qLen Q) 0 x.1, x.2) (mLkL H Q (qLen Q) 0 X) := by
  have hl := nQ0 hQ
  exact h.go hp.2.2.2.2.2.2 (tkL_same hp hQ hH _ _ _ _ (by omega) h.1 h.2.1 h.2.2.1) (mLkL_W hQ _ _ _ (by omega) h.2.1) (qe_lkL hQ _ _ _ (by omega) h.2.1.1)
theorem TI.em {c : Nat} {x : JI × Int64} (h : TI nf c Q x X) (hp : RP nf P Q) (hQ : mQ Q) (hQt : mQt Q) : TI nf c Q (emL P (qLn Q) 0 x.1, x.2) (mLoL Q (qLn Q) 0 X) := by
  have hl := nQln hQ
  exact h.go hp.2.2.2.2.2.2 (emL_same hp hQ hQt _ _ _ _ (by omega) h.1 h.2.1 h.2.2.1) (mLoL_W hQ hQt _ _ _ (by omega) h.2.1) (qe_loL hQ _ _ _ (by omega) h.2.1.1)
theorem TI.wm {c lv : Nat} {x : JI × Int64} (h : TI nf c Q x X) (hp : RP nf P Q) (hQ : mQ Q) (hl : lv < 3) : TI nf c Q (wmL P (nI (lv + 1)) (qMn Q lv) 0 x) (mGoL Q lv (qMn Q lv) 0 X) := by
  have hm := nQmn hQ hl
  exact h.go hp.2.2.2.2.2.2 (wmL_same hp hQ hl _ _ _ _ (by omega) h.1 h.2.1 h.2.2.1) (mGoL_W hl _ _ _ (by omega) h.2.1) (qe_goL hl _ _ _ (by omega) h.2.1.1)
theorem TI.fm {c lv : Nat} {x : JI × Int64} (h : TI nf c Q x X) (hp : RP nf P Q) (hQ : mQ Q) (hQt : mQt Q) (hl : lv < 3) : TI nf c Q (fmA P c (nI (lv + 1)) (qMn Q lv) x.1, x.2) (mOcL Q lv (qMn Q lv) 0 X) := by
  have hm := nQmn hQ hl
  exact h.go hp.2.2.2.2.2.2 (fmA_same hp hQ hQt hl (by omega) h.2.2.2 h.1 h.2.1 h.2.2.1) (mOcL_W hQt hl _ _ _ (by omega) h.2.1) (qe_ocL hl _ _ _ (by omega))
theorem TI.en {c : Nat} {x : JI × Int64} (h : TI nf c Q x X) (hp : RP nf P Q) (hQ : mQ Q) : TI nf c Q (fEn P c x.1, x.2) (mEn Q X) := by
  obtain ⟨h1, h2, h3, h4⟩ := id h
  subst h4
  exact h.go hp.2.2.2.2.2.2 (en_same h1 hp hQ h2 h3) (mEn_W hQ h2) (qe_en hQ)
/-! all bags are finished: nothing moves -/
theorem fin_all (h : RV nf K r X) (hX : mI X) (hf : ¬ kAF K = 0) : ∀ b, b < mC X → ∃ q, 10 ≤ q ∧ q < 14 ∧ X (373 + b) = nI q := by
  have hc := hX.c
  have he : K 8 10 + K 8 11 + K 8 12 + K 8 13 = K 1 0 := by
    unfold kAF at hf
    by_cases e : K 8 10 + K 8 11 + K 8 12 + K 8 13 = K 1 0
    · exact e
    · rw [if_neg e] at hf; exact absurd rfl hf
  have hl := fun q => fb_ct_le (pSt_ X q) (mC X)
  have h0 := hl 10
  have h1 := hl 11
  have h2 := hl 12
  have h3 := hl 13
  rw [h.2.2.2.2.1 10 (by omega), h.2.2.2.2.1 11 (by omega), h.2.2.2.2.1 12 (by omega), h.2.2.2.2.1 13 (by omega), h.cnt, hc.1, nI_add, nI_add, nI_add] at he
  have hs := nI_inj' (by omega) (by omega) he
  have hne : ∀ q q', q < 14 → q' < 14 → q ≠ q' → ∀ k, ¬ (pSt_ X q k = true ∧ pSt_ X q' k = true) := fun q q' hq hq' hn k hk => by
    have a := of_decide_eq_true hk.1
    have b := of_decide_eq_true hk.2
    exact hn (nI_inj' (by omega) (by omega) (a.symm.trans b))
  have o1 := fb_ct_or (p := pSt_ X 10) (q := pSt_ X 11) (n := mC X) (fun k _ => hne 10 11 (by omega) (by omega) (by omega) k)
  have o2 := fb_ct_or (p := fun k => pSt_ X 10 k || pSt_ X 11 k) (q := pSt_ X 12) (n := mC X) (fun k _ hk => by
    rcases Bool.or_eq_true_iff.mp hk.1 with w | w
    · exact hne 10 12 (by omega) (by omega) (by omega) k ⟨w, hk.2⟩
    · exact hne 11 12 (by omega) (by omega) (by omega) k ⟨w, hk.2⟩)
  have o3 := fb_ct_or (p := fun k => (pSt_ X 10 k || pSt_ X 11 k) || pSt_ X 12 k) (q := pSt_ X 13) (n := mC X) (fun k _ hk => by
    rcases Bool.or_eq_true_iff.mp hk.1 with w | w
    · rcases Bool.or_eq_true_iff.mp w with w | w
      · exact hne 10 13 (by omega) (by omega) (by omega) k ⟨w, hk.2⟩
      · exact hne 11 13 (by omega) (by omega) (by omega) k ⟨w, hk.2⟩
    · exact hne 12 13 (by omega) (by omega) (by omega) k ⟨w, hk.2⟩)
  have ha := fb_ct_all.mp (show fb_ct (fun k => ((pSt_ X 10 k || pSt_ X 11 k) || pSt_ X 12 k) || pSt_ X 13 k) (mC X) = mC X by rw [o3, o2, o1]; omega)
  intro b hb
  rcases Bool.or_eq_true_iff.mp (ha b hb) with w | w
  · rcases Bool.or_eq_true_iff.mp w with w | w
    · rcases Bool.or_eq_true_iff.mp w with w | w
      · exact ⟨10, by omega, by omega, of_decide_eq_true w⟩
      · exact ⟨11, by omega, by omega, of_decide_eq_true w⟩
    · exact ⟨12, by omega, by omega, of_decide_eq_true w⟩
  · exact ⟨13, by omega, by omega, of_decide_eq_true w⟩
theorem mLoL_no : ∀ (k i : Nat) (X : JV), (∀ l, i ≤ l → l < i + k → X (21 + l) = 0) → mLoL Q k i X = X
  | 0, _, _, _ => rfl
  | k + 1, i, X, h => by
    have e : mLo Q X i = X := by unfold mLo; rw [if_pos (h i (by omega) (by omega))]
    rw [mLoL, e]
    exact mLoL_no k (i + 1) X (fun b h1 h2 => h b (by omega) (by omega))
theorem mGoL_no {lv : Nat} (hl : lv < 3) : ∀ (k i : Nat) (X : JV), i + k ≤ 4 → (∀ m, m < 12 → X (109 + m) = -1) → mGoL Q lv k i X = X
  | 0, _, _, _, _ => rfl
  | k + 1, i, X, hk, h => by
    have e : mGo Q X lv i = X := by unfold mGo; rw [if_pos (h (4 * lv + i) (by omega))]
    rw [mGoL, e]
    exact mGoL_no hl k (i + 1) X (by omega) h
theorem mT_id (hQ : mQ Q) (hW : mW Q X 100) (hf : ∀ b, b < mC X → ∃ q, 10 ≤ q ∧ q < 14 ∧ X (373 + b) = nI q) : mT2 H Q (mT1 Q (mArL (mC X) 0 X)) = X := by
  have hX := hW.1.1
  have hc := hX.c
  have hl := nQ0 hQ
  have hln := nQln hQ
  have hst : ∀ b, b < mC X → 10 ≤ xSt X b := fun b hb => by
    obtain ⟨q, h1, h2, h3⟩ := hf b hb
    unfold xSt
    rw [h3, nN_nI (by omega)]
    exact h1
  have hno : ∀ q, q < 10 → ∀ b, b < mC X → ¬ X (373 + b) = nI q := fun q hq b hb e => by
    have := hst b hb
    unfold xSt at this
    rw [e, nN_nI (by omega)] at this
    omega
  have hlo : ∀ p, p < 40 → X (133 + p) = -1 := fun p hp => by
    by_cases hn : X (133 + p) = -1
    · exact hn
    · have ho := oB_n (hX.lo hp) hn
      have hb := loB hW hp ho.2 ho.1
      have := hst _ hb.1
      omega
  have how : ∀ k, k < 12 → X (109 + k) = -1 := fun k hk => by
    by_cases hn : X (109 + k) = -1
    · exact hn
    · have ho := oB_n (hX.ow hk) hn
      have hb := owB hW hk ho.2 ho.1
      have := hst _ hb.1
      omega
  have hla : ∀ l, l < 4 → X (21 + l) = 0 := fun l hl => by
    have he := hX.he hl
    by_cases h0 : mHe X l = 0
    · rw [he.1, h0]; rfl
    · have hb := hW.2.1.2.2.1 l 0 hl (by omega)
      have := hst _ hb.1
      omega
  have e0 : mArL (mC X) 0 X = X := mArL_no _ _ _ (fun b _ hb => hno 0 (by omega) b (by omega))
  have e1 : mT1 Q X = X := by
    unfold mT1
    split
    · rfl
    · exact mMv_id hQ hlo
  have hfi : ∀ q, q < 10 → mFi X (nI q) (mC X) = -1 := fun q hq => mFi_none (by omega) (hno q hq)
  have e2 : mLkL H Q (qLen Q) 0 X = X := mLkL_no _ _ _ (fun p _ hp => hlo p (by omega))
  have e3 : mLoL Q (qLn Q) 0 X = X := mLoL_no _ _ _ (fun l _ hl => hla l (by omega))
  have e4 : ∀ lv, lv < 3 → mGoL Q lv (qMn Q lv) 0 X = X := fun lv hl => mGoL_no hl _ _ _ (by have := nQmn hQ hl; omega) how
  have e5 : ∀ lv, lv < 3 → mOcL Q lv (qMn Q lv) 0 X = X := fun lv hl => mOcL_no _ _ _ (hfi _ (by omega))
  have e6 : mEn Q X = X := by
    unfold mEn mEn2
    rw [if_pos (show mFi X 7 (mC X) = -1 from hfi 7 (by omega)), ite_self]
  rw [e0, e1]
  unfold mT2
  rw [e2]
  unfold mT3
  rw [e3]
  unfold mT4
  rw [show mGoA Q 3 X = mGoL Q 0 (qMn Q 0) 0 (mGoL Q 1 (qMn Q 1) 0 (mGoL Q 2 (qMn Q 2) 0 X)) from rfl, e4 2 (by omega), e4 1 (by omega), e4 0 (by omega)]
  unfold mT5
  rw [show mOcA Q 3 X = mOcL Q 0 (qMn Q 0) 0 (mOcL Q 1 (qMn Q 1) 0 (mOcL Q 2 (qMn Q 2) 0 X)) from rfl, e5 2 (by omega), e5 1 (by omega), e5 0 (by omega), e6]
theorem mN.tick (h : mN nf X) (hn : nf ≤ 8) (hc : mC X ≤ 100) (ht : nN (X 0) + 1 < 16384) : mN nf (w1 X 0 (X 0 + 1)) := by
  obtain ⟨h1, h2, h3, h4⟩ := h
  refine ⟨?_, ?_, fun f hf => ?_, fun b hb => ?_⟩
  · rw [w1_eq, h1.1, ← nI_succ]; exact nB_nI ht (by omega)
  · rw [w1_ne (by omega)]; exact h2
  · rw [w1_ne (by omega), w1_ne (by omega)]; exact h3 f hf
  · rw [mC_w1 (by omega)] at hb
    rw [w1_ne (by omega)]; exact h4 b hb
theorem TI.t0 {c : Nat} {x : JI × Int64} (h : TI nf c Q x X) (hn : nf ≤ 8) (ht : nN (X 0) + 1 < 16384) : TI nf c Q (tk0 x.1, x.2) (w1 X 0 (X 0 + 1)) := by
  obtain ⟨h1, h2, h3, h4⟩ := h
  refine ⟨?_, h2.fr (by unfold fre; omega) (rg_free (by omega)), h3.tick hn h2.c ht, by rw [mC_w1 (by omega)]; exact h4⟩
  show RV nf (tk0 x.1) x.2 _
  unfold tk0
  rw [h1.clk]
  exact h1.set h2.1.1 mt00 (by omega)
theorem pnm_q (hp : RP nf P Q) {q : Nat} (hq : q < 3) : pnm P q = qMn Q q := by unfold pnm qMn nN; rw [(hp.2.1 q hq).1]
theorem pnl_q (hp : RP nf P Q) : pnl P = qLn Q := by unfold pnl qLn nN; rw [hp.1.2.2.2.2.1]
theorem plen_q (hp : RP nf P Q) : plen P = qLen Q := by unfold plen qLen nN; rw [hp.1.1]
/-- a tick on both sides -/
theorem TI.tick {c : Nat} {x : JI × Int64} (h : TI nf c Q x X) (hp : RP nf P Q) (hQ : mQ Q) (hQt : mQt Q) (hH : RH nf P H Q) (hP4 : 4 ≤ plen P) (ht : nN (X 0) + 1 < 16384) : TI nf c Q (kTick P c x) (mTick H Q X) := by
  have h0 := h.t0 hp.2.2.2.2.2.2 ht
  have hc : mC X = c := h.2.2.2
  unfold mTick kTick
  rw [hc]
  generalize w1 X 0 (X 0 + 1) = Y at *
  by_cases hf : kAF (tk0 x.1) = 0
  · rw [if_pos hf]
    have h1 := (((h0.ad hp).mv hp hQ hP4).tk hp hQ hH).em hp hQ hQt
    have h2 := ((h1.wm (lv := 2) hp hQ (by omega)).wm (lv := 1) hp hQ (by omega)).wm (lv := 0) hp hQ (by omega)
    have h3 := ((h2.fm (lv := 2) hp hQ hQt (by omega)).fm (lv := 1) hp hQ hQt (by omega)).fm (lv := 0) hp hQ hQt (by omega)
    have h4 := h3.en hp hQ
    unfold tk4 tk3 tk2 tk1
    rw [pnm_q hp (show 0 < 3 by omega), pnm_q hp (show 1 < 3 by omega), pnm_q hp (show 2 < 3 by omega), pnl_q hp, plen_q hp]
    exact h4
  · rw [if_neg hf]
    have hm : mT2 H Q (mT1 Q (mArL (mC Y) 0 Y)) = Y := mT_id hQ h0.2.1 (fin_all h0.1 h0.2.1.1.1 hf)
    rw [h0.2.2.2] at hm
    rw [hm]
    exact h0
end TICK
