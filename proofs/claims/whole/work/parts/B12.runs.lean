/-! TICKS AND CHANGES KEEP WHAT BOTH SIDES SAY -/
section R12
variable {k nf c : Nat} {Q X : JV} {K P A : JI} {r : Int64} {j : Nat} {H : Nat → JV → Nat → Bool}
theorem SR.ti (h : SR k nf Q K r X) (hk : k ≤ 600) : TI nf (mC X) Q (K, r) X := ⟨h.1, h.2.1, h.2.2.n hk, rfl⟩
theorem SR.tick (h : SR k nf Q K r X) (hk : k ≤ 600) (hA : AirP nf H P A) (hQ : A 2 = Q) {t : Nat} (ht : X 0 = nI t) (ht9 : t + 1 ≤ 9999) : SR k nf Q (kTick P (mC X) (K, r)).1 (kTick P (mC X) (K, r)).2 (mTick H Q X) ∧ mC (mTick H Q X) = mC X ∧ mTick H Q X 0 = nI (t + 1) := by
  obtain ⟨a1, a2, a3, a4, a5, a6, a7, a8, a9⟩ := hA
  rw [hQ] at a1 a2 a3 a5 a6
  have ht0 : nN (X 0) = t := by rw [ht, nN_nI (by omega)]
  have h1 := (h.ti hk).tick a1 a2 a3 a5 a4.2.2.2.2.1.2.1 (by omega)
  obtain ⟨q1, q2⟩ := (h.ti hk).tick2 a1 a2 a3 a5 a4.2.2.2.2.1.2.1 (by omega) h.2.2.2.2.2.2
  have hn : nf ≤ 8 := a1.2.2.2.2.2.2
  have e0 : mTick H Q X 0 = nI (t + 1) := by
    rw [q1 0 (by unfold qi; omega), w1_eq, ht, show (1 : Int32) = nI 1 from rfl, nI_add]
  have ec : mC (mTick H Q X) = mC X := h1.2.2.2
  obtain ⟨_, b2, b3, b4, _⟩ := h.2.2
  refine ⟨⟨h1.1, h1.2.1, ⟨t + 1, e0, ht9⟩, ?_, fun f hf => ?_, fun b hb => ?_, q2⟩, ec, e0⟩
  · rw [q1 4 (by unfold qi; omega), w1_ne (by omega)]
    exact b2
  · rw [q1 (5 + f) (by unfold qi; omega), w1_ne (by omega), q1 (13 + f) (by unfold qi; omega), w1_ne (by omega)]
    exact b3 f hf
  · rw [ec] at hb
    rw [q1 (273 + b) (by have := h.c; unfold qi; omega), w1_ne (by omega)]
    exact b4 b hb
theorem SR.run (hk : k ≤ 600) (hA : AirP nf H P A) (hQ : A 2 = Q) : ∀ (N : Nat) (x : JI × Int64) (X : JV) (t : Nat), SR k nf Q x.1 x.2 X → mC X = c → X 0 = nI t → t + N ≤ 9999 → SR k nf Q (kRun P c N x).1 (kRun P c N x).2 (mRun H Q N X) ∧ mC (mRun H Q N X) = c ∧ mRun H Q N X 0 = nI (t + N)
  | 0, x, X, t, h, hc, ht, _ => ⟨h, hc, ht⟩
  | N + 1, x, X, t, h, hc, ht, h9 => by
    obtain ⟨g1, g2, g3⟩ := h.tick hk hA hQ ht (by omega)
    rw [hc] at g1 g2
    have := SR.run hk hA hQ N (kTick P c x) (mTick H Q X) (t + 1) g1 g2 g3 (by omega)
    rw [show t + 1 + N = t + (N + 1) by omega] at this
    exact this
/-! the end of all bags -/
theorem ct4 : ∀ n, (∀ b, b < n → ∃ q, 10 ≤ q ∧ q < 14 ∧ X (373 + b) = nI q) → fb_ct (pSt_ X 10) n + fb_ct (pSt_ X 11) n + fb_ct (pSt_ X 12) n + fb_ct (pSt_ X 13) n = n
  | 0, _ => rfl
  | n + 1, h => by
    have ih := ct4 n (fun b hb => h b (by omega))
    obtain ⟨q, h1, h2, h3⟩ := h n (by omega)
    rw [fb_ct_succ, fb_ct_succ, fb_ct_succ, fb_ct_succ]
    unfold pSt_ at ih ⊢
    rw [h3]
    have : q = 10 ∨ q = 11 ∨ q = 12 ∨ q = 13 := by omega
    rcases this with rfl | rfl | rfl | rfl <;> simp [show nI 10 = 10 from rfl, show nI 11 = 11 from rfl, show nI 12 = 12 from rfl, show nI 13 = 13 from rfl] at ih ⊢ <;> omega
theorem vl_af (h : SR k nf Q K r X) : kAF K = 0 ↔ clX X (mC X) = 0 := by
  have hc := h.c
  constructor
  · intro g
    unfold clX
    refine Decidable.byContradiction fun g2 => ?_
    have hall : ∀ b, b < mC X → ∃ q, 10 ≤ q ∧ q < 14 ∧ X (373 + b) = nI q := fun b hb => by
      obtain ⟨s1, s2⟩ := h.2.1.st8 hb
      refine ⟨xSt X b, ?_, s1, s2⟩
      refine Nat.not_lt.mp fun g3 => g2 ?_
      unfold srch
      rw [if_pos ?_]
      refine Nat.lt_of_not_le fun g4 => ?_
      have g5 := fa_first_no _ _ b (Nat.lt_of_lt_of_le hb g4)
      rw [decide_eq_false_iff_not, s2] at g5
      exact g5 (nI_ltN (b := 10) g3 (by omega))
    have e := ct4 (mC X) hall
    have c1 := h.1.2.2.2.2.1
    unfold kAF at g
    rw [c1 10 (by omega), c1 11 (by omega), c1 12 (by omega), c1 13 (by omega), nI_add, nI_add, nI_add, e, h.cnt, if_pos rfl] at g
    exact absurd g (by decide)
  · intro g
    refine Decidable.byContradiction fun g2 => ?_
    have hall := fin_all h.1 h.i g2
    unfold clX at g
    rw [srch_none (fun b hb => ?_)] at g
    · exact absurd g (by decide)
    · obtain ⟨q, h1, h2, h3⟩ := hall b hb
      rw [decide_eq_false_iff_not, h3]
      exact nI_nltN (a := 10) h1 (by omega)
theorem SR.clear (hk : k ≤ 600) (hA : AirP nf H P A) (hQ : A 2 = Q) : ∀ (N i : Nat) (x : JI × Int64) (X : JV) (t : Nat), SR k nf Q x.1 x.2 X → mC X = c → X 0 = nI t → t + N ≤ 9999 → tCk P c N i x = tCl H Q (N + 1) i X
  | 0, i, x, X, t, h, hc, ht, _ => by
    show (if kAF x.1 = 0 then (-1 : Int32) else nI i) = if clX X (mC X) = 0 then -1 else nI i
    by_cases g : kAF x.1 = 0
    · rw [if_pos g, if_pos ((vl_af h).mp g)]
    · rw [if_neg g, if_neg (fun e => g ((vl_af h).mpr e))]
  | N + 1, i, x, X, t, h, hc, ht, h9 => by
    show (if kAF x.1 = 0 then tCk P c N (i + 1) (kTick P c x) else nI i) = if clX X (mC X) = 0 then tCl H Q (N + 1) (i + 1) (mTick H Q X) else nI i
    by_cases g : kAF x.1 = 0
    · rw [if_pos g, if_pos ((vl_af h).mp g)]
      obtain ⟨g1, g2, g3⟩ := h.tick hk hA hQ ht (by omega)
      rw [hc] at g1 g2
      exact SR.clear hk hA hQ N (i + 1) (kTick P c x) (mTick H Q X) (t + 1) g1 g2 g3 (by omega)
    · rw [if_neg g, if_neg (fun e => g ((vl_af h).mpr e))]
/-! a change of one entry -/
theorem putI_n {K : JI} {c n j : Nat} {v : Int32} (hj : j < n) (hn : n < 2 ^ 31) : putI K c n (nI j) v = u2 K c j v := by
  unfold putI
  rw [if_neg (nI_ltz (by omega)), if_neg (by exact nI_ge hj hn), nI_clamp (by omega)]
theorem mC_w {i : Nat} {v : Int32} (hi : i ≠ 2) : mC (w1 X i v) = mC X := by
  unfold mC
  rw [w1_ne (by omega)]
theorem SR.set {c j i : Nat} {v : Int32} (h : SR k nf Q K r X) (hm : mt c j i) (hc : c ≠ 1 ∧ c ≠ 2 ∧ c ≠ 12 ∧ c ≠ 15 ∧ (c = 0 → j ≠ 14)) (hf : fre i) (hr : rg i v) (hi : 20 < i ∧ (i < 273 ∨ 573 ≤ i ∧ i < 773 ∨ 873 ≤ i)) (hn : nf ≤ 8) : SR k nf Q (u2 K c j v) r (w1 X i v) := by
  obtain ⟨⟨t, b0, b1⟩, b2, b3, b4, b5⟩ := h.2.2
  refine ⟨h.1.set h.i hm hc, h.2.1.fr hf hr, ⟨t, by rw [w1_ne (by omega)]; exact b0, b1⟩, by rw [w1_ne (by omega)]; exact b2, fun f hf => by rw [w1_ne (by omega), w1_ne (by omega)]; exact b3 f hf, fun b hb => ?_, b5.o (by omega)⟩
  rw [mC_w (by omega)] at hb
  have := h.c
  rw [w1_ne (by omega)]
  exact b4 b hb
/-- a delay -/
theorem SR.dly {f m : Nat} (h : SR k nf Q K r X) (hn : nf ≤ 8) (hf : f < nf) (hm : m ≤ 999) (hk : k ≤ 600) : SR (k + 1) nf Q (kDly K (nI f) (nI m)) r (mDl X f (nI m)) := by
  have ho := h.1.op hn hf
  have hb := h.2.2.2.2.1 f hf
  obtain ⟨⟨b1, b2⟩, b3, b4⟩ := hb
  have hS : ∀ (K' : JI) (X' : JV), SR k nf Q K' r X' → RV nf (u2 K' 10 f (X' (13 + f) + nI m)) r (w1 X' (13 + f) (X' (13 + f) + nI m)) ∧ mW Q (w1 X' (13 + f) (X' (13 + f) + nI m)) 100 := fun K' X' h' => ⟨h'.1.set h'.i (mt10 (by omega)) (by omega), h'.2.1.fr (by unfold fre; omega) (rg_free (by omega))⟩
  obtain ⟨⟨t, t0, t1⟩, t2, t3, t4, t5⟩ := h.2.2
  have e1 : X (13 + f) + nI m = nI (nN (X (13 + f)) + m) := by rw [← nI_add, ← b3]
  have e2 : X (5 + f) + nI m = nI (nN (X (5 + f)) + m) := by rw [← nI_add, ← b1]
  unfold kDly mDl
  rw [ph_same h.1 hn hf]
  by_cases g : mPh X f = 0
  · rw [if_pos g, if_pos g, putI_n (by omega) (by omega), atV_nI (by omega) (by omega), putI_n (by omega) (by omega), atV_nI (by omega) (by omega), ho.1, u2_ne (by omega), ho.2]
    have q1 := h.1.set (v := X (5 + f) + nI m) h.i (mt9 (j := f) (by omega)) (by omega)
    have q2 := h.2.1.fr (i := 5 + f) (v := X (5 + f) + nI m) (by unfold fre; omega) (rg_free (by omega))
    have q3 := q1.set (v := X (13 + f) + nI m) q2.1.1 (mt10 (j := f) (by omega)) (by omega)
    have q4 := q2.fr (i := 13 + f) (v := X (13 + f) + nI m) (by unfold fre; omega) (rg_free (by omega))
    refine ⟨q3, q4, ⟨t, by rw [w1_ne (by omega), w1_ne (by omega)]; exact t0, t1⟩, by rw [w1_ne (by omega), w1_ne (by omega)]; exact t2, fun g' hg' => ?_, fun b hb => ?_, (t5.o (by omega)).o (by omega)⟩
    · by_cases e : g' = f
      · subst e
        rw [w1_eq, w1_ne (by omega), w1_eq, e1, e2]
        exact ⟨nB_nI (by omega) (by omega), nB_nI (by omega) (by omega)⟩
      · rw [w1_ne (by omega), w1_ne (by omega), w1_ne (by omega), w1_ne (by omega)]
        exact ⟨((t3 g' hg').1).up (by omega), ((t3 g' hg').2).up (by omega)⟩
    · rw [mC_w (by omega), mC_w (by omega)] at hb
      rw [w1_ne (by omega), w1_ne (by omega)]
      exact t4 b hb
  · rw [if_neg g, if_neg g, putI_n (by omega) (by omega), atV_nI (by omega) (by omega), ho.2]
    obtain ⟨q3, q4⟩ := hS K X h
    refine ⟨q3, q4, ⟨t, by rw [w1_ne (by omega)]; exact t0, t1⟩, by rw [w1_ne (by omega)]; exact t2, fun g' hg' => ?_, fun b hb => ?_, t5.o (by omega)⟩
    · by_cases e : g' = f
      · subst e
        rw [w1_eq, w1_ne (by omega), e1]
        exact ⟨((t3 g' hg').1).up (by omega), nB_nI (by omega) (by omega)⟩
      · rw [w1_ne (by omega), w1_ne (by omega)]
        exact ⟨((t3 g' hg').1).up (by omega), ((t3 g' hg').2).up (by omega)⟩
    · rw [mC_w (by omega)] at hb
      rw [w1_ne (by omega)]
      exact t4 b hb
end R12
