/-! bags more, a keep line more -/
theorem mAd1_o {t f : Int32} {X : JV} {b j : Nat} (h2 : j ≠ 2) (h : ∀ r, r < 7 → j ≠ 173 + 100 * r + b) : mAd1 t f X b j = X j := by
  have h0 := h 0 (by omega)
  have h1 := h 1 (by omega)
  have h3 := h 2 (by omega)
  have h4 := h 3 (by omega)
  have h5 := h 4 (by omega)
  have h6 := h 5 (by omega)
  have h7 := h 6 (by omega)
  unfold mAd1
  rw [w1_ne h2, w1_ne (by omega), w1_ne (by omega), w1_ne (by omega), w1_ne (by omega), w1_ne (by omega), w1_ne (by omega), w1_ne (by omega)]
theorem mAd1_v {t f : Int32} {X : JV} {b : Nat} : mAd1 t f X b 2 = nI (b + 1) ∧ mAd1 t f X b (173 + b) = f ∧ mAd1 t f X b (273 + b) = t ∧ mAd1 t f X b (373 + b) = (if X 0 < t then 0 else 1) ∧ mAd1 t f X b (473 + b) = -1 ∧ mAd1 t f X b (573 + b) = 0 ∧ mAd1 t f X b (673 + b) = 0 ∧ mAd1 t f X b (773 + b) = -1 := by
  unfold mAd1
  refine ⟨w1_eq, ?_, ?_, ?_, ?_, ?_, ?_, ?_⟩
  · rw [w1_ne (by omega), w1_ne (by omega), w1_ne (by omega), w1_ne (by omega), w1_ne (by omega), w1_ne (by omega), w1_ne (by omega), w1_eq]
  · rw [w1_ne (by omega), w1_ne (by omega), w1_ne (by omega), w1_ne (by omega), w1_ne (by omega), w1_ne (by omega), w1_eq]
  · rw [w1_ne (by omega), w1_ne (by omega), w1_ne (by omega), w1_ne (by omega), w1_ne (by omega), w1_eq]
  · rw [w1_ne (by omega), w1_ne (by omega), w1_ne (by omega), w1_ne (by omega), w1_eq]
  · rw [w1_ne (by omega), w1_ne (by omega), w1_ne (by omega), w1_eq]
  · rw [w1_ne (by omega), w1_ne (by omega), w1_eq]
  · rw [w1_ne (by omega), w1_eq]
section A9
variable {N X : JV} {P K : JI} {H : Nat → Tst} {kf kl kc kk c sz m : Nat} {tk dr : Int64}
theorem yX.b1 (h : yX X kf c) (hc : c < 100) {t f : Nat} (ht : t < 1000) (hf : f < kf) (hk8 : kf ≤ 8) : yX (mAd1 (nI t) (nI f) X c) kf (c + 1) := by
  obtain ⟨⟨a1, a2, a3, a4⟩, b1, c1, d1, e1⟩ := h
  obtain ⟨v2, v3, v4, v5, v6, v7, v8, v9⟩ := mAd1_v (t := nI t) (f := nI f) (X := X) (b := c)
  refine ⟨⟨v2, by omega, by rw [mAd1_o (by omega) (by omega)]; exact a3, by rw [mAd1_o (by omega) (by omega)]; exact a4⟩, fun q hq => ?_, fun j hj h => ?_, fun b hb => ?_, fun b hb hb2 => ?_⟩
  · rw [mAd1_o (by omega) (by omega), mAd1_o (by omega) (by omega)]; exact b1 q hq
  · rw [mAd1_o (by omega) (by omega)]; exact c1 j hj h
  · by_cases h9 : b = c
    · subst h9
      rw [v3, v4, v5, v6, v7, v8, v9, c1 0 (by omega) (by omega)]
      exact ⟨nB_nI hf (by omega), nB_nI ht (by omega), rfl, rfl, rfl, rfl, rfl⟩
    · rw [mAd1_o (by omega) (by omega), mAd1_o (by omega) (by omega), mAd1_o (by omega) (by omega), mAd1_o (by omega) (by omega), mAd1_o (by omega) (by omega), mAd1_o (by omega) (by omega), mAd1_o (by omega) (by omega)]
      exact d1 b (by omega)
  · rw [mAd1_o (by omega) (by omega), mAd1_o (by omega) (by omega), mAd1_o (by omega) (by omega)]; exact e1 b (by omega) hb2
theorem pSt0.b1 (h : pSt0 X K dr kf c) (hc : c < 100) (hk8 : kf ≤ 8) {t f : Int32} : pSt0 (mAd1 t f X c) (kAd K c t f) dr kf (c + 1) := by
  obtain ⟨⟨a1, a2, a3, a4, a5, a6⟩, b1, c1, c2, d1, d2, d3, d4⟩ := h
  obtain ⟨v2, v3, v4, v5, v6, v7, v8, v9⟩ := mAd1_v (t := t) (f := f) (X := X) (b := c)
  refine ⟨⟨by simpa [kAd, u2] using a1, by rw [mAd1_o (by omega) (by omega)]; simpa [kAd, u2] using a2, by simpa [kAd, u2] using a3, by simpa [kAd, u2] using a4, by simp [kAd, u2], by rw [mAd1_o (by omega) (by omega)]; exact a6⟩, fun b hb => ?_, ?_, fun j h1 h2 => ?_, fun q hq => ?_, fun j hj => by simpa [kAd, u2] using d2 j hj, fun j hj => by simpa [kAd, u2] using d3 j hj, fun j hj => by simpa [kAd, u2] using d4 j hj⟩
  · by_cases h9 : b = c
    · subst h9
      rw [v3, v4]
      simp [kAd, u2]
    · rw [mAd1_o (by omega) (by omega), mAd1_o (by omega) (by omega)]
      simpa [kAd, u2, h9] using b1 b (by omega)
  · have : kAd K c t f 8 0 = K 8 0 + 1 := by simp [kAd, u2]
    rw [this, c1]
    exact (nI_succ c).symm
  · have h0 : ¬ j = 0 := by omega
    simpa [kAd, u2, h0] using c2 j h1 h2
  · rw [mAd1_o (by omega) (by omega), mAd1_o (by omega) (by omega)]
    simpa [kAd, u2] using d1 q hq
theorem bs_all (hk8 : kf ≤ 8) {t f : Nat} (ht : t < 1000) (hf : f < kf) : ∀ (k c : Nat) (X : JV) (K : JI), c + k ≤ 100 → yX X kf c → pSt0 X K dr kf c → yX (mAd (nI t) (nI f) k c X) kf (c + k) ∧ pSt0 (mAd (nI t) (nI f) k c X) (kAds (nI t) (nI f) k c K) dr kf (c + k)
  | 0, c, X, K, _, h1, h2 => ⟨h1, h2⟩
  | k + 1, c, X, K, hk, h1, h2 => by
    rw [show c + (k + 1) = c + 1 + k by omega]
    exact bs_all hk8 ht hf k (c + 1) _ _ (by omega) (h1.b1 (by omega) ht hf hk8) (h2.b1 (by omega) hk8)
theorem yN.kp (h : yN N kf kl kc kk sz) (hk : kk < 3) : yN (w1 N 14 (nI (kk + 1))) kf kl kc (kk + 1) sz := by
  obtain ⟨⟨a1, a2, a3, a4, a5, a6, a7, a8⟩, ⟨b1, b2, b3, b4, b5⟩, c1, c2, c3, c4, c5⟩ := h
  have e : ∀ j, j ≠ 14 → w1 N 14 (nI (kk + 1)) j = N j := fun j h1 => w1_ne h1
  refine ⟨⟨?_, a2, ?_, a4, ?_, a6, w1_eq, by omega⟩, ⟨?_, b2, b3, ?_, ?_⟩, fun q hq => ?_, fun f hf9 => ?_, fun l hl => ?_, fun f hf9 => ?_, fun l hl => ?_⟩
  · rw [e 12 (by omega)]; exact a1
  · rw [e 13 (by omega)]; exact a3
  · rw [e 34 (by omega)]; exact a5
  · rw [e 0 (by omega)]; exact b1
  · rw [e 1 (by omega)]; exact b4
  · rw [e 2 (by omega)]; exact b5
  · rw [e (3 + q) (by omega), e (6 + q) (by omega), e (9 + q) (by omega)]; exact c1 q hq
  · rw [e (15 + f) (by omega)]; exact c2 f hf9
  · rw [e (23 + l) (by omega), e (27 + l) (by omega)]; exact c3 l hl
  · rw [e (15 + f) (by omega)]; exact c4 f hf9
  · rw [e (23 + l) (by omega)]; exact c5 l hl
theorem pPl.cg {N' : JV} {P' : JI} (h : pPl N P kf kl kc) (eN' : ∀ j, j < 12 ∨ 15 ≤ j ∧ j < 31 ∨ 35 ≤ j → N' j = N j) (eP : ∀ k j, k < 11 → P' k j = P k j) (hf : kf ≤ 8) (hl : kl ≤ 4) : pPl N' P' kf kl kc := by
  obtain ⟨⟨a1, a2, a3⟩, b1, ⟨c1, c2, c3⟩, d1, d2, d3⟩ := h
  refine ⟨⟨?_, ?_, ?_⟩, fun q hq => ?_, ⟨?_, ?_, ?_⟩, fun f hf9 => ?_, fun l hl9 => ?_, fun k hk => ?_⟩
  · rw [eP 0 0 (by omega), eN' 0 (by omega)]; exact a1
  · rw [eP 0 1 (by omega), eN' 1 (by omega)]; exact a2
  · rw [eP 0 2 (by omega), eN' 2 (by omega)]; exact a3
  · rw [eP 1 q (by omega), eP 2 q (by omega), eP 3 q (by omega), eN' (3 + q) (by omega), eN' (6 + q) (by omega), eN' (9 + q) (by omega)]; exact b1 q hq
  · rw [eP 0 6 (by omega)]; exact c1
  · rw [eP 0 8 (by omega)]; exact c2
  · rw [eP 0 11 (by omega)]; exact c3
  · rw [eP 4 f (by omega), eN' (15 + f) (by omega)]; exact d1 f hf9
  · rw [eP 5 l (by omega), eP 6 l (by omega), eN' (23 + l) (by omega), eN' (27 + l) (by omega)]; exact d2 l hl9
  · rw [eP 7 k (by omega), eP 8 k (by omega), eP 9 k (by omega), eP 10 k (by omega), eN' (35 + 4 * k) (by omega), eN' (35 + 4 * k + 1) (by omega), eN' (35 + 4 * k + 2) (by omega), eN' (35 + 4 * k + 3) (by omega)]; exact d3 k hk
theorem pTe.kp {P1 : JI} {m2 : Nat} {t : Tst} (h : pTe P H kk m) (hk : kk < 3) (h1 : P1 11 1 = nI m2) (h2 : m ≤ m2) (h3 : ∀ c j, c ≠ 13 → c ≠ 14 → ¬ (c = 11 ∧ j = 1) → P1 c j = P c j) (h4 : ∀ j, j < m → P1 13 j = P 13 j ∧ P1 14 j = P 14 j) (h5 : cdR P1 m m2 11 t) : pTe (u2 (u2 P1 12 kk (nI m2)) 11 0 (nI (kk + 1))) (fun i => if i = kk then t else H i) (kk + 1) m2 := by
  obtain ⟨a1, a2, a3, a4, a5⟩ := h
  have e12 : ∀ j, j ≠ kk → u2 (u2 P1 12 kk (nI m2)) 11 0 (nI (kk + 1)) 12 j = P 12 j := fun j hj => by rw [← h3 12 j (by omega) (by omega) (by omega)]; simp [u2, hj]
  have e12k : u2 (u2 P1 12 kk (nI m2)) 11 0 (nI (kk + 1)) 12 kk = nI m2 := by simp [u2]
  have ec : ∀ j, u2 (u2 P1 12 kk (nI m2)) 11 0 (nI (kk + 1)) 13 j = P1 13 j ∧ u2 (u2 P1 12 kk (nI m2)) 11 0 (nI (kk + 1)) 14 j = P1 14 j := fun j => ⟨by simp [u2], by simp [u2]⟩
  refine ⟨by simp [u2], by simpa [u2] using h1, fun h => by omega, fun i hi => by rw [show i = kk by omega]; exact e12k, fun i hi => ?_⟩
  by_cases h9 : i = kk
  · subst h9
    rw [show (fun q => if q = i then t else H q) i = t from if_pos rfl]
    refine ⟨m, m2, fun h0 => a3 h0, fun i' h' => ?_, e12k, Nat.le_refl _, h5.cg (fun j _ _ => ⟨(ec j).1.symm, (ec j).2.symm⟩)⟩
    rw [e12 i' (by omega)]
    exact a4 i' h'
  · rw [show (fun q => if q = kk then t else H q) i = H i from if_neg h9]
    obtain ⟨fr, to, b1, b2, b3, b4, b5⟩ := a5 i (by omega)
    refine ⟨fr, to, b1, fun i' h' => by rw [e12 i' (by omega)]; exact b2 i' h', by rw [e12 i h9]; exact b3, by omega, b5.cg (fun j _ hj => ⟨?_, ?_⟩)⟩
    · rw [(ec j).1, (h4 j (by omega)).1]
    · rw [(ec j).2, (h4 j (by omega)).2]
end A9
