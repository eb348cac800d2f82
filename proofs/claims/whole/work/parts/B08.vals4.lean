/-! EVENTS: bits (the first rows out of the kit's BITS.to-paste) -/
def bt (x : Int32) (i : Nat) : Bool := x.toBitVec.getLsbD i
theorem b_ext {x y : Int32} (h : ∀ i, i < 32 → bt x i = bt y i) : x = y := Int32.toBitVec_inj.mp (BitVec.eq_of_getLsbD_eq (fun i hi => h i hi))
theorem b_or (x y : Int32) (i : Nat) : bt (x ||| y) i = (bt x i || bt y i) := by unfold bt; rw [Int32.toBitVec_or, BitVec.getLsbD_or]
theorem b_and (x y : Int32) (i : Nat) : bt (x &&& y) i = (bt x i && bt y i) := by unfold bt; rw [Int32.toBitVec_and, BitVec.getLsbD_and]
theorem b_big {x : Int32} {i : Nat} (h : 32 ≤ i) : bt x i = false := BitVec.getLsbD_of_ge _ _ h
theorem s_l : ∀ n, n < 32 → ((nI n &&& 31).toBitVec.smod 32).toNat = n := by decide +kernel
theorem b_shl (n : Nat) (hn : n < 32) (x : Int32) {i : Nat} (hi : i < 32) : bt (x <<< (nI n &&& 31)) i = (decide (n ≤ i) && bt x (i - n)) := by
  unfold bt
  rw [Int32.toBitVec_shiftLeft]
  show (x.toBitVec <<< ((nI n &&& 31).toBitVec.smod 32).toNat).getLsbD i = _
  rw [s_l n hn, BitVec.getLsbD_shiftLeft]
  rcases Nat.lt_or_ge i n with h | h
  · simp [h, Nat.not_le.mpr h]
  · simp [hi, h, Nat.not_lt.mpr h]
theorem b_sshr (n : Nat) (hn : n < 32) (x : Int32) {i : Nat} (hi : i < 32) : bt (x >>> (nI n &&& 31)) i = if n + i < 32 then bt x (n + i) else bt x 31 := by
  unfold bt
  rw [Int32.toBitVec_shiftRight]
  show (x.toBitVec.sshiftRight ((nI n &&& 31).toBitVec.smod 32).toNat).getLsbD i = _
  rw [s_l n hn, BitVec.getLsbD_sshiftRight, BitVec.msb_eq_getLsbD_last]
  simp [hi]
theorem b_l14 (x : Int32) {i : Nat} (hi : i < 32) : bt (x <<< ((14 : Int32) &&& 31)) i = (decide (14 ≤ i) && bt x (i - 14)) := b_shl 14 (by omega) x hi
theorem b_l10 (x : Int32) {i : Nat} (hi : i < 32) : bt (x <<< ((10 : Int32) &&& 31)) i = (decide (10 ≤ i) && bt x (i - 10)) := b_shl 10 (by omega) x hi
theorem b_l3 (x : Int32) {i : Nat} (hi : i < 32) : bt (x <<< ((3 : Int32) &&& 31)) i = (decide (3 ≤ i) && bt x (i - 3)) := b_shl 3 (by omega) x hi
theorem b_r14 (x : Int32) {i : Nat} (hi : i < 32) : bt (x >>> ((14 : Int32) &&& 31)) i = if 14 + i < 32 then bt x (14 + i) else bt x 31 := b_sshr 14 (by omega) x hi
theorem b_r10 (x : Int32) {i : Nat} (hi : i < 32) : bt (x >>> ((10 : Int32) &&& 31)) i = if 10 + i < 32 then bt x (10 + i) else bt x 31 := b_sshr 10 (by omega) x hi
theorem b_r3 (x : Int32) {i : Nat} (hi : i < 32) : bt (x >>> ((3 : Int32) &&& 31)) i = if 3 + i < 32 then bt x (3 + i) else bt x 31 := b_sshr 3 (by omega) x hi
theorem b_15 : ∀ i, i < 32 → bt 15 i = decide (i < 4) := by decide +kernel
theorem b_127 : ∀ i, i < 32 → bt 127 i = decide (i < 7) := by decide +kernel
theorem b_7 : ∀ i, i < 32 → bt 7 i = decide (i < 3) := by decide +kernel
theorem b_hi {x : Int32} {m i : Nat} (h : nB (2 ^ m) x) (hi : m ≤ i) : bt x i = false := by
  unfold bt
  rw [h.1, nI_bv, BitVec.getLsbD_ofNat, Nat.testBit_lt_two_pow (Nat.lt_of_lt_of_le h.2 (Nat.pow_le_pow_right (by omega) hi)), Bool.and_false]
section EV
variable {t s b f : Int32}
def evB (t s b f : Int32) : Int32 := t <<< ((14 : Int32) &&& 31) ||| s <<< ((10 : Int32) &&& 31) ||| b <<< ((3 : Int32) &&& 31) ||| f
theorem ev_bit {i : Nat} (hi : i < 32) : bt (evB t s b f) i = ((((decide (14 ≤ i) && bt t (i - 14)) || (decide (10 ≤ i) && bt s (i - 10))) || (decide (3 ≤ i) && bt b (i - 3))) || bt f i) := by
  unfold evB
  rw [b_or, b_or, b_or, b_l14 _ hi, b_l10 _ hi, b_l3 _ hi]
theorem ev_t (ht : nB (2 ^ 14) t) (hs : nB (2 ^ 4) s) (hb : nB (2 ^ 7) b) (hf : nB (2 ^ 3) f) : evB t s b f >>> ((14 : Int32) &&& 31) = t := b_ext fun i hi => by
  rw [b_r14 _ hi]
  by_cases h : 14 + i < 32
  · rw [if_pos h, ev_bit h, b_hi hs (by omega), b_hi hb (by omega), b_hi hf (by omega), Nat.add_sub_cancel_left]
    simp
  · rw [if_neg h, ev_bit (by omega), b_hi ht (by omega), b_hi hs (by omega), b_hi hb (by omega), b_hi hf (by omega), b_hi ht (by omega)]
    rfl
theorem ev_s (ht : nB (2 ^ 14) t) (hs : nB (2 ^ 4) s) (hb : nB (2 ^ 7) b) (hf : nB (2 ^ 3) f) : evB t s b f >>> ((10 : Int32) &&& 31) &&& 15 = s := b_ext fun i hi => by
  rw [b_and, b_15 i hi, b_r10 _ hi]
  by_cases h : i < 4
  · rw [if_pos (by omega), ev_bit (by omega), b_hi hb (by omega), b_hi hf (by omega), Nat.add_sub_cancel_left, decide_eq_false (show ¬ 14 ≤ 10 + i by omega), decide_eq_true h]
    simp
  · rw [decide_eq_false h, Bool.and_false, b_hi hs (by omega)]
theorem ev_b (ht : nB (2 ^ 14) t) (hs : nB (2 ^ 4) s) (hb : nB (2 ^ 7) b) (hf : nB (2 ^ 3) f) : evB t s b f >>> ((3 : Int32) &&& 31) &&& 127 = b := b_ext fun i hi => by
  rw [b_and, b_127 i hi, b_r3 _ hi]
  by_cases h : i < 7
  · rw [if_pos (by omega), ev_bit (by omega), b_hi hf (by omega), Nat.add_sub_cancel_left, decide_eq_false (show ¬ 14 ≤ 3 + i by omega), decide_eq_false (show ¬ 10 ≤ 3 + i by omega), decide_eq_true h]
    simp
  · rw [decide_eq_false h, Bool.and_false, b_hi hb (by omega)]
theorem ev_f (ht : nB (2 ^ 14) t) (hs : nB (2 ^ 4) s) (hb : nB (2 ^ 7) b) (hf : nB (2 ^ 3) f) : evB t s b f &&& 7 = f := b_ext fun i hi => by
  rw [b_and, b_7 i hi]
  by_cases h : i < 3
  · rw [ev_bit (by omega), decide_eq_false (show ¬ 14 ≤ i by omega), decide_eq_false (show ¬ 10 ≤ i by omega), decide_eq_false (show ¬ 3 ≤ i by omega), decide_eq_true h]
    simp
  · rw [decide_eq_false h, Bool.and_false, b_hi hf (by omega)]
end EV
section V8
variable {k nf : Nat} {Q X : JV} {K P A : JI} {r : Int64} {j : Nat}
theorem vl_ev (h : SR k nf Q K r X) {n w : Nat} (hn : n < mE X) (hw : w ≤ 3) : vEv K (nI n) (nI w) = X (873 + 4 * n + w) := by
  have h3 : mE X < 301 := ((h.i 3).2.1 rfl).2
  obtain ⟨e1, e2, e3, e4, e5⟩ := h.1.2.2.2.2.2 n hn
  unfold vEv
  rw [atV_nI (by omega) (by omega), e1]
  have ee : evX X n = evB (X (873 + 4 * n)) (X (873 + 4 * n + 1)) (X (873 + 4 * n + 2)) (X (873 + 4 * n + 3)) := rfl
  rw [ee]
  have hw' : w = 0 ∨ w = 1 ∨ w = 2 ∨ w = 3 := by omega
  rcases hw' with rfl | rfl | rfl | rfl
  · rw [if_pos (show nI 0 = 0 from rfl)]
    exact ev_t e2 e3 e4 e5
  · rw [if_neg (show ¬ nI 1 = 0 by decide), if_pos (show nI 1 = 1 from rfl)]
    exact ev_s e2 e3 e4 e5
  · rw [if_neg (show ¬ nI 2 = 0 by decide), if_neg (show ¬ nI 2 = 1 by decide), if_pos (show nI 2 = 2 from rfl)]
    exact ev_b e2 e3 e4 e5
  · rw [if_neg (show ¬ nI 3 = 0 by decide), if_neg (show ¬ nI 3 = 1 by decide), if_neg (show ¬ nI 3 = 2 by decide)]
    exact ev_f e2 e3 e4 e5
theorem mi_n {q m : Nat} : (nI (q + 1) - 1) * 4 + nI m = nI (4 * q + m) := by
  rw [show nI (q + 1) - 1 = nI q from (show nI (q + 1) = nI q + 1 from nI_succ q) ▸ Int32.add_sub_cancel _ _, show (4 : Int32) = nI 4 from rfl, pk_mul, nI_add, Nat.mul_comm]
theorem vl_to (h : SR k nf Q K r X) (hq : Q 12 = nI nf) (hn : nf ≤ 8) (hp : RP nf P Q) (hQ : mQ Q) (hfp : ∀ f, f < nf → nB (nN (Q 0)) (Q (15 + f))) (hA : A 2 = Q) (hj : j < mC X) : vTo K P (nI j) = vTm A X j := by
  have hc := h.c
  have hf := vl_mf h hq hn hj
  obtain ⟨s1, s2⟩ := h.2.1.st8 hj
  unfold vTo vTm
  rw [vl_pos h hj, hA]
  by_cases e : X (373 + j) = 8
  · rw [if_pos e, if_pos e, vl_fl h hj, vl_f h hj, atV_nI (by omega) (by omega), hp.2.2.1 _ hf, hp.1.1]
    have e8 : xSt X j = 8 := by unfold xSt; rw [e]; rfl
    obtain ⟨g1, g2⟩ := h.2.1.2.1.2.1 j hj (by omega) e8
    rw [pl_n h (by omega) g1]
    have g3 : xPl X j < qLen Q := by
      rcases h.2.1.2.1.1 _ g1 with q1 | ⟨_, _, _, _, q5⟩
      · rw [g2] at q1
        omega
      · exact q5
    obtain ⟨w1, w2⟩ := hfp _ hf
    obtain ⟨⟨l1, l2⟩, l3⟩ := hQ.1
    rw [w1, l1]
    unfold qLen at g3
    generalize nN (Q (15 + mF X j)) = y at w2
    generalize nN (Q 0) = n at *
    generalize xPl X j = z at *
    rw [if_neg (nI_ne1 (by omega))]
    have e1 : nI y - nI z + nI n = nI (y + n - z) := by
      rw [show nI (y + n - z) = nI y + nI n - nI z by rw [nI_add, show y + n = y + n - z + z by omega, ← nI_add, Int32.add_sub_cancel, show y + n - z + z - z = y + n - z by omega], Int32.sub_eq_add_neg, Int32.sub_eq_add_neg, Int32.add_assoc, Int32.add_assoc, Int32.add_comm (-nI z)]
    rw [e1, pk_rem (by omega) (by omega) (by omega)]
    by_cases hzy : z ≤ y
    · have e2 : nI y - nI z = nI (y - z) := by
        rw [show nI y = nI (y - z) + nI z by rw [nI_add, show y - z + z = y by omega], Int32.add_sub_cancel]
      rw [e2, if_neg (nI_ltz (by omega)), show y + n - z = (y - z) + n by omega, Nat.add_mod_right, Nat.mod_eq_of_lt (by omega)]
    · rw [if_pos ?_, Nat.mod_eq_of_lt (by omega)]
      have b1 := nI_ti (n := y) (by omega)
      have b2 := nI_ti (n := z) (by omega)
      rw [fa_lt, sub_ti (by omega) (by omega), show (0 : Int32).toInt = 0 from rfl]
      omega
  · rw [if_neg e, if_neg e, if_pos rfl]
end V8
