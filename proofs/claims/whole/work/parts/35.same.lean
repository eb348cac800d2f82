/-! THE QUESTIONS OF A TICK have the same answers on both sides -/
def RP (nf : Nat) (P : JI) (Q : JV) : Prop := (P 0 0 = Q 0 ∧ P 0 1 = Q 1 ∧ P 0 2 = Q 2 ∧ P 0 6 = Q 12 ∧ P 0 8 = Q 13 ∧ P 0 11 = Q 34) ∧ (∀ q, q < 3 → P 1 q = Q (3 + q) ∧ P 2 q = Q (6 + q) ∧ P 3 q = Q (9 + q)) ∧ (∀ f, f < nf → P 4 f = Q (15 + f)) ∧ (∀ l, l < qLn Q → P 5 l = Q (23 + l) ∧ P 6 l = Q (27 + l)) ∧ (∀ k, k < qSn Q → P 7 k = Q (35 + 4 * k) + 1 ∧ P 8 k = Q (35 + 4 * k + 1) ∧ P 9 k = Q (35 + 4 * k + 2) ∧ P 10 k = Q (35 + 4 * k + 3)) ∧ nf = nN (Q 12) ∧ nf ≤ 8
/-- numbers that stay small -/
def mN (nf : Nat) (X : JV) : Prop := nB 16384 (X 0) ∧ nB 1000 (X 4) ∧ (∀ f, f < nf → nB (2 ^ 29) (X (5 + f)) ∧ nB (2 ^ 29) (X (13 + f))) ∧ ∀ b, b < mC X → nB (2 ^ 29) (X (273 + b))
theorem srch_cg {p q : Nat → Bool} {n : Nat} {g : Nat → Int32} {d : Int32} (h : ∀ i, i < n → p i = q i) : srch p n g d = srch q n g d := by
  have e : ∀ n, (∀ i, i < n → p i = q i) → fa_first p n = fa_first q n := by
    intro n
    induction n with
    | zero => intro _; rfl
    | succ n ih =>
      intro h
      unfold fa_first
      rw [ih (fun i hi => h i (by omega)), h n (by omega)]
  unfold srch
  rw [e n h]
section SAME
variable {nf : Nat} {P K : JI} {r : Int64} {Q X : JV}
theorem RV.clk (h : RV nf K r X) : K 0 0 = X 0 := h.get mt00 ⟨fun _ _ => by omega, fun e => by omega, fun e => by omega⟩
theorem RV.fl (h : RV nf K r X) (hX : mI X) {b : Nat} (hb : b < mC X) : K 3 b = nI (mF X b) := (h.get (mt3 (by have := hX.c.2; omega)) ⟨fun _ _ => hb, fun e => by omega, fun e => by omega⟩).trans (hX.f (by have := hX.c.2; omega)).1
theorem RV.ar (h : RV nf K r X) (hX : mI X) {b : Nat} (hb : b < mC X) : K 4 b = X (273 + b) := h.get (mt4 (by have := hX.c.2; omega)) ⟨fun _ _ => hb, fun e => by omega, fun e => by omega⟩
theorem RV.op (h : RV nf K r X) (hn : nf ≤ 8) {f : Nat} (hf : f < nf) : K 9 f = X (5 + f) ∧ K 10 f = X (13 + f) := ⟨h.get (mt9 (by omega)) ⟨fun _ _ => by omega, fun _ => hf, fun e => by omega⟩, h.get (mt10 (by omega)) ⟨fun _ _ => by omega, fun _ => hf, fun e => by omega⟩⟩
theorem RV.lo (h : RV nf K r X) {p : Nat} (hp : p < 40) : K 14 p = X (133 + p) := h.get (mt14 hp) ⟨fun _ _ => by omega, fun e => by omega, fun e => by omega⟩
theorem RV.ow (h : RV nf K r X) {p : Nat} (hp : p < 12) : K 15 p = X (109 + p) := h.get (mt15 hp) ⟨fun _ _ => by omega, fun e => by omega, fun e => by omega⟩
theorem RV.br (h : RV nf K r X) {p : Nat} (hp : p < 12) : K 17 p = X (2073 + p) := h.get (mt17 hp) ⟨fun _ _ => by omega, fun e => by omega, fun e => by omega⟩
theorem RV.bl (h : RV nf K r X) {p : Nat} (hp : p < 4) : K 11 p = X (25 + p) ∧ K 12 p = X (21 + p) := ⟨h.get (mt11 hp) ⟨fun _ _ => by omega, fun e => by omega, fun e => by omega⟩, h.get (mt12 hp) ⟨fun _ _ => by omega, fun e => by omega, fun e => by omega⟩⟩
theorem RV.la (h : RV nf K r X) (hX : mI X) {l j : Nat} (hl : l < 4) (hj : j < mHe X l) : K 13 (l * 20 + j) = X (29 + 20 * l + j) := by
  have h20 := (hX.he hl).2
  have := h.get (mt13 (j := l * 20 + j) (by omega)) ⟨fun _ _ => by omega, fun e => by omega, fun _ => by rw [show (l * 20 + j) % 20 = j by omega, show (l * 20 + j) / 20 = l by omega]; exact hj⟩
  rw [this, show 29 + (l * 20 + j) = 29 + 20 * l + j by omega]
theorem ph_same (h : RV nf K r X) (hn : nf ≤ 8) {f : Nat} (hf : f < nf) : kPh K (nI f) = mPh X f := by
  have ho := h.op hn hf
  unfold kPh mPh
  rw [atV_nI (by omega) (by omega), atV_nI (by omega) (by omega), ho.1, ho.2, h.clk]
theorem phB_same (h : RV nf K r X) (hX : mI X) (hn : nf ≤ 8) {b : Nat} (hb : b < mC X) (hf : mF X b < nf) : kPhB K (nI b) = mOf X b := by
  unfold kPhB mOf
  rw [atV_nI (by have := hX.c.2; omega) (by omega), h.fl hX hb]
  exact ph_same h hn hf
theorem on_same (hp : RP nf P Q) (hQ : mQ Q) {p : Nat} : kOn P (nI p) = mLh Q p := by
  unfold kOn mLh
  have e : pnl P = qLn Q := by unfold pnl qLn nN; rw [hp.1.2.2.2.2.1]
  rw [e]
  exact srch_cg fun i hi => by unfold pOn; rw [(hp.2.2.2.1 i hi).1]
theorem lt_same (h : RV nf K r X) (hp : RP nf P Q) (hQ : mQ Q) (hX : mJ Q X) (hW : sI Q X 100) (hfl : ∀ b, b < mC X → mF X b < nf) {l b : Nat} (hl : l < qLn Q) (hb : b < mC X) : (kLT P K (nI l) (nI b) = 0) = (mRoom Q X l b = 0) := by
  have hln := nQln hQ
  have hc := hX.1.c.2
  have hbl := h.bl (p := l) (by omega)
  have hhe := hX.1.he (l := l) (by omega)
  have hcap := hX.2 l (by omega)
  have hq := hQ.2.2.2.2.2.2.2 l (by omega)
  have hn8 := hp.2.2.2.2.2.2
  unfold kLT mRoom
  rw [atV_nI (n := 4) (by omega) (by omega), atV_nI (n := 4) (by omega) (by omega), atV_nI (n := 4) (by omega) (by omega), hbl.1, hbl.2, (hp.2.2.2.1 l hl).2]
  by_cases h1 : X (25 + l) = 1
  · rw [if_pos h1, if_pos h1]
  · rw [if_neg h1, if_neg h1]
    by_cases h2 : X (21 + l) = Q (27 + l)
    · rw [if_pos h2, if_neg (by rw [h2]; exact fun w => Int32.lt_irrefl w)]
    · have hlt : mHe X l < nN (Q (27 + l)) := by
        have : mHe X l ≠ nN (Q (27 + l)) := fun e => h2 (by rw [hhe.1, e]; exact hq.1.symm)
        omega
      rw [if_neg h2, if_pos (by rw [hhe.1, hq.1]; exact nI_ltN hlt (by have := hq.2; omega))]
      by_cases h3 : X (21 + l) = 0
      · rw [if_pos h3, if_pos h3]
      · rw [if_neg h3, if_neg h3]
        have h0 : mHe X l ≠ 0 := fun e => h3 (by rw [hhe.1, e]; rfl)
        have hbl2 := hW.2.2.1 l (mHe X l - 1) (by omega) (by omega)
        have eL : xLa X l (mHe X l - 1) = mLb X (20 * l + mHe X l - 1) := by unfold xLa mLb; rw [show 29 + 20 * l + (mHe X l - 1) = 29 + (20 * l + mHe X l - 1) by omega]
        rw [eL] at hbl2
        have hlb := hX.1.lb (l := 20 * l + mHe X l - 1) (by omega)
        have e1 : atV 80 (K 13) (nI l * 20 + X (21 + l) - 1) = nI (mLb X (20 * l + mHe X l - 1)) := by
          rw [hhe.1, l20, show (1 : Int32) = nI 1 from rfl, pk_sub (by omega), atV_nI (by omega) (by omega), show l * 20 + mHe X l - 1 = l * 20 + (mHe X l - 1) by omega, h.la hX.1 (by omega) (by omega), show 29 + 20 * l + (mHe X l - 1) = 29 + (20 * l + mHe X l - 1) by omega]
          exact hlb.1
        have o1 := h.op hn8 (hfl b hb)
        have o2 := h.op hn8 (hfl _ hbl2.1)
        have f1 := hX.1.f (b := b) (by omega)
        have f2 := hX.1.f hlb.2
        rw [e1, atV_nI (n := 100) (j := b) (by omega) (by omega), h.fl hX.1 hb, atV_nI (n := 100) (by omega) (by omega), h.fl hX.1 hbl2.1, atV_nI (n := 8) (by omega) (by omega), atV_nI (n := 8) (by omega) (by omega), o1.1, o2.1]
theorem nI_lt_iff {a b : Nat} (ha : a < 2 ^ 31) (hb : b < 2 ^ 31) : nI a < nI b ↔ a < b := ⟨fun h => by
  rcases Nat.lt_or_ge a b with w | w
  · exact w
  · exact absurd h (nI_nltN w ha), fun h => nI_ltN h hb⟩
theorem nI_le_iff {a b : Nat} (ha : a < 2 ^ 31) (hb : b < 2 ^ 31) : nI a ≤ nI b ↔ a ≤ b := ⟨fun h => by
  rcases Nat.lt_or_ge b a with w | w
  · exact absurd h (nI_ge w ha)
  · exact w, fun h => nI_le h hb⟩
theorem i_lt_iff {x y : Int32} : x < y ↔ x.toInt < y.toInt := Int32.lt_iff_toInt_lt
theorem i_le_iff {x y : Int32} : x ≤ y ↔ x.toInt ≤ y.toInt := Int32.le_iff_toInt_le
/-- the order of two bags in a queue -/
theorem gb_same (h : RV nf K r X) (hX : mI X) (hn : nf ≤ 8) (hN : mN nf X) (hfl : ∀ b, b < mC X → mF X b < nf) {a b : Nat} (ha : a < mC X) (hb : b < mC X) : (kGB K (nI a) (nI b) = 0) = (mAh X a b = 0) := by
  have hc := hX.c.2
  have oa := h.op hn (hfl a ha)
  have ob := h.op hn (hfl b hb)
  have fa := (hfl a ha)
  have fb := (hfl b hb)
  obtain ⟨ca, hca⟩ : ∃ n, n = nN (X (13 + mF X a)) := ⟨_, rfl⟩
  obtain ⟨cb, hcb⟩ : ∃ n, n = nN (X (13 + mF X b)) := ⟨_, rfl⟩
  have hA := hN.2.2.2 a ha
  have hB := hN.2.2.2 b hb
  have hcA := (hN.2.2.1 _ fa).2
  have hcB := (hN.2.2.1 _ fb).2
  have hT := hN.1
  have hH := hN.2.1
  unfold nB at hA hB hcA hcB hT hH
  rw [← hca] at hcA
  rw [← hcb] at hcB
  unfold kGB kGB2 mAh mSo mHot
  rw [atV_nI (n := 100) (j := a) (by omega) (by omega), atV_nI (n := 100) (j := b) (by omega) (by omega), atV_nI (n := 100) (j := a) (by omega) (by omega), atV_nI (n := 100) (j := b) (by omega) (by omega), h.fl hX ha, h.fl hX hb, atV_nI (n := 8) (by omega) (by omega), atV_nI (n := 8) (by omega) (by omega), oa.2, ob.2, h.ar hX ha, h.ar hX hb, hcA.1, hcB.1, hA.1, hB.1, hT.1, hH.1]
  have i1 : (nI cb - nI ca).toInt = (cb : Int) - ca := pk_sub_toInt (by omega) (by omega)
  have i2 : (nI ca - nI cb).toInt = (ca : Int) - cb := pk_sub_toInt (by omega) (by omega)
  have i3 : (nI (nN (X (273 + b))) - nI (nN (X (273 + a)))).toInt = (nN (X (273 + b)) : Int) - nN (X (273 + a)) := pk_sub_toInt (by omega) (by omega)
  have i5 : (nI ca - nI (nN (X 0))).toInt = (ca : Int) - nN (X 0) := pk_sub_toInt (by omega) (by omega)
  have i6 : (nI cb - nI (nN (X 0))).toInt = (cb : Int) - nN (X 0) := pk_sub_toInt (by omega) (by omega)
  have z : ∀ x : Int32, x = 0 ↔ x.toInt = 0 := fun x => ⟨fun e => by rw [e]; rfl, fun e => Int32.toInt_inj.mp (by rw [e]; rfl)⟩
  have e1 : ∀ x y : Nat, x < 2 ^ 31 → y < 2 ^ 31 → (nI x = nI y ↔ x = y) := fun x y hx hy => ⟨fun e => nI_inj' hx hy e, fun e => by rw [e]⟩
  have one : ¬ (1 : Int32) = 0 := by decide
  have one' : ¬ (0 : Int32) = 1 := by decide
  simp only [i_lt_iff, i_le_iff, z (nI cb - nI ca), z (nI ca - nI cb), z (nI (nN (X (273 + b))) - nI (nN (X (273 + a)))), i1, i2, i5, i6, nI_toInt (show nN (X 4) < 2 ^ 31 by omega), nI_toInt (show a < 2 ^ 31 by omega), nI_toInt (show b < 2 ^ 31 by omega), nI_toInt (show nN (X (273 + a)) < 2 ^ 31 by omega), nI_toInt (show nN (X (273 + b)) < 2 ^ 31 by omega), e1 _ _ (show nN (X (273 + a)) < 2 ^ 31 by omega) (show nN (X (273 + b)) < 2 ^ 31 by omega), show (0 : Int32).toInt = 0 from rfl]
  generalize nN (X (273 + a)) = ra at *
  generalize nN (X (273 + b)) = rb at *
  generalize nN (X 0) = t at *
  generalize nN (X 4) = ht at *
  rcases Nat.lt_trichotomy ca cb with w | w | w
  · have c1 : ¬ (ca : Int) - cb = 0 := by omega
    have c2 : ¬ (0 : Int) ≤ (ca : Int) - cb := by omega
    rw [if_neg (show ¬ (cb : Int) - ca = 0 by omega), i1, if_pos (show (0 : Int) < (cb : Int) - ca by omega), if_neg c1, if_neg c2]
    by_cases h1 : (ht : Int) < (ca : Int) - t
    · rw [if_pos h1, if_pos (show (ht : Int) < (cb : Int) - t by omega), if_pos rfl]
    · rw [if_neg h1]
      by_cases h2 : (ht : Int) < (cb : Int) - t
      · rw [if_pos h2, if_neg one]
      · rw [if_neg h2, if_pos rfl]
  · subst w
    rw [if_pos (show (ca : Int) - ca = 0 by omega), if_pos (show (ca : Int) - ca = 0 by omega), if_pos rfl, i3]
    rcases Nat.lt_trichotomy ra rb with v | v | v
    · rw [if_pos (show (0 : Int) < (rb : Int) - ra by omega), if_neg (show ¬ ra = rb by omega), if_neg (show ¬ (rb : Int) ≤ ra by omega)]
    · subst v
      rw [if_neg (show ¬ (0 : Int) < (ra : Int) - ra by omega), if_pos ((z _).mpr (by rw [i3]; omega)), if_pos rfl]
    · rw [if_neg (show ¬ (0 : Int) < (rb : Int) - ra by omega), if_neg (fun q => by have := (z _).mp q; rw [i3] at this; omega), if_neg (show ¬ ra = rb by omega), if_pos (show (rb : Int) ≤ ra by omega)]
  · have c1 : ¬ (ca : Int) - cb = 0 := by omega
    have c2 : (0 : Int) ≤ (ca : Int) - cb := by omega
    rw [if_neg (show ¬ (cb : Int) - ca = 0 by omega), i1, if_neg (show ¬ (0 : Int) < (cb : Int) - ca by omega), if_neg (fun q => by have := (z _).mp q; rw [i1] at this; omega), if_neg c1, if_pos c2]
    by_cases h2 : (ht : Int) < (cb : Int) - t
    · rw [if_pos h2, if_pos (show (ht : Int) < (ca : Int) - t by omega), if_pos rfl]
    · rw [if_neg h2]
      by_cases h1 : (ht : Int) < (ca : Int) - t
      · rw [if_pos h1, if_neg one']
      · rw [if_neg h1, if_pos rfl]
theorem bst_same (h : RV nf K r X) (hX : mI X) (hn : nf ≤ 8) (hN : mN nf X) (hfl : ∀ b, b < mC X → mF X b < nf) {w : Int32} : ∀ n, n ≤ mC X → bst K w n = mFi X w n
  | 0, _ => rfl
  | n + 1, hle => by
    have hc := hX.c.2
    have ih := bst_same h hX hn hN hfl (w := w) n (by omega)
    rw [bst, mFi, mFs, ih, h.st (by omega) (by omega)]
    by_cases h1 : X (373 + n) = w
    · rw [if_pos h1]
      by_cases h2 : mFi X w n = -1
      · rw [if_pos ⟨h1, Or.inl h2⟩, if_pos h2]
      · rw [if_neg h2]
        have hs := mFi_s (X := X) (s := w) n (by omega) h2
        have ho := (mFi_oB (X := X) (s := w) n (by omega)).resolve_left h2
        have e := gb_same h hX hn hN hfl (a := n) (b := nN (mFi X w n)) (by omega) (by omega)
        rw [← ho.1] at e
        by_cases h3 : mAh X n (nN (mFi X w n)) = 0
        · rw [if_pos h3, if_neg (fun q => q.2.elim h2 (fun z => z (e ▸ h3)))]
        · rw [if_neg h3, if_pos ⟨h1, Or.inr (fun z => h3 (e ▸ z))⟩]
    · rw [if_neg h1, if_neg (fun q => h1 q.1)]
theorem fq_same (h : RV nf K r X) (hX : mI X) (hn : nf ≤ 8) (hN : mN nf X) (hfl : ∀ b, b < mC X → mF X b < nf) {w : Nat} (hw : w < 14) : kFQ K (nI w) (mC X) = mFi X (nI w) (mC X) := by
  have hc := hX.c.2
  unfold kFQ
  rw [atV_nI hw (by omega), h.2.2.2.2.1 w hw]
  by_cases h0 : fb_ct (pSt_ X (w)) (mC X) = 0
  · rw [h0, if_pos (by decide)]
    by_cases h1 : mFi X (nI w) (mC X) = -1
    · exact h1.symm
    · have hs := mFi_s (X := X) (s := nI w) (mC X) (by omega) h1
      have := fb_ct_zero.mp h0 _ hs.2
      unfold pSt_ at this
      rw [hs.1] at this
      exact absurd rfl (of_decide_eq_false this)
  · have hle := fb_ct_le (pSt_ X w) (mC X)
    rw [if_neg (show ¬ nI (fb_ct (pSt_ X w) (mC X)) ≤ 0 from nI_ge (a := 0) (b := fb_ct (pSt_ X w) (mC X)) (by omega) (by omega))]
    exact bst_same h hX hn hN hfl _ (Nat.le_refl _)
/-- whether a machine is out -/
theorem ou_iff (Q X : JV) (lv m : Nat) : ∀ k, ¬ mOuL Q X lv m k = 0 ↔ (¬ X (2073 + 4 * lv + m) < X 0) ∨ ∃ j, j < k ∧ (Q (35 + 4 * j) = nI lv ∧ ¬ nI m < Q (35 + 4 * j + 1) ∧ ¬ X 0 < Q (35 + 4 * j + 2) ∧ ¬ Q (35 + 4 * j + 3) < X 0)
  | 0 => by
    rw [mOuL]
    by_cases h : X (2073 + 4 * lv + m) < X 0
    · rw [if_pos h]
      exact ⟨fun q => absurd rfl q, fun q => q.elim (fun z => absurd h z) (fun ⟨j, hj, _⟩ => absurd hj (Nat.not_lt_zero j))⟩
    · rw [if_neg h]
      exact ⟨fun _ => Or.inl h, fun _ => by decide⟩
  | k + 1 => by
    have ih := ou_iff Q X lv m k
    rw [mOuL, mOuS]
    by_cases h0 : mOuL Q X lv m k = 0
    · rw [if_pos h0]
      have hno : ¬ ((¬ X (2073 + 4 * lv + m) < X 0) ∨ ∃ j, j < k ∧ (Q (35 + 4 * j) = nI lv ∧ ¬ nI m < Q (35 + 4 * j + 1) ∧ ¬ X 0 < Q (35 + 4 * j + 2) ∧ ¬ Q (35 + 4 * j + 3) < X 0)) := fun q => ih.mpr q h0
      have key : ((¬ X (2073 + 4 * lv + m) < X 0) ∨ ∃ j, j < k + 1 ∧ (Q (35 + 4 * j) = nI lv ∧ ¬ nI m < Q (35 + 4 * j + 1) ∧ ¬ X 0 < Q (35 + 4 * j + 2) ∧ ¬ Q (35 + 4 * j + 3) < X 0)) ↔ (Q (35 + 4 * k) = nI lv ∧ ¬ nI m < Q (35 + 4 * k + 1) ∧ ¬ X 0 < Q (35 + 4 * k + 2) ∧ ¬ Q (35 + 4 * k + 3) < X 0) := by
        constructor
        · rintro (q | ⟨j, hj, q⟩)
          · exact absurd (Or.inl q) hno
          · by_cases e : j = k
            · subst e; exact q
            · exact absurd (Or.inr ⟨j, by omega, q⟩) hno
        · exact fun q => Or.inr ⟨k, by omega, q⟩
      rw [key]
      by_cases a1 : Q (35 + 4 * k) = nI lv
      · rw [if_pos a1]
        by_cases a2 : nI m < Q (35 + 4 * k + 1)
        · rw [if_pos a2]; exact ⟨fun q => absurd rfl q, fun q => absurd a2 q.2.1⟩
        · rw [if_neg a2]
          by_cases a3 : X 0 < Q (35 + 4 * k + 2)
          · rw [if_pos a3, if_pos rfl]; exact ⟨fun q => absurd rfl q, fun q => absurd a3 q.2.2.1⟩
          · rw [if_neg a3]
            by_cases a4 : Q (35 + 4 * k + 3) < X 0
            · rw [if_pos a4, if_pos rfl]; exact ⟨fun q => absurd rfl q, fun q => absurd a4 q.2.2.2⟩
            · rw [if_neg a4, if_neg (show ¬ (1 : Int32) = 0 by decide)]; exact ⟨fun _ => ⟨a1, a2, a3, a4⟩, fun _ => by decide⟩
      · rw [if_neg a1]; exact ⟨fun q => absurd rfl q, fun q => absurd q.1 a1⟩
    · rw [if_neg h0]
      refine ⟨fun _ => ?_, fun _ => by decide⟩
      rcases ih.mp h0 with q | ⟨j, hj, q⟩
      · exact Or.inl q
      · exact Or.inr ⟨j, by omega, q⟩
theorem mi_same (lv m : Nat) : kMi (nI (lv + 1)) (nI m) = nI (4 * lv + m) := by
  unfold kMi
  rw [nI_pred, show (4 : Int32) = nI 4 from rfl, pk_mul, nI_add]
  congr 1
  omega
theorem wk_same (h : RV nf K r X) (hp : RP nf P Q) (hQ : mQ Q) {lv m : Nat} (hl : lv < 3) (hm : m < 4) : (kWk P K (nI (lv + 1)) (nI m) = 0) ↔ ¬ mOu Q X lv m = 0 := by
  unfold kWk mOu
  rw [ou_iff, mi_same, atV_nI (show 4 * lv + m < 12 by omega) (by omega), h.br (show 4 * lv + m < 12 by omega), h.clk, show 2073 + (4 * lv + m) = 2073 + 4 * lv + m by omega]
  have e : pns P = qSn Q := by unfold pns qSn nN; rw [hp.1.2.2.2.2.2]
  by_cases h1 : X 0 ≤ X (2073 + 4 * lv + m)
  · rw [if_pos h1]
    exact ⟨fun _ => Or.inl (Int32.not_lt.mpr h1), fun _ => rfl⟩
  · rw [if_neg h1, e]
    have h1' : X (2073 + 4 * lv + m) < X 0 := Int32.not_le.mp h1
    have hpo : ∀ j, j < qSn Q → (pOff P (nI (lv + 1)) (nI m) (X 0) j = true ↔ (Q (35 + 4 * j) = nI lv ∧ ¬ nI m < Q (35 + 4 * j + 1) ∧ ¬ X 0 < Q (35 + 4 * j + 2) ∧ ¬ Q (35 + 4 * j + 3) < X 0)) := fun j hj => by
      obtain ⟨a1, a2, a3, a4⟩ := hp.2.2.2.2.1 j hj
      unfold pOff
      rw [decide_eq_true_iff, a1, a2, a3, a4, nI_succ, Int32.not_lt, Int32.not_lt, Int32.not_lt]
      constructor
      · rintro ⟨b1, b2⟩
        exact ⟨by have e3 := congrArg (fun x : Int32 => x - 1) b1; simpa using e3, b2⟩
      · rintro ⟨b1, b2⟩
        exact ⟨by rw [b1], b2⟩
    unfold srch
    by_cases h2 : fa_first (pOff P (nI (lv + 1)) (nI m) (X 0)) (qSn Q) < qSn Q
    · rw [if_pos h2, if_neg (show ¬ (1 : Int32) = 0 by decide)]
      exact ⟨fun _ => Or.inr ⟨_, h2, (hpo _ h2).mp (fa_first_yes _ _ h2)⟩, fun _ => rfl⟩
    · rw [if_neg h2, if_pos rfl]
      refine ⟨fun q => absurd q (by decide), fun q => ?_⟩
      rcases q with q | ⟨j, hj, q⟩
      · exact absurd h1' q
      · exfalso
        have : ∀ n, j < n → fa_first (pOff P (nI (lv + 1)) (nI m) (X 0)) n < n := by
          intro n
          induction n with
          | zero => intro w; omega
          | succ n ih =>
            intro w
            unfold fa_first
            by_cases e2 : j < n
            · rw [if_pos (ih e2)]; have := ih e2; omega
            · split
              · omega
              · rw [if_pos (by rw [show n = j by omega]; exact (hpo j hj).mpr q)]; omega
        exact h2 (this _ hj)
end SAME
