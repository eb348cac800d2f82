/-! WHILE A TEXT IS READ: what plan and state of the component say, and the pure state -/
def dfl (j : Nat) : Int32 := if 109 ≤ j ∧ j < 121 ∨ 133 ≤ j ∧ j < 173 then -1 else 0
def yN (N : JV) (kf kl kc kk sz : Nat) : Prop := (N 12 = nI kf ∧ kf ≤ 8 ∧ N 13 = nI kl ∧ kl ≤ 4 ∧ N 34 = nI kc ∧ kc ≤ 4 ∧ N 14 = nI kk ∧ kk ≤ 3) ∧ (N 0 = nI sz ∧ 4 ≤ sz ∧ sz ≤ 40 ∧ nB sz (N 1) ∧ nB sz (N 2)) ∧ (∀ q, q < 3 → nB 5 (N (3 + q)) ∧ (∃ t, N (6 + q) = nI t ∧ 1 ≤ t ∧ t ≤ 99) ∧ nB 1001 (N (9 + q))) ∧ (∀ f, f < 8 → nB 40 (N (15 + f))) ∧ (∀ l, l < 4 → nB 40 (N (23 + l)) ∧ nB 21 (N (27 + l))) ∧ (∀ f, f < kf → nB sz (N (15 + f))) ∧ (∀ l, l < kl → nB sz (N (23 + l)))
def yX (X : JV) (kf c : Nat) : Prop := (X 2 = nI c ∧ c ≤ 100 ∧ nB 1000 (X 4) ∧ nB 100000 (X 1)) ∧ (∀ f, f < kf → nB 2000 (X (5 + f)) ∧ nB 2000 (X (13 + f))) ∧ (∀ j, j < 2086 → j = 0 ∨ j = 3 ∨ 21 ≤ j ∧ j < 173 ∨ 873 ≤ j → X j = dfl j) ∧ (∀ b, b < c → nB kf (X (173 + b)) ∧ nB 1000 (X (273 + b)) ∧ X (373 + b) = (if (0 : Int32) < X (273 + b) then 0 else 1) ∧ X (473 + b) = -1 ∧ X (573 + b) = 0 ∧ X (673 + b) = 0 ∧ X (773 + b) = -1) ∧ (∀ b, c ≤ b → b < 100 → X (173 + b) = 0 ∧ X (473 + b) = 0 ∧ X (773 + b) = 0)
def pPl (N : JV) (P : JI) (kf kl kc : Nat) : Prop := (P 0 0 = N 0 ∧ P 0 1 = N 1 ∧ P 0 2 = N 2) ∧ (∀ q, q < 3 → P 1 q = N (3 + q) ∧ P 2 q = N (6 + q) ∧ P 3 q = N (9 + q)) ∧ (P 0 6 = nI kf ∧ P 0 8 = nI kl ∧ P 0 11 = nI kc) ∧ (∀ f, f < kf → P 4 f = N (15 + f)) ∧ (∀ l, l < kl → P 5 l = N (23 + l) ∧ P 6 l = N (27 + l)) ∧ (∀ k, k < kc → P 7 k = N (35 + 4 * k) + 1 ∧ P 8 k = N (35 + 4 * k + 1) ∧ P 9 k = N (35 + 4 * k + 2) ∧ P 10 k = N (35 + 4 * k + 3))
def pTe (P : JI) (H : Nat → Tst) (kk m : Nat) : Prop := P 11 0 = nI kk ∧ P 11 1 = nI m ∧ (kk = 0 → m = 0) ∧ (∀ i, kk = i + 1 → P 12 i = nI m) ∧ ∀ i, i < kk → ∃ fr to, (i = 0 → fr = 0) ∧ (∀ i', i = i' + 1 → P 12 i' = nI fr) ∧ P 12 i = nI to ∧ to ≤ m ∧ cdR P fr to 11 (H i)
def pSt0 (X : JV) (K : JI) (dr : Int64) (kf c : Nat) : Prop := (K 0 0 = 0 ∧ K 0 2 = X 4 ∧ K 0 3 = 0 ∧ K 0 14 = 0 ∧ K 1 0 = nI c ∧ dr = (X 1).toInt64) ∧ (∀ b, b < c → K 2 b = 0 ∧ K 3 b = X (173 + b) ∧ K 4 b = X (273 + b) ∧ K 5 b = 0 ∧ K 6 b = 0) ∧ K 8 0 = nI c ∧ (∀ j, 1 ≤ j → j < 14 → K 8 j = 0) ∧ (∀ f, f < kf → K 9 f = X (5 + f) ∧ K 10 f = X (13 + f)) ∧ (∀ j, j < 4 → K 11 j = 0 ∧ K 12 j = 0) ∧ (∀ j, j < 40 → K 14 j = -1) ∧ (∀ j, j < 12 → K 15 j = -1 ∧ K 17 j = 0)
def pTk (N : JV) (kf kl sz : Nat) (tk : Int64) : Prop := ∀ v, v < sz → (tkn N kf kl (nI v) = true ↔ tkB tk v)
def cRl (b : Nat → Nat) (E : Nat) (s : PSt) (q : Nat) (F : JV) (P K : JI) (tk dr : Int64) : Prop := cSt b E q F ∧ cP6 P ∧ ∃ kf kl kc kk c sz m, yN s.1 kf kl kc kk sz ∧ yX s.2.1 kf c ∧ pPl s.1 P kf kl kc ∧ pTe P s.2.2 kk m ∧ 2 * m ≤ q ∧ pSt0 s.2.1 K dr kf c ∧ pTk s.1 kf kl sz tk
theorem anyU_c2 {f g : Nat → Bool} : ∀ n, (∀ i, i < n → f i = g i) → anyU f n = anyU g n
  | 0, _ => rfl
  | n + 1, h => by
    show (anyU f n || f n) = (anyU g n || g n)
    rw [anyU_c2 n (fun i hi => h i (by omega)), h n (by omega)]
theorem anyU_s {f : Nat → Bool} {n : Nat} : anyU f (n + 1) = (anyU f n || f n) := rfl
theorem nI_dec_eq {a c : Nat} (ha : a < 2 ^ 31) (hc : c < 2 ^ 31) : decide (nI a = nI c) = decide (a = c) := by
  by_cases h : a = c
  · rw [h, decide_eq_true rfl, decide_eq_true rfl]
  · rw [decide_eq_false h, decide_eq_false (fun w => h (nI_inj' ha hc w))]
section A8
variable {N X : JV} {P K : JI} {H : Nat → Tst} {kf kl kc kk c sz m : Nat} {tk dr : Int64}
/-! a flight more -/
theorem yN.fl (h : yN N kf kl kc kk sz) (hf : kf < 8) {v : Nat} (hv : v < sz) : yN (w1 (w1 N (15 + kf) (nI v)) 12 (nI (kf + 1))) (kf + 1) kl kc kk sz := by
  obtain ⟨⟨a1, a2, a3, a4, a5, a6, a7, a8⟩, ⟨b1, b2, b3, b4, b5⟩, c1, c2, c3, c4, c5⟩ := h
  have e : ∀ j, j ≠ 12 → j ≠ 15 + kf → w1 (w1 N (15 + kf) (nI v)) 12 (nI (kf + 1)) j = N j := fun j h1 h2 => by rw [w1_ne h1, w1_ne h2]
  have e2 : w1 (w1 N (15 + kf) (nI v)) 12 (nI (kf + 1)) (15 + kf) = nI v := by rw [w1_ne (by omega), w1_eq]
  refine ⟨⟨w1_eq, by omega, ?_, a4, ?_, a6, ?_, a8⟩, ⟨?_, b2, b3, ?_, ?_⟩, fun q hq => ?_, fun f hf9 => ?_, fun l hl => ?_, fun f hf9 => ?_, fun l hl => ?_⟩
  · rw [e 13 (by omega) (by omega)]; exact a3
  · rw [e 34 (by omega) (by omega)]; exact a5
  · rw [e 14 (by omega) (by omega)]; exact a7
  · rw [e 0 (by omega) (by omega)]; exact b1
  · rw [e 1 (by omega) (by omega)]; exact b4
  · rw [e 2 (by omega) (by omega)]; exact b5
  · rw [e (3 + q) (by omega) (by omega), e (6 + q) (by omega) (by omega), e (9 + q) (by omega) (by omega)]; exact c1 q hq
  · by_cases h9 : f = kf
    · rw [h9, e2]; exact nB_nI (by omega) (by omega)
    · rw [e (15 + f) (by omega) (by omega)]; exact c2 f hf9
  · rw [e (23 + l) (by omega) (by omega), e (27 + l) (by omega) (by omega)]; exact c3 l hl
  · by_cases h9 : f = kf
    · rw [h9, e2]; exact nB_nI hv (by omega)
    · rw [e (15 + f) (by omega) (by omega)]; exact c4 f (by omega)
  · rw [e (23 + l) (by omega) (by omega)]; exact c5 l hl
theorem pPl.fl (h : pPl N P kf kl kc) (hf : kf < 8) {v : Nat} : pPl (w1 (w1 N (15 + kf) (nI v)) 12 (nI (kf + 1))) (u2 (u2 P 4 kf (nI v)) 0 6 (nI (kf + 1))) (kf + 1) kl kc := by
  obtain ⟨⟨a1, a2, a3⟩, b1, ⟨c1, c2, c3⟩, d1, d2, d3⟩ := h
  have e : ∀ j, j ≠ 12 → j ≠ 15 + kf → w1 (w1 N (15 + kf) (nI v)) 12 (nI (kf + 1)) j = N j := fun j h1 h2 => by rw [w1_ne h1, w1_ne h2]
  have e2 : w1 (w1 N (15 + kf) (nI v)) 12 (nI (kf + 1)) (15 + kf) = nI v := by rw [w1_ne (by omega), w1_eq]
  refine ⟨⟨?_, ?_, ?_⟩, fun q hq => ?_, ⟨by simp [u2], by simpa [u2] using c2, by simpa [u2] using c3⟩, fun f hf9 => ?_, fun l hl => ?_, fun k hk => ?_⟩
  · rw [e 0 (by omega) (by omega), ← a1]; simp [u2]
  · rw [e 1 (by omega) (by omega), ← a2]; simp [u2]
  · rw [e 2 (by omega) (by omega), ← a3]; simp [u2]
  · rw [e (3 + q) (by omega) (by omega), e (6 + q) (by omega) (by omega), e (9 + q) (by omega) (by omega)]; simpa [u2] using b1 q hq
  · by_cases h9 : f = kf
    · rw [h9, e2]; simp [u2]
    · rw [e (15 + f) (by omega) (by omega)]; simpa [u2, h9] using d1 f (by omega)
  · rw [e (23 + l) (by omega) (by omega), e (27 + l) (by omega) (by omega)]; simpa [u2] using d2 l hl
  · rw [e (35 + 4 * k) (by omega) (by omega), e (35 + 4 * k + 1) (by omega) (by omega), e (35 + 4 * k + 2) (by omega) (by omega), e (35 + 4 * k + 3) (by omega) (by omega)]; simpa [u2] using d3 k hk
theorem pTe.cg {P' : JI} (h : pTe P H kk m) (h11 : ∀ j, P' 11 j = P 11 j) (h12 : ∀ j, P' 12 j = P 12 j) (h13 : ∀ j, P' 13 j = P 13 j) (h14 : ∀ j, P' 14 j = P 14 j) : pTe P' H kk m := by
  obtain ⟨a1, a2, a3, a4, a5⟩ := h
  refine ⟨by rw [h11]; exact a1, by rw [h11]; exact a2, a3, fun i hi => by rw [h12]; exact a4 i hi, fun i hi => ?_⟩
  obtain ⟨fr, to, b1, b2, b3, b4, b5⟩ := a5 i hi
  exact ⟨fr, to, b1, fun i' h' => by rw [h12]; exact b2 i' h', by rw [h12]; exact b3, b4, b5.cg (fun j _ _ => ⟨(h13 j).symm, (h14 j).symm⟩)⟩
theorem yX.fl (h : yX X kf c) (hf : kf < 8) {v u : Nat} (hv : v < 1000) (hu : u < 2000) : yX (w1 (w1 X (5 + kf) (nI v)) (13 + kf) (nI u)) (kf + 1) c := by
  obtain ⟨⟨a1, a2, a3, a4⟩, b1, c1, d1, e1⟩ := h
  have e : ∀ j, j ≠ 5 + kf → j ≠ 13 + kf → w1 (w1 X (5 + kf) (nI v)) (13 + kf) (nI u) j = X j := fun j h1 h2 => by rw [w1_ne h2, w1_ne h1]
  refine ⟨⟨by rw [e 2 (by omega) (by omega)]; exact a1, a2, by rw [e 4 (by omega) (by omega)]; exact a3, by rw [e 1 (by omega) (by omega)]; exact a4⟩, fun f hf9 => ?_, fun j hj h => ?_, fun b hb => ?_, fun b hb hb2 => ?_⟩
  · by_cases h9 : f = kf
    · rw [h9, w1_eq, w1_ne (by omega), w1_eq]
      exact ⟨nB_nI (by omega) (by omega), nB_nI hu (by omega)⟩
    · rw [e (5 + f) (by omega) (by omega), e (13 + f) (by omega) (by omega)]; exact b1 f (by omega)
  · rw [e j (by omega) (by omega)]; exact c1 j hj h
  · rw [e (173 + b) (by omega) (by omega), e (273 + b) (by omega) (by omega), e (373 + b) (by omega) (by omega), e (473 + b) (by omega) (by omega), e (573 + b) (by omega) (by omega), e (673 + b) (by omega) (by omega), e (773 + b) (by omega) (by omega)]
    obtain ⟨g1, g2⟩ := d1 b hb
    exact ⟨⟨g1.1, by have := g1.2; omega⟩, g2⟩
  · rw [e (173 + b) (by omega) (by omega), e (473 + b) (by omega) (by omega), e (773 + b) (by omega) (by omega)]; exact e1 b hb hb2
theorem pSt0.fl (h : pSt0 X K dr kf c) (hf : kf < 8) (hc : c ≤ 100) {v u : Int32} : pSt0 (w1 (w1 X (5 + kf) v) (13 + kf) u) (u2 (u2 K 9 kf v) 10 kf u) dr (kf + 1) c := by
  obtain ⟨⟨a1, a2, a3, a4, a5, a6⟩, b1, c1, c2, d1, d2, d3, d4⟩ := h
  have e : ∀ j, j ≠ 5 + kf → j ≠ 13 + kf → w1 (w1 X (5 + kf) v) (13 + kf) u j = X j := fun j h1 h2 => by rw [w1_ne h2, w1_ne h1]
  refine ⟨⟨by simpa [u2] using a1, by rw [e 4 (by omega) (by omega)]; simpa [u2] using a2, by simpa [u2] using a3, by simpa [u2] using a4, by simpa [u2] using a5, by rw [e 1 (by omega) (by omega)]; exact a6⟩, fun b hb => ?_, by simpa [u2] using c1, fun j h1 h2 => by simpa [u2] using c2 j h1 h2, fun f hf9 => ?_, fun j hj => by simpa [u2] using d2 j hj, fun j hj => by simpa [u2] using d3 j hj, fun j hj => by simpa [u2] using d4 j hj⟩
  · rw [e (173 + b) (by omega) (by omega), e (273 + b) (by omega) (by omega)]; simpa [u2] using b1 b hb
  · by_cases h9 : f = kf
    · rw [h9, w1_eq, w1_ne (by omega), w1_eq]
      simp [u2]
    · rw [e (5 + f) (by omega) (by omega), e (13 + f) (by omega) (by omega)]; simpa [u2, h9] using d1 f (by omega)
theorem pTk.fl (h : pTk N kf kl sz tk) (hf : kf < 8) (hl : kl ≤ 4) (hz : sz ≤ 40) {v : Nat} (hv : v < sz) : pTk (w1 (w1 N (15 + kf) (nI v)) 12 (nI (kf + 1))) (kf + 1) kl sz (tkP tk v) := by
  have e : ∀ j, j ≠ 12 → j ≠ 15 + kf → w1 (w1 N (15 + kf) (nI v)) 12 (nI (kf + 1)) j = N j := fun j h1 h2 => by rw [w1_ne h1, w1_ne h2]
  have e2 : w1 (w1 N (15 + kf) (nI v)) 12 (nI (kf + 1)) (15 + kf) = nI v := by rw [w1_ne (by omega), w1_eq]
  intro w hw
  rw [tkB_P (by omega) (by omega), ← h w hw]
  have e3 : tkn (w1 (w1 N (15 + kf) (nI v)) 12 (nI (kf + 1))) (kf + 1) kl (nI w) = (tkn N kf kl (nI w) || decide (w = v)) := by
    unfold tkn
    rw [e 1 (by omega) (by omega), e 2 (by omega) (by omega), anyU_c2 kl (g := fun i => decide (N (23 + i) = nI w)) (fun i hi => by rw [e (23 + i) (by omega) (by omega)])]
    rw [anyU_s, anyU_c2 kf (g := fun i => decide (N (15 + i) = nI w)) (fun i hi => by rw [e (15 + i) (by omega) (by omega)]), e2, nI_dec_eq (by omega) (by omega), show decide (v = w) = decide (w = v) by simp [eq_comm]]
    cases decide (nI w = N 1) <;> cases decide (nI w = N 2) <;> cases anyU (fun i => decide (N (15 + i) = nI w)) kf <;> cases anyU (fun i => decide (N (23 + i) = nI w)) kl <;> cases decide (w = v) <;> rfl
  rw [e3, Bool.or_eq_true, decide_eq_true_iff]
/-! a lane more -/
theorem yN.la (h : yN N kf kl kc kk sz) (hl : kl < 4) {v u : Nat} (hv : v < sz) (hu : u < 21) : yN (w1 (w1 (w1 N (23 + kl) (nI v)) (27 + kl) (nI u)) 13 (nI (kl + 1))) kf (kl + 1) kc kk sz := by
  obtain ⟨⟨a1, a2, a3, a4, a5, a6, a7, a8⟩, ⟨b1, b2, b3, b4, b5⟩, c1, c2, c3, c4, c5⟩ := h
  have e : ∀ j, j ≠ 13 → j ≠ 23 + kl → j ≠ 27 + kl → w1 (w1 (w1 N (23 + kl) (nI v)) (27 + kl) (nI u)) 13 (nI (kl + 1)) j = N j := fun j h1 h2 h3 => by rw [w1_ne h1, w1_ne h3, w1_ne h2]
  have e2 : w1 (w1 (w1 N (23 + kl) (nI v)) (27 + kl) (nI u)) 13 (nI (kl + 1)) (23 + kl) = nI v := by rw [w1_ne (by omega), w1_ne (by omega), w1_eq]
  have e3 : w1 (w1 (w1 N (23 + kl) (nI v)) (27 + kl) (nI u)) 13 (nI (kl + 1)) (27 + kl) = nI u := by rw [w1_ne (by omega), w1_eq]
  refine ⟨⟨?_, a2, w1_eq, by omega, ?_, a6, ?_, a8⟩, ⟨?_, b2, b3, ?_, ?_⟩, fun q hq => ?_, fun f hf9 => ?_, fun l hl9 => ?_, fun f hf9 => ?_, fun l hl9 => ?_⟩
  · rw [e 12 (by omega) (by omega) (by omega)]; exact a1
  · rw [e 34 (by omega) (by omega) (by omega)]; exact a5
  · rw [e 14 (by omega) (by omega) (by omega)]; exact a7
  · rw [e 0 (by omega) (by omega) (by omega)]; exact b1
  · rw [e 1 (by omega) (by omega) (by omega)]; exact b4
  · rw [e 2 (by omega) (by omega) (by omega)]; exact b5
  · rw [e (3 + q) (by omega) (by omega) (by omega), e (6 + q) (by omega) (by omega) (by omega), e (9 + q) (by omega) (by omega) (by omega)]; exact c1 q hq
  · rw [e (15 + f) (by omega) (by omega) (by omega)]; exact c2 f hf9
  · by_cases h9 : l = kl
    · rw [h9, e2, e3]; exact ⟨nB_nI (by omega) (by omega), nB_nI hu (by omega)⟩
    · rw [e (23 + l) (by omega) (by omega) (by omega), e (27 + l) (by omega) (by omega) (by omega)]; exact c3 l hl9
  · rw [e (15 + f) (by omega) (by omega) (by omega)]; exact c4 f hf9
  · by_cases h9 : l = kl
    · rw [h9, e2]; exact nB_nI hv (by omega)
    · rw [e (23 + l) (by omega) (by omega) (by omega)]; exact c5 l (by omega)
theorem pPl.la (h : pPl N P kf kl kc) (hl : kl < 4) (hf : kf ≤ 8) {v u : Nat} : pPl (w1 (w1 (w1 N (23 + kl) (nI v)) (27 + kl) (nI u)) 13 (nI (kl + 1))) (u2 (u2 (u2 P 5 kl (nI v)) 6 kl (nI u)) 0 8 (nI (kl + 1))) kf (kl + 1) kc := by
  obtain ⟨⟨a1, a2, a3⟩, b1, ⟨c1, c2, c3⟩, d1, d2, d3⟩ := h
  have e : ∀ j, j ≠ 13 → j ≠ 23 + kl → j ≠ 27 + kl → w1 (w1 (w1 N (23 + kl) (nI v)) (27 + kl) (nI u)) 13 (nI (kl + 1)) j = N j := fun j h1 h2 h3 => by rw [w1_ne h1, w1_ne h3, w1_ne h2]
  have e2 : w1 (w1 (w1 N (23 + kl) (nI v)) (27 + kl) (nI u)) 13 (nI (kl + 1)) (23 + kl) = nI v := by rw [w1_ne (by omega), w1_ne (by omega), w1_eq]
  have e3 : w1 (w1 (w1 N (23 + kl) (nI v)) (27 + kl) (nI u)) 13 (nI (kl + 1)) (27 + kl) = nI u := by rw [w1_ne (by omega), w1_eq]
  refine ⟨⟨?_, ?_, ?_⟩, fun q hq => ?_, ⟨by simpa [u2] using c1, by simp [u2], by simpa [u2] using c3⟩, fun f hf9 => ?_, fun l hl9 => ?_, fun k hk => ?_⟩
  · rw [e 0 (by omega) (by omega) (by omega), ← a1]; simp [u2]
  · rw [e 1 (by omega) (by omega) (by omega), ← a2]; simp [u2]
  · rw [e 2 (by omega) (by omega) (by omega), ← a3]; simp [u2]
  · rw [e (3 + q) (by omega) (by omega) (by omega), e (6 + q) (by omega) (by omega) (by omega), e (9 + q) (by omega) (by omega) (by omega)]; simpa [u2] using b1 q hq
  · rw [e (15 + f) (by omega) (by omega) (by omega)]; simpa [u2] using d1 f hf9
  · by_cases h9 : l = kl
    · rw [h9, e2, e3]; simp [u2]
    · rw [e (23 + l) (by omega) (by omega) (by omega), e (27 + l) (by omega) (by omega) (by omega)]; simpa [u2, h9] using d2 l (by omega)
  · rw [e (35 + 4 * k) (by omega) (by omega) (by omega), e (35 + 4 * k + 1) (by omega) (by omega) (by omega), e (35 + 4 * k + 2) (by omega) (by omega) (by omega), e (35 + 4 * k + 3) (by omega) (by omega) (by omega)]; simpa [u2] using d3 k hk
theorem pTk.la (h : pTk N kf kl sz tk) (hl : kl < 4) (hf : kf ≤ 8) (hz : sz ≤ 40) {v u : Nat} (hv : v < sz) : pTk (w1 (w1 (w1 N (23 + kl) (nI v)) (27 + kl) (nI u)) 13 (nI (kl + 1))) kf (kl + 1) sz (tkP tk v) := by
  have e : ∀ j, j ≠ 13 → j ≠ 23 + kl → j ≠ 27 + kl → w1 (w1 (w1 N (23 + kl) (nI v)) (27 + kl) (nI u)) 13 (nI (kl + 1)) j = N j := fun j h1 h2 h3 => by rw [w1_ne h1, w1_ne h3, w1_ne h2]
  have e2 : w1 (w1 (w1 N (23 + kl) (nI v)) (27 + kl) (nI u)) 13 (nI (kl + 1)) (23 + kl) = nI v := by rw [w1_ne (by omega), w1_ne (by omega), w1_eq]
  intro w hw
  rw [tkB_P (by omega) (by omega), ← h w hw]
  have e3 : tkn (w1 (w1 (w1 N (23 + kl) (nI v)) (27 + kl) (nI u)) 13 (nI (kl + 1))) kf (kl + 1) (nI w) = (tkn N kf kl (nI w) || decide (w = v)) := by
    unfold tkn
    rw [e 1 (by omega) (by omega) (by omega), e 2 (by omega) (by omega) (by omega), anyU_c2 kf (g := fun i => decide (N (15 + i) = nI w)) (fun i hi => by rw [e (15 + i) (by omega) (by omega) (by omega)])]
    rw [anyU_s, anyU_c2 kl (g := fun i => decide (N (23 + i) = nI w)) (fun i hi => by rw [e (23 + i) (by omega) (by omega) (by omega)]), e2, nI_dec_eq (by omega) (by omega), show decide (v = w) = decide (w = v) by simp [eq_comm]]
    cases decide (nI w = N 1) <;> cases decide (nI w = N 2) <;> cases anyU (fun i => decide (N (15 + i) = nI w)) kf <;> cases anyU (fun i => decide (N (23 + i) = nI w)) kl <;> cases decide (w = v) <;> rfl
  rw [e3, Bool.or_eq_true, decide_eq_true_iff]
/-! a shift more -/
theorem sh_e {v u w x : Int32} {k : Nat} : ∀ j, j < 34 ∨ 34 < j ∧ (j < 35 + 4 * k ∨ 35 + 4 * k + 3 < j) → w1 (w1 (w1 (w1 (w1 N (35 + 4 * k) v) (35 + 4 * k + 1) u) (35 + 4 * k + 2) w) (35 + 4 * k + 3) x) 34 (nI (k + 1)) j = N j := fun j h => by rw [w1_ne (by omega), w1_ne (by omega), w1_ne (by omega), w1_ne (by omega), w1_ne (by omega)]
theorem yN.sh (h : yN N kf kl kc kk sz) (hc : kc < 4) {v u w x : Int32} : yN (w1 (w1 (w1 (w1 (w1 N (35 + 4 * kc) v) (35 + 4 * kc + 1) u) (35 + 4 * kc + 2) w) (35 + 4 * kc + 3) x) 34 (nI (kc + 1))) kf kl (kc + 1) kk sz := by
  obtain ⟨⟨a1, a2, a3, a4, a5, a6, a7, a8⟩, ⟨b1, b2, b3, b4, b5⟩, c1, c2, c3, c4, c5⟩ := h
  refine ⟨⟨?_, a2, ?_, a4, w1_eq, by omega, ?_, a8⟩, ⟨?_, b2, b3, ?_, ?_⟩, fun q hq => ?_, fun f hf9 => ?_, fun l hl => ?_, fun f hf9 => ?_, fun l hl => ?_⟩
  · rw [sh_e 12 (by omega)]; exact a1
  · rw [sh_e 13 (by omega)]; exact a3
  · rw [sh_e 14 (by omega)]; exact a7
  · rw [sh_e 0 (by omega)]; exact b1
  · rw [sh_e 1 (by omega)]; exact b4
  · rw [sh_e 2 (by omega)]; exact b5
  · rw [sh_e (3 + q) (by omega), sh_e (6 + q) (by omega), sh_e (9 + q) (by omega)]; exact c1 q hq
  · rw [sh_e (15 + f) (by omega)]; exact c2 f hf9
  · rw [sh_e (23 + l) (by omega), sh_e (27 + l) (by omega)]; exact c3 l hl
  · rw [sh_e (15 + f) (by omega)]; exact c4 f hf9
  · rw [sh_e (23 + l) (by omega)]; exact c5 l hl
theorem pPl.sh (h : pPl N P kf kl kc) (hc : kc < 4) (hf : kf ≤ 8) (hl4 : kl ≤ 4) {v u w x : Int32} : pPl (w1 (w1 (w1 (w1 (w1 N (35 + 4 * kc) (v - 1)) (35 + 4 * kc + 1) u) (35 + 4 * kc + 2) w) (35 + 4 * kc + 3) x) 34 (nI (kc + 1))) (u2 (u2 (u2 (u2 (u2 P 7 kc v) 8 kc u) 9 kc w) 10 kc x) 0 11 (nI (kc + 1))) kf kl (kc + 1) := by
  obtain ⟨⟨a1, a2, a3⟩, b1, ⟨c1, c2, c3⟩, d1, d2, d3⟩ := h
  refine ⟨⟨?_, ?_, ?_⟩, fun q hq => ?_, ⟨by simpa [u2] using c1, by simpa [u2] using c2, by simp [u2]⟩, fun f hf9 => ?_, fun l hl9 => ?_, fun k hk => ?_⟩
  · rw [sh_e 0 (by omega), ← a1]; simp [u2]
  · rw [sh_e 1 (by omega), ← a2]; simp [u2]
  · rw [sh_e 2 (by omega), ← a3]; simp [u2]
  · rw [sh_e (3 + q) (by omega), sh_e (6 + q) (by omega), sh_e (9 + q) (by omega)]; simpa [u2] using b1 q hq
  · rw [sh_e (15 + f) (by omega)]; simpa [u2] using d1 f hf9
  · rw [sh_e (23 + l) (by omega), sh_e (27 + l) (by omega)]; simpa [u2] using d2 l hl9
  · by_cases h9 : k = kc
    · subst h9
      refine ⟨?_, ?_, ?_, ?_⟩
      · rw [w1_ne (by omega), w1_ne (by omega), w1_ne (by omega), w1_ne (by omega), w1_eq]
        simp [u2]
      · rw [w1_ne (by omega), w1_ne (by omega), w1_ne (by omega), w1_eq]
        simp [u2]
      · rw [w1_ne (by omega), w1_ne (by omega), w1_eq]
        simp [u2]
      · rw [w1_ne (by omega), w1_eq]
        simp [u2]
    · rw [sh_e (35 + 4 * k) (by omega), sh_e (35 + 4 * k + 1) (by omega), sh_e (35 + 4 * k + 2) (by omega), sh_e (35 + 4 * k + 3) (by omega)]; simpa [u2, h9] using d3 k (by omega)
theorem pTk.cg {N' : JV} (h : pTk N kf kl sz tk) (e : ∀ j, j < 12 ∨ 15 ≤ j ∧ j < 27 → N' j = N j) (hf : kf ≤ 8) (hl : kl ≤ 4) : pTk N' kf kl sz tk := by
  intro w hw
  rw [← h w hw]
  unfold tkn
  rw [e 1 (by omega), e 2 (by omega), anyU_c2 kf (g := fun i => decide (N (15 + i) = nI w)) (fun i hi => by rw [e (15 + i) (by omega)]), anyU_c2 kl (g := fun i => decide (N (23 + i) = nI w)) (fun i hi => by rw [e (23 + i) (by omega)])]
end A8
