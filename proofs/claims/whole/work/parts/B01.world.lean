/-! THE TWO OBJECTS TOGETHER: what holds between calls -/
/-- small numbers of a state after k calls -/
def bK (k nf : Nat) (X : JV) : Prop := (∃ t, X 0 = nI t ∧ t ≤ 9999) ∧ nB 1000 (X 4) ∧ (∀ f, f < nf → nB (2000 + 1000 * k) (X (5 + f)) ∧ nB (2000 + 1000 * k) (X (13 + f))) ∧ (∀ b, b < mC X → nB 11000 (X (273 + b))) ∧ pp X
/-- a state of the component and one of the model say the same -/
def SR (k nf : Nat) (Q : JV) (K : JI) (r : Int64) (X : JV) : Prop := RV nf K r X ∧ mW Q X 100 ∧ bK k nf X
theorem nB.up {n m : Nat} {v : Int32} (h : nB n v) (hm : n ≤ m) : nB m v := ⟨h.1, Nat.lt_of_lt_of_le h.2 hm⟩
theorem bK.up {k k' nf : Nat} {X : JV} (h : bK k nf X) (hk : k ≤ k') : bK k' nf X := ⟨h.1, h.2.1, fun f hf => ⟨((h.2.2.1 f hf).1).up (by omega), ((h.2.2.1 f hf).2).up (by omega)⟩, h.2.2.2⟩
theorem bK.n {k nf : Nat} {X : JV} (h : bK k nf X) (hk : k ≤ 600) : mN nf X := by
  obtain ⟨⟨t, h0, ht⟩, h4, h5, h6, h7⟩ := h
  exact ⟨by rw [h0]; exact nB_nI (by omega) (by omega), h4, fun f hf => ⟨((h5 f hf).1).up (by omega), ((h5 f hf).2).up (by omega)⟩, fun b hb => (h6 b hb).up (by omega)⟩
theorem bK.ag {k nf : Nat} {X Y : JV} (h : bK k nf X) (e : ag X Y) (hn : nf ≤ 8) (hc : mC X ≤ 100) : bK k nf Y := by
  obtain ⟨⟨t, h0, ht⟩, h4, h5, h6, h7⟩ := h
  refine ⟨⟨t, (e 0 (by omega)).trans h0, ht⟩, by rw [e 4 (by omega)]; exact h4, fun f hf => ?_, fun b hb => ?_, h7.ag e⟩
  · rw [e (5 + f) (by omega), e (13 + f) (by omega)]
    exact h5 f hf
  · rw [e.c] at hb
    rw [e (273 + b) (by omega)]
    exact h6 b hb
theorem SR.up {k k' nf : Nat} {Q X : JV} {K : JI} {r : Int64} (h : SR k nf Q K r X) (hk : k ≤ k') : SR k' nf Q K r X := ⟨h.1, h.2.1, h.2.2.up hk⟩
theorem SR.ag {k nf : Nat} {Q X Y : JV} {K : JI} {r : Int64} (h : SR k nf Q K r X) (e : ag X Y) (hn : nf ≤ 8) : SR k nf Q K r Y := ⟨e.rv h.2.1.1.1 h.1, e.w h.2.1, h.2.2.ag e hn h.2.1.c⟩
/-- blocks that agree where it matters -/
def kag (K K' : JI) : Prop := (∀ j, j = 0 ∨ j = 2 ∨ j = 3 ∨ j = 14 → K' 0 j = K 0 j) ∧ K' 1 0 = K 1 0 ∧ (∀ c j, 2 ≤ c → c ≤ 7 → j < 100 → K' c j = K c j) ∧ (∀ j, j < 14 → K' 8 j = K 8 j) ∧ (∀ c j, 9 ≤ c → c ≤ 10 → j < 8 → K' c j = K c j) ∧ (∀ c j, 11 ≤ c → c ≤ 12 → j < 4 → K' c j = K c j) ∧ (∀ j, j < 80 → K' 13 j = K 13 j) ∧ (∀ j, j < 40 → K' 14 j = K 14 j) ∧ (∀ c j, 15 ≤ c → c ≤ 17 → j < 12 → K' c j = K c j) ∧ ∀ j, j < 300 → K' 18 j = K 18 j
theorem kag.m {K K' : JI} (h : kag K K') {k j i : Nat} (hm : mt k j i) : K' k j = K k j := by
  obtain ⟨h0, h1, h2, h8, h9, h11, h13, h14, h15, h18⟩ := h
  unfold mt at hm
  rcases hm with ⟨rfl, hm⟩ | ⟨rfl, rfl, rfl⟩ | ⟨rfl, hj, rfl⟩ | ⟨rfl, hj, rfl⟩ | ⟨rfl, hj, rfl⟩ | ⟨rfl, hj, rfl⟩ | ⟨rfl, hj, rfl⟩ | ⟨rfl, hj, rfl⟩ | ⟨rfl, hj, rfl⟩ | ⟨rfl, hj, rfl⟩ | ⟨rfl, hj, rfl⟩ | ⟨rfl, hj, rfl⟩ | ⟨rfl, hj, rfl⟩ | ⟨rfl, hj, rfl⟩ | ⟨rfl, hj, rfl⟩
  · exact h0 j (by omega)
  · exact h1
  · exact h2 2 j (by omega) (by omega) hj
  · exact h2 3 j (by omega) (by omega) hj
  · exact h2 4 j (by omega) (by omega) hj
  · exact h2 5 j (by omega) (by omega) hj
  · exact h2 6 j (by omega) (by omega) hj
  · exact h9 9 j (by omega) (by omega) hj
  · exact h9 10 j (by omega) (by omega) hj
  · exact h11 11 j (by omega) (by omega) hj
  · exact h11 12 j (by omega) (by omega) hj
  · exact h13 j hj
  · exact h14 j hj
  · exact h15 15 j (by omega) (by omega) hj
  · exact h15 17 j (by omega) (by omega) hj
theorem kag.rv {K K' : JI} (h : kag K K') {nf : Nat} {r : Int64} {X : JV} (hX : mI X) (hR : RV nf K r X) : RV nf K' r X := by
  obtain ⟨q1, q2, q3, q4, q5, q6⟩ := hR
  refine ⟨fun k j i hm hv => (h.m hm).trans (q1 k j i hm hv), q2, fun b hb hs => (h.2.2.1 7 b (by omega) (by omega) (by have := hX.c.2; omega)).trans (q3 b hb hs), fun k hk => ?_, fun q hq => (h.2.2.2.1 q hq).trans (q5 q hq), fun e he => ?_⟩
  · rcases q4 k hk with g | g
    · exact Or.inl g
    · exact Or.inr ((h.2.2.2.2.2.2.2.2.1 16 k (by omega) (by omega) hk).trans g)
  · obtain ⟨g1, g2⟩ := q6 e he
    refine ⟨(h.2.2.2.2.2.2.2.2.2 e ?_).trans g1, g2⟩
    have : mE X < 301 := ((hX 3).2.1 rfl).2
    omega
theorem cpK_ap (K : JI) (c : Nat) (f : Nat → Int32) (n b j : Nat) : cpK K c f n b j = if b = c ∧ j < n then f j else K b j := by
  unfold cpK va_cpy
  by_cases hb : b = c
  · subst hb
    rw [if_pos rfl]
    by_cases hj : j < n
    · rw [if_pos ⟨Nat.zero_le _, by omega⟩, if_pos ⟨rfl, hj⟩, Nat.sub_zero, Nat.zero_add]
    · rw [if_neg (by omega), if_neg (by omega)]
  · rw [if_neg hb, if_neg (fun h => hb h.1)]
theorem kCp_kag (K0 K : JI) : kag K (kCp K0 K) := by
  refine ⟨fun j hj => ?_, ?_, fun c j h1 h2 hj => ?_, fun j hj => ?_, fun c j h1 h2 hj => ?_, fun c j h1 h2 hj => ?_, fun j hj => ?_, fun j hj => ?_, fun c j h1 h2 hj => ?_, fun j hj => ?_⟩
  · rcases hj with rfl | rfl | rfl | rfl <;> simp [kCp, kTk, cpK_ap, u2]
  · simp [kCp, kTk, cpK_ap, u2]
  · have : c = 2 ∨ c = 3 ∨ c = 4 ∨ c = 5 ∨ c = 6 ∨ c = 7 := by omega
    rcases this with rfl | rfl | rfl | rfl | rfl | rfl <;> simp [kCp, kTk, cpK_ap, u2, hj]
  · simp [kCp, kTk, cpK_ap, u2, hj]
  · have : c = 9 ∨ c = 10 := by omega
    rcases this with rfl | rfl <;> simp [kCp, kTk, cpK_ap, u2, hj]
  · have : c = 11 ∨ c = 12 := by omega
    rcases this with rfl | rfl <;> simp [kCp, kTk, cpK_ap, u2, hj]
  · simp [kCp, kTk, cpK_ap, u2, hj]
  · simp [kCp, kTk, cpK_ap, u2, hj]
  · have : c = 15 ∨ c = 16 ∨ c = 17 := by omega
    rcases this with rfl | rfl | rfl <;> simp [kCp, kTk, cpK_ap, u2, hj]
  · simp [kCp, kTk, cpK_ap, u2, hj]
theorem eqv.kag {K K' : JI} (h : eqv K K') : kag K K' := ⟨fun j _ => by rw [h 0 (by omega)], by rw [h 1 (by omega)], fun c j _ _ _ => by rw [h c (by omega)], fun j _ => by rw [h 8 (by omega)], fun c j _ _ _ => by rw [h c (by omega)], fun c j _ _ _ => by rw [h c (by omega)], fun j _ => by rw [h 13 (by omega)], fun j _ => by rw [h 14 (by omega)], fun c j _ _ _ => by rw [h c (by omega)], fun j _ => by rw [h 18 (by omega)]⟩
theorem SR.kag {k nf : Nat} {Q X : JV} {K K' : JI} {r : Int64} (h : SR k nf Q K r X) (e : kag K K') : SR k nf Q K' r X := ⟨e.rv h.2.1.1.1 h.1, h.2⟩
theorem SR.lw {k nf : Nat} {Q X : JV} {K : JI} {r : Int64} (h : SR k nf Q K r X) : lW K := fun l hl => by
  have h1 := (h.1.bl hl).2
  have h2 := h.2.1.1.1.he hl
  exact ⟨mHe X l, by have := h2.2; omega, h1.trans h2.1⟩
theorem SR.cnt {k nf : Nat} {Q X : JV} {K : JI} {r : Int64} (h : SR k nf Q K r X) : K 1 0 = nI (mC X) := h.1.cnt.trans h.2.1.1.1.c.1
/-- which of the six states of the ring is the i-th of u -/
def hx (nx u i : Nat) : Nat := (nx + 6 - u + i) % 6
/-- the trees of the keep lines lie in the bank that isn't written next -/
def hNl (A : JI) (H : Nat → JV → Nat → Bool) (Q : JV) : Prop := ∃ bq, bq ≤ 1 ∧ A 0 25 = nI bq ∧ ∀ X b t, t < qKn Q → ∃ lo n, Q (31 + t) = nI n ∧ nIx (1 - bq) 0 ≤ lo ∧ n < nIx (1 - bq) 700 ∧ vN A X b 11 lo n (H t X b)
/-- the plans -/
def AirP (nf : Nat) (H : Nat → JV → Nat → Bool) (P A : JI) : Prop := RP nf P (A 2) ∧ mQ (A 2) ∧ mQt (A 2) ∧ wP P ∧ RH nf P H (A 2) ∧ hN A H (A 2) ∧ P 11 0 = A 2 14 ∧ A 2 12 = nI nf ∧ (∀ f, f < nf → nB (nN (A 2 0)) (A 2 (15 + f))) ∧ hNl A H (A 2)
/-- a slot -/
def SlR (k nf : Nat) (I : JI) (L : JL) (mo s : Nat) (f g : Int32) (i : Nat) : Prop := (f = 0 ∧ g = 0) ∨ (f = 1 ∧ g = 1 ∧ SR k nf (I (mo + 2)) (sK I s) (L s 1) (fun j => I (mo + 8) (2086 * i + j)))
/-- an airport is loaded -/
def WA (k : Nat) (I : JI) (L : JL) (xo mo p a u nx : Nat) : Prop := (I xo 1 = 1 ∧ I mo 19 = 1) ∧ ∃ nf H, AirP nf H (sK I p) (sK I mo) ∧ SR k nf (I (mo + 2)) (sK I a) (L a 1) (I (mo + 4)) ∧ (∀ i, i < u → SR k nf (I (mo + 2)) (sK I (xo + 73 + 2 + 19 * hx nx u i)) (L (xo + 73 + 2 + 19 * hx nx u i) 1) (fun j => I (mo + 7) (2086 * i + j))) ∧ SlR k nf I L mo (xo + 189) (I xo 9) (I (mo + 9) 0) 0 ∧ SlR k nf I L mo (xo + 208) (I xo 10) (I (mo + 9) 1) 1
/-- no airport is loaded -/
def WN (I : JI) (xo mo p a u : Nat) : Prop := (I xo 1 = 0 ∧ I mo 19 = 0 ∧ u = 0) ∧ (I xo 9 = 0 ∧ I xo 10 = 0 ∧ I (mo + 9) 0 = 0 ∧ I (mo + 9) 1 = 0) ∧ (∀ c, c < 19 → I (a + c) = fun _ => 0) ∧ (∀ c, c < 15 → I (p + c) = fun _ => 0) ∧ I (mo + 2) = (fun _ => 0) ∧ I (mo + 4) = fun _ => 0
/-- a text -/
def TxR (I : JI) (t m : Nat) (sz : Int32) (n : Nat) : Prop := ∃ l : List Nat, l.length ≤ n ∧ I t 0 = nI l.length ∧ sz = nI l.length ∧ ∀ j, j < l.length → I (t + 1) j = nI (l.getD j 0) ∧ l.getD j 0 < 128 ∧ I m j = nI (l.getD j 0)
/-- all that isn't the airport -/
def WB (I : JI) (xo mo p p2 u nx : Nat) : Prop := (∃ b q, q ≤ 1200 ∧ I (xo + 1) 2 = nI q ∧ I mo 2 = nI q ∧ pB_ (sK I (xo + 1)) b q ∧ mB_ (sK I mo) b q) ∧ (I (xo + 1) 0 = I mo 5 ∧ I (xo + 1) 1 = I mo 6) ∧ (∃ bq, bq ≤ 1 ∧ I mo 25 = nI bq) ∧ (cP6 (sK I p) ∧ cP6 (sK I p2)) ∧ (TxR I (xo + 227) (mo + 15) (I mo 32) 200 ∧ TxR I (xo + 229) (mo + 17) (I mo 36) 40 ∧ TxR I (xo + 231) (mo + 16) (I mo 33) 400) ∧ (u ≤ 6 ∧ nx < 6 ∧ I (xo + 73) 0 = nI u ∧ I (xo + 73) 1 = nI nx ∧ I mo 18 = nI u)
/-- where things lie -/
def WL (Γ : Gam) (xo mo : Nat) (T : JT) (R S : JR) (p p2 a a2 : Nat) : Prop := hXo T R S xo p p2 a a2 ∧ hMo T S mo ∧ hVs Γ R mo ∧ xo + 233 ≤ mo
def Wd (Γ : Gam) (k xo mo : Nat) (T : JT) (R S : JR) (I : JI) (L : JL) : Prop := ∃ p p2 a a2 u nx, WL Γ xo mo T R S p p2 a a2 ∧ WB I xo mo p p2 u nx ∧ (WN I xo mo p a u ∨ WA k I L xo mo p a u nx)
