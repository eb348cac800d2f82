/-! WHAT STAYS: changes that no later call sees -/
theorem hRunCg {P P' : JI} (h3 : P' 13 = P 13) (h4 : P' 14 = P 14) (h5 : P' 15 = P 15) : ∀ (k i : Nat) (x : Int32), hRun P' k i x = hRun P k i x
  | 0, _, _ => rfl
  | k + 1, i, x => by
    show hRun P' k (i + 1) (hSp P' i x) = hRun P k (i + 1) (hSp P i x)
    rw [hRunCg h3 h4 h5 k, show hSp P' i x = hSp P i x by unfold hSp; rw [h3, h4, h5]]
def pSm (P P' : JI) : Prop := ∀ k, k < 15 → P' k = P k
theorem pSm.hb {P P' : JI} (h : pSm P P') (K : JI) (b : Int32) : kHB P' K b = kHB P K b := by
  have h11 := h 11 (by omega)
  have h12 := h 12 (by omega)
  have e1 : pnt P' = pnt P := by unfold pnt; rw [h11]
  have e2 : ∀ t, pto P' t = pto P t := fun t => by unfold pto; rw [h12]
  have e3 : ∀ t, pfr P' t = pfr P t := fun t => by
    cases t with
    | zero => rfl
    | succ t => exact e2 t
  unfold kHB
  rw [h11, e1]
  split
  · rfl
  · refine srch_cg fun t _ => ?_
    unfold pHB hHo
    rw [e2, e3, hRunCg (P := pv P (hV5 K b)) (P' := pv P' (hV5 K b)) (by show P' 13 = P 13; exact h 13 (by omega)) (by show P' 14 = P 14; exact h 14 (by omega)) rfl]
theorem pSm.rh {P P' : JI} (h : pSm P P') {nf : Nat} {H : Nat → JV → Nat → Bool} {Q : JV} (hH : RH nf P H Q) : RH nf P' H Q := fun K r X h1 h2 h3 b hb => by
  rw [h.hb]
  exact hH K r X h1 h2 h3 b hb
theorem pSm.rp {P P' : JI} (h : pSm P P') {nf : Nat} {Q : JV} (hR : RP nf P Q) : RP nf P' Q := by
  unfold RP at hR ⊢
  rw [h 0 (by omega), h 1 (by omega), h 2 (by omega), h 3 (by omega), h 4 (by omega), h 5 (by omega), h 6 (by omega), h 7 (by omega), h 8 (by omega), h 9 (by omega), h 10 (by omega)]
  exact hR
theorem pSm.wp {P P' : JI} (h : pSm P P') (hW : wP P) : wP P' := by
  have e1 : pnt P' = pnt P := by unfold pnt; rw [h 11 (by omega)]
  have e2 : ∀ t, pto P' t = pto P t := fun t => by unfold pto; rw [h 12 (by omega)]
  have e3 : ∀ t, pfr P' t = pfr P t := fun t => by
    cases t with
    | zero => rfl
    | succ t => exact e2 t
  have e4 : pnl P' = pnl P := by unfold pnl; rw [h 0 (by omega)]
  have e5 : pns P' = pns P := by unfold pns; rw [h 0 (by omega)]
  have e6 : plen P' = plen P := by unfold plen; rw [h 0 (by omega)]
  have e7 : ∀ q, pnm P' q = pnm P q := fun q => by unfold pnm; rw [h 1 (by omega)]
  obtain ⟨w1, w2, w3, w4, w5, w6, w7⟩ := hW
  exact ⟨by rw [h 0 (by omega), e4]; exact w1, by rw [h 0 (by omega), e5]; exact w2, by rw [h 11 (by omega), e1]; exact w3, fun t ht => by rw [e1] at ht; rw [h 12 (by omega), e2, e3]; exact w4 t ht, by rw [h 0 (by omega), e6]; exact w5, fun q hq => by rw [h 1 (by omega), e7]; exact w6 q hq, fun l hl => by rw [h 6 (by omega)]; exact w7 l hl⟩
theorem hNl.cg {A B : JI} {H : Nat → JV → Nat → Bool} {Q : JV} (h : hNl A H Q) (h0 : B 0 25 = A 0 25) (h1 : B 11 = A 11) (h2 : B 12 = A 12) (h3 : B 13 = A 13) (h4 : B 14 = A 14) : hNl B H Q := by
  obtain ⟨bq, q1, q2, q3⟩ := h
  refine ⟨bq, q1, h0.trans q2, fun X b t ht => ?_⟩
  obtain ⟨lo, n, e1, e2, e3, e4⟩ := q3 X b t ht
  exact ⟨lo, n, e1, e2, e3, by rw [vN_cg h1 h2 h3 h4]; exact e4⟩
theorem AirP.cg {nf : Nat} {H : Nat → JV → Nat → Bool} {P P' A A' : JI} (h : AirP nf H P A) (h25 : A' 0 25 = A 0 25) (hp : pSm P P') (h2 : A' 2 = A 2) (h11 : A' 11 = A 11) (h12 : A' 12 = A 12) (h13 : A' 13 = A 13) (h14 : A' 14 = A 14) : AirP nf H P' A' := by
  obtain ⟨a1, a2, a3, a4, a5, a6, a7⟩ := h
  unfold AirP
  rw [h2]
  exact ⟨hp.rp a1, a2, a3, hp.wp a4, hp.rh a5, a6.cg h11 h12 h13 h14, by rw [hp 11 (by omega)]; exact a7.1, a7.2.1, a7.2.2.1, a7.2.2.2.cg h25 h11 h12 h13 h14⟩
def cSm (I I' : JI) (xo p a2 : Nat) : Prop := ∀ b, xo ≤ b → b < xo + 233 → (b < a2 ∨ a2 + 19 ≤ b) → b ≠ p + 15 → I' b = I b
def mSm (I I' : JI) (mo : Nat) : Prop := (∀ j, j = 2 ∨ j = 5 ∨ j = 6 ∨ j = 18 ∨ j = 19 ∨ j = 25 ∨ j = 32 ∨ j = 33 ∨ j = 36 → I' mo j = I mo j) ∧ ∀ c, 0 < c → c < 18 → c ≠ 3 → c ≠ 5 → c ≠ 6 → I' (mo + c) = I (mo + c)
def lSm (L L' : JL) (xo a2 : Nat) : Prop := ∀ b, xo ≤ b → b < xo + 233 → (b < a2 ∨ a2 + 19 ≤ b) → L' b = L b
theorem TxR.cg {I I' : JI} {t m n : Nat} {sz sz' : Int32} (h : TxR I t m sz n) (h0 : I' t = I t) (h1 : I' (t + 1) = I (t + 1)) (h2 : I' m = I m) (h3 : sz' = sz) : TxR I' t m sz' n := by
  unfold TxR at h ⊢
  rw [h0, h1, h2, h3]
  exact h
theorem SlR.cg {k k' nf : Nat} {I I' : JI} {L L' : JL} {mo s i : Nat} {f g f' g' : Int32} (h : SlR k nf I L mo s f g i) (hk : k ≤ k') (hs : ∀ c, c < 19 → I' (s + c) = I (s + c)) (hL : L' s = L s) (h2 : I' (mo + 2) = I (mo + 2)) (h8 : I' (mo + 8) = I (mo + 8)) (hf : f' = f) (hg : g' = g) : SlR k' nf I' L' mo s f' g' i := by
  subst hf
  subst hg
  rcases h with h | ⟨h1, h3, h4⟩
  · exact Or.inl h
  · refine Or.inr ⟨h1, h3, ?_⟩
    rw [h2, h8, hL]
    exact (h4.kag (eqv.kag fun c hc => (hs c hc).symm)).up hk
section W2
variable {Γ : Gam} {k k' xo mo : Nat} {T : JT} {R S : JR} {I I' : JI} {L L' : JL} {p p2 a a2 u nx : Nat}
theorem hx_lt (nx u i : Nat) : hx nx u i < 6 := Nat.mod_lt _ (by omega)
theorem WL.ps (h : WL Γ xo mo T R S p p2 a a2) : ((p = xo + 3 ∧ p2 = xo + 19) ∨ (p = xo + 19 ∧ p2 = xo + 3)) ∧ ((a = xo + 35 ∧ a2 = xo + 54) ∨ (a = xo + 54 ∧ a2 = xo + 35)) := h.1.ps
theorem WB.cg (hl : WL Γ xo mo T R S p p2 a a2) (h : WB I xo mo p p2 u nx) (hc : cSm I I' xo p a2) (hm : mSm I I' mo) : WB I' xo mo p p2 u nx := by
  have hps := hl.ps
  obtain ⟨⟨b, q, h1, h2, h3, h4, h5⟩, ⟨h6, h7⟩, ⟨bq, h8, h9⟩, ⟨h10, h11⟩, ⟨h12, h13, h14⟩, h15, h16, h17, h18, h19⟩ := h
  have c1 := hc (xo + 1) (by omega) (by omega) (by omega) (by omega)
  have c2 := hc (xo + 2) (by omega) (by omega) (by omega) (by omega)
  have c73 := hc (xo + 73) (by omega) (by omega) (by omega) (by omega)
  refine ⟨⟨b, q, h1, by rw [c1]; exact h2, by rw [hm.1 2 (by omega)]; exact h3, ⟨h4.1, fun j hj => ?_⟩, ⟨h5.1, fun j hj => ?_⟩⟩, ⟨by rw [c1, hm.1 5 (by omega)]; exact h6, by rw [c1, hm.1 6 (by omega)]; exact h7⟩, ⟨bq, h8, by rw [hm.1 25 (by omega)]; exact h9⟩, ⟨fun l hl' => ?_, fun l hl' => ?_⟩, ⟨h12.cg (hc _ (by omega) (by omega) (by omega) (by omega)) (hc _ (by omega) (by omega) (by omega) (by omega)) (hm.2 15 (by omega) (by omega) (by omega) (by omega) (by omega)) (hm.1 32 (by omega)), h13.cg (hc _ (by omega) (by omega) (by omega) (by omega)) (hc _ (by omega) (by omega) (by omega) (by omega)) (hm.2 17 (by omega) (by omega) (by omega) (by omega) (by omega)) (hm.1 36 (by omega)), h14.cg (hc _ (by omega) (by omega) (by omega) (by omega)) (hc _ (by omega) (by omega) (by omega) (by omega)) (hm.2 16 (by omega) (by omega) (by omega) (by omega) (by omega)) (hm.1 33 (by omega))⟩, h15, h16, by rw [c73]; exact h17, by rw [c73]; exact h18, by rw [hm.1 18 (by omega)]; exact h19⟩
  · show I' (xo + 2) j = _ ∧ _
    rw [c2]
    exact h4.2 j hj
  · show I' (mo + 1) j = _ ∧ _
    rw [hm.2 1 (by omega) (by omega) (by omega) (by omega) (by omega)]
    exact h5.2 j hj
  · show ∃ n, n ≤ 20 ∧ I' (p + 6) l = nI n
    rw [hc (p + 6) (by omega) (by omega) (by omega) (by omega)]
    exact h10 l hl'
  · show ∃ n, n ≤ 20 ∧ I' (p2 + 6) l = nI n
    rw [hc (p2 + 6) (by omega) (by omega) (by omega) (by omega)]
    exact h11 l hl'
theorem WN.cg (hl : WL Γ xo mo T R S p p2 a a2) (h : WN I xo mo p a u) (hc : cSm I I' xo p a2) (hm : mSm I I' mo) : WN I' xo mo p a u := by
  have hps := hl.ps
  obtain ⟨h1, h2, h3, h4, h5, h6⟩ := h
  have cx := hc xo (by omega) (by omega) (by omega) (by omega)
  refine ⟨by rw [cx, hm.1 19 (by omega)]; exact h1, by rw [cx, hm.2 9 (by omega) (by omega) (by omega) (by omega) (by omega)]; exact h2, fun c hc' => (hc _ (by omega) (by omega) (by omega) (by omega)).trans (h3 c hc'), fun c hc' => (hc _ (by omega) (by omega) (by omega) (by omega)).trans (h4 c hc'), (hm.2 2 (by omega) (by omega) (by omega) (by omega) (by omega)).trans h5, (hm.2 4 (by omega) (by omega) (by omega) (by omega) (by omega)).trans h6⟩
theorem WA.cg (hl : WL Γ xo mo T R S p p2 a a2) (h : WA k I L xo mo p a u nx) (hc : cSm I I' xo p a2) (hm : mSm I I' mo) (hL : lSm L L' xo a2) (hk : k ≤ k') : WA k' I' L' xo mo p a u nx := by
  have hps := hl.ps
  obtain ⟨⟨h1, h2⟩, nf, H, h3, h4, h5, h6, h7⟩ := h
  have cx := hc xo (by omega) (by omega) (by omega) (by omega)
  have m2 := hm.2 2 (by omega) (by omega) (by omega) (by omega) (by omega)
  have m7 := hm.2 7 (by omega) (by omega) (by omega) (by omega) (by omega)
  have m8 := hm.2 8 (by omega) (by omega) (by omega) (by omega) (by omega)
  have m9 := hm.2 9 (by omega) (by omega) (by omega) (by omega) (by omega)
  refine ⟨⟨by rw [cx]; exact h1, by rw [hm.1 19 (by omega)]; exact h2⟩, nf, H, h3.cg (hm.1 25 (by omega)) (fun c hc' => hc (p + c) (by omega) (by omega) (by omega) (by omega)) m2 (hm.2 11 (by omega) (by omega) (by omega) (by omega) (by omega)) (hm.2 12 (by omega) (by omega) (by omega) (by omega) (by omega)) (hm.2 13 (by omega) (by omega) (by omega) (by omega) (by omega)) (hm.2 14 (by omega) (by omega) (by omega) (by omega) (by omega)), ?_, fun i hi => ?_, h6.cg hk (fun c hc' => hc _ (by omega) (by omega) (by omega) (by omega)) (hL _ (by omega) (by omega) (by omega)) m2 m8 (by rw [cx]) (by rw [m9]), h7.cg hk (fun c hc' => hc _ (by omega) (by omega) (by omega) (by omega)) (hL _ (by omega) (by omega) (by omega)) m2 m8 (by rw [cx]) (by rw [m9])⟩
  · rw [m2, hm.2 4 (by omega) (by omega) (by omega) (by omega) (by omega), hL a (by omega) (by omega) (by omega)]
    exact (h4.kag (eqv.kag fun c hc' => (hc (a + c) (by omega) (by omega) (by omega) (by omega)).symm)).up hk
  · have hi6 := hx_lt nx u i
    rw [m2, m7, hL _ (by omega) (by omega) (by omega)]
    exact ((h5 i hi).kag (eqv.kag fun c hc' => (hc _ (by omega) (by omega) (by omega) (by omega)).symm)).up hk
/-- the same between calls, after changes that no call sees -/
theorem Wd.cg (hl : WL Γ xo mo T R S p p2 a a2) (hb : WB I xo mo p p2 u nx) (ha : WN I xo mo p a u ∨ WA k I L xo mo p a u nx) (hc : cSm I I' xo p a2) (hm : mSm I I' mo) (hL : lSm L L' xo a2) (hk : k ≤ k') : Wd Γ k' xo mo T R S I' L' :=
  ⟨p, p2, a, a2, u, nx, hl, hb.cg hl hc hm, ha.elim (fun h => Or.inl (h.cg hl hc hm)) (fun h => Or.inr (h.cg hl hc hm hL hk))⟩
theorem mSm.t {t : Int32} : mSm I (u2 I mo 0 t) mo := ⟨fun j hj => by rw [u2_ap, if_pos rfl, if_neg (by omega)], fun c h0 _ _ _ _ => u2_ne (by omega)⟩
theorem cSm.m {j : Nat} {v : Int32} (h : xo + 233 ≤ mo) : cSm I (u2 I mo j v) xo p a2 := fun b _ h2 _ _ => u2_ne (by omega)
theorem Wd.thr {t : Int32} (h : Wd Γ k xo mo T R S I L) (hL : ∀ b, b < xo + 233 → L' b = L b) : Wd Γ (k + 1) xo mo T R S (u2 I mo 0 t) L' := by
  obtain ⟨p, p2, a, a2, u, nx, hl, hb, ha⟩ := h
  exact Wd.cg hl hb ha (cSm.m hl.2.2.2) mSm.t (fun b _ h2 _ => hL b h2) (Nat.le_succ k)
end W2
