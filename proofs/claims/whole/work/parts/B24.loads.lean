/-! LOAD: THE NEW AIRPORT -/
def qOf (Q N : JV) : Prop := ∀ j, j < 51 → j < 31 ∨ 33 < j → Q j = N j
section L24
variable {N X Q : JV} {H : Nat → Tst} {P K0 K : JI} {dr : Int64} {kf kl kc kk sz c m : Nat}
theorem ld_rp (hy : yN N kf kl kc kk sz) (hP : pPl N P kf kl kc) (hQ : qOf Q N) : RP kf P Q := by
  obtain ⟨⟨n1, n2, n3, n4, n5, yn6, n7, n8⟩, _⟩ := hy
  obtain ⟨⟨p1, p2, p3⟩, p4, ⟨p5, p6, p7⟩, p8, p9, p10⟩ := hP
  have q12 : Q 12 = nI kf := (hQ 12 (by omega) (by omega)).trans n1
  have q13 : Q 13 = nI kl := (hQ 13 (by omega) (by omega)).trans n3
  have q34 : Q 34 = nI kc := (hQ 34 (by omega) (by omega)).trans n5
  have e13 : qLn Q = kl := by
    show nN (Q 13) = kl
    rw [q13, nN_nI (by omega)]
  have e34 : qSn Q = kc := by
    show nN (Q 34) = kc
    rw [q34, nN_nI (by omega)]
  refine ⟨⟨by rw [hQ 0 (by omega) (by omega)]; exact p1, by rw [hQ 1 (by omega) (by omega)]; exact p2, by rw [hQ 2 (by omega) (by omega)]; exact p3, p5.trans q12.symm, p6.trans q13.symm, p7.trans q34.symm⟩, fun q hq => ?_, fun f hf => ?_, fun l hl => ?_, fun k hk => ?_, by rw [q12, nN_nI (by omega)], n2⟩
  · rw [hQ (3 + q) (by omega) (by omega), hQ (6 + q) (by omega) (by omega), hQ (9 + q) (by omega) (by omega)]
    exact p4 q hq
  · rw [hQ (15 + f) (by omega) (by omega)]
    exact p8 f hf
  · rw [e13] at hl
    rw [hQ (23 + l) (by omega) (by omega), hQ (27 + l) (by omega) (by omega)]
    exact p9 l hl
  · rw [e34] at hk
    rw [hQ (35 + 4 * k) (by omega) (by omega), hQ (35 + 4 * k + 1) (by omega) (by omega), hQ (35 + 4 * k + 2) (by omega) (by omega), hQ (35 + 4 * k + 3) (by omega) (by omega)]
    exact p10 k hk
theorem ld_mq (hy : yN N kf kl kc kk sz) (hQ : qOf Q N) : mQ Q ∧ mQt Q := by
  obtain ⟨⟨n1, n2, n3, n4, n5, yn6, n7, n8⟩, ⟨z1, z2, z3, z4, z5⟩, n9, n10, n11, n12, n13⟩ := hy
  have q0 : Q 0 = nI sz := (hQ 0 (by omega) (by omega)).trans z1
  have q13 : Q 13 = nI kl := (hQ 13 (by omega) (by omega)).trans n3
  have e0 : nN (Q 0) = sz := by rw [q0, nN_nI (by omega)]
  refine ⟨⟨⟨by rw [q0]; exact nB_nI (by omega) (by omega), by omega⟩, by rw [e0, hQ 1 (by omega) (by omega)]; exact z4, fun k hk => by rw [hQ (3 + k) (by omega) (by omega)]; exact (n9 k hk).1, by rw [q13]; exact nB_nI (by omega) (by omega), fun k hk => by rw [hQ (23 + k) (by omega) (by omega)]; exact (n11 k hk).1, by rw [hQ 34 (by omega) (by omega), n5]; exact nB_nI (by omega) (by omega), by rw [hQ 14 (by omega) (by omega), n7]; exact nB_nI (by omega) (by omega), fun k hk => by rw [hQ (27 + k) (by omega) (by omega)]; exact (n11 k hk).2⟩, fun q hq => by rw [hQ (6 + q) (by omega) (by omega)]; exact (n9 q hq).2.1, fun l hl => ?_⟩
  have e13 : qLn Q = kl := by
    show nN (Q 13) = kl
    rw [q13, nN_nI (by omega)]
  rw [e13] at hl
  show nN (Q (23 + l)) < nN (Q 0)
  rw [e0, hQ (23 + l) (by omega) (by omega)]
  exact (n13 l hl).2
theorem ld_wp (hy : yN N kf kl kc kk sz) (hP : pPl N P kf kl kc) (hT : pTe P H kk m) (hm : m ≤ 600) (h6 : cP6 P) : wP P := by
  obtain ⟨⟨n1, n2, n3, n4, n5, yn6, n7, n8⟩, ⟨z1, z2, z3, z4, z5⟩, n9, _⟩ := hy
  obtain ⟨⟨p1, p2, p3⟩, p4, ⟨p5, p6, p7⟩, _⟩ := hP
  obtain ⟨t1, t2, t3, t4, t5⟩ := hT
  have e8 : pnl P = kl := by
    show nN (P 0 8) = kl
    rw [p6, nN_nI (by omega)]
  have e11 : pns P = kc := by
    show nN (P 0 11) = kc
    rw [p7, nN_nI (by omega)]
  have ek : pnt P = kk := by
    show nN (P 11 0) = kk
    rw [t1, nN_nI (by omega)]
  have el : plen P = sz := by
    show nN (P 0 0) = sz
    rw [p1, z1, nN_nI (by omega)]
  refine ⟨⟨by rw [e8]; exact p6, by omega⟩, ⟨by rw [e11]; exact p7, by omega⟩, ⟨by rw [ek]; exact t1, by omega⟩, fun t ht => ?_, ⟨by rw [el, p1]; exact z1, by omega, by omega⟩, fun q hq => ?_, h6⟩
  · rw [ek] at ht
    obtain ⟨fr, to, f1, f2, f3, f4, yf5⟩ := t5 t ht
    have et : pto P t = to := by
      show nN (P 12 t) = to
      rw [f3, nN_nI (by omega)]
    have ef : pfr P t = fr := by
      cases t with
      | zero => exact (f1 rfl).symm
      | succ i =>
        show nN (P 12 i) = fr
        rw [f2 i rfl, nN_nI (by have := yf5.1; omega)]
    rw [et, ef]
    exact ⟨f3, yf5.1, by omega⟩
  · have h := n9 q hq
    have e : pnm P q = nN (N (3 + q)) := by
      show nN (P 1 q) = _
      rw [(p4 q hq).1]
    rw [e, (p4 q hq).1]
    exact ⟨h.1.1, by have := h.1.2; omega⟩
/-- the values that tests ask for -/
theorem hV5_mAs {nf : Nat} {r : Int64} (h : RV nf K r X) (hW : mW Q X 100) (hq : Q 12 = nI nf) (hn : nf ≤ 8) {b : Nat} (hb : b < mC X) : hV5 K (nI b) = mAs X b := by
  have hc := hW.c
  have hX := hW.1.1
  have hf : mF X b < nf := by
    have := hW.2.2.2.2.2 b hb
    rw [hq, nN_nI (by omega)] at this
    exact this
  have k3 : atV 100 (K 3) (nI b) = nI (mF X b) := by
    rw [atV_nI (by omega) (by decide), h.get (mt3 (by omega)) ⟨fun _ _ => hb, fun e => by omega, fun e => by omega⟩]
    exact (hX.f (by omega)).1
  funext w
  match w with
  | 0 =>
    show (if 0 < atV 8 (K 9) (atV 100 (K 3) (nI b)) - K 0 0 then atV 8 (K 9) (atV 100 (K 3) (nI b)) - K 0 0 else 0) = if 0 < X (5 + mF X b) - X 0 then X (5 + mF X b) - X 0 else 0
    rw [k3, atV_nI (by omega) (by decide), h.clk, h.get (mt9 (by omega)) ⟨fun e => by omega, fun _ => hf, fun e => by omega⟩]
  | 1 =>
    show atV 100 (K 5) (nI b) = X (573 + b)
    rw [atV_nI (by omega) (by decide), h.get (mt5 (by omega)) ⟨fun _ _ => hb, fun e => by omega, fun e => by omega⟩]
  | 2 =>
    show atV 100 (K 6) (nI b) = X (673 + b)
    rw [atV_nI (by omega) (by decide), h.get (mt6 (by omega)) ⟨fun _ _ => hb, fun e => by omega, fun e => by omega⟩]
  | 3 =>
    show atV 14 (K 8) (nI 8) = nI (mIn X (nI 8) (mC X))
    rw [atV_nI (by omega) (by decide), h.2.2.2.2.1 8 (by omega), mIn_ct]
  | n + 4 => exact h.clk
theorem hHo_cd {V : Nat → Int32} {fr to : Nat} {t : Tst} (h : cdR P fr to 11 t) : ¬ hHo (pv P V) fr to = 0 ↔ t V = true := by
  have h1 := h.2 V 0 (by decide)
  unfold hHo
  rw [show (0 : Int32) = nI 0 from rfl, h1]
  cases t V
  · decide
  · decide
theorem ld_rh (hy : yN N kf kl kc kk sz) (hT : pTe P H kk m) (hm : m ≤ 600) (hQ : qOf Q N) : RH kf P (fun i X b => H i (mAs X b)) Q := fun K r X hR hW _ b hb => by
  obtain ⟨⟨n1, n2, n3, n4, n5, yn6, n7, n8⟩, _⟩ := hy
  obtain ⟨t1, t2, t3, t4, t5⟩ := hT
  have q12 : Q 12 = nI kf := (hQ 12 (by omega) (by omega)).trans n1
  have eqk : qKn Q = kk := by
    show nN (Q 14) = kk
    rw [hQ 14 (by omega) (by omega), n7, nN_nI (by omega)]
  have ek : pnt P = kk := by
    show nN (P 11 0) = kk
    rw [t1, nN_nI (by omega)]
  have e : kHB P K (nI b) = mHB (fun i X b => H i (mAs X b)) Q X b := by
    unfold kHB mHB
    rw [eqk, ek]
    by_cases g : kk = 0
    · rw [if_pos (by rw [t1, g]; rfl), g]
      exact (srch_none fun j hj => absurd hj (by omega)).symm
    · rw [if_neg (fun e => g (nI_inj' (by omega) (by omega) ((t1.symm.trans e).trans (show (0 : Int32) = nI 0 from rfl))))]
      refine srch_cg fun t ht => ?_
      obtain ⟨fr, to, f1, f2, f3, f4, yf5⟩ := t5 t ht
      have et : pto P t = to := by
        show nN (P 12 t) = to
        rw [f3, nN_nI (by omega)]
      have ef : pfr P t = fr := by
        cases t with
        | zero => exact (f1 rfl).symm
        | succ i =>
          show nN (P 12 i) = fr
          rw [f2 i rfl, nN_nI (by have := yf5.1; omega)]
      unfold pHB
      rw [et, ef, hV5_mAs hR hW q12 n2 hb]
      have h1 := hHo_cd (V := mAs X b) yf5
      show decide (¬ hHo (pv P (mAs X b)) fr to = 0) = H t (mAs X b)
      by_cases hv : H t (mAs X b) = true
      · rw [hv]
        exact decide_eq_true (h1.mpr hv)
      · rw [Bool.eq_false_iff.mpr hv]
        exact decide_eq_false fun g2 => hv (h1.mp g2)
  rw [e]
theorem ld_hn {bq k' : Nat} {A : JI} (hy : yN N kf kl kc kk sz) (hQ : qOf (A 2) N) (hk : kpT bq k' kk H A (A 2)) : hN A (fun i X b => H i (mAs X b)) (A 2) := fun X b t ht => by
  obtain ⟨⟨n1, n2, n3, n4, n5, yn6, n7, n8⟩, _⟩ := hy
  have eqk : qKn (A 2) = kk := by
    show nN (A 2 14) = kk
    rw [hQ 14 (by omega) (by omega), n7, nN_nI (by omega)]
  rw [eqk] at ht
  obtain ⟨n, lo, e1, e2, e3, e4⟩ := hk t ht
  exact ⟨lo, n, e1, e4 X b⟩
theorem ld_hnl {bq k' : Nat} {A : JI} (hb : bq ≤ 1) (h25 : A 0 25 = nI (1 - bq)) (hk' : k' ≤ 621) (hy : yN N kf kl kc kk sz) (hQ : qOf (A 2) N) (hk : kpT bq k' kk H A (A 2)) : hNl A (fun i X b => H i (mAs X b)) (A 2) := by
  obtain ⟨⟨n1, n2, n3, n4, n5, yn6, n7, n8⟩, _⟩ := hy
  have eqk : qKn (A 2) = kk := by
    show nN (A 2 14) = kk
    rw [hQ 14 (by omega) (by omega), n7, nN_nI (by omega)]
  refine ⟨1 - bq, by omega, h25, fun X b t ht => ?_⟩
  rw [eqk] at ht
  obtain ⟨n, lo, e1, e2, e3, e4⟩ := hk t ht
  have eb : 1 - (1 - bq) = bq := by omega
  refine ⟨lo, n, e1, by rw [eb]; exact e2, ?_, e4 X b⟩
  rw [eb]
  unfold nIx at e3 ⊢
  omega
end L24
