/-! LINES, pure, in the order in which the component reads -/
def pBg (b : Nat → Nat) (E most n p : Nat) : Res Unit := if n = most then .inl (4, tS b E p) else .inr ((), tN b E p)
theorem pBg_eq {b : Nat → Nat} {E most n p : Nat} : rBg b E most n (.inr ((), p)) = pBg b E most n p := by
  unfold rBg pBg
  split <;> rfl
def lnF (b : Nat → Nat) (E kf kl sz : Nat) (N X : JV) (H : Nat → Tst) (p : Nat) : Res PSt := (pBg b E 8 kf p).bd (fun _ q0 => (pPos b E (fun v => tkn N kf kl (nI v)) sz q0).bd (fun v1 q1 => (pNum b E 0 1000 q1).bd (fun v2 q2 => (pNum b E (v2 + 1) 2000 q2).bd (fun v3 q3 => .inr ((w1 (w1 N (15 + kf) (nI v1)) 12 (nI (kf + 1)), w1 (w1 X (5 + kf) (nI v2)) (13 + kf) (nI v3), H), q3)))))
def lnA (b : Nat → Nat) (E kf kl sz : Nat) (N X : JV) (H : Nat → Tst) (p : Nat) : Res PSt := (pBg b E 4 kl p).bd (fun _ q0 => (pPos b E (fun v => tkn N kf kl (nI v)) sz q0).bd (fun v1 q1 => (pNum b E 1 21 q1).bd (fun v2 q2 => .inr ((w1 (w1 (w1 N (23 + kl) (nI v1)) (27 + kl) (nI v2)) 13 (nI (kl + 1)), X, H), q2))))
def lnS (b : Nat → Nat) (E ks : Nat) (N X : JV) (H : Nat → Tst) (p : Nat) : Res PSt := (pBg b E 4 ks p).bd (fun _ q0 => (pNum b E 1 4 q0).bd (fun v1 q1 => (pNum b E 0 4 q1).bd (fun v2 q2 => (pNum b E 0 1000 q2).bd (fun v3 q3 => (pNum b E v3 2000 q3).bd (fun v4 q4 => .inr ((w1 (w1 (w1 (w1 (w1 N (35 + 4 * ks) (nI v1 - 1)) (35 + 4 * ks + 1) (nI v2)) (35 + 4 * ks + 2) (nI v3)) (35 + 4 * ks + 3) (nI v4)) 34 (nI (ks + 1)), X, H), q4))))))
def lnB (b : Nat → Nat) (E c kf : Nat) (N X : JV) (H : Nat → Tst) (p : Nat) : Res PSt := (pNum b E 0 1000 (tN b E p)).bd (fun v1 q1 => (pNum b E 1 (101 - c) q1).bd (fun v2 q2 => (pNum b E 0 kf q2).bd (fun v3 q3 => .inr ((N, mAd (nI v1) (nI v3) v2 c X, H), q3))))
def lnK (b : Nat → Nat) (E kk : Nat) (N X : JV) (H : Nat → Tst) (p : Nat) : Res PSt := (pBg b E 3 kk p).bd (fun _ q0 => (pT b E (pU b E 10) q0).bd (fun t q => .inr ((w1 N 14 (nI (kk + 1)), X, fun i => if i = kk then t else H i), q)))
section A3
variable {b : Nat → Nat} {E kf kl ks kk c sz p : Nat} {N X : JV} {H : Nat → Tst}
theorem pPos_o {t : Nat → Bool} {hx : Nat} {x : Nat × Nat} (h : pPos b E t hx p = .inr x) : pNum b E 0 hx p = .inr x ∧ t x.1 = false := by
  unfold pPos at h
  cases h1 : pNum b E 0 hx p with
  | inl e => rw [h1] at h; cases h
  | inr y =>
    rw [h1, Res.bd_r] at h
    split at h
    · cases h
    · rename_i ht
      cases h
      exact ⟨rfl, by simpa using ht⟩
theorem lnF_eq : ((flr4 b E kf kl sz N (.inr ((), p))).bd (fun _ q => .inr ((flN b E kf kl sz N (.inr ((), p)), flX b E kf kl sz N (.inr ((), p)) X, H), q)) : Res PSt) = lnF b E kf kl sz N X H p := by
  unfold lnF
  cases h0 : pBg b E 8 kf p with
  | inl e =>
    have e0 : flr1 b E kf kl sz N (.inr ((), p)) = .inl e := by
      unfold flr1
      exact pBg_eq.trans h0
    have e1 : flr2 b E kf kl sz N (.inr ((), p)) = .inl e := by
      unfold flr2
      rw [e0]
      rfl
    have e2 : flr3 b E kf kl sz N (.inr ((), p)) = .inl e := by
      unfold flr3
      rw [e1]
      rfl
    have e3 : flr4 b E kf kl sz N (.inr ((), p)) = .inl e := by
      unfold flr4
      rw [e2]
      rfl
    rw [e3]
    rfl
  | inr x0 =>
    have e0 : flr1 b E kf kl sz N (.inr ((), p)) = .inr ((), x0.2) := by
      unfold flr1
      exact pBg_eq.trans h0
    rw [Res.bd_r]
    cases h1 : pPos b E (fun v => tkn N kf kl (nI v)) sz x0.2 with
    | inl e =>
      have e1 : flr2 b E kf kl sz N (.inr ((), p)) = .inl e := by
        unfold flr2
        rw [e0]
        show rU (pPos b E (fun v => tkn N kf kl (nI v)) sz x0.2) = _
        rw [h1]
        rfl
      have e2 : flr3 b E kf kl sz N (.inr ((), p)) = .inl e := by
        unfold flr3
        rw [e1]
        rfl
      have e3 : flr4 b E kf kl sz N (.inr ((), p)) = .inl e := by
        unfold flr4
        rw [e2]
        rfl
      rw [e3]
      rfl
    | inr x1 =>
      have e1 : flr2 b E kf kl sz N (.inr ((), p)) = .inr ((), x1.2) := by
        unfold flr2
        rw [e0]
        show rU (pPos b E (fun v => tkn N kf kl (nI v)) sz x0.2) = _
        rw [h1]
        rfl
      have v1 : fv3 b E kf kl sz N (.inr ((), p)) = x1.1 := by
        unfold fv3
        rw [e0]
        show vU 0 (pNum b E 0 sz x0.2) = _
        rw [(pPos_o h1).1]
        rfl
      rw [Res.bd_r]
      cases h2 : pNum b E 0 1000 x1.2 with
      | inl e =>
        have e2 : flr3 b E kf kl sz N (.inr ((), p)) = .inl e := by
          unfold flr3
          rw [e1]
          show rU (pNum b E 0 1000 x1.2) = _
          rw [h2]
          rfl
        have e3 : flr4 b E kf kl sz N (.inr ((), p)) = .inl e := by
          unfold flr4
          rw [e2]
          rfl
        rw [e3]
        rfl
      | inr x2 =>
        have e2 : flr3 b E kf kl sz N (.inr ((), p)) = .inr ((), x2.2) := by
          unfold flr3
          rw [e1]
          show rU (pNum b E 0 1000 x1.2) = _
          rw [h2]
          rfl
        have v2 : fv4 b E kf kl sz N (.inr ((), p)) = x2.1 := by
          unfold fv4
          rw [e1]
          show vU 0 (pNum b E 0 1000 x1.2) = _
          rw [h2]
          rfl
        rw [Res.bd_r]
        cases h3 : pNum b E (x2.1 + 1) 2000 x2.2 with
        | inl e =>
          have e3 : flr4 b E kf kl sz N (.inr ((), p)) = .inl e := by
            unfold flr4
            rw [v2, e2]
            show rU (pNum b E (x2.1 + 1) 2000 x2.2) = _
            rw [h3]
            rfl
          rw [e3]
          rfl
        | inr x3 =>
          have e3 : flr4 b E kf kl sz N (.inr ((), p)) = .inr ((), x3.2) := by
            unfold flr4
            rw [v2, e2]
            show rU (pNum b E (x2.1 + 1) 2000 x2.2) = _
            rw [h3]
            rfl
          have v3 : fv5 b E kf kl sz N (.inr ((), p)) = x3.1 := by
            unfold fv5
            rw [v2, e2]
            show vU (x2.1 + 1) (pNum b E (x2.1 + 1) 2000 x2.2) = _
            rw [h3]
            rfl
          rw [Res.bd_r]
          rw [e3, Res.bd_r]
          unfold flN flX
          rw [e0]
          dsimp only
          rw [v1, v2, v3]
theorem lnA_eq : ((lar3 b E kf kl sz N (.inr ((), p))).bd (fun _ q => .inr ((laN b E kf kl sz N (.inr ((), p)), X, H), q)) : Res PSt) = lnA b E kf kl sz N X H p := by
  unfold lnA
  cases h0 : pBg b E 4 kl p with
  | inl e =>
    have e0 : lar1 b E kf kl sz N (.inr ((), p)) = .inl e := by
      unfold lar1
      exact pBg_eq.trans h0
    have e1 : lar2 b E kf kl sz N (.inr ((), p)) = .inl e := by
      unfold lar2
      rw [e0]
      rfl
    have e2 : lar3 b E kf kl sz N (.inr ((), p)) = .inl e := by
      unfold lar3
      rw [e1]
      rfl
    rw [e2]
    rfl
  | inr x0 =>
    have e0 : lar1 b E kf kl sz N (.inr ((), p)) = .inr ((), x0.2) := by
      unfold lar1
      exact pBg_eq.trans h0
    rw [Res.bd_r]
    cases h1 : pPos b E (fun v => tkn N kf kl (nI v)) sz x0.2 with
    | inl e =>
      have e1 : lar2 b E kf kl sz N (.inr ((), p)) = .inl e := by
        unfold lar2
        rw [e0]
        show rU (pPos b E (fun v => tkn N kf kl (nI v)) sz x0.2) = _
        rw [h1]
        rfl
      have e2 : lar3 b E kf kl sz N (.inr ((), p)) = .inl e := by
        unfold lar3
        rw [e1]
        rfl
      rw [e2]
      rfl
    | inr x1 =>
      have e1 : lar2 b E kf kl sz N (.inr ((), p)) = .inr ((), x1.2) := by
        unfold lar2
        rw [e0]
        show rU (pPos b E (fun v => tkn N kf kl (nI v)) sz x0.2) = _
        rw [h1]
        rfl
      have v1 : lv3 b E kf kl sz N (.inr ((), p)) = x1.1 := by
        unfold lv3
        rw [e0]
        show vU 0 (pNum b E 0 sz x0.2) = _
        rw [(pPos_o h1).1]
        rfl
      rw [Res.bd_r]
      cases h2 : pNum b E 1 21 x1.2 with
      | inl e =>
        have e2 : lar3 b E kf kl sz N (.inr ((), p)) = .inl e := by
          unfold lar3
          rw [e1]
          show rU (pNum b E 1 21 x1.2) = _
          rw [h2]
          rfl
        rw [e2]
        rfl
      | inr x2 =>
        have e2 : lar3 b E kf kl sz N (.inr ((), p)) = .inr ((), x2.2) := by
          unfold lar3
          rw [e1]
          show rU (pNum b E 1 21 x1.2) = _
          rw [h2]
          rfl
        have v2 : lv4 b E kf kl sz N (.inr ((), p)) = x2.1 := by
          unfold lv4
          rw [e1]
          show vU 1 (pNum b E 1 21 x1.2) = _
          rw [h2]
          rfl
        rw [Res.bd_r]
        rw [e2, Res.bd_r]
        unfold laN
        rw [e0]
        dsimp only
        rw [v1, v2]
theorem lnS_eq : ((shr5 b E ks (.inr ((), p))).bd (fun _ q => .inr ((shN b E ks (.inr ((), p)) N, X, H), q)) : Res PSt) = lnS b E ks N X H p := by
  unfold lnS
  cases h0 : pBg b E 4 ks p with
  | inl e =>
    have e0 : shr1 b E ks (.inr ((), p)) = .inl e := by
      unfold shr1
      exact pBg_eq.trans h0
    have e1 : shr2 b E ks (.inr ((), p)) = .inl e := by
      unfold shr2
      rw [e0]
      rfl
    have e2 : shr3 b E ks (.inr ((), p)) = .inl e := by
      unfold shr3
      rw [e1]
      rfl
    have e3 : shr4 b E ks (.inr ((), p)) = .inl e := by
      unfold shr4
      rw [e2]
      rfl
    have e4 : shr5 b E ks (.inr ((), p)) = .inl e := by
      unfold shr5
      rw [e3]
      rfl
    rw [e4]
    rfl
  | inr x0 =>
    have e0 : shr1 b E ks (.inr ((), p)) = .inr ((), x0.2) := by
      unfold shr1
      exact pBg_eq.trans h0
    rw [Res.bd_r]
    cases h1 : pNum b E 1 4 x0.2 with
    | inl e =>
      have e1 : shr2 b E ks (.inr ((), p)) = .inl e := by
        unfold shr2
        rw [e0]
        show rU (pNum b E 1 4 x0.2) = _
        rw [h1]
        rfl
      have e2 : shr3 b E ks (.inr ((), p)) = .inl e := by
        unfold shr3
        rw [e1]
        rfl
      have e3 : shr4 b E ks (.inr ((), p)) = .inl e := by
        unfold shr4
        rw [e2]
        rfl
      have e4 : shr5 b E ks (.inr ((), p)) = .inl e := by
        unfold shr5
        rw [e3]
        rfl
      rw [e4]
      rfl
    | inr x1 =>
      have e1 : shr2 b E ks (.inr ((), p)) = .inr ((), x1.2) := by
        unfold shr2
        rw [e0]
        show rU (pNum b E 1 4 x0.2) = _
        rw [h1]
        rfl
      have v1 : sv2 b E ks (.inr ((), p)) = x1.1 := by
        unfold sv2
        rw [e0]
        show vU 1 (pNum b E 1 4 x0.2) = _
        rw [h1]
        rfl
      rw [Res.bd_r]
      cases h2 : pNum b E 0 4 x1.2 with
      | inl e =>
        have e2 : shr3 b E ks (.inr ((), p)) = .inl e := by
          unfold shr3
          rw [e1]
          show rU (pNum b E 0 4 x1.2) = _
          rw [h2]
          rfl
        have e3 : shr4 b E ks (.inr ((), p)) = .inl e := by
          unfold shr4
          rw [e2]
          rfl
        have e4 : shr5 b E ks (.inr ((), p)) = .inl e := by
          unfold shr5
          rw [e3]
          rfl
        rw [e4]
        rfl
      | inr x2 =>
        have e2 : shr3 b E ks (.inr ((), p)) = .inr ((), x2.2) := by
          unfold shr3
          rw [e1]
          show rU (pNum b E 0 4 x1.2) = _
          rw [h2]
          rfl
        have v2 : sv3 b E ks (.inr ((), p)) = x2.1 := by
          unfold sv3
          rw [e1]
          show vU 0 (pNum b E 0 4 x1.2) = _
          rw [h2]
          rfl
        rw [Res.bd_r]
        cases h3 : pNum b E 0 1000 x2.2 with
        | inl e =>
          have e3 : shr4 b E ks (.inr ((), p)) = .inl e := by
            unfold shr4
            rw [e2]
            show rU (pNum b E 0 1000 x2.2) = _
            rw [h3]
            rfl
          have e4 : shr5 b E ks (.inr ((), p)) = .inl e := by
            unfold shr5
            rw [e3]
            rfl
          rw [e4]
          rfl
        | inr x3 =>
          have e3 : shr4 b E ks (.inr ((), p)) = .inr ((), x3.2) := by
            unfold shr4
            rw [e2]
            show rU (pNum b E 0 1000 x2.2) = _
            rw [h3]
            rfl
          have v3 : sv4 b E ks (.inr ((), p)) = x3.1 := by
            unfold sv4
            rw [e2]
            show vU 0 (pNum b E 0 1000 x2.2) = _
            rw [h3]
            rfl
          rw [Res.bd_r]
          cases h4 : pNum b E x3.1 2000 x3.2 with
          | inl e =>
            have e4 : shr5 b E ks (.inr ((), p)) = .inl e := by
              unfold shr5
              rw [v3, e3]
              show rU (pNum b E x3.1 2000 x3.2) = _
              rw [h4]
              rfl
            rw [e4]
            rfl
          | inr x4 =>
            have e4 : shr5 b E ks (.inr ((), p)) = .inr ((), x4.2) := by
              unfold shr5
              rw [v3, e3]
              show rU (pNum b E x3.1 2000 x3.2) = _
              rw [h4]
              rfl
            have v4 : sv5 b E ks (.inr ((), p)) = x4.1 := by
              unfold sv5
              rw [v3, e3]
              show vU x3.1 (pNum b E x3.1 2000 x3.2) = _
              rw [h4]
              rfl
            rw [Res.bd_r]
            rw [e4, Res.bd_r]
            unfold shN
            rw [e0]
            dsimp only
            rw [v1, v2, v3, v4]
theorem lnB_eq : ((bgr4 b E c kf (.inr ((), p))).bd (fun _ q => .inr ((N, bgX b E c kf (.inr ((), p)) X, H), q)) : Res PSt) = lnB b E c kf N X H p := by
  unfold lnB
  cases h0 : pNum b E 0 1000 (tN b E p) with
  | inl e =>
    have e0 : bgr2 b E c kf (.inr ((), p)) = .inl e := by
      unfold bgr2
      exact congrArg rU h0
    have e1 : bgr3 b E c kf (.inr ((), p)) = .inl e := by
      unfold bgr3
      rw [e0]
      rfl
    have e2 : bgr4 b E c kf (.inr ((), p)) = .inl e := by
      unfold bgr4
      rw [e1]
      rfl
    rw [e2]
    rfl
  | inr x0 =>
    have e0 : bgr2 b E c kf (.inr ((), p)) = .inr ((), x0.2) := by
      unfold bgr2
      exact congrArg rU h0
    have v0 : bv1 b E c kf (.inr ((), p)) = x0.1 := by
      unfold bv1
      show vU 0 (pNum b E 0 1000 (tN b E p)) = _
      rw [h0]
      rfl
    rw [Res.bd_r]
    cases h1 : pNum b E 1 (101 - c) x0.2 with
    | inl e =>
      have e1 : bgr3 b E c kf (.inr ((), p)) = .inl e := by
        unfold bgr3
        rw [e0]
        show rU (pNum b E 1 (101 - c) x0.2) = _
        rw [h1]
        rfl
      have e2 : bgr4 b E c kf (.inr ((), p)) = .inl e := by
        unfold bgr4
        rw [e1]
        rfl
      rw [e2]
      rfl
    | inr x1 =>
      have e1 : bgr3 b E c kf (.inr ((), p)) = .inr ((), x1.2) := by
        unfold bgr3
        rw [e0]
        show rU (pNum b E 1 (101 - c) x0.2) = _
        rw [h1]
        rfl
      have v1 : bv2 b E c kf (.inr ((), p)) = x1.1 := by
        unfold bv2
        rw [e0]
        show vU 1 (pNum b E 1 (101 - c) x0.2) = _
        rw [h1]
        rfl
      rw [Res.bd_r]
      cases h2 : pNum b E 0 kf x1.2 with
      | inl e =>
        have e2 : bgr4 b E c kf (.inr ((), p)) = .inl e := by
          unfold bgr4
          rw [e1]
          show rU (pNum b E 0 kf x1.2) = _
          rw [h2]
          rfl
        rw [e2]
        rfl
      | inr x2 =>
        have e2 : bgr4 b E c kf (.inr ((), p)) = .inr ((), x2.2) := by
          unfold bgr4
          rw [e1]
          show rU (pNum b E 0 kf x1.2) = _
          rw [h2]
          rfl
        have v2 : bv3 b E c kf (.inr ((), p)) = x2.1 := by
          unfold bv3
          rw [e1]
          show vU 0 (pNum b E 0 kf x1.2) = _
          rw [h2]
          rfl
        rw [Res.bd_r]
        rw [e2, Res.bd_r]
        unfold bgX
        rw [e2]
        dsimp only
        rw [v0, v1, v2]
theorem lnK_eq : ((kpR b E kk (.inr ((), p))).bd (fun t q => .inr ((w1 N 14 (nI (kk + 1)), X, fun i => if i = kk then t else H i), q)) : Res PSt) = lnK b E kk N X H p := by
  unfold kpR lnK
  rw [pBg_eq]
  cases pBg b E 3 kk p with
  | inl e => rfl
  | inr x => rfl
/-- a line, in the component's order -/
def lnC (b : Nat → Nat) (E kf kl ks kk c sz : Nat) (N X : JV) (H : Nat → Tst) (p : Nat) : Res PSt :=
  if isW b E p wd_flight = true then lnF b E kf kl sz N X H p
  else if isW b E p wd_lane = true then lnA b E kf kl sz N X H p
  else if isW b E p wd_bags = true then lnB b E c kf N X H p
  else if isW b E p wd_shift = true then lnS b E ks N X H p
  else if isW b E p wd_keep = true then lnK b E kk N X H p
  else .inl (1, tS b E p)
theorem isW_2 {l l' : List Nat} (h : isW b E p l = true) (h' : isW b E p l' = true) : l = l' := by
  have a := of_decide_eq_true h
  have a' := of_decide_eq_true h'
  have hl : l.length = l'.length := by omega
  refine List.ext_getElem hl (fun i h1 h2 => ?_)
  have e1 := a.2.2 i h1
  have e2 := a'.2.2 i h2
  rw [List.getD_eq_getElem?_getD, List.getElem?_eq_getElem h1] at e1
  rw [List.getD_eq_getElem?_getD, List.getElem?_eq_getElem h2] at e2
  exact e1.symm.trans e2
theorem lnC_eq (hf : N 12 = nI kf) (hf8 : kf ≤ 8) (hl : N 13 = nI kl) (hl4 : kl ≤ 4) (hs : N 34 = nI ks) (hs4 : ks ≤ 4) (hk : N 14 = nI kk) (hk3 : kk ≤ 3) (hc : X 2 = nI c) (hc1 : c ≤ 100) (hz : N 0 = nI sz) (hz4 : sz ≤ 40) : pLin b E N X H p = lnC b E kf kl ks kk c sz N X H p := by
  unfold pLin lnC
  rw [hf, hl, hs, hk, hc, hz, nN_nI (by omega), nN_nI (by omega), nN_nI (by omega), nN_nI (by omega), nN_nI (by omega), nN_nI (by omega)]
  by_cases h0 : isW b E p wd_flight = true
  · simp only [if_pos h0, if_neg (fun w => absurd (isW_2 h0 w) (by decide) : ¬ isW b E p wd_lane = true), if_neg (fun w => absurd (isW_2 h0 w) (by decide) : ¬ isW b E p wd_bags = true), if_neg (fun w => absurd (isW_2 h0 w) (by decide) : ¬ isW b E p wd_shift = true), if_neg (fun w => absurd (isW_2 h0 w) (by decide) : ¬ isW b E p wd_keep = true)]
    exact lnF_eq
  · skip
    by_cases h1 : isW b E p wd_lane = true
    · simp only [if_pos h1, if_neg h0, if_neg (fun w => absurd (isW_2 h1 w) (by decide) : ¬ isW b E p wd_bags = true), if_neg (fun w => absurd (isW_2 h1 w) (by decide) : ¬ isW b E p wd_shift = true), if_neg (fun w => absurd (isW_2 h1 w) (by decide) : ¬ isW b E p wd_keep = true)]
      exact lnA_eq
    · skip
      by_cases h2 : isW b E p wd_bags = true
      · simp only [if_pos h2, if_neg h0, if_neg h1, if_neg (fun w => absurd (isW_2 h2 w) (by decide) : ¬ isW b E p wd_shift = true), if_neg (fun w => absurd (isW_2 h2 w) (by decide) : ¬ isW b E p wd_keep = true)]
        exact lnB_eq
      · skip
        by_cases h3 : isW b E p wd_shift = true
        · simp only [if_pos h3, if_neg h0, if_neg h1, if_neg h2, if_neg (fun w => absurd (isW_2 h3 w) (by decide) : ¬ isW b E p wd_keep = true)]
          exact lnS_eq
        · skip
          by_cases h4 : isW b E p wd_keep = true
          · simp only [if_pos h4, if_neg h0, if_neg h1, if_neg h2, if_neg h3]
            exact lnK_eq
          · simp only [if_neg h0, if_neg h1, if_neg h2, if_neg h3, if_neg h4]
end A3
