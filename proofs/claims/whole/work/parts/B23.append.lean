/-! APPEND, BOTH SIDES -/
def bS (b : Nat → Nat) (n x : Nat) : Nat → Nat := fun j => if j = n then x else b j
def b4 (b : Nat → Nat) (n : Nat) (w : Int32) : Nat → Nat := bS (bS (bS (bS b n (nN (by8 w 24))) (n + 1) (nN (by8 w 16))) (n + 2) (nN (by8 w 8))) (n + 3) (nN (by8 w 0))
section W23
variable {Γ : Gam} {k xo mo : Nat} {T : JT} {R S : JR} {I I' C A : JI} {L : JL} {p p2 a a2 u nx : Nat} {b : Nat → Nat} {n : Nat} {w v : Int32}
theorem pB_.put (h : pB_ C b n) (hn : n < 1200) : pB_ (u2 C 1 n (sg8 w v)) (bS b n (nN (by8 w v))) (n + 1) := ⟨by omega, fun j hj => by
  unfold bS
  rw [u2_ap, if_pos rfl]
  by_cases g : j = n
  · rw [if_pos g, if_pos g]
    exact ⟨by8_sg, by8_lt.1⟩
  · rw [if_neg g, if_neg g]
    exact h.2 j (by omega)⟩
theorem mB_.put (h : mB_ A b n) (hn : n < 1200) : mB_ (u2 A 1 n (by8 w v)) (bS b n (nN (by8 w v))) (n + 1) := ⟨by omega, fun j hj => by
  unfold bS
  rw [u2_ap, if_pos rfl]
  by_cases g : j = n
  · rw [if_pos g, if_pos g]
    exact ⟨by8_lt.2, by8_lt.1⟩
  · rw [if_neg g, if_neg g]
    exact h.2 j (by omega)⟩
theorem pB_.four (h : pB_ C b n) (hn : n + 4 ≤ 1200) : pB_ (fourC C n w) (b4 b n w) (n + 4) := (((h.put (by omega)).put (by omega)).put (by omega)).put (by omega)
theorem mB_.four (h : mB_ A b n) (hn : n + 4 ≤ 1200) : mB_ (fourA A n w) (b4 b n w) (n + 4) := (((h.put (by omega)).put (by omega)).put (by omega)).put (by omega)
def b20 (b : Nat → Nat) (n : Nat) (a c e g i : Int32) : Nat → Nat := b4 (b4 (b4 (b4 (b4 b n a) (n + 4) c) (n + 4 + 4) e) (n + 4 + 4 + 4) g) (n + 4 + 4 + 4 + 4) i
theorem pB_.app (h : pB_ C b n) (hn : n ≤ 1180) {a c e g i : Int32} : pB_ (appC C n a c e g i) (b20 b n a c e g i) (n + 4 + 4 + 4 + 4 + 4) := ((((h.four (by omega)).four (by omega)).four (by omega)).four (by omega)).four (by omega)
theorem mB_.app (h : mB_ A b n) (hn : n ≤ 1180) {a c e g i : Int32} : mB_ (appA A n a c e g i) (b20 b n a c e g i) (n + 4 + 4 + 4 + 4 + 4) := ((((h.four (by omega)).four (by omega)).four (by omega)).four (by omega)).four (by omega)
theorem fourA_c {c : Nat} (h : c ≠ 1) : fourA A n w c = A c := by
  unfold fourA
  rw [u2_ne h, u2_ne h, u2_ne h, u2_ne h]
theorem appA_c {j : Nat} (h : j ≠ 1) {a c e g i : Int32} : appA A n a c e g i j = A j := by
  unfold appA
  rw [fourA_c h, fourA_c h, fourA_c h, fourA_c h, fourA_c h]
theorem st_sK0 (I : JI) (x : Nat) : st (sK I x) 0 (I x) = sK I x := by
  funext c
  by_cases h : c = 0
  · rw [h, st_eq]
    rfl
  · rw [st_ne h]
theorem mB_w {t : Int32} : blk 18 I mo (st (sK I mo) 0 (w1 (I mo) 0 t)) = u2 I mo 0 t := by
  rw [← mB_t (I := I) (mo := mo) (t := t)]
  congr 1
  funext c
  by_cases h0 : c = 0
  · rw [h0, st_eq, st_ne (by omega)]
    funext i
    show w1 (I mo) 0 t i = u2 (sK I mo) 0 0 t 0 i
    rw [u2_ap, if_pos rfl]
    rfl
  · rw [st_ne h0]
    by_cases h4 : c = 4
    · rw [h4, st_eq]
    · rw [st_ne h4]
      show _ = u2 (sK I mo) 0 0 t c
      rw [u2_ne h0]
theorem WN.ap (hl : WL Γ xo mo T R S p p2 a a2) (h : WN I xo mo p a u) (hC : ∀ b, (b = xo ∨ xo + 3 ≤ b) → b < xo + 227 → I' b = I b) (h19 : I' mo 19 = I mo 19) (hmc : ∀ c, 1 < c → c < 15 → I' (mo + c) = I (mo + c)) : WN I' xo mo p a u := by
  have hps := hl.ps
  obtain ⟨⟨h1, h2, h3⟩, ⟨h4, h5, h6, h7⟩, h8, h9, h10, h11⟩ := h
  have c0 := hC xo (Or.inl rfl) (by omega)
  have m2 := hmc 2 (by omega) (by omega)
  have m4 := hmc 4 (by omega) (by omega)
  have m9 := hmc 9 (by omega) (by omega)
  exact ⟨⟨by rw [c0]; exact h1, h19.trans h2, h3⟩, ⟨by rw [c0]; exact h4, by rw [c0]; exact h5, by rw [m9]; exact h6, by rw [m9]; exact h7⟩, fun c hc => by rw [hC (a + c) (by omega) (by omega)]; exact h8 c hc, fun c hc => by rw [hC (p + c) (by omega) (by omega)]; exact h9 c hc, m2.trans h10, m4.trans h11⟩
theorem WB.ap (hl : WL Γ xo mo T R S p p2 a a2) (h : WB I xo mo p p2 u nx) {q : Nat} (hq : q ≤ 1200) (hC : ∀ b, xo + 3 ≤ b → b < xo + 233 → I' b = I b) (e0 : I' (xo + 1) 0 = I (xo + 1) 0) (e1 : I' (xo + 1) 1 = I (xo + 1) 1) (e2 : I' (xo + 1) 2 = nI q) (em : I' mo 2 = nI q) (hm0 : ∀ j, j = 5 ∨ j = 6 ∨ j = 18 ∨ j = 25 ∨ j = 32 ∨ j = 33 ∨ j = 36 → I' mo j = I mo j) (hp : pB_ (sK I' (xo + 1)) b q) (hm : mB_ (sK I' mo) b q) (hmc : ∀ c, c = 15 ∨ c = 16 ∨ c = 17 → I' (mo + c) = I (mo + c)) : WB I' xo mo p p2 u nx := by
  have hps := hl.ps
  obtain ⟨_, ⟨h6, h7⟩, ⟨bq, h8, h9⟩, ⟨h10, h11⟩, ⟨x1, x2, x3⟩, ⟨h12, h13, h14, h15, h16⟩⟩ := h
  have c3 := hC (xo + 73) (by omega) (by omega)
  refine ⟨⟨b, q, hq, e2, em, hp, hm⟩, ⟨by rw [e0, hm0 5 (by omega)]; exact h6, by rw [e1, hm0 6 (by omega)]; exact h7⟩, ⟨bq, h8, by rw [hm0 25 (by omega)]; exact h9⟩, ⟨fun l hl' => ?_, fun l hl' => ?_⟩, ⟨x1.cg (hC _ (by omega) (by omega)) (hC _ (by omega) (by omega)) (hmc 15 (by omega)) (hm0 32 (by omega)), x2.cg (hC _ (by omega) (by omega)) (hC _ (by omega) (by omega)) (hmc 17 (by omega)) (hm0 36 (by omega)), x3.cg (hC _ (by omega) (by omega)) (hC _ (by omega) (by omega)) (hmc 16 (by omega)) (hm0 33 (by omega))⟩, ⟨h12, h13, by rw [c3]; exact h14, by rw [c3]; exact h15, (hm0 18 (by omega)).trans h16⟩⟩
  · show ∃ n, n ≤ 20 ∧ I' (p + 6) l = nI n
    rw [hC (p + 6) (by omega) (by omega)]
    exact h10 l hl'
  · show ∃ n, n ≤ 20 ∧ I' (p2 + 6) l = nI n
    rw [hC (p2 + 6) (by omega) (by omega)]
    exact h11 l hl'
end W23
section Q23
variable {Γ : Gam} {k xo mo ol : Nat} {T : JT} {R S : JR} {I : JI} {L : JL}
theorem st_append (hw : Wd Γ k xo mo T R S I L) (hk : k ≤ 599) (hol : mo + 18 ≤ ol) {x y z w v : Int32} : BSt Γ k xo mo ol 100 100 Y_X8_append Y_X9_append [.int x, .int y, .int z, .int w, .int v] [(0, 0)] T R S I L := by
  have hw0 := hw
  obtain ⟨p, p2, a, a2, u, nx, hl, hb, ha⟩ := hw
  have hps := hl.ps
  have hlt := hl.2.2.2
  obtain ⟨b, q, b1, b2, b3, b4_, b5⟩ := hb.1
  by_cases g : 1180 < q
  · refine BSt.q (n := 0) (t := 0) (v := -1) (w := -1) hw0 hol (fun D => by
      have h := ex_append_no (Γ := Γ) (d := 99) (T := T) (R := R) (S := S) (I := I) (C := sK I (xo + 1)) (F := I (xo + 1)) (L := L) (D := D) (z := none) hl.1.1 hl.1.2.2.2.1.1 hl.1.2.2.2.2.1 b2 g b1 (a := x) (c := y) (e := z) (g := w) (i := v)
      rw [st_sK0, blk_sKn] at h
      exact h.mono fun o M h9 => ⟨_, h9.1, rfl, h9.2⟩) (fun L' D' => by
      have h := ex_mappend_no (Γ := Γ) (d := 99) (T := T) (R := R) (S := S) (I := I) (A := sK I mo) (G := I mo) (L := L') (D := D') (z := none) hl.2.1 b3 g b1 (a := x) (c := y) (e := z) (g := w) (i := v)
      rw [st_sK0, blk_sKn, mB_w] at h
      exact h) (by decide) (fun _ => rfl)
  · intro D
    refine ⟨0, 0, nI (q + 4 + 4 + 4 + 4 + 4), fun S1 I1 L1 => S1 = S ∧ I1 = blk 2 I (xo + 1) (st (appC (sK I (xo + 1)) q x y z w v) 0 (w1 (I (xo + 1)) 2 (nI (q + 4 + 4 + 4 + 4 + 4)))) ∧ L1 = L, by decide, ?_, fun S1 I1 L1 L' D' h hL => ?_⟩
    · have h := ex_append_ok (Γ := Γ) (d := 99) (T := T) (R := R) (S := S) (I := I) (C := sK I (xo + 1)) (F := I (xo + 1)) (L := L) (D := D) (z := none) hl.1.1 hl.1.2.2.2.1.1 hl.1.2.2.2.2.1 b2 (by omega) (a := x) (c := y) (e := z) (g := w) (i := v)
      rw [st_sK0, blk_sKn] at h
      exact h.mono fun o M h9 => ⟨h9.1, _, _, _, h9.2, rfl, rfl, rfl⟩
    · obtain ⟨rfl, h1, rfl⟩ := h
      have o1 : ∀ b, (b < xo + 1 ∨ xo + 3 ≤ b) → I1 b = I b := fun b q2 => by rw [h1, blk_out (by omega)]
      have eA : sK I1 mo = sK I mo := funext fun c => o1 _ (by omega)
      have e0 : I1 mo = I mo := o1 _ (by omega)
      have h := ex_mappend_ok (Γ := Γ) (d := 99) (T := T) (R := R) (S := S1) (I := I1) (A := sK I1 mo) (G := I1 mo) (L := L') (D := D') (z := none) hl.2.1 (by rw [e0]; exact b3) (show q ≤ 1180 by omega) (a := x) (c := y) (e := z) (g := w) (i := v)
      rw [st_sK0, blk_sKn, eA, e0] at h
      refine h.mono fun o M2 h9 => ?_
      have o2 : ∀ b, b < mo → blk 18 I1 mo (st (appA (sK I mo) q x y z w v) 0 (w1 (w1 (I mo) 0 0) 2 (nI (q + 4 + 4 + 4 + 4 + 4)))) b = I1 b := fun b hb => blk_out (by omega)
      have m0 : ∀ j, j ≠ 0 → j ≠ 2 → blk 18 I1 mo (st (appA (sK I mo) q x y z w v) 0 (w1 (w1 (I mo) 0 0) 2 (nI (q + 4 + 4 + 4 + 4 + 4)))) mo j = I mo j := fun j q1 q2 => by rw [blk_0 (by decide), st_eq, w1_ne q2, w1_ne q1]
      have mc : ∀ c, 1 < c → c < 18 → blk 18 I1 mo (st (appA (sK I mo) q x y z w v) 0 (w1 (w1 (I mo) 0 0) 2 (nI (q + 4 + 4 + 4 + 4 + 4)))) (mo + c) = I (mo + c) := fun c q1 q2 => by
        rw [blk_k q2, st_ne (by omega), appA_c (by omega)]
        rfl
      have hCC : ∀ b, (b = xo ∨ xo + 3 ≤ b) → b < xo + 227 → blk 18 I1 mo (st (appA (sK I mo) q x y z w v) 0 (w1 (w1 (I mo) 0 0) 2 (nI (q + 4 + 4 + 4 + 4 + 4)))) b = I b := fun b q1 q2 => by rw [o2 _ (by omega)]; exact o1 b (by omega)
      have p1 : I1 (xo + 1) = w1 (I (xo + 1)) 2 (nI (q + 4 + 4 + 4 + 4 + 4)) := by rw [h1, blk_0 (by decide), st_eq]
      have p2' : I1 (xo + 1 + 1) = appC (sK I (xo + 1)) q x y z w v 1 := by rw [h1, blk_k (by decide), st_ne (by omega)]
      refine ⟨_, _, _, ⟨h9.1, fun _ => rfl⟩, h9.2, ⟨p, p2, a, a2, u, nx, hl, WB.ap hl hb (b := b20 b q x y z w v) (q := q + 4 + 4 + 4 + 4 + 4) (by omega) (fun b q1 q2 => by rw [o2 _ (by omega)]; exact o1 b (by omega)) ?_ ?_ ?_ ?_ (fun j hj => m0 j (by omega) (by omega)) ?_ ?_ (fun c hc => mc c (by omega) (by omega)), ?_⟩, ?_⟩
      · rw [o2 _ (by omega), p1, w1_ne (by omega)]
      · rw [o2 _ (by omega), p1, w1_ne (by omega)]
      · rw [o2 _ (by omega), p1, w1_eq]
      · rw [blk_0 (by decide), st_eq, w1_eq]
      · refine ⟨by omega, fun j hj => ?_⟩
        show blk 18 I1 mo _ (xo + 1 + 1) j = _ ∧ _
        rw [o2 _ (by omega), p2']
        exact (b4_.app (by omega)).2 j hj
      · refine ⟨by omega, fun j hj => ?_⟩
        show blk 18 I1 mo _ (mo + 1) j = _ ∧ _
        rw [blk_k (by decide), st_ne (by omega)]
        exact (b5.app (by omega)).2 j hj
      · rcases ha with ha | ha
        · exact Or.inl (ha.ap hl hCC (m0 19 (by omega) (by omega)) (fun c q1 q2 => mc c q1 (by omega)))
        · exact Or.inr (ha.tx hl hCC (fun i hi => m0 i (by omega) (by omega)) (fun c q1 q2 => mc c q1 (by omega)) (fun b q1 q2 => hL b (by omega)))
      · rw [blk_0 (by decide), st_eq, w1_ne (by omega), w1_eq]
end Q23
