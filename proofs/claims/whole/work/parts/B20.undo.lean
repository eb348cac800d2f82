/-! UNDO, SAVE, RESTORE: BOTH SIDES -/
theorem hx_5 : ∀ nx, nx < 6 → ∀ v, v < 6 → hx nx (v + 1) v = nxP nx := by decide
theorem hx_6 : ∀ nx, nx < 6 → ∀ v, v < 6 → ∀ i, i < v → hx (nxP nx) v i = hx nx (v + 1) i := by decide
theorem nxP_lt {nx : Nat} (h : nx < 6) : nxP nx < 6 := by unfold nxP; split <;> omega
section W20
variable {Γ : Gam} {k xo mo : Nat} {T : JT} {R S : JR} {I I' : JI} {L L' : JL} {p p2 a a2 u nx u' nx' nf : Nat}
theorem WB.cg2 (hl : WL Γ xo mo T R S p p2 a a2) (h : WB I xo mo p p2 u nx) (hC : ∀ b, b = xo + 1 ∨ b = xo + 2 ∨ b = p + 6 ∨ b = p2 + 6 ∨ (xo + 227 ≤ b ∧ b < xo + 233) → I' b = I b) (hm0 : ∀ j, j = 2 ∨ j = 5 ∨ j = 6 ∨ j = 25 ∨ j = 32 ∨ j = 33 ∨ j = 36 → I' mo j = I mo j) (hmc : ∀ c, c = 1 ∨ c = 15 ∨ c = 16 ∨ c = 17 → I' (mo + c) = I (mo + c)) (hu : u' ≤ 6 ∧ nx' < 6 ∧ I' (xo + 73) 0 = nI u' ∧ I' (xo + 73) 1 = nI nx' ∧ I' mo 18 = nI u') : WB I' xo mo p p2 u' nx' := by
  obtain ⟨⟨b, q, h1, h2, h3, h4, h5⟩, ⟨h6, h7⟩, ⟨bq, h8, h9⟩, ⟨h10, h11⟩, ⟨h12, h13, h14⟩, _⟩ := h
  have c1 := hC (xo + 1) (by omega)
  have c2 := hC (xo + 2) (by omega)
  refine ⟨⟨b, q, h1, by rw [c1]; exact h2, by rw [hm0 2 (by omega)]; exact h3, ⟨h4.1, fun j hj => ?_⟩, ⟨h5.1, fun j hj => ?_⟩⟩, ⟨by rw [c1, hm0 5 (by omega)]; exact h6, by rw [c1, hm0 6 (by omega)]; exact h7⟩, ⟨bq, h8, by rw [hm0 25 (by omega)]; exact h9⟩, ⟨fun l hl' => ?_, fun l hl' => ?_⟩, ⟨h12.cg (hC _ (by omega)) (hC _ (by omega)) (hmc 15 (by omega)) (hm0 32 (by omega)), h13.cg (hC _ (by omega)) (hC _ (by omega)) (hmc 17 (by omega)) (hm0 36 (by omega)), h14.cg (hC _ (by omega)) (hC _ (by omega)) (hmc 16 (by omega)) (hm0 33 (by omega))⟩, hu⟩
  · show I' (xo + 2) j = _ ∧ _
    rw [c2]
    exact h4.2 j hj
  · show I' (mo + 1) j = _ ∧ _
    rw [hmc 1 (by omega)]
    exact h5.2 j hj
  · show ∃ n, n ≤ 20 ∧ I' (p + 6) l = nI n
    rw [hC (p + 6) (by omega)]
    exact h10 l hl'
  · show ∃ n, n ≤ 20 ∧ I' (p2 + 6) l = nI n
    rw [hC (p2 + 6) (by omega)]
    exact h11 l hl'
/-- the now-state is another one; history and slots are there in part -/
theorem Wd.now (hl : WL Γ xo mo T R S p p2 a a2) (hb : WB I xo mo p p2 u nx) (ha : WA k I L xo mo p a u nx) (hn : nf ≤ 8) (h12 : I (mo + 2) 12 = nI nf)
    (hC : ∀ b, xo < b → b < xo + 233 → (b < a ∨ a + 19 ≤ b) → b ≠ xo + 73 → I' b = I b) (hx1 : ∀ j, I' xo j = I xo j) (hm0 : ∀ j, j = 2 ∨ j = 5 ∨ j = 6 ∨ j = 19 ∨ j = 25 ∨ j = 32 ∨ j = 33 ∨ j = 36 → I' mo j = I mo j) (hmc : ∀ c, 0 < c → c < 18 → c ≠ 4 → I' (mo + c) = I (mo + c)) (hu : u' ≤ 6 ∧ nx' < 6 ∧ I' (xo + 73) 0 = nI u' ∧ I' (xo + 73) 1 = nI nx' ∧ I' mo 18 = nI u') (hL : ∀ b, xo ≤ b → b < xo + 233 → b ≠ a → L' b = L b)
    (hS : SR k nf (I (mo + 2)) (sK I' a) (L' a 1) (I' (mo + 4))) (hh : ∀ i, i < u' → i < u ∧ hx nx' u' i = hx nx u i) : Wd Γ (k + 1) xo mo T R S I' L' := by
  have hps := hl.ps
  have hlt := hl.2.2.2
  obtain ⟨⟨w1, w2⟩, nf', H, hP, hS0, hH, hs0, hs1⟩ := ha
  have en : nf' = nf := nI_inj' (by have := hP.1.2.2.2.2.2.2; omega) (by omega) (hP.2.2.2.2.2.2.2.1.symm.trans h12)
  subst en
  have m2 := hmc 2 (by omega) (by omega) (by omega)
  have m7 := hmc 7 (by omega) (by omega) (by omega)
  have m8 := hmc 8 (by omega) (by omega) (by omega)
  have m9 := hmc 9 (by omega) (by omega) (by omega)
  refine ⟨p, p2, a, a2, u', nx', hl, hb.cg2 hl (fun b h => hC b (by omega) (by omega) (by omega) (by omega)) (fun j hj => hm0 j (by omega)) (fun c hc => hmc c (by omega) (by omega) (by omega)) hu, Or.inr ⟨⟨(hx1 1).trans w1, (hm0 19 (by omega)).trans w2⟩, nf', H, hP.cg (hm0 25 (by omega)) (fun c hc' => hC (p + c) (by omega) (by omega) (by omega) (by omega)) m2 (hmc 11 (by omega) (by omega) (by omega)) (hmc 12 (by omega) (by omega) (by omega)) (hmc 13 (by omega) (by omega) (by omega)) (hmc 14 (by omega) (by omega) (by omega)), ?_, fun i hi => ?_, hs0.cg (Nat.le_succ k) (fun c hc' => hC _ (by omega) (by omega) (by omega) (by omega)) (hL _ (by omega) (by omega) (by omega)) m2 m8 (hx1 9) (by rw [m9]), hs1.cg (Nat.le_succ k) (fun c hc' => hC _ (by omega) (by omega) (by omega) (by omega)) (hL _ (by omega) (by omega) (by omega)) m2 m8 (hx1 10) (by rw [m9])⟩⟩
  · rw [m2]
    exact hS.up (Nat.le_succ k)
  · obtain ⟨e1, e2⟩ := hh i hi
    have hi6 := hx_lt nx u i
    rw [m2, m7, e2, hL _ (by omega) (by omega) (by omega)]
    exact ((hH i e1).kag (eqv.kag fun c hc' => (hC _ (by omega) (by omega) (by omega) (by omega)).symm)).up (Nat.le_succ k)
theorem Wd.slot (hl : WL Γ xo mo T R S p p2 a a2) (hb : WB I xo mo p p2 u nx) (ha : WA k I L xo mo p a u nx) {q s : Nat} (hq : q < 2) (hs : s = xo + 189 + 19 * q)
    (hC : ∀ b, xo < b → b < xo + 233 → (b < s ∨ s + 19 ≤ b) → I' b = I b) (hx1 : ∀ j, j ≠ 9 + q → I' xo j = I xo j) (hx9 : I' xo (9 + q) = 1) (hs' : ∀ c, c < 19 → I' (s + c) = kCp (sK I s) (sK I a) c) (hm0 : ∀ j, j ≠ 0 → I' mo j = I mo j) (hmc : ∀ c, 0 < c → c < 18 → c ≠ 8 → c ≠ 9 → I' (mo + c) = I (mo + c)) (h8 : I' (mo + 8) = cpw (I (mo + 8)) (2086 * q) 2086 (I (mo + 4))) (h9 : ∀ j, I' (mo + 9) j = if j = q then 1 else I (mo + 9) j) (hL : ∀ b, xo ≤ b → b < xo + 233 → b ≠ s → L' b = L b) (hLs : L' s 1 = L a 1) : Wd Γ (k + 1) xo mo T R S I' L' := by
  have hps := hl.ps
  have hlt := hl.2.2.2
  obtain ⟨⟨w1, w2⟩, nf', H, hP, hS0, hH, hs0, hs1⟩ := ha
  have hn8 : nf' ≤ 8 := by have := hP.1.2.2.2.2.2.2; omega
  have m2 := hmc 2 (by omega) (by omega) (by omega) (by omega)
  have m4 := hmc 4 (by omega) (by omega) (by omega) (by omega)
  have m7 := hmc 7 (by omega) (by omega) (by omega) (by omega)
  have hnew : SR (k + 1) nf' (I' (mo + 2)) (sK I' s) (L' s 1) (fun j => I' (mo + 8) (2086 * q + j)) := by
    rw [hLs, m2]
    refine (((hS0.kag (kCp_kag (sK I s) _)).kag (eqv.kag fun c hc => (hs' c hc).symm)).ag (Y := fun j => I' (mo + 8) (2086 * q + j)) (fun j hj => ?_) hn8).up (Nat.le_succ k)
    show I' (mo + 8) (2086 * q + j) = I (mo + 4) j
    rw [h8]
    unfold cpw
    rw [if_pos ⟨by omega, by omega⟩, show 2086 * q + j - 2086 * q = j by omega]
  have hold : ∀ r s', r < 2 → r ≠ q → s' = xo + 189 + 19 * r → ∀ f g f' g', SlR k nf' I L mo s' f g r → f' = f → g' = g → SlR (k + 1) nf' I' L' mo s' f' g' r := by
    intro r s' hr hrq es f g f' g' h e1 e2
    rw [e1, e2]
    rcases h with h | ⟨h1, h2, h3⟩
    · exact Or.inl h
    · refine Or.inr ⟨h1, h2, ?_⟩
      rw [m2, hL s' (by omega) (by omega) (by omega)]
      refine ((h3.kag (eqv.kag fun c hc => (hC (s' + c) (by omega) (by omega) (by omega)).symm)).ag (Y := fun j => I' (mo + 8) (2086 * r + j)) (fun j hj => ?_) hn8).up (Nat.le_succ k)
      show I' (mo + 8) (2086 * r + j) = I (mo + 8) (2086 * r + j)
      rw [h8]
      unfold cpw
      rw [if_neg (by omega)]
  have hu := hb.2.2.2.2.2
  have c73 := hC (xo + 73) (by omega) (by omega) (by omega)
  refine ⟨p, p2, a, a2, u, nx, hl, hb.cg2 hl (fun b h => hC b (by omega) (by omega) (by omega)) (fun j hj => hm0 j (by omega)) (fun c hc => hmc c (by omega) (by omega) (by omega) (by omega)) ⟨hu.1, hu.2.1, by rw [c73]; exact hu.2.2.1, by rw [c73]; exact hu.2.2.2.1, (hm0 18 (by omega)).trans hu.2.2.2.2⟩, Or.inr ⟨⟨(hx1 1 (by omega)).trans w1, (hm0 19 (by omega)).trans w2⟩, nf', H, hP.cg (hm0 25 (by omega)) (fun c hc' => hC (p + c) (by omega) (by omega) (by omega)) m2 (hmc 11 (by omega) (by omega) (by omega) (by omega)) (hmc 12 (by omega) (by omega) (by omega) (by omega)) (hmc 13 (by omega) (by omega) (by omega) (by omega)) (hmc 14 (by omega) (by omega) (by omega) (by omega)), ?_, fun i hi => ?_, ?_⟩⟩
  · rw [m2, m4, hL a (by omega) (by omega) (by omega)]
    exact (hS0.kag (eqv.kag fun c hc => (hC _ (by omega) (by omega) (by omega)).symm)).up (Nat.le_succ k)
  · have hi6 := hx_lt nx u i
    rw [m2, m7, hL _ (by omega) (by omega) (by omega)]
    exact ((hH i hi).kag (eqv.kag fun c hc' => (hC _ (by omega) (by omega) (by omega)).symm)).up (Nat.le_succ k)
  · rcases (show q = 0 ∨ q = 1 by omega) with rfl | rfl
    · have es : s = xo + 189 := by omega
      subst es
      exact ⟨Or.inr ⟨hx9, by rw [h9, if_pos rfl], hnew⟩, hold 1 (xo + 208) (by omega) (by omega) (by omega) _ _ _ _ hs1 (hx1 10 (by omega)) (by rw [h9, if_neg (by omega)])⟩
    · have es : s = xo + 208 := by omega
      subst es
      exact ⟨hold 0 (xo + 189) (by omega) (by omega) (by omega) _ _ _ _ hs0 (hx1 9 (by omega)) (by rw [h9, if_neg (by omega)]), Or.inr ⟨hx9, by rw [h9, if_pos rfl], hnew⟩⟩
end W20
section Q20
variable {Γ : Gam} {k xo mo ol : Nat} {T : JT} {R S : JR} {I : JI} {L : JL}
theorem st_undo (hw : Wd Γ k xo mo T R S I L) (hk : k ≤ 599) (hol : mo + 18 ≤ ol) : BSt Γ k xo mo ol 100 100 Y_X8_undo Y_X9_undo [] [(0, 0), (1, 1)] T R S I L := by
  have hw0 := hw
  obtain ⟨p, p2, a, a2, u, nx, hl, hb, ha⟩ := hw
  obtain ⟨c, nf, nl, ln, hc⟩ := Wc ha
  obtain ⟨hair, hX, ⟨c1, c2, c3, c4⟩, ⟨f1, f2, f3⟩, ⟨l1, l2, l3⟩, ⟨n1, n2, n3⟩, mm, lw⟩ := hc
  have hh := hb.2.2.2.2.2
  have hps := hl.ps
  have hlt := hl.2.2.2
  obtain ⟨hu, hnx, hu0, hn0, hm18⟩ := hh
  cases u with
  | zero =>
    refine BSt.q (n := 1) (t := 1) (v := 0) (w := 0) hw0 hol (fun D => by
      have h := ex_undo_no (Γ := Γ) (d := 92) (T := T) (R := R) (S := S) (I := I) (K := sK I a) (L := L) (D := D) hl.1 hu0
      rw [blk_sK] at h
      exact h) (fun L' D' => by
      have h := ex_mundo_no (Γ := Γ) (d := 97) (T := T) (R := R) (S := S) (I := I) (A := sK I mo) (X := sK I mo 4) (L := L') (D := D') (z := none) hl.2.1 hm18
      rw [mB_self, mB_t] at h
      exact h) (by decide) (fun h => by cases h)
  | succ v =>
    have ha1 : WA k I L xo mo p a (v + 1) nx := ha.resolve_left fun g => by have := g.1.2.2; omega
    have ha2 := ha1
    obtain ⟨_, nf', H, hP', hS0, hH, _, _⟩ := ha1
    have en : nf' = nf := nI_inj' (by have := hP'.1.2.2.2.2.2.2; omega) (by omega) (hP'.2.2.2.2.2.2.2.1.symm.trans f3)
    subst en
    have hP6 := nxP_lt hnx
    intro D
    refine ⟨0, 0, nI v, fun S1 I1 L1 => S1 = S ∧ I1 = blk 19 (u2 (u2 I (xo + 73) 1 (nI (nxP nx))) (xo + 73) 0 (nI v)) a (kCp (sK I a) (sK I (xo + 73 + 2 + 19 * nxP nx))) ∧ L1 = u2 L a 1 (L (xo + 73 + 2 + 19 * nxP nx) 1), by decide, ?_, fun S1 I1 L1 L' D' h hL => ?_⟩
    · have h := ex_undo_ok (Γ := Γ) (d := 92) (T := T) (R := R) (S := S) (I := I) (K := sK I a) (L := L) (D := D) hl.1 hn0 hu0 hnx hu
      rw [blk_sK] at h
      exact h.mono fun o M1 h9 => ⟨h9.1, S, _, _, h9.2, rfl, rfl, rfl⟩
    · obtain ⟨rfl, h1, h2⟩ := h
      have hi : ∀ b, xo + 233 ≤ b → I1 b = I b := fun b hb => by rw [h1, blk_out (by omega), u2_ne (by omega), u2_ne (by omega)]
      have eA : sK I1 mo = sK I mo := funext fun c => hi _ (by omega)
      have h := ex_mundo_ok (Γ := Γ) (d := 97) (T := T) (R := R) (S := S1) (I := I1) (A := sK I1 mo) (X := sK I1 mo 4) (L := L') (D := D') (z := none) hl.2.1 (v := v) (by rw [eA]; exact hm18) (by omega)
      rw [mB_self, eA] at h
      refine h.mono fun o M2 h9 => ?_
      have o' : ∀ b, b < xo + 233 → blk 18 I1 mo (st (u2 (tA (sK I mo) 0) 0 18 (nI v)) 4 (cpw (sK I mo 4) 0 2086 (fun k => sK I mo 7 (2086 * v + k)))) b = I1 b := fun b hb => blk_out (by omega)
      have A0 : ∀ j, j ≠ 18 → j ≠ 0 → (st (u2 (tA (sK I mo) 0) 0 18 (nI v)) 4 (cpw (sK I mo 4) 0 2086 (fun k => sK I mo 7 (2086 * v + k)))) 0 j = I mo j := fun j h1 h2 => by
        rw [st_ne (by omega), u2_ap, if_pos rfl, if_neg h1]
        show u2 (sK I mo) 0 0 0 0 j = _
        rw [u2_ap, if_pos rfl, if_neg h2]
        rfl
      have e73 : I1 (xo + 73) 0 = nI v ∧ I1 (xo + 73) 1 = nI (nxP nx) := by
        rw [h1, blk_out (by omega), u2_eq]
        exact ⟨if_pos rfl, by dsimp only; rw [if_neg (by omega), u2_eq]; exact if_pos rfl⟩
      have eka : eqv (kCp (sK I a) (sK I (xo + 73 + 2 + 19 * nxP nx))) (sK I1 a) := fun c hc => by
        rw [h1]
        exact (blk_k hc).symm
      refine ⟨_, _, _, ⟨h9.1, fun _ => rfl⟩, h9.2, Wd.now (u' := v) (nx' := nxP nx) hl hb ha2 f1 f3 (fun b q1 q2 q3 q4 => ?_) (fun j => ?_) (fun j hj => ?_) (fun c q0 q1 q4 => ?_) ⟨by omega, hP6, by rw [o' _ (by omega)]; exact e73.1, by rw [o' _ (by omega)]; exact e73.2, ?_⟩ (fun b q1 q2 q3 => ?_) ?_ (fun i hi => ⟨by omega, hx_6 nx hnx v (by omega) i hi⟩), ?_⟩
      · rw [o' b q2, h1, blk_out q3, u2_ne q4, u2_ne q4]
      · rw [o' _ (by omega), h1, blk_out (by omega), u2_ne (by omega), u2_ne (by omega)]
      · rw [blk_0 (by decide)]
        exact A0 j (by omega) (by omega)
      · rw [blk_k q1, st_ne q4, u2_ne (by omega)]
        show u2 (sK I mo) 0 0 0 c = _
        rw [u2_ne (by omega)]
        rfl
      · rw [blk_0 (by decide), st_ne (by omega), u2_ap, if_pos rfl, if_pos rfl]
      · rw [hL _ (by omega), h2, u2_ne q3]
      · have g := hH v (by omega)
        rw [hx_5 nx hnx v (by omega)] at g
        rw [blk_k (by decide), st_eq, hL _ (by omega), h2, show u2 L a 1 (L (xo + 73 + 2 + 19 * nxP nx) 1) a 1 = L (xo + 73 + 2 + 19 * nxP nx) 1 by rw [u2_ap, if_pos rfl, if_pos rfl]]
        refine ((g.kag (kCp_kag (sK I a) _)).kag (eqv.kag fun c hc => ?_)).ag (cpw_ag _ _) f1
        show _ = blk 18 I1 mo _ (a + c)
        rw [o' _ (by omega)]
        exact eka c hc
      · rw [blk_0 (by decide), st_ne (by omega), u2_ap, if_pos rfl, if_neg (by omega)]
        show u2 (sK I mo) 0 0 0 0 0 = _
        rw [u2_ap, if_pos rfl, if_pos rfl]
theorem st_restore (hw : Wd Γ k xo mo T R S I L) (hk : k ≤ 599) (hol : mo + 18 ≤ ol) {i : Int32} : BSt Γ k xo mo ol 100 100 Y_X8_restore Y_X9_restore [.int i] [(0, 0), (2, 1), (1, 2)] T R S I L := by
  have hw0 := hw
  obtain ⟨p, p2, a, a2, u, nx, hl, hb, ha⟩ := hw
  obtain ⟨c, nf, nl, ln, hc⟩ := Wc ha
  obtain ⟨hair, hX, ⟨c1, c2, c3, c4⟩, ⟨f1, f2, f3⟩, ⟨l1, l2, l3⟩, ⟨n1, n2, n3⟩, mm, lw⟩ := hc
  have hh := hb.2.2.2.2.2
  have hps := hl.ps
  have hlt := hl.2.2.2
  obtain ⟨hu, hnx, hu0, hn0, hm18⟩ := hh
  have rst0 : BSt Γ k xo mo ol 100 100 Y_X8_restore Y_X9_restore [.int (nI 0)] [(0, 0), (2, 1), (1, 2)] T R S I L := by
    have hC : ∀ D, _ := fun D => ex_restore0 (Γ := Γ) (d := 92) (T := T) (R := R) (S := S) (I := I) (K := sK I a) (L := L) (D := D) hl.1
    have hslot : (I xo 9 = 0 ∧ I (mo + 9) 0 = 0) ∨ (I xo 9 = 1 ∧ I (mo + 9) 0 = 1 ∧ I xo 1 = 1 ∧ SR k nf (I (mo + 2)) (sK I (xo + 189)) (L (xo + 189) 1) (fun j => I (mo + 8) (2086 * 0 + j))) := by
      rcases ha with ha | ha
      · exact Or.inl ⟨ha.2.1.1, ha.2.1.2.2.1⟩
      · obtain ⟨⟨w1, _⟩, nf', H, hP', hS0, hH, hs0, hs1⟩ := ha
        have en : nf' = nf := nI_inj' (by have := hP'.1.2.2.2.2.2.2; omega) (by omega) (hP'.2.2.2.2.2.2.2.1.symm.trans f3)
        subst en
        rcases hs0 with g | ⟨q1, q2, q3⟩
        · exact Or.inl g
        · exact Or.inr ⟨q1, q2, w1, q3⟩
    rcases hslot with ⟨s1, s2⟩ | ⟨s1, s2, s3, s4⟩
    · refine BSt.q (n := 1) (t := 2) (v := 0) (w := 0) hw0 hol (fun D => by
        have h := hC D
        rw [show eIdx (nI 0) 2 = 0 from rfl, if_pos s1, blk_sK] at h
        exact h) (fun L' D' => by
        have h := ex_mrestore_bad (Γ := Γ) (d := 97) (T := T) (R := R) (S := S) (I := I) (A := sK I mo) (X := sK I mo 4) (L := L') (D := D') (z := none) hl.2.1 (q := 0) (by omega) (by decide) s2
        rw [mB_self, mB_t] at h
        exact h) (by decide) (fun h => by cases h)
    · have ha2 := WA.of ha s3
      intro D
      refine ⟨0, 0, I (xo + 189) 0, fun S1 I1 L1 => S1 = S ∧ I1 = blk 19 (u2 I (xo + 73) 0 0) a (kCp (sK I a) (sK I (xo + 189))) ∧ L1 = u2 L a 1 (L (xo + 189) 1), by decide, ?_, fun S1 I1 L1 L' D' h hL => ?_⟩
      · have h := hC D
        rw [show eIdx (nI 0) 2 = 0 from rfl, if_neg (by rw [s1]; decide), blk_sK] at h
        refine h.mono fun o M1 h9 => ?_
        obtain ⟨w, h1, h2, h3⟩ := h9
        exact ⟨by rw [h1, h2]; rfl, S, _, _, h3, rfl, rfl, rfl⟩
      · obtain ⟨rfl, h1, h2⟩ := h
        have hi : ∀ b, xo + 233 ≤ b → I1 b = I b := fun b hb => by rw [h1, blk_out (by omega), u2_ne (by omega)]
        have eA : sK I1 mo = sK I mo := funext fun c => hi _ (by omega)
        have h := ex_mrestore_ok (Γ := Γ) (d := 97) (T := T) (R := R) (S := S1) (I := I1) (A := sK I1 mo) (X := sK I1 mo 4) (L := L') (D := D') (z := none) hl.2.1 (q := 0) (by omega) (by decide) (by rw [eA, show sK I mo 9 0 = 1 from s2]; decide)
        rw [mB_self, eA] at h
        refine h.mono fun o M2 h9 => ?_
        have o' : ∀ b, b < xo + 233 → blk 18 I1 mo (st (u2 (tA (sK I mo) 0) 0 18 0) 4 (cpw (sK I mo 4) 0 2086 (fun k => sK I mo 8 (2086 * 0 + k)))) b = I1 b := fun b hb => blk_out (by omega)
        have A0 : ∀ j, j ≠ 18 → j ≠ 0 → (st (u2 (tA (sK I mo) 0) 0 18 0) 4 (cpw (sK I mo 4) 0 2086 (fun k => sK I mo 8 (2086 * 0 + k)))) 0 j = I mo j := fun j h1 h2 => by
          rw [st_ne (by omega), u2_ap, if_pos rfl, if_neg h1]
          show u2 (sK I mo) 0 0 0 0 j = _
          rw [u2_ap, if_pos rfl, if_neg h2]
          rfl
        have eka : eqv (kCp (sK I a) (sK I (xo + 189))) (sK I1 a) := fun c hc => by
          rw [h1]
          exact (blk_k hc).symm
        have evq : sK I mo 8 (2086 * 0) = I (xo + 189) 0 := s4.1.clk.symm
        refine ⟨_, _, _, ⟨h9.1, fun _ => evq⟩, h9.2, Wd.now (u' := 0) (nx' := nx) hl hb ha2 f1 f3 (fun b q1 q2 q3 q4 => ?_) (fun j => ?_) (fun j hj => ?_) (fun c q0 q1 q4 => ?_) ⟨by omega, hnx, ?_, ?_, ?_⟩ (fun b q1 q2 q3 => ?_) ?_ (fun i hi => absurd hi (by omega)), ?_⟩
        · rw [o' b q2, h1, blk_out q3, u2_ne q4]
        · rw [o' _ (by omega), h1, blk_out (by omega), u2_ne (by omega)]
        · rw [blk_0 (by decide)]
          exact A0 j (by omega) (by omega)
        · rw [blk_k q1, st_ne q4, u2_ne (by omega)]
          show u2 (sK I mo) 0 0 0 c = _
          rw [u2_ne (by omega)]
          rfl
        · rw [o' _ (by omega), h1, blk_out (by omega), u2_eq]
          exact if_pos rfl
        · rw [o' _ (by omega), h1, blk_out (by omega), u2_eq]
          dsimp only
          rw [if_neg (by omega)]
          exact hn0
        · rw [blk_0 (by decide), st_ne (by omega), u2_ap, if_pos rfl, if_pos rfl]
          rfl
        · rw [hL _ (by omega), h2, u2_ne q3]
        · rw [blk_k (by decide), st_eq, hL _ (by omega), h2, show u2 L a 1 (L (xo + 189) 1) a 1 = L (xo + 189) 1 by rw [u2_ap, if_pos rfl, if_pos rfl]]
          refine ((s4.kag (kCp_kag (sK I a) _)).kag (eqv.kag fun c hc => ?_)).ag (cpw_ag _ _) f1
          show _ = blk 18 I1 mo _ (a + c)
          rw [o' _ (by omega)]
          exact eka c hc
        · rw [blk_0 (by decide), st_ne (by omega), u2_ap, if_pos rfl, if_neg (by omega)]
          show u2 (sK I mo) 0 0 0 0 0 = _
          rw [u2_ap, if_pos rfl, if_pos rfl]
  have rst1 : BSt Γ k xo mo ol 100 100 Y_X8_restore Y_X9_restore [.int (nI 1)] [(0, 0), (2, 1), (1, 2)] T R S I L := by
    have hC : ∀ D, _ := fun D => ex_restore1 (Γ := Γ) (d := 92) (T := T) (R := R) (S := S) (I := I) (K := sK I a) (L := L) (D := D) hl.1
    have hslot : (I xo 10 = 0 ∧ I (mo + 9) 1 = 0) ∨ (I xo 10 = 1 ∧ I (mo + 9) 1 = 1 ∧ I xo 1 = 1 ∧ SR k nf (I (mo + 2)) (sK I (xo + 208)) (L (xo + 208) 1) (fun j => I (mo + 8) (2086 * 1 + j))) := by
      rcases ha with ha | ha
      · exact Or.inl ⟨ha.2.1.2.1, ha.2.1.2.2.2⟩
      · obtain ⟨⟨w1, _⟩, nf', H, hP', hS0, hH, hs0, hs1⟩ := ha
        have en : nf' = nf := nI_inj' (by have := hP'.1.2.2.2.2.2.2; omega) (by omega) (hP'.2.2.2.2.2.2.2.1.symm.trans f3)
        subst en
        rcases hs1 with g | ⟨q1, q2, q3⟩
        · exact Or.inl g
        · exact Or.inr ⟨q1, q2, w1, q3⟩
    rcases hslot with ⟨s1, s2⟩ | ⟨s1, s2, s3, s4⟩
    · refine BSt.q (n := 1) (t := 2) (v := 0) (w := 0) hw0 hol (fun D => by
        have h := hC D
        rw [show eIdx (nI 1) 2 = 0 from rfl, if_pos s1, blk_sK] at h
        exact h) (fun L' D' => by
        have h := ex_mrestore_bad (Γ := Γ) (d := 97) (T := T) (R := R) (S := S) (I := I) (A := sK I mo) (X := sK I mo 4) (L := L') (D := D') (z := none) hl.2.1 (q := 1) (by omega) (by decide) s2
        rw [mB_self, mB_t] at h
        exact h) (by decide) (fun h => by cases h)
    · have ha2 := WA.of ha s3
      intro D
      refine ⟨0, 0, I (xo + 208) 0, fun S1 I1 L1 => S1 = S ∧ I1 = blk 19 (u2 I (xo + 73) 0 0) a (kCp (sK I a) (sK I (xo + 208))) ∧ L1 = u2 L a 1 (L (xo + 208) 1), by decide, ?_, fun S1 I1 L1 L' D' h hL => ?_⟩
      · have h := hC D
        rw [show eIdx (nI 1) 2 = 0 from rfl, if_neg (by rw [s1]; decide), blk_sK] at h
        refine h.mono fun o M1 h9 => ?_
        obtain ⟨w, h1, h2, h3⟩ := h9
        exact ⟨by rw [h1, h2]; rfl, S, _, _, h3, rfl, rfl, rfl⟩
      · obtain ⟨rfl, h1, h2⟩ := h
        have hi : ∀ b, xo + 233 ≤ b → I1 b = I b := fun b hb => by rw [h1, blk_out (by omega), u2_ne (by omega)]
        have eA : sK I1 mo = sK I mo := funext fun c => hi _ (by omega)
        have h := ex_mrestore_ok (Γ := Γ) (d := 97) (T := T) (R := R) (S := S1) (I := I1) (A := sK I1 mo) (X := sK I1 mo 4) (L := L') (D := D') (z := none) hl.2.1 (q := 1) (by omega) (by decide) (by rw [eA, show sK I mo 9 1 = 1 from s2]; decide)
        rw [mB_self, eA] at h
        refine h.mono fun o M2 h9 => ?_
        have o' : ∀ b, b < xo + 233 → blk 18 I1 mo (st (u2 (tA (sK I mo) 0) 0 18 0) 4 (cpw (sK I mo 4) 0 2086 (fun k => sK I mo 8 (2086 * 1 + k)))) b = I1 b := fun b hb => blk_out (by omega)
        have A0 : ∀ j, j ≠ 18 → j ≠ 0 → (st (u2 (tA (sK I mo) 0) 0 18 0) 4 (cpw (sK I mo 4) 0 2086 (fun k => sK I mo 8 (2086 * 1 + k)))) 0 j = I mo j := fun j h1 h2 => by
          rw [st_ne (by omega), u2_ap, if_pos rfl, if_neg h1]
          show u2 (sK I mo) 0 0 0 0 j = _
          rw [u2_ap, if_pos rfl, if_neg h2]
          rfl
        have eka : eqv (kCp (sK I a) (sK I (xo + 208))) (sK I1 a) := fun c hc => by
          rw [h1]
          exact (blk_k hc).symm
        have evq : sK I mo 8 (2086 * 1) = I (xo + 208) 0 := s4.1.clk.symm
        refine ⟨_, _, _, ⟨h9.1, fun _ => evq⟩, h9.2, Wd.now (u' := 0) (nx' := nx) hl hb ha2 f1 f3 (fun b q1 q2 q3 q4 => ?_) (fun j => ?_) (fun j hj => ?_) (fun c q0 q1 q4 => ?_) ⟨by omega, hnx, ?_, ?_, ?_⟩ (fun b q1 q2 q3 => ?_) ?_ (fun i hi => absurd hi (by omega)), ?_⟩
        · rw [o' b q2, h1, blk_out q3, u2_ne q4]
        · rw [o' _ (by omega), h1, blk_out (by omega), u2_ne (by omega)]
        · rw [blk_0 (by decide)]
          exact A0 j (by omega) (by omega)
        · rw [blk_k q1, st_ne q4, u2_ne (by omega)]
          show u2 (sK I mo) 0 0 0 c = _
          rw [u2_ne (by omega)]
          rfl
        · rw [o' _ (by omega), h1, blk_out (by omega), u2_eq]
          exact if_pos rfl
        · rw [o' _ (by omega), h1, blk_out (by omega), u2_eq]
          dsimp only
          rw [if_neg (by omega)]
          exact hn0
        · rw [blk_0 (by decide), st_ne (by omega), u2_ap, if_pos rfl, if_pos rfl]
          rfl
        · rw [hL _ (by omega), h2, u2_ne q3]
        · rw [blk_k (by decide), st_eq, hL _ (by omega), h2, show u2 L a 1 (L (xo + 208) 1) a 1 = L (xo + 208) 1 by rw [u2_ap, if_pos rfl, if_pos rfl]]
          refine ((s4.kag (kCp_kag (sK I a) _)).kag (eqv.kag fun c hc => ?_)).ag (cpw_ag _ _) f1
          show _ = blk 18 I1 mo _ (a + c)
          rw [o' _ (by omega)]
          exact eka c hc
        · rw [blk_0 (by decide), st_ne (by omega), u2_ap, if_pos rfl, if_neg (by omega)]
          show u2 (sK I mo) 0 0 0 0 0 = _
          rw [u2_ap, if_pos rfl, if_pos rfl]
  rcases in_n (c := 2) (by omega) i with ⟨j, j1, rfl, j3, j4⟩ | ⟨j3, j4⟩
  · have : j = 0 ∨ j = 1 := by omega
    rcases this with rfl | rfl
    · exact rst0
    · exact rst1
  · refine BSt.q (n := 2) (t := 1) (v := 0) (w := 0) hw0 hol (fun D => by
      have h := ex_restore_out (Γ := Γ) (d := 92) (T := T) (R := R) (S := S) (I := I) (K := sK I a) (L := L) (D := D) hl.1 (i := i) j4
      rw [show eIdx i 2 = 2 from j4, blk_sK] at h
      exact h) (fun L' D' => by
      have h := ex_mrestore_no (Γ := Γ) (d := 97) (T := T) (R := R) (S := S) (I := I) (A := sK I mo) (X := sK I mo 4) (L := L') (D := D') (z := none) hl.2.1 (b := i) (show inI i 0 1 = 0 from j3)
      rw [mB_self, mB_t] at h
      exact h) (by decide) (fun h => by cases h)
theorem st_save (hw : Wd Γ k xo mo T R S I L) (hk : k ≤ 599) (hol : mo + 18 ≤ ol) {i : Int32} : BSt Γ k xo mo ol 100 100 Y_X8_save Y_X9_save [.int i] [(0, 0), (1, 1), (2, 2)] T R S I L := by
  have hw0 := hw
  obtain ⟨p, p2, a, a2, u, nx, hl, hb, ha⟩ := hw
  obtain ⟨c, nf, nl, ln, hc⟩ := Wc ha
  obtain ⟨hair, hX, ⟨c1, c2, c3, c4⟩, ⟨f1, f2, f3⟩, ⟨l1, l2, l3⟩, ⟨n1, n2, n3⟩, mm, lw⟩ := hc
  have hps := hl.ps
  have hlt := hl.2.2.2
  have sv0 : BSt Γ k xo mo ol 100 100 Y_X8_save Y_X9_save [.int (nI 0)] [(0, 0), (1, 1), (2, 2)] T R S I L := by
    have hC : ∀ D, _ := fun D => ex_save0 (Γ := Γ) (d := 92) (T := T) (R := R) (S := S) (I := I) (K := sK I a) (L := L) (D := D) hl.1
    rcases gd_a hair with ⟨g1, g2⟩ | ⟨g1, g5, g2⟩
    · refine BSt.q (n := 1) (t := 1) (v := 0) (w := 0) hw0 hol (fun D => by
        have h := hC D
        rw [g1, blk_sK] at h
        exact h) (fun L' D' => by
        have h := ex_msave_no (Γ := Γ) (d := 97) (T := T) (R := R) (S := S) (I := I) (A := sK I mo) (X := sK I mo 4) (L := L') (D := D') (z := none) hl.2.1 (b := nI 0) (g2 _).2
        rw [mB_self, mB_t, (g2 _).1] at h
        exact h) (by decide) (fun h => by cases h)
    · have ha2 := WA.of ha g5
      have evq : sK I mo 4 0 = sK I a 0 0 := by
        obtain ⟨_, nf', H, hP', hS0, _⟩ := ha2
        exact hS0.1.clk.symm
      intro D
      refine ⟨0, 0, sK I a 0 0, fun S1 I1 L1 => S1 = S ∧ I1 = blk 19 (u2 (blk 19 I (xo + 189) (kCp (sK I (xo + 189)) (sK I a))) xo 9 1) a (sK I a) ∧ L1 = u2 L (xo + 189) 1 (L a 1), by decide, ?_, fun S1 I1 L1 L' D' h hL => ?_⟩
      · have h := hC D
        rw [g1, show eIdx (nI 0) 2 = 0 from rfl, blk_sK] at h
        refine h.mono fun o M1 h9 => ?_
        obtain ⟨w, h1, h2, h3⟩ := h9
        exact ⟨by rw [h1, h2]; rfl, S, _, _, h3, rfl, rfl, rfl⟩
      · obtain ⟨rfl, h1, h2⟩ := h
        have o1 : ∀ b, xo < b → (b < xo + 189 ∨ xo + 208 ≤ b) → I1 b = I b := fun b q1 q2 => by
          rw [h1]
          by_cases g : a ≤ b ∧ b < a + 19
          · obtain ⟨c, rfl⟩ : ∃ c, b = a + c := ⟨b - a, by omega⟩
            rw [blk_k (by omega)]
            rfl
          · rw [blk_out (by omega), u2_ne (by omega), blk_out (by omega)]
        have eA : sK I1 mo = sK I mo := funext fun c => o1 _ (by omega) (by omega)
        have h := ex_msave_ok (Γ := Γ) (d := 97) (T := T) (R := R) (S := S1) (I := I1) (A := sK I1 mo) (X := sK I1 mo 4) (L := L') (D := D') (z := none) hl.2.1 (q := 0) (by omega) (by rw [eA, show inI (nI 0) 0 1 = 1 from rfl, (g2 1).2]; decide)
        rw [mB_self, eA, show inI (nI 0) 0 1 = 1 from rfl, (g2 1).1, if_neg (show ¬ (1 : Int32) = 0 by decide)] at h
        refine h.mono fun o M2 h9 => ?_
        refine ⟨_, _, _, ⟨h9.1, fun _ => evq⟩, h9.2, Wd.slot (q := 0) (s := xo + 189) hl hb ha2 (by omega) (by omega) (fun b q1 q2 q3 => ?_) (fun j hj => ?_) ?_ (fun c hc => ?_) (fun j hj => ?_) (fun c q0 q1 q8 q9 => ?_) ?_ (fun j => ?_) (fun b q1 q2 q3 => ?_) ?_, ?_⟩
        · rw [blk_out (by omega)]
          exact o1 b q1 q3
        · rw [blk_out (by omega), h1, blk_out (by omega), u2_ap, if_pos rfl, if_neg hj, blk_out (by omega)]
        · rw [blk_out (by omega), h1, blk_out (by omega), u2_ap, if_pos rfl, if_pos rfl]
        · rw [blk_out (by omega), h1, blk_out (by omega), u2_ne (by omega), blk_k hc]
        · rw [blk_0 (by decide), st_ne (by omega), u2_ne (by omega), st_ne (by omega)]
          show u2 (sK I mo) 0 0 0 0 j = _
          rw [u2_ap, if_pos rfl, if_neg hj]
          rfl
        · rw [blk_k q1]
          by_cases g : c = 4
          · rw [g, st_eq]
            rfl
          · rw [st_ne g, u2_ne q9, st_ne q8]
            show u2 (sK I mo) 0 0 0 c = _
            rw [u2_ne (by omega)]
            rfl
        · rw [blk_k (by decide), st_ne (by omega), u2_ne (by omega), st_eq]
          rfl
        · rw [blk_k (by decide), st_ne (by omega), u2_ap, if_pos rfl]
          by_cases g : j = 0
          · rw [if_pos g, if_pos g]
          · rw [if_neg g, if_neg g, st_ne (by omega)]
            show u2 (sK I mo) 0 0 0 9 j = _
            rw [u2_ne (by omega)]
            rfl
        · rw [hL _ (by omega), h2, u2_ne q3]
        · rw [hL _ (by omega), h2, u2_ap, if_pos rfl, if_pos rfl]
        · rw [blk_0 (by decide), st_ne (by omega), u2_ne (by omega), st_ne (by omega)]
          show u2 (sK I mo) 0 0 0 0 0 = _
          rw [u2_ap, if_pos rfl, if_pos rfl]
  have sv1 : BSt Γ k xo mo ol 100 100 Y_X8_save Y_X9_save [.int (nI 1)] [(0, 0), (1, 1), (2, 2)] T R S I L := by
    have hC : ∀ D, _ := fun D => ex_save1 (Γ := Γ) (d := 92) (T := T) (R := R) (S := S) (I := I) (K := sK I a) (L := L) (D := D) hl.1
    rcases gd_a hair with ⟨g1, g2⟩ | ⟨g1, g5, g2⟩
    · refine BSt.q (n := 1) (t := 1) (v := 0) (w := 0) hw0 hol (fun D => by
        have h := hC D
        rw [g1, blk_sK] at h
        exact h) (fun L' D' => by
        have h := ex_msave_no (Γ := Γ) (d := 97) (T := T) (R := R) (S := S) (I := I) (A := sK I mo) (X := sK I mo 4) (L := L') (D := D') (z := none) hl.2.1 (b := nI 1) (g2 _).2
        rw [mB_self, mB_t, (g2 _).1] at h
        exact h) (by decide) (fun h => by cases h)
    · have ha2 := WA.of ha g5
      have evq : sK I mo 4 0 = sK I a 0 0 := by
        obtain ⟨_, nf', H, hP', hS0, _⟩ := ha2
        exact hS0.1.clk.symm
      intro D
      refine ⟨0, 0, sK I a 0 0, fun S1 I1 L1 => S1 = S ∧ I1 = blk 19 (u2 (blk 19 I (xo + 208) (kCp (sK I (xo + 208)) (sK I a))) xo 10 1) a (sK I a) ∧ L1 = u2 L (xo + 208) 1 (L a 1), by decide, ?_, fun S1 I1 L1 L' D' h hL => ?_⟩
      · have h := hC D
        rw [g1, show eIdx (nI 1) 2 = 0 from rfl, blk_sK] at h
        refine h.mono fun o M1 h9 => ?_
        obtain ⟨w, h1, h2, h3⟩ := h9
        exact ⟨by rw [h1, h2]; rfl, S, _, _, h3, rfl, rfl, rfl⟩
      · obtain ⟨rfl, h1, h2⟩ := h
        have o1 : ∀ b, xo < b → (b < xo + 208 ∨ xo + 227 ≤ b) → I1 b = I b := fun b q1 q2 => by
          rw [h1]
          by_cases g : a ≤ b ∧ b < a + 19
          · obtain ⟨c, rfl⟩ : ∃ c, b = a + c := ⟨b - a, by omega⟩
            rw [blk_k (by omega)]
            rfl
          · rw [blk_out (by omega), u2_ne (by omega), blk_out (by omega)]
        have eA : sK I1 mo = sK I mo := funext fun c => o1 _ (by omega) (by omega)
        have h := ex_msave_ok (Γ := Γ) (d := 97) (T := T) (R := R) (S := S1) (I := I1) (A := sK I1 mo) (X := sK I1 mo 4) (L := L') (D := D') (z := none) hl.2.1 (q := 1) (by omega) (by rw [eA, show inI (nI 1) 0 1 = 1 from rfl, (g2 1).2]; decide)
        rw [mB_self, eA, show inI (nI 1) 0 1 = 1 from rfl, (g2 1).1, if_neg (show ¬ (1 : Int32) = 0 by decide)] at h
        refine h.mono fun o M2 h9 => ?_
        refine ⟨_, _, _, ⟨h9.1, fun _ => evq⟩, h9.2, Wd.slot (q := 1) (s := xo + 208) hl hb ha2 (by omega) (by omega) (fun b q1 q2 q3 => ?_) (fun j hj => ?_) ?_ (fun c hc => ?_) (fun j hj => ?_) (fun c q0 q1 q8 q9 => ?_) ?_ (fun j => ?_) (fun b q1 q2 q3 => ?_) ?_, ?_⟩
        · rw [blk_out (by omega)]
          exact o1 b q1 q3
        · rw [blk_out (by omega), h1, blk_out (by omega), u2_ap, if_pos rfl, if_neg hj, blk_out (by omega)]
        · rw [blk_out (by omega), h1, blk_out (by omega), u2_ap, if_pos rfl, if_pos rfl]
        · rw [blk_out (by omega), h1, blk_out (by omega), u2_ne (by omega), blk_k hc]
        · rw [blk_0 (by decide), st_ne (by omega), u2_ne (by omega), st_ne (by omega)]
          show u2 (sK I mo) 0 0 0 0 j = _
          rw [u2_ap, if_pos rfl, if_neg hj]
          rfl
        · rw [blk_k q1]
          by_cases g : c = 4
          · rw [g, st_eq]
            rfl
          · rw [st_ne g, u2_ne q9, st_ne q8]
            show u2 (sK I mo) 0 0 0 c = _
            rw [u2_ne (by omega)]
            rfl
        · rw [blk_k (by decide), st_ne (by omega), u2_ne (by omega), st_eq]
          rfl
        · rw [blk_k (by decide), st_ne (by omega), u2_ap, if_pos rfl]
          by_cases g : j = 1
          · rw [if_pos g, if_pos g]
          · rw [if_neg g, if_neg g, st_ne (by omega)]
            show u2 (sK I mo) 0 0 0 9 j = _
            rw [u2_ne (by omega)]
            rfl
        · rw [hL _ (by omega), h2, u2_ne q3]
        · rw [hL _ (by omega), h2, u2_ap, if_pos rfl, if_pos rfl]
        · rw [blk_0 (by decide), st_ne (by omega), u2_ne (by omega), st_ne (by omega)]
          show u2 (sK I mo) 0 0 0 0 0 = _
          rw [u2_ap, if_pos rfl, if_pos rfl]
  rcases in_n (c := 2) (by omega) i with ⟨j, j1, rfl, j3, j4⟩ | ⟨j3, j4⟩
  · have : j = 0 ∨ j = 1 := by omega
    rcases this with rfl | rfl
    · exact sv0
    · exact sv1
  · have hC : ∀ D, _ := fun D => ex_save_out (Γ := Γ) (d := 92) (T := T) (R := R) (S := S) (I := I) (K := sK I a) (L := L) (D := D) hl.1 (i := i) j4
    rcases gd_a hair with ⟨g1, g2⟩ | ⟨g1, g5, g2⟩
    · refine BSt.q (n := 1) (t := 1) (v := 0) (w := 0) hw0 hol (fun D => by
        have h := hC D
        rw [g1, blk_sK] at h
        exact h) (fun L' D' => by
        have h := ex_msave_no (Γ := Γ) (d := 97) (T := T) (R := R) (S := S) (I := I) (A := sK I mo) (X := sK I mo 4) (L := L') (D := D') (z := none) hl.2.1 (b := i) (g2 _).2
        rw [mB_self, mB_t, (g2 _).1] at h
        exact h) (by decide) (fun h => by cases h)
    · refine BSt.q (n := 2) (t := 2) (v := 0) (w := 0) hw0 hol (fun D => by
        have h := hC D
        rw [g1, blk_sK] at h
        exact h) (fun L' D' => by
        have h := ex_msave_no (Γ := Γ) (d := 97) (T := T) (R := R) (S := S) (I := I) (A := sK I mo) (X := sK I mo 4) (L := L') (D := D') (z := none) hl.2.1 (b := i) (by rw [show inI i 0 1 = 0 from j3, (g2 0).2, if_pos rfl])
        rw [mB_self, mB_t, show inI i 0 1 = 0 from j3, (g2 0).1, if_pos rfl] at h
        exact h) (by decide) (fun h => by cases h)
end Q20
