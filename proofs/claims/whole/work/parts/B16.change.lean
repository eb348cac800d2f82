/-! CHANGES, BOTH SIDES: the history -/
theorem hx_1 : ∀ nx, nx < 6 → ∀ u, u < 6 → ∀ i, i < u → hx (nxN nx) (u + 1) i = hx nx u i ∧ hx nx u i ≠ nx := by decide
theorem hx_2 : ∀ nx, nx < 6 → ∀ u, u < 6 → hx (nxN nx) (u + 1) u = nx := by decide
theorem hx_3 : ∀ nx, nx < 6 → ∀ i, i < 5 → hx (nxN nx) 6 i = hx nx 6 (i + 1) ∧ hx nx 6 (i + 1) ≠ nx := by decide
theorem hx_4 : ∀ nx, nx < 6 → hx (nxN nx) 6 5 = nx := by decide
theorem nxN_lt {nx : Nat} (h : nx < 6) : nxN nx < 6 := by unfold nxN; split <;> omega
section W16
variable {Γ : Gam} {k xo mo ol dc dm : Nat} {T : JT} {R S : JR} {I I2 : JI} {L L2 : JL} {p p2 a a2 u nx nf : Nat} {K' : JI} {r' : Int64} {X' : JV}
theorem Wd.rem (hl : WL Γ xo mo T R S p p2 a a2) (hb : WB I xo mo p p2 u nx) (ha : WA k I L xo mo p a u nx) (hn : nf ≤ 8) (h12 : I (mo + 2) 12 = nI nf)
    (hC : ∀ b, xo ≤ b → b < xo + 233 → (b < xo + 73 + 2 + 19 * nx ∨ xo + 73 + 2 + 19 * nx + 19 ≤ b) → (b < a ∨ a + 19 ≤ b) → b ≠ xo + 73 → b ≠ p + 15 → I2 b = I b)
    (hR : ∀ c, c < 19 → I2 (xo + 73 + 2 + 19 * nx + c) = kCp (sK I (xo + 73 + 2 + 19 * nx)) (sK I a) c) (h73 : I2 (xo + 73) 0 = nI (szN u) ∧ I2 (xo + 73) 1 = nI (nxN nx)) (hK : ∀ c, c < 19 → I2 (a + c) = K' c)
    (hLr : L2 (xo + 73 + 2 + 19 * nx) 1 = L a 1) (hLa : L2 a 1 = r') (hL : ∀ b, xo ≤ b → b < xo + 233 → b ≠ a → b ≠ xo + 73 + 2 + 19 * nx → L2 b = L b)
    (hm0 : ∀ j, j = 2 ∨ j = 5 ∨ j = 6 ∨ j = 19 ∨ j = 25 ∨ j = 32 ∨ j = 33 ∨ j = 36 → I2 mo j = I mo j) (h18 : I2 mo 18 = nI (remU u)) (h7 : I2 (mo + 7) = remH (I (mo + 7)) (I (mo + 4)) u) (h4 : I2 (mo + 4) = X') (hmc : ∀ c, 0 < c → c < 18 → c ≠ 3 → c ≠ 4 → c ≠ 5 → c ≠ 6 → c ≠ 7 → I2 (mo + c) = I (mo + c)) (hS' : SR (k + 1) nf (I (mo + 2)) K' r' X') : Wd Γ (k + 1) xo mo T R S I2 L2 := by
  have hps := hl.ps
  have hlt := hl.2.2.2
  obtain ⟨⟨b, q, h1, h2, h3, h4', h5⟩, ⟨h6, h7'⟩, ⟨bq, h8, h9⟩, ⟨h10, h11⟩, ⟨h12', h13, h14⟩, hu, hnx, h17, h18', h19⟩ := hb
  obtain ⟨⟨w1, w2⟩, nf', H, hP, hS, hH, hs0, hs1⟩ := ha
  have en : nf' = nf := nI_inj' (by have := hP.1.2.2.2.2.2.2; omega) (by omega) (hP.2.2.2.2.2.2.2.1.symm.trans h12)
  subst en
  have c1 := hC (xo + 1) (by omega) (by omega) (by omega) (by omega) (by omega) (by omega)
  have c2 := hC (xo + 2) (by omega) (by omega) (by omega) (by omega) (by omega) (by omega)
  have cx := hC xo (by omega) (by omega) (by omega) (by omega) (by omega) (by omega)
  have m2 := hmc 2 (by omega) (by omega) (by omega) (by omega) (by omega) (by omega) (by omega)
  have m8 := hmc 8 (by omega) (by omega) (by omega) (by omega) (by omega) (by omega) (by omega)
  have m9 := hmc 9 (by omega) (by omega) (by omega) (by omega) (by omega) (by omega) (by omega)
  have eu : remU u = szN u := by unfold remU szN; split <;> split <;> omega
  refine ⟨p, p2, a, a2, szN u, nxN nx, hl, ⟨⟨b, q, h1, by rw [c1]; exact h2, by rw [hm0 2 (by omega)]; exact h3, ⟨h4'.1, fun j hj => ?_⟩, ⟨h5.1, fun j hj => ?_⟩⟩, ⟨by rw [c1, hm0 5 (by omega)]; exact h6, by rw [c1, hm0 6 (by omega)]; exact h7'⟩, ⟨bq, h8, by rw [hm0 25 (by omega)]; exact h9⟩, ⟨fun l hl' => ?_, fun l hl' => ?_⟩, ⟨h12'.cg (hC _ (by omega) (by omega) (by omega) (by omega) (by omega) (by omega)) (hC _ (by omega) (by omega) (by omega) (by omega) (by omega) (by omega)) (hmc 15 (by omega) (by omega) (by omega) (by omega) (by omega) (by omega) (by omega)) (hm0 32 (by omega)), h13.cg (hC _ (by omega) (by omega) (by omega) (by omega) (by omega) (by omega)) (hC _ (by omega) (by omega) (by omega) (by omega) (by omega) (by omega)) (hmc 17 (by omega) (by omega) (by omega) (by omega) (by omega) (by omega) (by omega)) (hm0 36 (by omega)), h14.cg (hC _ (by omega) (by omega) (by omega) (by omega) (by omega) (by omega)) (hC _ (by omega) (by omega) (by omega) (by omega) (by omega) (by omega)) (hmc 16 (by omega) (by omega) (by omega) (by omega) (by omega) (by omega) (by omega)) (hm0 33 (by omega))⟩, by unfold szN; split <;> omega, nxN_lt hnx, h73.1, h73.2, by rw [h18, eu]⟩, Or.inr ⟨⟨by rw [cx]; exact w1, by rw [hm0 19 (by omega)]; exact w2⟩, nf', H, hP.cg (hm0 25 (by omega)) (fun c hc' => hC (p + c) (by omega) (by omega) (by omega) (by omega) (by omega) (by omega)) m2 (hmc 11 (by omega) (by omega) (by omega) (by omega) (by omega) (by omega) (by omega)) (hmc 12 (by omega) (by omega) (by omega) (by omega) (by omega) (by omega) (by omega)) (hmc 13 (by omega) (by omega) (by omega) (by omega) (by omega) (by omega) (by omega)) (hmc 14 (by omega) (by omega) (by omega) (by omega) (by omega) (by omega) (by omega)), ?_, ?_, hs0.cg (Nat.le_succ k) (fun c hc' => hC _ (by omega) (by omega) (by omega) (by omega) (by omega) (by omega)) (hL _ (by omega) (by omega) (by omega) (by omega)) m2 m8 (by rw [cx]) (by rw [m9]), hs1.cg (Nat.le_succ k) (fun c hc' => hC _ (by omega) (by omega) (by omega) (by omega) (by omega) (by omega)) (hL _ (by omega) (by omega) (by omega) (by omega)) m2 m8 (by rw [cx]) (by rw [m9])⟩⟩
  · show I2 (xo + 2) j = _ ∧ _
    rw [c2]
    exact h4'.2 j hj
  · show I2 (mo + 1) j = _ ∧ _
    rw [hmc 1 (by omega) (by omega) (by omega) (by omega) (by omega) (by omega) (by omega)]
    exact h5.2 j hj
  · show ∃ n, n ≤ 20 ∧ I2 (p + 6) l = nI n
    rw [hC (p + 6) (by omega) (by omega) (by omega) (by omega) (by omega) (by omega)]
    exact h10 l hl'
  · show ∃ n, n ≤ 20 ∧ I2 (p2 + 6) l = nI n
    rw [hC (p2 + 6) (by omega) (by omega) (by omega) (by omega) (by omega) (by omega)]
    exact h11 l hl'
  · rw [m2, hLa, h4]
    exact hS'.kag (eqv.kag fun c hc' => (hK c hc').symm)
  · intro i hi
    rw [m2]
    have hold : ∀ i', i' < u → hx nx u i' ≠ nx → SR (k + 1) nf' (I (mo + 2)) (sK I2 (xo + 73 + 2 + 19 * hx nx u i')) (L2 (xo + 73 + 2 + 19 * hx nx u i') 1) (fun j => I (mo + 7) (2086 * i' + j)) := fun i' hi' hne => by
      have hlt6 := hx_lt nx u i'
      have g := (hH i' hi').up (Nat.le_succ k)
      rw [hL _ (by omega) (by omega) (by omega) (by omega)]
      exact g.kag (eqv.kag fun c hc' => (hC _ (by omega) (by omega) (by omega) (by omega) (by omega) (by omega)).symm)
    have hnew : SR (k + 1) nf' (I (mo + 2)) (sK I2 (xo + 73 + 2 + 19 * nx)) (L2 (xo + 73 + 2 + 19 * nx) 1) (I (mo + 4)) := by
      rw [hLr]
      exact ((hS.kag (kCp_kag _ _)).kag (eqv.kag fun c hc' => (hR c hc').symm)).up (Nat.le_succ k)
    rw [h7]
    unfold remH
    by_cases h6u : u = 6
    · subst h6u
      rw [show szN 6 = 6 from rfl] at hi ⊢
      rw [if_pos rfl]
      by_cases e5 : i = 5
      · subst e5
        rw [hx_4 nx hnx]
        exact hnew.ag (fun j hj => by unfold cpw; rw [if_pos (by omega), show 2086 * 5 + j - 10430 = j by omega]) hn
      · obtain ⟨e1, e2⟩ := hx_3 nx hnx i (by omega)
        rw [e1]
        refine (hold (i + 1) (by omega) e2).ag (fun j hj => ?_) hn
        show cpw (shH (I (mo + 7)) 10430) 10430 2086 (I (mo + 4)) (2086 * i + j) = I (mo + 7) (2086 * (i + 1) + j)
        unfold cpw shH
        rw [if_neg (by omega), if_pos (by omega), show 2086 * i + j + 2086 = 2086 * (i + 1) + j by omega]
    · rw [if_neg h6u]
      have eu6 : szN u = u + 1 := by unfold szN; rw [if_pos (by omega)]
      rw [eu6] at hi ⊢
      by_cases ei : i = u
      · subst ei
        rw [hx_2 nx hnx i (by omega)]
        exact hnew.ag (fun j hj => by unfold cpw; rw [if_pos (by omega), Nat.add_sub_cancel_left]) hn
      · obtain ⟨e1, e2⟩ := hx_1 nx hnx u (by omega) i (by omega)
        rw [e1]
        refine (hold i (by omega) e2).ag (fun j hj => ?_) hn
        show cpw (I (mo + 7)) (2086 * u) 2086 (I (mo + 4)) (2086 * i + j) = I (mo + 7) (2086 * i + j)
        unfold cpw
        rw [if_neg (by omega)]
end W16
