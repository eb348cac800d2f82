/-! THE LAW FROM ITS START -/
section C17
variable {Γ : Gam} {E : JE} {Zf : List Frame → Array Value → State → State → Prop} {cells slots pc ix d mc ms q z0 : Nat} {vl : List (Option Value)} {rest : List Value} {M : JM} {y : JY} {T : JT} {R S : JR} {I : JI} {L : JL} {D : JD}
theorem jj_Rep.none {H : Heap} {z : Option Nat} (h : jj_Rep Γ (T, R, S, I, L, D, z) H) : jj_Rep Γ (T, R, S, I, L, D, none) H := ⟨fun _ hz => (by cases hz), h.2⟩
theorem jj_z0 {z : Option Nat} (kk : JJ Γ E Zf room_1 cells slots pc vl rest (T, R, S, I, L, D, none)) : JJ Γ E Zf room_1 cells slots pc vl rest (T, R, S, I, L, D, z) := by
  intro p l e s m args below meth c H locs ls C hR hlo hl
  exact kk p l e s m args below meth c H locs ls C hR.none hlo hl
theorem lI0 {a : Nat} {G : JM → Prop} (hd : decode E.2.1 pc = .ok (.invokespecial ix, 3)) (hy : YOK y 0) (hm : MLI E.1 ix y) (hx : Ex Γ 100 y [.ref a] M mc ms (rG G)) (hk : Nat.ble y.2.2.1 21 = true) (hrt : Nat.ble (rest.map fun v => v.category).sum 8 = true) (hq : pc + 3 = q) (hc : cells + mc ≤ 601024) (hs : slots + ms ≤ 7293034) (kk : ∀ M', G M' → JJ Γ E Zf room_1 (cells + mc) (slots + ms) q vl rest M') : JJ Γ E Zf room_1 cells slots pc vl (.ref a :: rest) M := by
  subst hq
  exact jj_callI (as := []) (rest := rest) hd hy hm hx (fun X M' h => by cases h.1) rfl (Nat.le_of_ble_eq_true hrt) ⟨by decide, by have := Nat.le_of_ble_eq_true hk; show _ ≤ 84000; omega⟩ ⟨hc, hs⟩ (fun v M' h => by cases h.1; exact kk M' h.2)
theorem hMo_cg {T2 : JT} {a : Nat} (h : hMo T S a) (hT : ∀ k, k < 18 → T2 (a + k) = T (a + k)) : hMo T2 S a := ⟨fun k q hq => by rw [hT k (List.getElem?_eq_some_iff.mp hq).1]; exact h.1 k q hq, h.2⟩
/-- the whole law: two new objects, two arrays, the loop -/
theorem lw_all {N : Nat} (hN : Γ.sc.2.1 = N) (hN2 : N ≤ 3072) (hF : Fre R S I L D z0) (hend : ∀ c2 s2 vl M, c2 ≤ 601024 → s2 ≤ 7293034 → JJ Γ EL Zf room_1 c2 s2 3617 vl [] M) : JJ Γ EL Zf room_1 0 0 0 [some (.ref Γ.sc.1), none, none, none, none, none, none, none] [] (T, R, S, I, L, D, some z0) := by
  refine jj_new (q := 3) (ci := 7) (z1 := z0 + 1) dL_law_0 (by decide) kq_L_8 ki_7 kn_7 hF ⟨by decide, by decide⟩ rfl rfl ?_
  refine jj_dup (q := 4) dL_law_3 rfl rfl ?_
  refine lI0 (q := 7) dL_law_4 yk_X8_init ml_L_176 (ex_x8_init (d := 96) u1_eq hF) rfl rfl rfl (by decide) (by decide) (fun M' h => ?_)
  obtain ⟨T1, R1, S1, rfl, hX, hT1, hR1, hS1⟩ := h
  refine jj_astore_n (q := 8) dL_law_7 rfl (by decide) rfl ?_
  have hF1 : Fre R1 S1 (u2 I (z0 + 1) 1 (-1)) L D (z0 + 233) := ⟨fun b hb => by rw [hR1 b (Or.inr hb)]; exact hF.1 b (by omega), fun b hb => by rw [hS1 b (by omega)]; exact hF.2.1 b (by omega), fun b hb => by rw [u2_ne (by omega)]; exact hF.2.2.1 b (by omega), fun b hb => hF.2.2.2.1 b (by omega), fun b hb => hF.2.2.2.2 b (by omega)⟩
  refine jj_new (q := 11) (ci := 8) (z1 := z0 + 233 + 1) dL_law_8 (by decide) kq_L_177 ki_8 kn_8 hF1 ⟨by decide, by decide⟩ rfl rfl ?_
  refine jj_dup (q := 12) dL_law_11 rfl rfl ?_
  refine lI0 (q := 15) dL_law_12 yk_X9_init ml_L_179 (ex_x9_init (d := 99) u1_eq hF1) rfl rfl rfl (by decide) (by decide) (fun M' h => ?_)
  obtain ⟨T2, R2, S2, rfl, hm, hv, hT2, hR2, hS2⟩ := h
  refine jj_astore_n (q := 16) dL_law_15 rfl (by decide) rfl ?_
  have hF2 : Fre R2 S2 (u2 (u2 I (z0 + 1) 1 (-1)) (z0 + 233) 6 (-1)) L D (z0 + 233 + 18) := ⟨fun b hb => by rw [hR2 b (by omega)]; exact hF1.1 b (by omega), fun b hb => by rw [hS2 b (by omega)]; exact hF1.2.1 b (by omega), fun b hb => by rw [u2_ne (by omega)]; exact hF1.2.2.1 b (by omega), fun b hb => hF1.2.2.2.1 b (by omega), fun b hb => hF1.2.2.2.2 b (by omega)⟩
  refine jj_iconst (v := 1) (q := 17) dL_law_16 rfl rfl ?_
  refine jj_newJ (N := 1) (q := 19) (z1 := z0 + 233 + 18 + 1) dL_law_17 hF2 ka_long (by decide) (by decide) rfl ⟨by decide, by decide⟩ rfl rfl ?_
  refine jj_astore_n (q := 20) dL_law_19 rfl (by decide) rfl ?_
  refine jj_iconst (v := 1) (q := 21) dL_law_20 rfl rfl ?_
  refine jj_newD (N := 1) (q := 23) (z1 := z0 + 233 + 18 + 1 + 1) dL_law_21 (hF2.up (by omega)) ka_double (by decide) (by decide) rfl ⟨by decide, by decide⟩ rfl rfl ?_
  refine jj_astore (q := 25) dL_law_23 (by decide) rfl ?_
  refine jj_iconst (v := 0) (q := 26) dL_law_25 rfl rfl ?_
  refine jj_istore (q := 28) dL_law_26 (by decide) rfl ?_
  refine jj_z0 ?_
  have e3 : ∀ c, c < z0 + 233 + 18 → u1 (u1 T2 (z0 + 233 + 18) (some (.inr (.long, 1)))) (z0 + 233 + 18 + 1) (some (.inr (.double, 1))) c = T2 c := fun c hc => by rw [u1_ne (by omega), u1_ne (by omega)]
  have hw : Wd Γ 0 z0 (z0 + 233) (u1 (u1 T2 (z0 + 233 + 18) (some (.inr (.long, 1)))) (z0 + 233 + 18 + 1) (some (.inr (.double, 1)))) R2 S2 (u2 (u2 I (z0 + 1) 1 (-1)) (z0 + 233) 6 (-1)) L := by
    refine Wd.new (hX.cg (fun b h1 h2 => ?_) (fun b h1 h2 => hR2 b (by omega)) (hS2 z0 (by omega))) (hMo_cg hm (fun k hk => e3 _ (by omega))) hv (Nat.le_refl _) (fun b h1 h2 h3 => ?_) (fun j => ?_) (fun j => ?_)
    · rw [e3 b (by omega), hT2 b (Or.inl h2), u1_ne (by omega)]
    · rw [u2_ne h3, u2_ne h2]
      exact hF.2.2.1 b h1
    · rw [u2_ne (by omega), u2_ap, if_pos rfl, hF.2.2.1 (z0 + 1) (by omega)]
    · rw [u2_ap, if_pos rfl, u2_ne (by omega), hF.2.2.1 (z0 + 233) (by omega)]
  exact lw_lp (b := z0 + 233 + 18) hN hN2 (by omega) (by rw [u1_ne (by omega), u1_eq]) u1_eq hend N 0 _ _ _ _ _ _ none none (by omega) (by omega) (by decide) (by decide) hw
end C17
