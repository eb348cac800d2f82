/-! THE THREE TEXTS, BOTH SIDES -/
section W22
variable {Γ : Gam} {k xo mo ol dc dm : Nat} {T : JT} {R S S' : JR} {I I' : JI} {L L' : JL} {p p2 a a2 u nx t n kk c j : Nat} {yc ym : JY} {al : List (Nat × Int32)} {l : List Nat} {A A' : JI} {X : JV}
theorem blk_sKn (n : Nat) (I : JI) (x : Nat) : blk n I x (sK I x) = I := by
  funext b i
  unfold blk
  split
  · next h =>
    show I (x + (b - x)) i = I b i
    rw [show x + (b - x) = b by omega]
  · rfl
theorem hXo.txq (h : hXo T R S xo p p2 a a2) (I : JI) (ht : xo + 227 ≤ t) (hT : hTx T R t n) (hS : S xo kk = some t) (hn : n < 2 ^ 30) : cT T R S I xo a p t n kk (I xo) (sK I p) := by
  have hps := h.ps
  exact ⟨fun B => ⟨⟨h.1, h.2.2.2.1.2.1, h.2.2.2.1.2.2.2.1⟩, ⟨h.ha, h.hp⟩, ⟨by omega, by omega⟩, blk_out (by omega), fun k hk => blk_out (by omega)⟩, hT, by omega, hS, hn⟩
theorem WL.s31 (hl : WL Γ xo mo T R S p p2 a a2) {x : Option Nat} : WL Γ xo mo T R (u2 S mo 31 x) p p2 a a2 := by
  have hlt := hl.2.2.2
  refine ⟨⟨hl.1.1, hl.1.2.1, hl.1.2.2.1, ?_, hl.1.2.2.2.2⟩, hl.2.1.out, hl.2.2.1, hl.2.2.2⟩
  rw [u2_ne (show xo ≠ mo by omega)]
  exact hl.1.2.2.2.1
theorem WB.tx (hl : WL Γ xo mo T R S p p2 a a2) (h : WB I xo mo p p2 u nx) (hC : ∀ b, xo < b → b < xo + 227 → I' b = I b) (hm0 : ∀ j, j = 2 ∨ j = 5 ∨ j = 6 ∨ j = 18 ∨ j = 25 → I' mo j = I mo j) (hm1 : I' (mo + 1) = I (mo + 1)) (hT : TxR I' (xo + 227) (mo + 15) (I' mo 32) 200 ∧ TxR I' (xo + 229) (mo + 17) (I' mo 36) 40 ∧ TxR I' (xo + 231) (mo + 16) (I' mo 33) 400) : WB I' xo mo p p2 u nx := by
  have hps := hl.ps
  obtain ⟨⟨b, q, h1, h2, h3, h4, h5⟩, ⟨h6, h7⟩, ⟨bq, h8, h9⟩, ⟨h10, h11⟩, _, ⟨h12, h13, h14, h15, h16⟩⟩ := h
  have c1 := hC (xo + 1) (by omega) (by omega)
  have c2 := hC (xo + 2) (by omega) (by omega)
  have c3 := hC (xo + 73) (by omega) (by omega)
  refine ⟨⟨b, q, h1, by rw [c1]; exact h2, by rw [hm0 2 (by omega)]; exact h3, ⟨h4.1, fun j hj => ?_⟩, ⟨h5.1, fun j hj => ?_⟩⟩, ⟨by rw [c1, hm0 5 (by omega)]; exact h6, by rw [c1, hm0 6 (by omega)]; exact h7⟩, ⟨bq, h8, by rw [hm0 25 (by omega)]; exact h9⟩, ⟨fun l hl' => ?_, fun l hl' => ?_⟩, hT, ⟨h12, h13, by rw [c3]; exact h14, by rw [c3]; exact h15, (hm0 18 (by omega)).trans h16⟩⟩
  · show I' (xo + 2) j = _ ∧ _
    rw [c2]
    exact h4.2 j hj
  · show I' (mo + 1) j = _ ∧ _
    rw [hm1]
    exact h5.2 j hj
  · show ∃ n, n ≤ 20 ∧ I' (p + 6) l = nI n
    rw [hC (p + 6) (by omega) (by omega)]
    exact h10 l hl'
  · show ∃ n, n ≤ 20 ∧ I' (p2 + 6) l = nI n
    rw [hC (p2 + 6) (by omega) (by omega)]
    exact h11 l hl'
theorem WA.tx (hl : WL Γ xo mo T R S p p2 a a2) (h : WA k I L xo mo p a u nx) (hC : ∀ b, (b = xo ∨ xo + 3 ≤ b) → b < xo + 227 → I' b = I b) (h19 : ∀ j, j = 19 ∨ j = 25 → I' mo j = I mo j) (hmc : ∀ c, 1 < c → c < 15 → I' (mo + c) = I (mo + c)) (hL : ∀ b, xo ≤ b → b < xo + 233 → L' b = L b) : WA (k + 1) I' L' xo mo p a u nx := by
  have hps := hl.ps
  obtain ⟨⟨w1, w2⟩, nf', H, hP, hS0, hH, hs0, hs1⟩ := h
  have c0 := hC xo (Or.inl rfl) (by omega)
  have m2 := hmc 2 (by omega) (by omega)
  have m4 := hmc 4 (by omega) (by omega)
  have m7 := hmc 7 (by omega) (by omega)
  have m8 := hmc 8 (by omega) (by omega)
  have m9 := hmc 9 (by omega) (by omega)
  refine ⟨⟨by rw [c0]; exact w1, (h19 19 (by omega)).trans w2⟩, nf', H, hP.cg (h19 25 (by omega)) (fun c hc => hC (p + c) (by omega) (by omega)) m2 (hmc 11 (by omega) (by omega)) (hmc 12 (by omega) (by omega)) (hmc 13 (by omega) (by omega)) (hmc 14 (by omega) (by omega)), ?_, fun i hi => ?_, hs0.cg (Nat.le_succ k) (fun c hc => hC _ (by omega) (by omega)) (hL _ (by omega) (by omega)) m2 m8 (by rw [c0]) (by rw [m9]), hs1.cg (Nat.le_succ k) (fun c hc => hC _ (by omega) (by omega)) (hL _ (by omega) (by omega)) m2 m8 (by rw [c0]) (by rw [m9])⟩
  · rw [m2, m4, hL a (by omega) (by omega)]
    exact (hS0.kag (eqv.kag fun c hc => (hC _ (by omega) (by omega)).symm)).up (Nat.le_succ k)
  · have hi6 := hx_lt nx u i
    rw [m2, m7, hL _ (by omega) (by omega)]
    exact ((hH i hi).kag (eqv.kag fun c hc => (hC _ (by omega) (by omega)).symm)).up (Nat.le_succ k)
/-- the model's fields behind a text -/
def tAx (A A' : JI) (c j : Nat) (l : List Nat) : Prop := A' 0 0 = 0 ∧ A' 0 j = nI l.length ∧ (∀ i, i ≠ 0 → i ≠ 34 → i ≠ j → A' 0 i = A 0 i) ∧ (∀ c', 0 < c' → c' ≠ c → A' c' = A c') ∧ ∀ i, i < l.length → A' c i = nI (l.getD i 0)
theorem tAx.w (hc : c = 15 ∨ c = 16) (hj : j = 32 ∨ j = 33) (hl : l.length < 2 ^ 30) : tAx A (st (u2 (wAL c (u2 (tA A 0) 0 34 0) l) 0 j (nI l.length)) 4 (A 4)) c j l := by
  have c0 : c ≠ 0 := by omega
  have h0 : ∀ i, i ≠ 34 → i ≠ j → st (u2 (wAL c (u2 (tA A 0) 0 34 0) l) 0 j (nI l.length)) 4 (A 4) 0 i = tA A 0 0 i := fun i h1 h2 => by
    rw [st_ne (by omega), u2_ap, if_pos rfl, if_neg h2, wAL_h c0 h1, u2_ap, if_pos rfl, if_neg h1]
  refine ⟨?_, ?_, fun i h1 h2 h3 => ?_, fun c' h1 h2 => ?_, fun i hi => ?_⟩
  · rw [h0 0 (by omega) (by omega)]
    show u2 A 0 0 0 0 0 = 0
    rw [u2_ap, if_pos rfl, if_pos rfl]
  · rw [st_ne (by omega), u2_ap, if_pos rfl, if_pos rfl]
  · rw [h0 i h2 h3]
    show u2 A 0 0 0 0 i = _
    rw [u2_ap, if_pos rfl, if_neg h1]
  · by_cases g : c' = 4
    · rw [g, st_eq]
    · rw [st_ne g, u2_ne (by omega), wAL_c (by omega) h2, u2_ne (by omega)]
      show u2 A 0 0 0 c' = _
      rw [u2_ne (by omega)]
  · rw [st_ne (by omega), u2_ne c0, (wAL_b c0 l _ 0 (by rw [u2_ap, if_pos rfl, if_pos rfl]; rfl) (by omega) i).2 (by omega) (by omega), Nat.sub_zero]
theorem tAx.m {g : Nat → Nat} : tAx A (st (fM g 0 n (u2 (tA A 0) 0 36 (nI n))) 4 (A 4)) 17 36 (rM g 0 n) := by
  have h0 : ∀ i, i ≠ 36 → st (fM g 0 n (u2 (tA A 0) 0 36 (nI n))) 4 (A 4) 0 i = tA A 0 0 i := fun i h1 => by
    rw [st_ne (by omega), fM_c g (by omega), u2_ap, if_pos rfl, if_neg h1]
  refine ⟨?_, ?_, fun i h1 h2 h3 => ?_, fun c' h1 h2 => ?_, fun i hi => ?_⟩
  · rw [h0 0 (by omega)]
    show u2 A 0 0 0 0 0 = 0
    rw [u2_ap, if_pos rfl, if_pos rfl]
  · rw [st_ne (by omega), fM_c g (by omega), u2_ap, if_pos rfl, if_pos rfl, rM_len]
  · rw [h0 i h3]
    show u2 A 0 0 0 0 i = _
    rw [u2_ap, if_pos rfl, if_neg h1]
  · by_cases g1 : c' = 4
    · rw [g1, st_eq]
    · rw [st_ne g1, fM_c g h2, u2_ne (by omega)]
      show u2 A 0 0 0 c' = _
      rw [u2_ne (by omega)]
  · rw [rM_len] at hi
    rw [st_ne (by omega), fM_at, if_pos (by omega), rM_at g n 0 i hi, Nat.zero_add]
theorem BSt.tx (hl : WL Γ xo mo T R S p p2 a a2) (hb : WB I xo mo p p2 u nx) (ha : WA k I L xo mo p a u nx) (hol : mo + 18 ≤ ol) (h3 : (t = xo + 227 ∧ c = 15 ∧ j = 32 ∧ n = 200) ∨ (t = xo + 229 ∧ c = 17 ∧ j = 36 ∧ n = 40) ∨ (t = xo + 231 ∧ c = 16 ∧ j = 33 ∧ n = 400)) (hn : l.length ≤ n) (h7 : b7 l) (hl' : WL Γ xo mo T R S' p p2 a a2) (hA : tAx (sK I mo) A' c j l)
    (hC : ∀ D, Ex Γ dc yc [.ref xo] (T, R, S, I, L, D, none) (ec 0) (es 0) (cA 0 (some (.int (nI l.length))) (T, R, S, I, L, D, none) (T, R, S, blk 19 (blk 2 I t (wL (u2 (sK I t) 0 0 0) l)) a (sK I a), L, D, none))) (hM : ∀ I1 L' D', sK I1 mo = sK I mo → Ex Γ dm ym [.ref mo] (T, R, S, I1, L', D', none) 0 0 (rI (nI l.length) (T, R, S', blk 18 I1 mo A', L', D', none))) (hal : (0, 0) ∈ al) : BSt Γ k xo mo ol dc dm yc ym [] al T R S I L := by
  intro D
  have hps := hl.ps
  have hlt := hl.2.2.2
  refine ⟨0, 0, nI l.length, fun S1 I1 L1 => S1 = S ∧ I1 = blk 19 (blk 2 I t (wL (u2 (sK I t) 0 0 0) l)) a (sK I a) ∧ L1 = L, hal, (hC D).mono fun o M1 h => ?_, fun S1 I1 L1 L' D' h hL => ?_⟩
  · obtain ⟨w, h1, h2, h4⟩ := h
    exact ⟨by rw [h1, h2]; rfl, _, _, _, h4, rfl, rfl, rfl⟩
  · obtain ⟨rfl, h1, rfl⟩ := h
    have o1 : ∀ b, (b < t ∨ t + 2 ≤ b) → I1 b = I b := fun b q2 => by
      rw [h1]
      by_cases g : a ≤ b ∧ b < a + 19
      · obtain ⟨i, rfl⟩ : ∃ i, b = a + i := ⟨b - a, by omega⟩
        rw [blk_k (by omega)]
        rfl
      · rw [blk_out (by omega), blk_out (by omega)]
    obtain ⟨wf1, wf2⟩ := wL_f l (sK I t) (by omega)
    have ot : I1 t 0 = nI l.length := by
      rw [h1, blk_out (by omega), blk_0 (by decide)]
      exact wf1
    have ot1 : ∀ i, i < l.length → I1 (t + 1) i = nI (l.getD i 0) := fun i hi => by
      rw [h1, blk_out (by omega), blk_k (by decide)]
      exact wf2 i hi
    have eA : sK I1 mo = sK I mo := funext fun c => o1 _ (by omega)
    refine (hM I1 L' D' eA).mono fun o M2 h9 => ?_
    obtain ⟨a0, aj, ah, ac, atq⟩ := hA
    have o2 : ∀ b, b < mo → blk 18 I1 mo A' b = I1 b := fun b hb => blk_out (by omega)
    have m0 : ∀ i, i ≠ 0 → i ≠ 34 → i ≠ j → blk 18 I1 mo A' mo i = I mo i := fun i q1 q2 q3 => by
      rw [blk_0 (by decide)]
      exact ah i q1 q2 q3
    have mc : ∀ i, 0 < i → i < 18 → i ≠ c → blk 18 I1 mo A' (mo + i) = I (mo + i) := fun i q1 q2 q3 => by
      rw [blk_k q2]
      exact ac i q1 q3
    have nw : TxR (blk 18 I1 mo A') t (mo + c) (blk 18 I1 mo A' mo j) n := by
      refine ⟨l, hn, by rw [o2 _ (by omega)]; exact ot, by rw [blk_0 (by decide)]; exact aj, fun i hi => ⟨by rw [o2 _ (by omega)]; exact ot1 i hi, h7.at_ i, ?_⟩⟩
      rw [blk_k (by omega)]
      exact atq i hi
    have oldq : ∀ t' c' j' n', (t' + 2 ≤ t ∨ t + 2 ≤ t') → t' + 2 ≤ mo → 0 < c' → c' < 18 → c' ≠ c → j' ≠ 0 → j' ≠ 34 → j' ≠ j → TxR I t' (mo + c') (I mo j') n' → TxR (blk 18 I1 mo A') t' (mo + c') (blk 18 I1 mo A' mo j') n' := fun t' c' j' n' q1 q2 q3 q4 q5 q6 q7 q8 h => h.cg (by rw [o2 _ (by omega)]; exact o1 _ (by omega)) (by rw [o2 _ (by omega)]; exact o1 _ (by omega)) (mc c' q3 q4 q5) (m0 j' q6 q7 q8)
    obtain ⟨x1, x2, x3⟩ := hb.2.2.2.2.1
    refine ⟨_, _, _, ⟨h9.1, fun _ => rfl⟩, h9.2, ⟨p, p2, a, a2, u, nx, hl', hb.tx hl (fun b q1 q2 => by rw [o2 _ (by omega)]; exact o1 b (by omega)) (fun i hi => m0 i (by omega) (by omega) (by omega)) (mc 1 (by omega) (by omega) (by omega)) ?_, Or.inr (ha.tx hl (fun b q1 q2 => by rw [o2 _ (by omega)]; exact o1 b (by omega)) (fun i hi => m0 i (by omega) (by omega) (by omega)) (fun i q1 q2 => mc i (by omega) (by omega) (by omega)) (fun b q1 q2 => hL b (by omega)))⟩, by rw [blk_0 (by decide)]; exact a0⟩
    rcases h3 with ⟨rfl, rfl, rfl, rfl⟩ | ⟨rfl, rfl, rfl, rfl⟩ | ⟨rfl, rfl, rfl, rfl⟩
    · exact ⟨nw, oldq _ _ _ _ (by omega) (by omega) (by omega) (by omega) (by omega) (by omega) (by omega) (by omega) x2, oldq _ _ _ _ (by omega) (by omega) (by omega) (by omega) (by omega) (by omega) (by omega) (by omega) x3⟩
    · exact ⟨oldq _ _ _ _ (by omega) (by omega) (by omega) (by omega) (by omega) (by omega) (by omega) (by omega) x1, nw, oldq _ _ _ _ (by omega) (by omega) (by omega) (by omega) (by omega) (by omega) (by omega) (by omega) x3⟩
    · exact ⟨oldq _ _ _ _ (by omega) (by omega) (by omega) (by omega) (by omega) (by omega) (by omega) (by omega) x1, oldq _ _ _ _ (by omega) (by omega) (by omega) (by omega) (by omega) (by omega) (by omega) (by omega) x2, nw⟩
end W22
section Q22
variable {Γ : Gam} {k xo mo ol : Nat} {T : JT} {R S : JR} {I : JI} {L : JL}
theorem st_report (hw : Wd Γ k xo mo T R S I L) (hk : k ≤ 599) (hol : mo + 18 ≤ ol) : BSt Γ k xo mo ol 100 100 Y_X8_report Y_X9_report [] [(0, 0), (1, 1)] T R S I L := by
  have hw0 := hw
  obtain ⟨p, p2, a, a2, u, nx, hl, hb, ha⟩ := hw
  obtain ⟨c, nf, nl, ln, hc⟩ := Wc ha
  obtain ⟨hair, hX, ⟨c1, c2, c3, c4⟩, ⟨f1, f2, f3⟩, ⟨l1, l2, l3⟩, ⟨n1, n2, n3⟩, mm, lw⟩ := hc
  have hps := hl.ps
  have hlt := hl.2.2.2
  rcases gd_a hair with ⟨g1, g2⟩ | ⟨g1, g5, g2⟩
  · refine BSt.q (n := 1) (t := 1) (v := 0) (w := 0) hw0 hol (fun D => by
      have h := ex_report_no (Γ := Γ) (d := 92) (K := sK I a) (L := L) (D := D) (hl.1.cx I) (by
        unfold eAir at g1
        exact Decidable.byContradiction fun g => by rw [if_neg g] at g1; cases g1)
      rw [blk_sK] at h
      exact h) (fun L' D' => by
      have h := ex_mreport_no (Γ := Γ) (d := 98) (R := R) (I := I) (A := sK I mo) (X := sK I mo 4) (L := L') (D := D') (z := none) hl.2.1 (g2 _).2
      rw [mB_self, mB_t, (g2 _).1] at h
      exact h) (by decide) (fun h => by cases h)
  · have ha2 := WA.of ha g5
    have ha3 := ha2
    obtain ⟨_, nf', H, hP, hS, _⟩ := ha3
    have en : nf' = nf := nI_inj' (by have := hP.1.2.2.2.2.2.2; omega) (by omega) (hP.2.2.2.2.2.2.2.1.symm.trans f3)
    subst en
    subst c4
    have e1 : ¬ mOk (sK I mo) 1 = 0 := by rw [(g2 1).2]; decide
    have e2 : tI (sK I mo) 1 = 0 := by rw [(g2 1).1]; decide
    refine BSt.tx (t := xo + 227) (c := 15) (j := 32) (n := 200) (l := rR (xL (I (mo + 4)) (mC (I (mo + 4)))) (xA (I (mo + 4)) (mC (I (mo + 4)))) (xS (I (mo + 4)) (mC (I (mo + 4)))) 0 nf') hl hb ha2 hol (Or.inl ⟨rfl, rfl, rfl, rfl⟩) (rep_len _ c1 f1) (rR_b7 _ _ _ _ _) hl.s31 (tAx.w (Or.inl rfl) (Or.inl rfl) (by have := rep_len (I (mo + 4)) c1 f1; omega)) (fun D => by
      have h := ex_report (Γ := Γ) (d := 92) (T := T) (R := R) (S := S) (I := I) (K := sK I a) (B := sK I (xo + 227)) (L := L) (D := D) (hl.1.txq I (t := xo + 227) (n := 200) (kk := 11) (by omega) hl.1.2.2.2.2.2.2.2.2.2.2.2.2.1 hl.1.2.2.2.1.2.2.2.2.2.2.2.2.1 (by omega)) (by omega) (show sK I a 1 0 = nI (mC (I (mo + 4))) from c2) c1 (show sK I p 0 6 = nI nf' from f2) f1
      rw [g1, blk_sKn 2, blk_sK, vl_rep hS] at h
      exact h) (fun I1 L' D' eA => by
      have h := ex_mreport (Γ := Γ) (d := 98) (T := T) (R := R) (S := S) (I := I1) (A := sK I1 mo) (X := sK I1 mo 4) (L := L') (D := D') (z := none) hl.2.1 (by rw [eA]; exact hX) (c := mC (I (mo + 4))) (by rw [eA]; rfl) (nf := nf') (by rw [eA]; exact f3) f1 (by rw [eA]; exact e1)
      rw [mB_self, eA, e2] at h
      exact h) (by decide)
theorem st_map (hw : Wd Γ k xo mo T R S I L) (hk : k ≤ 599) (hol : mo + 18 ≤ ol) : BSt Γ k xo mo ol 100 100 Y_X8_map Y_X9_map [] [(0, 0), (1, 1)] T R S I L := by
  have hw0 := hw
  obtain ⟨p, p2, a, a2, u, nx, hl, hb, ha⟩ := hw
  obtain ⟨c, nf, nl, ln, hc⟩ := Wc ha
  obtain ⟨hair, hX, ⟨c1, c2, c3, c4⟩, ⟨f1, f2, f3⟩, ⟨l1, l2, l3⟩, ⟨n1, n2, n3⟩, mm, lw⟩ := hc
  have hps := hl.ps
  have hlt := hl.2.2.2
  rcases gd_a hair with ⟨g1, g2⟩ | ⟨g1, g5, g2⟩
  · refine BSt.q (n := 1) (t := 1) (v := 0) (w := 0) hw0 hol (fun D => by
      have h := ex_map_no (Γ := Γ) (d := 92) (K := sK I a) (L := L) (D := D) (hl.1.cx I) (by
        unfold eAir at g1
        exact Decidable.byContradiction fun g => by rw [if_neg g] at g1; cases g1)
      rw [blk_sK] at h
      exact h) (fun L' D' => by
      have h := ex_mmap_no (Γ := Γ) (d := 98) (R := R) (I := I) (A := sK I mo) (X := sK I mo 4) (L := L') (D := D') (z := none) hl.2.1 (g2 _).2
      rw [mB_self, mB_t, (g2 _).1] at h
      exact h) (by decide) (fun h => by cases h)
  · have ha2 := WA.of ha g5
    have ha3 := ha2
    obtain ⟨_, nf', H, hP, hS, _⟩ := ha3
    have en : nf' = nf := nI_inj' (by have := hP.1.2.2.2.2.2.2; omega) (by omega) (hP.2.2.2.2.2.2.2.1.symm.trans f3)
    subst en
    subst c4
    have e1 : ¬ mOk (sK I mo) 1 = 0 := by rw [(g2 1).2]; decide
    have e2 : tI (sK I mo) 1 = 0 := by rw [(g2 1).1]; decide
    obtain ⟨v1, v2, v3⟩ := vl_map hS n1
    refine BSt.tx (t := xo + 229) (c := 17) (j := 36) (n := 40) (l := rM (gX_ (I (mo + 4))) 0 ln) hl hb ha2 hol (Or.inr (Or.inl ⟨rfl, rfl, rfl, rfl⟩)) (by rw [rM_len]; exact n1) v3 hl tAx.m (fun D => by
      have h := ex_map (Γ := Γ) (d := 92) (T := T) (R := R) (S := S) (I := I) (K := sK I a) (B := sK I (xo + 229)) (L := L) (D := D) (hl.1.txq I (t := xo + 229) (n := 40) (kk := 12) (by omega) hl.1.2.2.2.2.2.2.2.2.2.2.2.2.2.1 hl.1.2.2.2.1.2.2.2.2.2.2.2.2.2.1 (by omega)) (by omega) (show sK I p 0 0 = nI ln from n2) n1 v1
      rw [g1, blk_sKn 2, blk_sK] at h
      rw [rM_len]
      exact h) (fun I1 L' D' eA => by
      have h := ex_mmap (Γ := Γ) (d := 98) (T := T) (R := R) (S := S) (I := I1) (A := sK I1 mo) (X := sK I1 mo 4) (L := L') (D := D') (z := none) hl.2.1 (by rw [eA]; exact hX) (ln := ln) (by rw [eA]; exact n3) n1 (g := gX_ (I (mo + 4))) (by rw [eA]; exact v2) (by rw [eA]; exact e1)
      rw [mB_self, eA, e2] at h
      rw [rM_len]
      exact h) (by decide)
theorem st_timetable (hw : Wd Γ k xo mo T R S I L) (hk : k ≤ 599) (hol : mo + 18 ≤ ol) : BSt Γ k xo mo ol 100 100 Y_X8_timetable Y_X9_timetable [] [(0, 0), (1, 1)] T R S I L := by
  have hw0 := hw
  obtain ⟨p, p2, a, a2, u, nx, hl, hb, ha⟩ := hw
  obtain ⟨c, nf, nl, ln, hc⟩ := Wc ha
  obtain ⟨hair, hX, ⟨c1, c2, c3, c4⟩, ⟨f1, f2, f3⟩, ⟨l1, l2, l3⟩, ⟨n1, n2, n3⟩, mm, lw⟩ := hc
  have hps := hl.ps
  have hlt := hl.2.2.2
  rcases gd_a hair with ⟨g1, g2⟩ | ⟨g1, g5, g2⟩
  · refine BSt.q (n := 1) (t := 1) (v := 0) (w := 0) hw0 hol (fun D => by
      have h := ex_timetable_no (Γ := Γ) (d := 92) (K := sK I a) (L := L) (D := D) (hl.1.cx I) (by
        unfold eAir at g1
        exact Decidable.byContradiction fun g => by rw [if_neg g] at g1; cases g1)
      rw [blk_sK] at h
      exact h) (fun L' D' => by
      have h := ex_mtimetable_no (Γ := Γ) (d := 98) (R := R) (I := I) (A := sK I mo) (X := sK I mo 4) (L := L') (D := D') (z := none) hl.2.1 (g2 _).2
      rw [mB_self, mB_t, (g2 _).1] at h
      exact h) (by decide) (fun h => by cases h)
  · have ha2 := WA.of ha g5
    have ha3 := ha2
    obtain ⟨_, nf', H, hP, hS, _⟩ := ha3
    have en : nf' = nf := nI_inj' (by have := hP.1.2.2.2.2.2.2; omega) (by omega) (hP.2.2.2.2.2.2.2.1.symm.trans f3)
    subst en
    subst c4
    have e1 : ¬ mOk (sK I mo) 1 = 0 := by rw [(g2 1).2]; decide
    have e2 : tI (sK I mo) 1 = 0 := by rw [(g2 1).1]; decide
    obtain ⟨op, cl, ph, v1, v2, v3, v4⟩ := vl_tt hS f1 (by omega)
    have hls : ∀ l, l < 4 → sK I a 12 l = nI (mHe (I (mo + 4)) l) ∧ mHe (I (mo + 4)) l ≤ 20 := fun l hl4 => ⟨(hS.1.bl hl4).2.trans (hX.he hl4).1, by have := (hX.he hl4).2; omega⟩
    have tl : (rTt (fun r => tW nl op cl (xM (I (mo + 4))) (ph r)) 0 nf').length ≤ 400 := by
      have := rTt_len (tw := fun r => tW nl op cl (xM (I (mo + 4))) (ph r)) (nf := nf') (fun r hr => tW_len l1 (v2 _ (v3 r hr).2).2.1 (v2 _ (v3 r hr).2).2.2.2 (fun l => by
        unfold xM
        split
        · next g => exact Nat.le_trans (fb_ct_le _ _) (hls l g).2
        · omega)) nf' 0 (by omega)
      omega
    refine BSt.tx (t := xo + 231) (c := 16) (j := 33) (n := 400) (l := rTt (fun r => tW nl op cl (xM (I (mo + 4))) (ph r)) 0 nf') hl hb ha2 hol (Or.inr (Or.inr ⟨rfl, rfl, rfl, rfl⟩)) tl (rTt_b7 (fun r hr => tW_b7 (by have := (v3 r hr).2; omega)) nf' 0 (by omega)) hl.s31 (tAx.w (Or.inr rfl) (Or.inr rfl) (by omega)) (fun D => by
      have h := ex_timetable (Γ := Γ) (d := 92) (T := T) (R := R) (S := S) (I := I) (K := sK I a) (B := sK I (xo + 231)) (L := L) (D := D) (hl.1.txq I (t := xo + 231) (n := 400) (kk := 13) (by omega) hl.1.2.2.2.2.2.2.2.2.2.2.2.2.2.2 hl.1.2.2.2.1.2.2.2.2.2.2.2.2.2.2 (by omega)) (by omega) (show sK I p 0 8 = nI nl from l2) l1 hls f1 v1 (show sK I p 0 6 = nI nf' from f2) v3
      rw [g1, blk_sKn 2, blk_sK, vl_kM hS] at h
      exact h) (fun I1 L' D' eA => by
      have h := ex_mtimetable (Γ := Γ) (d := 97) (T := T) (R := R) (S := S) (I := I1) (A := sK I1 mo) (X := sK I1 mo 4) (L := L') (D := D') (z := none) hl.2.1 (by rw [eA]; exact hX) (nl := nl) (by rw [eA]; exact l3) l1 (nf := nf') f1 (op := op) (cl := cl) (by rw [eA]; exact v2) (by rw [eA]; exact f3) (ph := ph) (by rw [eA]; exact v4) (by rw [eA]; exact e1)
      rw [mB_self, eA, e2] at h
      exact h) (by decide)
theorem st_reportByte (hw : Wd Γ k xo mo T R S I L) (hk : k ≤ 600) (hol : mo + 18 ≤ ol) {i : Int32} : BSt Γ k xo mo ol 100 100 Y_X8_reportByte Y_X9_reportByte [.int i] [(0, 0), (2, 1)] T R S I L := by
  have hw0 := hw
  obtain ⟨p, p2, a, a2, u, nx, hl, hb, ha⟩ := hw
  obtain ⟨c, nf, nl, ln, hc⟩ := Wc ha
  obtain ⟨hair, hX, ⟨c1, c2, c3, c4⟩, ⟨f1, f2, f3⟩, ⟨l1, l2, l3⟩, ⟨n1, n2, n3⟩, mm, lw⟩ := hc
  obtain ⟨l, y1, y2, y3, y4⟩ := hb.2.2.2.2.1.1
  have hC : ∀ D, _ := fun D => ex_reportByte (Γ := Γ) (d := 92) (T := T) (R := R) (S := S) (I := I) (K := sK I a) (B := sK I (xo + 227)) (L := L) (D := D) (hl.1.txq I (t := xo + 227) (n := 200) (kk := 11) (by omega) hl.1.2.2.2.2.2.2.2.2.2.2.2.2.1 hl.1.2.2.2.1.2.2.2.2.2.2.2.2.1 (by omega)) (s := l.length) y2 y1 (l := l) ⟨rfl, fun j hj => ⟨(y4 j hj).1, (y4 j hj).2.1⟩⟩ (i := i)
  have hM : ∀ L' D', _ := fun L' D' => ex_mreportByte (Γ := Γ) (d := 99) (T := T) (R := R) (S := S) (I := I) (A := sK I mo) (X := sK I mo 4) (L := L') (D := D') (z := none) hl.2.1 (ln := l.length) y3 y1 (b := i)
  rcases in_n (c := l.length) (by omega) i with ⟨j, j1, rfl, j3, j4⟩ | ⟨j3, j4⟩
  · refine BSt.q (n := 0) (t := 0) (v := nI (l.getD (nN (nI j)) 0)) (w := I (mo + 15) (nN (nI j))) hw0 hol (fun D => by
      have h := hC D
      rw [j4, blk_sKn 2, blk_sK] at h
      exact h) (fun L' D' => by
      have h := hM L' D'
      rw [mB_self, j3, if_neg (show ¬ (1 : Int32) = 0 by decide), if_neg (show ¬ (1 : Int32) = 0 by decide), mB_t] at h
      exact h) (by decide) (fun _ => by
      rw [nN_nI (by omega)]
      exact (y4 j j1).2.2)
  · refine BSt.q (n := 2) (t := 1) (v := 0) (w := 0) hw0 hol (fun D => by
      have h := hC D
      rw [j4, blk_sKn 2, blk_sK] at h
      exact h) (fun L' D' => by
      have h := hM L' D'
      rw [mB_self, j3, if_pos rfl, if_pos rfl, mB_t] at h
      exact h) (by decide) (fun h => by cases h)
theorem st_mapByte (hw : Wd Γ k xo mo T R S I L) (hk : k ≤ 600) (hol : mo + 18 ≤ ol) {i : Int32} : BSt Γ k xo mo ol 100 100 Y_X8_mapByte Y_X9_mapByte [.int i] [(0, 0), (2, 1)] T R S I L := by
  have hw0 := hw
  obtain ⟨p, p2, a, a2, u, nx, hl, hb, ha⟩ := hw
  obtain ⟨c, nf, nl, ln, hc⟩ := Wc ha
  obtain ⟨hair, hX, ⟨c1, c2, c3, c4⟩, ⟨f1, f2, f3⟩, ⟨l1, l2, l3⟩, ⟨n1, n2, n3⟩, mm, lw⟩ := hc
  obtain ⟨l, y1, y2, y3, y4⟩ := hb.2.2.2.2.1.2.1
  have hC : ∀ D, _ := fun D => ex_mapByte (Γ := Γ) (d := 92) (T := T) (R := R) (S := S) (I := I) (K := sK I a) (B := sK I (xo + 229)) (L := L) (D := D) (hl.1.txq I (t := xo + 229) (n := 40) (kk := 12) (by omega) hl.1.2.2.2.2.2.2.2.2.2.2.2.2.2.1 hl.1.2.2.2.1.2.2.2.2.2.2.2.2.2.1 (by omega)) (s := l.length) y2 y1 (l := l) ⟨rfl, fun j hj => ⟨(y4 j hj).1, (y4 j hj).2.1⟩⟩ (i := i)
  have hM : ∀ L' D', _ := fun L' D' => ex_mmapByte (Γ := Γ) (d := 99) (T := T) (R := R) (S := S) (I := I) (A := sK I mo) (X := sK I mo 4) (L := L') (D := D') (z := none) hl.2.1 (ln := l.length) y3 y1 (b := i)
  rcases in_n (c := l.length) (by omega) i with ⟨j, j1, rfl, j3, j4⟩ | ⟨j3, j4⟩
  · refine BSt.q (n := 0) (t := 0) (v := nI (l.getD (nN (nI j)) 0)) (w := I (mo + 17) (nN (nI j))) hw0 hol (fun D => by
      have h := hC D
      rw [j4, blk_sKn 2, blk_sK] at h
      exact h) (fun L' D' => by
      have h := hM L' D'
      rw [mB_self, j3, if_neg (show ¬ (1 : Int32) = 0 by decide), if_neg (show ¬ (1 : Int32) = 0 by decide), mB_t] at h
      exact h) (by decide) (fun _ => by
      rw [nN_nI (by omega)]
      exact (y4 j j1).2.2)
  · refine BSt.q (n := 2) (t := 1) (v := 0) (w := 0) hw0 hol (fun D => by
      have h := hC D
      rw [j4, blk_sKn 2, blk_sK] at h
      exact h) (fun L' D' => by
      have h := hM L' D'
      rw [mB_self, j3, if_pos rfl, if_pos rfl, mB_t] at h
      exact h) (by decide) (fun h => by cases h)
theorem st_timetableByte (hw : Wd Γ k xo mo T R S I L) (hk : k ≤ 600) (hol : mo + 18 ≤ ol) {i : Int32} : BSt Γ k xo mo ol 100 100 Y_X8_timetableByte Y_X9_timetableByte [.int i] [(0, 0), (2, 1)] T R S I L := by
  have hw0 := hw
  obtain ⟨p, p2, a, a2, u, nx, hl, hb, ha⟩ := hw
  obtain ⟨c, nf, nl, ln, hc⟩ := Wc ha
  obtain ⟨hair, hX, ⟨c1, c2, c3, c4⟩, ⟨f1, f2, f3⟩, ⟨l1, l2, l3⟩, ⟨n1, n2, n3⟩, mm, lw⟩ := hc
  obtain ⟨l, y1, y2, y3, y4⟩ := hb.2.2.2.2.1.2.2
  have hC : ∀ D, _ := fun D => ex_timetableByte (Γ := Γ) (d := 92) (T := T) (R := R) (S := S) (I := I) (K := sK I a) (B := sK I (xo + 231)) (L := L) (D := D) (hl.1.txq I (t := xo + 231) (n := 400) (kk := 13) (by omega) hl.1.2.2.2.2.2.2.2.2.2.2.2.2.2.2 hl.1.2.2.2.1.2.2.2.2.2.2.2.2.2.2 (by omega)) (s := l.length) y2 y1 (l := l) ⟨rfl, fun j hj => ⟨(y4 j hj).1, (y4 j hj).2.1⟩⟩ (i := i)
  have hM : ∀ L' D', _ := fun L' D' => ex_mtimetableByte (Γ := Γ) (d := 99) (T := T) (R := R) (S := S) (I := I) (A := sK I mo) (X := sK I mo 4) (L := L') (D := D') (z := none) hl.2.1 (ln := l.length) y3 y1 (b := i)
  rcases in_n (c := l.length) (by omega) i with ⟨j, j1, rfl, j3, j4⟩ | ⟨j3, j4⟩
  · refine BSt.q (n := 0) (t := 0) (v := nI (l.getD (nN (nI j)) 0)) (w := I (mo + 16) (nN (nI j))) hw0 hol (fun D => by
      have h := hC D
      rw [j4, blk_sKn 2, blk_sK] at h
      exact h) (fun L' D' => by
      have h := hM L' D'
      rw [mB_self, j3, if_neg (show ¬ (1 : Int32) = 0 by decide), if_neg (show ¬ (1 : Int32) = 0 by decide), mB_t] at h
      exact h) (by decide) (fun _ => by
      rw [nN_nI (by omega)]
      exact (y4 j j1).2.2)
  · refine BSt.q (n := 2) (t := 1) (v := 0) (w := 0) hw0 hol (fun D => by
      have h := hC D
      rw [j4, blk_sKn 2, blk_sK] at h
      exact h) (fun L' D' => by
      have h := hM L' D'
      rw [mB_self, j3, if_pos rfl, if_pos rfl, mB_t] at h
      exact h) (by decide) (fun h => by cases h)
end Q22
