/-! A CALL ON BOTH SIDES -/
def eO (n : Nat) (v : Value) : JO := match n with
  | 0 => .inl (some v)
  | k + 1 => .inr (xN (k + 1))
/-- a call on the component, then one on the model: n says how the component's ends, t what the model notes; (n, t) is among al; if it returns, both answers are the same -/
def BSt (Γ : Gam) (k xo mo ol dc dm : Nat) (yc ym : JY) (args : List Value) (al : List (Nat × Int32)) (T : JT) (R S : JR) (I : JI) (L : JL) : Prop := ∀ D : JD, ∃ (n : Nat) (t v : Int32) (G : JR → JI → JL → Prop), (n, t) ∈ al ∧ Ex Γ dc yc (.ref xo :: args) (T, R, S, I, L, D, none) (ec n) (es n) (fun o M1 => o = eO n (.int v) ∧ ∃ S1 I1 L1, M1 = (T, R, S1, I1, L1, D, none) ∧ G S1 I1 L1) ∧ ∀ S1 I1 L1 L' D', G S1 I1 L1 → (∀ b, b < ol → L' b = L1 b) → Ex Γ dm ym (.ref mo :: args) (T, R, S1, I1, L', D', none) 0 0 (fun o M2 => ∃ S2 I2 w, (o = .inl (some (.int w)) ∧ (n = 0 → w = v)) ∧ M2 = (T, R, S2, I2, L', D', none) ∧ Wd Γ (k + 1) xo mo T R S2 I2 L' ∧ I2 mo 0 = t)
theorem cA_eO {n : Nat} {v : Value} {M0 : JM} {o : JO} {M1 : JM} (h : cA n (some v) M0 M0 o M1) : o = eO n v ∧ M1 = M0 := by
  cases n with
  | zero =>
    obtain ⟨w, h1, h2, h3⟩ := h
    exact ⟨by rw [h1, h2]; rfl, h3⟩
  | succ n => exact h
theorem mB_self {I : JI} {mo : Nat} : blk 18 I mo (st (sK I mo) 4 (sK I mo 4)) = I := by
  rw [st_self]
  exact blk_self 18 I mo
theorem st_tA {A : JI} {t : Int32} : st (tA A t) 4 (A 4) = tA A t := by
  have h := st_self (tA A t) 4
  rw [show tA A t 4 = A 4 from u2_ne (by omega)] at h
  exact h
theorem mB_t {I : JI} {mo : Nat} {t : Int32} : blk 18 I mo (st (tA (sK I mo) t) 4 (sK I mo 4)) = u2 I mo 0 t := by
  rw [st_tA, ← u2_blk0 (by decide), show blk 18 I mo (sK I mo) = I from blk_self 18 I mo]
section S3
variable {Γ : Gam} {k xo mo ol dc dm : Nat} {yc ym : JY} {args : List Value} {al : List (Nat × Int32)} {T : JT} {R S : JR} {I : JI} {L : JL} {n : Nat} {t v w : Int32}
/-- a question -/
theorem BSt.q (hw : Wd Γ k xo mo T R S I L) (hol : mo + 18 ≤ ol) (hC : ∀ D, Ex Γ dc yc (.ref xo :: args) (T, R, S, I, L, D, none) (ec n) (es n) (cA n (some (.int v)) (T, R, S, I, L, D, none) (T, R, S, I, L, D, none))) (hM : ∀ L' D', Ex Γ dm ym (.ref mo :: args) (T, R, S, I, L', D', none) 0 0 (rI w (T, R, S, u2 I mo 0 t, L', D', none))) (hn : (n, t) ∈ al) (hv : n = 0 → w = v) : BSt Γ k xo mo ol dc dm yc ym args al T R S I L := by
  intro D
  refine ⟨n, t, v, fun S1 I1 L1 => S1 = S ∧ I1 = I ∧ L1 = L, hn, (hC D).mono fun o M1 h => ?_, fun S1 I1 L1 L' D' h hL => ?_⟩
  · obtain ⟨h1, h2⟩ := cA_eO h
    exact ⟨h1, S, I, L, h2, rfl, rfl, rfl⟩
  · obtain ⟨rfl, rfl, rfl⟩ := h
    refine (hM L' D').mono fun o M2 h2 => ?_
    have hlt : xo + 233 ≤ mo := by
      obtain ⟨p, p2, a, a2, u, nx, hl, _⟩ := hw
      exact hl.2.2.2
    exact ⟨_, _, w, ⟨h2.1, hv⟩, h2.2, hw.thr (fun b hb => hL b (by omega)), by rw [u2_ap, if_pos rfl, if_pos rfl]⟩
end S3
/-! what both cases, with and without an airport, have in common -/
def WC (I : JI) (xo mo p a c nf nl ln : Nat) : Prop := ((I xo 1 = 0 ∧ I mo 19 = 0) ∨ (I xo 1 = 1 ∧ I mo 19 = 1)) ∧ mI (I (mo + 4)) ∧ (c ≤ 100 ∧ I (a + 1) 0 = nI c ∧ I (mo + 4) 2 = nI c ∧ mC (I (mo + 4)) = c) ∧ (nf ≤ 8 ∧ I p 6 = nI nf ∧ I (mo + 2) 12 = nI nf) ∧ (nl ≤ 4 ∧ I p 8 = nI nl ∧ I (mo + 2) 13 = nI nl) ∧ (ln ≤ 40 ∧ I p 0 = nI ln ∧ I (mo + 2) 0 = nI ln) ∧ (∀ q, q < 3 → nB 5 (I (mo + 2) (3 + q)) ∧ I (p + 1) q = I (mo + 2) (3 + q)) ∧ ∀ l, l < 4 → ∃ n, n ≤ 20 ∧ I (a + 12) l = nI n
theorem nB_0 {n : Nat} (h : 0 < n) : nB n 0 := ⟨rfl, h⟩
theorem mI_0 : mI (fun _ => 0) := fun i => ⟨fun _ => nB_0 (by omega), fun _ => nB_0 (by omega), fun _ _ => nB_0 (by omega), fun _ _ => nB_0 (by omega), fun _ _ => Or.inr (nB_0 (by omega)), fun _ _ => Or.inr (nB_0 (by omega)), fun _ _ => nB_0 (by omega)⟩
theorem WN.c {I : JI} {xo mo p a u : Nat} (h : WN I xo mo p a u) : WC I xo mo p a 0 0 0 0 := by
  obtain ⟨⟨h1, h2, _⟩, _, h3, h4, h5, h6⟩ := h
  have e0 := h4 0 (by omega)
  rw [Nat.add_zero] at e0
  refine ⟨Or.inl ⟨h1, h2⟩, by rw [h6]; exact mI_0, ⟨by omega, by rw [h3 1 (by omega)]; rfl, by rw [h6]; rfl, by rw [h6]; rfl⟩, ⟨by omega, by rw [e0]; rfl, by rw [h5]; rfl⟩, ⟨by omega, by rw [e0]; rfl, by rw [h5]; rfl⟩, ⟨by omega, by rw [e0]; rfl, by rw [h5]; rfl⟩, fun q _ => ⟨by rw [h5]; exact nB_0 (by omega), by rw [h4 1 (by omega), h5]⟩, fun l _ => ⟨0, by omega, by rw [h3 12 (by omega)]; rfl⟩⟩
theorem WA.c {k : Nat} {I : JI} {L : JL} {xo mo p a u nx : Nat} (h : WA k I L xo mo p a u nx) : ∃ c nf nl ln, WC I xo mo p a c nf nl ln := by
  obtain ⟨⟨h1, h2⟩, nf, H, ⟨a1, a2, a3, a4, a5, a6, a7⟩, h4, _⟩ := h
  obtain ⟨⟨r1, r2, r3, r4, r5, r6⟩, r7, r8, r9, r10, r11, r12⟩ := a1
  obtain ⟨⟨w1, w2⟩, _, _, _, ⟨w5, _, w6⟩, _, _⟩ := a4
  have hX := h4.2.1.1.1
  have hc := hX.c
  refine ⟨mC (I (mo + 4)), nf, pnl (sK I p), plen (sK I p), Or.inr ⟨h1, h2⟩, hX, ⟨h4.2.1.c, h4.cnt, hc.1, rfl⟩, ⟨r12, r4.trans a7.2.1, a7.2.1⟩, ⟨w2, w1, r5.symm.trans w1⟩, ⟨w6, w5, r1.symm.trans w5⟩, fun q hq => ⟨a2.2.2.1 q hq, (r7 q hq).1⟩, h4.lw⟩
