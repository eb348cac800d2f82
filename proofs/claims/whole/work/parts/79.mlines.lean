/-! LINES of the model: flight, lane, bags, shift -/
def rBg (b : Nat → Nat) (E most n : Nat) (r : Res Unit) : Res Unit := rN b E (if n = most then rF_ b E 4 r else r)
def gBg (b : Nat → Nat) (E most n : Nat) (r : Res Unit) (G : JV) : JV := gN b E (if n = most then rF_ b E 4 r else r) (if n = most then gF b E 4 r G else G)
theorem mSt.b0 {b : Nat → Nat} {E most n : Nat} {r : Res Unit} {G : JV} (h : mSt b E r G) : mSt b E (if n = most then rF_ b E 4 r else r) (if n = most then gF b E 4 r G else G) := by
  split
  · exact h.f (by omega)
  · exact h
theorem mSt.bg {b : Nat → Nat} {E most n : Nat} {r : Res Unit} {G : JV} (h : mSt b E r G) : mSt b E (rBg b E most n r) (gBg b E most n r G) := h.b0.n
theorem rBg_n {b : Nat → Nat} {E most n : Nat} {r : Res Unit} {x : Unit × Nat} (h : rBg b E most n r = .inr x) : n ≠ most := by
  intro e
  unfold rBg at h
  rw [if_pos e] at h
  cases r <;> cases h
theorem gPo_x {b : Nat → Nat} {E hx : Nat} {t : Nat → Bool} {e : Nat × Nat} {G : JV} : gPo b E t hx (.inl e) G = G := by
  unfold gPo gPk rPk
  split <;> rfl
theorem rU_inr {α : Type} {q : Res α} {x : Unit × Nat} (h : rU q = .inr x) : ∃ v, q = .inr (v, x.2) := by
  cases q with
  | inl e => cases h
  | inr y => cases h; exact ⟨y.1, rfl⟩
theorem st_cm {A : JI} {u v : Nat} {X Y : JV} (h : u ≠ v) : st (st A u X) v Y = st (st A v Y) u X := by
  funext k
  by_cases h1 : k = u
  · subst h1; simp [st, h]
  · simp [st, h1]
def flr1 (b : Nat → Nat) (E : Nat) (kf kl sz : Nat) (N : JV) (r : Res Unit) : Res Unit := rBg b E 8 kf r
def flg1 (b : Nat → Nat) (E : Nat) (kf kl sz : Nat) (N : JV) (r : Res Unit) (G : JV) : JV := gBg b E 8 kf r G
def fv3 (b : Nat → Nat) (E : Nat) (kf kl sz : Nat) (N : JV) (r : Res Unit) : Nat := vL b E sz (flr1 b E kf kl sz N r)
def flr2 (b : Nat → Nat) (E : Nat) (kf kl sz : Nat) (N : JV) (r : Res Unit) : Res Unit := rU (rPo b E (fun v => tkn N kf kl (nI v)) sz (flr1 b E kf kl sz N r))
def flg2 (b : Nat → Nat) (E : Nat) (kf kl sz : Nat) (N : JV) (r : Res Unit) (G : JV) : JV := gPo b E (fun v => tkn N kf kl (nI v)) sz (flr1 b E kf kl sz N r) (flg1 b E kf kl sz N r G)
def fv4 (b : Nat → Nat) (E : Nat) (kf kl sz : Nat) (N : JV) (r : Res Unit) : Nat := vU 0 (rNu b E 0 1000 (flr2 b E kf kl sz N r))
def flr3 (b : Nat → Nat) (E : Nat) (kf kl sz : Nat) (N : JV) (r : Res Unit) : Res Unit := rU (rNu b E 0 1000 (flr2 b E kf kl sz N r))
def flg3 (b : Nat → Nat) (E : Nat) (kf kl sz : Nat) (N : JV) (r : Res Unit) (G : JV) : JV := gNu b E 0 1000 (flr2 b E kf kl sz N r) (flg2 b E kf kl sz N r G)
def fv5 (b : Nat → Nat) (E : Nat) (kf kl sz : Nat) (N : JV) (r : Res Unit) : Nat := vU ((fv4 b E kf kl sz N r) + 1) (rNu b E ((fv4 b E kf kl sz N r) + 1) 2000 (flr3 b E kf kl sz N r))
def flr4 (b : Nat → Nat) (E : Nat) (kf kl sz : Nat) (N : JV) (r : Res Unit) : Res Unit := rU (rNu b E ((fv4 b E kf kl sz N r) + 1) 2000 (flr3 b E kf kl sz N r))
def flg4 (b : Nat → Nat) (E : Nat) (kf kl sz : Nat) (N : JV) (r : Res Unit) (G : JV) : JV := gNu b E ((fv4 b E kf kl sz N r) + 1) 2000 (flr3 b E kf kl sz N r) (flg3 b E kf kl sz N r G)
theorem mSt.fl1 {b : Nat → Nat} {E kf kl sz : Nat} {N : JV} {r : Res Unit} {G : JV} (h : mSt b E r G) : mSt b E (flr1 b E kf kl sz N r) (flg1 b E kf kl sz N r G) := h.bg
theorem mSt.fl2 {b : Nat → Nat} {E kf kl sz : Nat} {N : JV} {r : Res Unit} {G : JV} (h : mSt b E r G) : mSt b E (flr2 b E kf kl sz N r) (flg2 b E kf kl sz N r G) := h.fl1.po
theorem mSt.fl3 {b : Nat → Nat} {E kf kl sz : Nat} {N : JV} {r : Res Unit} {G : JV} (h : mSt b E r G) : mSt b E (flr3 b E kf kl sz N r) (flg3 b E kf kl sz N r G) := h.fl2.nu
theorem mSt.fl4 {b : Nat → Nat} {E kf kl sz : Nat} {N : JV} {r : Res Unit} {G : JV} (h : mSt b E r G) : mSt b E (flr4 b E kf kl sz N r) (flg4 b E kf kl sz N r G) := h.fl3.nu
def flN (b : Nat → Nat) (E : Nat) (kf kl sz : Nat) (N : JV) (r : Res Unit) : JV := match flr1 b E kf kl sz N r with
  | .inl _ => N
  | .inr _ => w1 (w1 N (15 + kf) (nI (fv3 b E kf kl sz N r))) 12 (nI (kf + 1))
def flX (b : Nat → Nat) (E : Nat) (kf kl sz : Nat) (N : JV) (r : Res Unit) (X : JV) : JV := match flr1 b E kf kl sz N r with
  | .inl _ => X
  | .inr _ => w1 (w1 X (5 + kf) (nI (fv4 b E kf kl sz N r))) (13 + kf) (nI (fv5 b E kf kl sz N r))
def lar1 (b : Nat → Nat) (E : Nat) (kf kl sz : Nat) (N : JV) (r : Res Unit) : Res Unit := rBg b E 4 kl r
def lag1 (b : Nat → Nat) (E : Nat) (kf kl sz : Nat) (N : JV) (r : Res Unit) (G : JV) : JV := gBg b E 4 kl r G
def lv3 (b : Nat → Nat) (E : Nat) (kf kl sz : Nat) (N : JV) (r : Res Unit) : Nat := vL b E sz (lar1 b E kf kl sz N r)
def lar2 (b : Nat → Nat) (E : Nat) (kf kl sz : Nat) (N : JV) (r : Res Unit) : Res Unit := rU (rPo b E (fun v => tkn N kf kl (nI v)) sz (lar1 b E kf kl sz N r))
def lag2 (b : Nat → Nat) (E : Nat) (kf kl sz : Nat) (N : JV) (r : Res Unit) (G : JV) : JV := gPo b E (fun v => tkn N kf kl (nI v)) sz (lar1 b E kf kl sz N r) (lag1 b E kf kl sz N r G)
def lv4 (b : Nat → Nat) (E : Nat) (kf kl sz : Nat) (N : JV) (r : Res Unit) : Nat := vU 1 (rNu b E 1 21 (lar2 b E kf kl sz N r))
def lar3 (b : Nat → Nat) (E : Nat) (kf kl sz : Nat) (N : JV) (r : Res Unit) : Res Unit := rU (rNu b E 1 21 (lar2 b E kf kl sz N r))
def lag3 (b : Nat → Nat) (E : Nat) (kf kl sz : Nat) (N : JV) (r : Res Unit) (G : JV) : JV := gNu b E 1 21 (lar2 b E kf kl sz N r) (lag2 b E kf kl sz N r G)
theorem mSt.la1 {b : Nat → Nat} {E kf kl sz : Nat} {N : JV} {r : Res Unit} {G : JV} (h : mSt b E r G) : mSt b E (lar1 b E kf kl sz N r) (lag1 b E kf kl sz N r G) := h.bg
theorem mSt.la2 {b : Nat → Nat} {E kf kl sz : Nat} {N : JV} {r : Res Unit} {G : JV} (h : mSt b E r G) : mSt b E (lar2 b E kf kl sz N r) (lag2 b E kf kl sz N r G) := h.la1.po
theorem mSt.la3 {b : Nat → Nat} {E kf kl sz : Nat} {N : JV} {r : Res Unit} {G : JV} (h : mSt b E r G) : mSt b E (lar3 b E kf kl sz N r) (lag3 b E kf kl sz N r G) := h.la2.nu
def laN (b : Nat → Nat) (E : Nat) (kf kl sz : Nat) (N : JV) (r : Res Unit) : JV := match lar1 b E kf kl sz N r with
  | .inl _ => N
  | .inr _ => w1 (w1 (w1 N (23 + kl) (nI (lv3 b E kf kl sz N r))) (27 + kl) (nI (lv4 b E kf kl sz N r))) 13 (nI (kl + 1))
def shr1 (b : Nat → Nat) (E : Nat) (ksq : Nat) (r : Res Unit) : Res Unit := rBg b E 4 ksq r
def shg1 (b : Nat → Nat) (E : Nat) (ksq : Nat) (r : Res Unit) (G : JV) : JV := gBg b E 4 ksq r G
def sv2 (b : Nat → Nat) (E : Nat) (ksq : Nat) (r : Res Unit) : Nat := vU 1 (rNu b E 1 4 (shr1 b E ksq r))
def shr2 (b : Nat → Nat) (E : Nat) (ksq : Nat) (r : Res Unit) : Res Unit := rU (rNu b E 1 4 (shr1 b E ksq r))
def shg2 (b : Nat → Nat) (E : Nat) (ksq : Nat) (r : Res Unit) (G : JV) : JV := gNu b E 1 4 (shr1 b E ksq r) (shg1 b E ksq r G)
def sv3 (b : Nat → Nat) (E : Nat) (ksq : Nat) (r : Res Unit) : Nat := vU 0 (rNu b E 0 4 (shr2 b E ksq r))
def shr3 (b : Nat → Nat) (E : Nat) (ksq : Nat) (r : Res Unit) : Res Unit := rU (rNu b E 0 4 (shr2 b E ksq r))
def shg3 (b : Nat → Nat) (E : Nat) (ksq : Nat) (r : Res Unit) (G : JV) : JV := gNu b E 0 4 (shr2 b E ksq r) (shg2 b E ksq r G)
def sv4 (b : Nat → Nat) (E : Nat) (ksq : Nat) (r : Res Unit) : Nat := vU 0 (rNu b E 0 1000 (shr3 b E ksq r))
def shr4 (b : Nat → Nat) (E : Nat) (ksq : Nat) (r : Res Unit) : Res Unit := rU (rNu b E 0 1000 (shr3 b E ksq r))
def shg4 (b : Nat → Nat) (E : Nat) (ksq : Nat) (r : Res Unit) (G : JV) : JV := gNu b E 0 1000 (shr3 b E ksq r) (shg3 b E ksq r G)
def sv5 (b : Nat → Nat) (E : Nat) (ksq : Nat) (r : Res Unit) : Nat := vU (sv4 b E ksq r) (rNu b E (sv4 b E ksq r) 2000 (shr4 b E ksq r))
def shr5 (b : Nat → Nat) (E : Nat) (ksq : Nat) (r : Res Unit) : Res Unit := rU (rNu b E (sv4 b E ksq r) 2000 (shr4 b E ksq r))
def shg5 (b : Nat → Nat) (E : Nat) (ksq : Nat) (r : Res Unit) (G : JV) : JV := gNu b E (sv4 b E ksq r) 2000 (shr4 b E ksq r) (shg4 b E ksq r G)
theorem mSt.sh1 {b : Nat → Nat} {E ksq : Nat} {r : Res Unit} {G : JV} (h : mSt b E r G) : mSt b E (shr1 b E ksq r) (shg1 b E ksq r G) := h.bg
theorem mSt.sh2 {b : Nat → Nat} {E ksq : Nat} {r : Res Unit} {G : JV} (h : mSt b E r G) : mSt b E (shr2 b E ksq r) (shg2 b E ksq r G) := h.sh1.nu
theorem mSt.sh3 {b : Nat → Nat} {E ksq : Nat} {r : Res Unit} {G : JV} (h : mSt b E r G) : mSt b E (shr3 b E ksq r) (shg3 b E ksq r G) := h.sh2.nu
theorem mSt.sh4 {b : Nat → Nat} {E ksq : Nat} {r : Res Unit} {G : JV} (h : mSt b E r G) : mSt b E (shr4 b E ksq r) (shg4 b E ksq r G) := h.sh3.nu
theorem mSt.sh5 {b : Nat → Nat} {E ksq : Nat} {r : Res Unit} {G : JV} (h : mSt b E r G) : mSt b E (shr5 b E ksq r) (shg5 b E ksq r G) := h.sh4.nu
def shN (b : Nat → Nat) (E : Nat) (ksq : Nat) (r : Res Unit) (N : JV) : JV := match shr1 b E ksq r with
  | .inl _ => N
  | .inr _ => w1 (w1 (w1 (w1 (w1 N (35 + 4 * ksq) (nI (sv2 b E ksq r) - 1)) (35 + 4 * ksq + 1) (nI (sv3 b E ksq r))) (35 + 4 * ksq + 2) (nI (sv4 b E ksq r))) (35 + 4 * ksq + 3) (nI (sv5 b E ksq r))) 34 (nI (ksq + 1))
def bgr1 (b : Nat → Nat) (E : Nat) (kcq kf : Nat) (r : Res Unit) : Res Unit := rN b E r
def bgg1 (b : Nat → Nat) (E : Nat) (kcq kf : Nat) (r : Res Unit) (G : JV) : JV := gN b E r G
def bv1 (b : Nat → Nat) (E : Nat) (kcq kf : Nat) (r : Res Unit) : Nat := vU 0 (rNu b E 0 1000 (bgr1 b E kcq kf r))
def bgr2 (b : Nat → Nat) (E : Nat) (kcq kf : Nat) (r : Res Unit) : Res Unit := rU (rNu b E 0 1000 (bgr1 b E kcq kf r))
def bgg2 (b : Nat → Nat) (E : Nat) (kcq kf : Nat) (r : Res Unit) (G : JV) : JV := gNu b E 0 1000 (bgr1 b E kcq kf r) (bgg1 b E kcq kf r G)
def bv2 (b : Nat → Nat) (E : Nat) (kcq kf : Nat) (r : Res Unit) : Nat := vU 1 (rNu b E 1 (101 - kcq) (bgr2 b E kcq kf r))
def bgr3 (b : Nat → Nat) (E : Nat) (kcq kf : Nat) (r : Res Unit) : Res Unit := rU (rNu b E 1 (101 - kcq) (bgr2 b E kcq kf r))
def bgg3 (b : Nat → Nat) (E : Nat) (kcq kf : Nat) (r : Res Unit) (G : JV) : JV := gNu b E 1 (101 - kcq) (bgr2 b E kcq kf r) (bgg2 b E kcq kf r G)
def bv3 (b : Nat → Nat) (E : Nat) (kcq kf : Nat) (r : Res Unit) : Nat := vU 0 (rNu b E 0 kf (bgr3 b E kcq kf r))
def bgr4 (b : Nat → Nat) (E : Nat) (kcq kf : Nat) (r : Res Unit) : Res Unit := rU (rNu b E 0 kf (bgr3 b E kcq kf r))
def bgg4 (b : Nat → Nat) (E : Nat) (kcq kf : Nat) (r : Res Unit) (G : JV) : JV := gNu b E 0 kf (bgr3 b E kcq kf r) (bgg3 b E kcq kf r G)
theorem mSt.bg1 {b : Nat → Nat} {E kcq kf : Nat} {r : Res Unit} {G : JV} (h : mSt b E r G) : mSt b E (bgr1 b E kcq kf r) (bgg1 b E kcq kf r G) := h.n
theorem mSt.bg2 {b : Nat → Nat} {E kcq kf : Nat} {r : Res Unit} {G : JV} (h : mSt b E r G) : mSt b E (bgr2 b E kcq kf r) (bgg2 b E kcq kf r G) := h.bg1.nu
theorem mSt.bg3 {b : Nat → Nat} {E kcq kf : Nat} {r : Res Unit} {G : JV} (h : mSt b E r G) : mSt b E (bgr3 b E kcq kf r) (bgg3 b E kcq kf r G) := h.bg2.nu
theorem mSt.bg4 {b : Nat → Nat} {E kcq kf : Nat} {r : Res Unit} {G : JV} (h : mSt b E r G) : mSt b E (bgr4 b E kcq kf r) (bgg4 b E kcq kf r G) := h.bg3.nu
def bgX (b : Nat → Nat) (E : Nat) (kcq kf : Nat) (r : Res Unit) (X : JV) : JV := match bgr4 b E kcq kf r with
  | .inl _ => X
  | .inr _ => mAd (nI (bv1 b E kcq kf r)) (nI (bv3 b E kcq kf r)) (bv2 b E kcq kf r) kcq X
section M79
variable {Γ : Gam} {d : Nat} {T : JT} {R S : JR} {I A : JI} {L : JL} {D : JD} {z : Option Nat} {mo E : Nat} {G N X : JV} {b : Nat → Nat} {r : Res Unit}
theorem exM_flight (hm : hMo T S mo) (hb : mB_ A b E) (hs : mSt b E r G) {kf kl sz : Nat} (h12 : N 12 = nI kf) (hf8 : kf ≤ 8) (h13 : N 13 = nI kl) (hl4 : kl ≤ 4) (h0 : N 0 = nI sz) (hz30 : sz < 2 ^ 30) : Ex Γ (d + 5) Y_X9_readFlight [.ref mo] (T, R, S, blk 18 I mo (st (qA A N X) 0 G), L, D, z) 0 0 (rV (T, R, S, blk 18 I mo (st (qA A (flN b E kf kl sz N r) (flX b E kf kl sz N r X)) 0 (flg4 b E kf kl sz N r G)), L, D, z)) := by
  have hrest : JJ Γ (jj_E Y_X9_readFlight) (jj_Z Γ (rV (T, R, S, blk 18 I mo (st (qA A (flN b E kf kl sz N r) (flX b E kf kl sz N r X)) 0 (flg4 b E kf kl sz N r G)), L, D, z)) 0 0) (jj_rm (d + 5) 0 0) 0 0 19 [some (.ref mo), some (.int (nI kf))] [] (T, R, S, blk 18 I mo (st (qA A N X) 0 (if kf = 8 then gF b E 4 r G else G)), L, D, z) := by
    have hs1 := hs.fl1 (kf := kf) (kl := kl) (sz := sz) (N := N)
    cases hr : flr1 b E kf kl sz N r with
    | inl e =>
      rw [hr] at hs1
      have hgt := ne0 hs1.2.2.2
      have eG : flg4 b E kf kl sz N r G = flg1 b E kf kl sz N r G := by unfold flg4 flg3 flg2 flr3 flr2; rw [hr]; rw [gPo_x]; rfl
      have eN : (flN b E kf kl sz N r) = N := by unfold flN; rw [hr]
      have eX : (flX b E kf kl sz N r X) = X := by unfold flX; rw [hr]
      rw [eG, eN, eX]
      refine jj_aload_n (q := 20) dX9_readFlight_19 rfl rfl rfl ?_
      refine jj_cV0v (q := 23) dX9_readFlight_20 yk_X9_nextToken ml_X9_134 hm.t0 (exM_next hm hb.q (hs.b0 (most := 8) (n := kf))) rfl rfl rfl ⟨Nat.zero_le _, Nat.zero_le _⟩ ?_
      refine jj_aload_n (q := 24) dX9_readFlight_23 rfl rfl rfl ?_
      refine jj_getIw (v := nI e.1) (q := 27) dX9_readFlight_24 fl_X9_92 hm.t0 (by rw [g_rd]; exact hs1.2.1) rfl rfl ?_
      refine jj_if_le (q := 30) (tgt := 31) dX9_readFlight_27 rfl rfl (fun h27 => absurd h27 (Int32.not_le.mpr hgt)) (fun h27 => ?_)
      refine jj_vret dX9_readFlight_30 rfl (Nat.zero_le _) (Nat.zero_le _) ?_
      exact ⟨rfl, rfl⟩
    | inr x =>
      have hnm := rBg_n hr
      rw [hr] at hs1
      have eN : (flN b E kf kl sz N r) = w1 (w1 N (15 + kf) (nI (fv3 b E kf kl sz N r))) 12 (nI (kf + 1)) := by unfold flN; rw [hr]
      have eX : (flX b E kf kl sz N r X) = w1 (w1 X (5 + kf) (nI (fv4 b E kf kl sz N r))) (13 + kf) (nI (fv5 b E kf kl sz N r)) := by unfold flX; rw [hr]
      have h5 := hs1.2.2.2.1
      have hss := hs.fl1 (kf := kf) (kl := kl) (sz := sz) (N := N)
      rw [eN, eX]
      have hv4 : fv4 b E kf kl sz N r < 1000 := (vU_lt (by omega)).2
      refine jj_aload_n (q := 20) dX9_readFlight_19 rfl rfl rfl ?_
      refine jj_cV0v (q := 23) dX9_readFlight_20 yk_X9_nextToken ml_X9_134 hm.t0 (exM_next hm hb.q (hs.b0 (most := 8) (n := kf))) rfl rfl rfl ⟨Nat.zero_le _, Nat.zero_le _⟩ ?_
      refine jj_aload_n (q := 24) dX9_readFlight_23 rfl rfl rfl ?_
      refine jj_getIw (v := 0) (q := 27) dX9_readFlight_24 fl_X9_92 hm.t0 (by rw [g_rd]; exact h5) rfl rfl ?_
      refine jj_if_le (q := 30) (tgt := 31) dX9_readFlight_27 rfl rfl (fun h27 => ?_) (fun h27 => absurd (by decide) h27)
      refine jj_aload_n (q := 32) dX9_readFlight_31 rfl rfl rfl ?_
      refine jj_getS (q := 35) dX9_readFlight_32 fl_X9_20 hm.t0 hm.r0_11 rfl rfl rfl ?_
      refine jj_bipush (v := 15) (q := 37) dX9_readFlight_35 rfl rfl ?_
      refine jj_iload_n (q := 38) dX9_readFlight_37 rfl rfl rfl ?_
      refine jj_iaddN (q := 39) (a := 15) (b := kf) dX9_readFlight_38 rfl rfl rfl ?_
      refine jj_aload_n (q := 40) dX9_readFlight_39 rfl rfl rfl ?_
      refine jj_cV0i (q := 43) dX9_readFlight_40 yk_X9_position ml_X9_165 hm.t0 (exM_position hm hb hss h12 hf8 h13 hl4 h0 hz30) rfl rfl rfl ⟨Nat.zero_le _, Nat.zero_le _⟩ ?_
      refine jj_iastN (q := 44) (j := 15 + kf) dX9_readFlight_43 hm.t3 n3_wr rfl (by omega) rfl ?_
      refine jj_aload_n (q := 45) dX9_readFlight_44 rfl rfl rfl ?_
      refine jj_getS (q := 48) dX9_readFlight_45 fl_X9_26 hm.t0 hm.r0_13 rfl rfl rfl ?_
      refine jj_iconst (v := 5) (q := 49) dX9_readFlight_48 rfl rfl ?_
      refine jj_iload_n (q := 50) dX9_readFlight_49 rfl rfl rfl ?_
      refine jj_iaddN (q := 51) (a := 5) (b := kf) dX9_readFlight_50 rfl rfl rfl ?_
      refine jj_aload_n (q := 52) dX9_readFlight_51 rfl rfl rfl ?_
      refine jj_iconst (v := 0) (q := 53) dX9_readFlight_52 rfl rfl ?_
      refine jj_sipush (v := 999) (q := 56) dX9_readFlight_53 rfl rfl ?_
      refine jj_cV2i (q := 59) dX9_readFlight_56 yk_X9_number ml_X9_151 hm.t0 (exM_number (lo := 0) (hx := 1000) hm hb.q hs.fl2 rfl (by decide) (by decide)) rfl rfl rfl ⟨Nat.zero_le _, Nat.zero_le _⟩ ?_
      refine jj_iastN (q := 60) (j := 5 + kf) dX9_readFlight_59 hm.t5 n5_wr rfl (by omega) rfl ?_
      refine jj_aload_n (q := 61) dX9_readFlight_60 rfl rfl rfl ?_
      refine jj_getS (q := 64) dX9_readFlight_61 fl_X9_26 hm.t0 hm.r0_13 rfl rfl rfl ?_
      refine jj_bipush (v := 13) (q := 66) dX9_readFlight_64 rfl rfl ?_
      refine jj_iload_n (q := 67) dX9_readFlight_66 rfl rfl rfl ?_
      refine jj_iaddN (q := 68) (a := 13) (b := kf) dX9_readFlight_67 rfl rfl rfl ?_
      refine jj_aload_n (q := 69) dX9_readFlight_68 rfl rfl rfl ?_
      refine jj_aload_n (q := 70) dX9_readFlight_69 rfl rfl rfl ?_
      refine jj_getS (q := 73) dX9_readFlight_70 fl_X9_26 hm.t0 hm.r0_13 rfl rfl rfl ?_
      refine jj_iconst (v := 5) (q := 74) dX9_readFlight_73 rfl rfl ?_
      refine jj_iload_n (q := 75) dX9_readFlight_74 rfl rfl rfl ?_
      refine jj_iaddN (q := 76) (a := 5) (b := kf) dX9_readFlight_75 rfl rfl rfl ?_
      refine jj_ialdW (q := 77) (j := 5 + kf) (v := nI ((fv4 b E kf kl sz N r))) dX9_readFlight_76 hm.t5 n5_rd rfl (by omega) w1_eq rfl ?_
      refine jj_iconst (v := 1) (q := 78) dX9_readFlight_77 rfl rfl ?_
      refine jj_iaddN (q := 79) (a := (fv4 b E kf kl sz N r)) (b := 1) dX9_readFlight_78 rfl rfl rfl ?_
      refine jj_sipush (v := 1999) (q := 82) dX9_readFlight_79 rfl rfl ?_
      refine jj_cV2i (q := 85) dX9_readFlight_82 yk_X9_number ml_X9_151 hm.t0 (exM_number (lo := (fv4 b E kf kl sz N r) + 1) (hx := 2000) hm hb.q hs.fl3 rfl (by omega) (by decide)) rfl rfl rfl ⟨Nat.zero_le _, Nat.zero_le _⟩ ?_
      refine jj_iastN (q := 86) (j := 13 + kf) dX9_readFlight_85 hm.t5 n5_wr rfl (by omega) rfl ?_
      refine jj_aload_n (q := 87) dX9_readFlight_86 rfl rfl rfl ?_
      refine jj_getS (q := 90) dX9_readFlight_87 fl_X9_20 hm.t0 hm.r0_11 rfl rfl rfl ?_
      refine jj_bipush (v := 12) (q := 92) dX9_readFlight_90 rfl rfl ?_
      refine jj_dup2 (q := 93) dX9_readFlight_92 rfl rfl rfl ?_
      refine jj_ialdW (q := 94) (j := 12) (v := nI kf) dX9_readFlight_93 hm.t3 n3_rd rfl (by omega) (by rw [w1_ne (by omega)]; exact h12) rfl ?_
      refine jj_iconst (v := 1) (q := 95) dX9_readFlight_94 rfl rfl ?_
      refine jj_iaddN (q := 96) (a := kf) (b := 1) dX9_readFlight_95 rfl rfl rfl ?_
      refine jj_iastN (q := 97) (j := 12) dX9_readFlight_96 hm.t3 n3_wr rfl (by omega) rfl ?_
      refine jj_vret dX9_readFlight_97 rfl (Nat.zero_le _) (Nat.zero_le _) ?_
      exact ⟨rfl, rfl⟩
  refine Ex.of (by decide) (by simp [Value.category]) (Nat.le_of_ble_eq_true rfl) rfl ?_
  refine jj_aload_n (q := 1) dX9_readFlight_0 rfl rfl rfl ?_
  refine jj_getS (q := 4) dX9_readFlight_1 fl_X9_20 hm.t0 hm.r0_11 rfl rfl rfl ?_
  refine jj_bipush (v := 12) (q := 6) dX9_readFlight_4 rfl rfl ?_
  refine jj_ialdW (q := 7) (j := 12) (v := nI kf) dX9_readFlight_6 hm.t3 n3_rd rfl (by omega) h12 rfl ?_
  refine jj_istore_n (q := 8) dX9_readFlight_7 rfl (by decide) rfl ?_
  refine jj_iload_n (q := 9) dX9_readFlight_8 rfl rfl rfl ?_
  refine jj_bipush (v := 8) (q := 11) dX9_readFlight_9 rfl rfl ?_
  refine jj_icmp_ne (q := 14) (tgt := 19) dX9_readFlight_11 rfl rfl (fun h11 => ?_) (fun h11 => ?_)
  · rw [if_neg (fun w => h11 (by rw [w]; rfl))] at hrest
    exact hrest
  · refine jj_aload_n (q := 15) dX9_readFlight_14 rfl rfl rfl ?_
    refine jj_iconst (v := 4) (q := 16) dX9_readFlight_15 rfl rfl ?_
    refine jj_cV1v (q := 19) dX9_readFlight_16 yk_X9_faults ml_X9_140 hm.t0 (exM_faults (c := 4) hm hb.q hs) rfl rfl rfl ⟨Nat.zero_le _, Nat.zero_le _⟩ ?_
    rw [if_pos (nI_inj' (a := kf) (b := 8) (by omega) (by omega) h11)] at hrest
    exact hrest
theorem exM_lane (hm : hMo T S mo) (hb : mB_ A b E) (hs : mSt b E r G) {kf kl sz : Nat} (h12 : N 12 = nI kf) (hf8 : kf ≤ 8) (h13 : N 13 = nI kl) (hl4 : kl ≤ 4) (h0 : N 0 = nI sz) (hz30 : sz < 2 ^ 30) : Ex Γ (d + 5) Y_X9_readLane [.ref mo] (T, R, S, blk 18 I mo (st (qA A N X) 0 G), L, D, z) 0 0 (rV (T, R, S, blk 18 I mo (st (qA A (laN b E kf kl sz N r) X) 0 (lag3 b E kf kl sz N r G)), L, D, z)) := by
  have hrest : JJ Γ (jj_E Y_X9_readLane) (jj_Z Γ (rV (T, R, S, blk 18 I mo (st (qA A (laN b E kf kl sz N r) X) 0 (lag3 b E kf kl sz N r G)), L, D, z)) 0 0) (jj_rm (d + 5) 0 0) 0 0 18 [some (.ref mo), some (.int (nI kl))] [] (T, R, S, blk 18 I mo (st (qA A N X) 0 (if kl = 4 then gF b E 4 r G else G)), L, D, z) := by
    have hs1 := hs.la1 (kf := kf) (kl := kl) (sz := sz) (N := N)
    cases hr : lar1 b E kf kl sz N r with
    | inl e =>
      rw [hr] at hs1
      have hgt := ne0 hs1.2.2.2
      have eG : lag3 b E kf kl sz N r G = lag1 b E kf kl sz N r G := by unfold lag3 lag2 lar2; rw [hr]; rw [gPo_x]; rfl
      have eN : (laN b E kf kl sz N r) = N := by unfold laN; rw [hr]
      have eX : X = X := by rfl
      rw [eG, eN]
      refine jj_aload_n (q := 19) dX9_readLane_18 rfl rfl rfl ?_
      refine jj_cV0v (q := 22) dX9_readLane_19 yk_X9_nextToken ml_X9_134 hm.t0 (exM_next hm hb.q (hs.b0 (most := 4) (n := kl))) rfl rfl rfl ⟨Nat.zero_le _, Nat.zero_le _⟩ ?_
      refine jj_aload_n (q := 23) dX9_readLane_22 rfl rfl rfl ?_
      refine jj_getIw (v := nI e.1) (q := 26) dX9_readLane_23 fl_X9_92 hm.t0 (by rw [g_rd]; exact hs1.2.1) rfl rfl ?_
      refine jj_if_le (q := 29) (tgt := 30) dX9_readLane_26 rfl rfl (fun h26 => absurd h26 (Int32.not_le.mpr hgt)) (fun h26 => ?_)
      refine jj_vret dX9_readLane_29 rfl (Nat.zero_le _) (Nat.zero_le _) ?_
      exact ⟨rfl, rfl⟩
    | inr x =>
      have hnm := rBg_n hr
      rw [hr] at hs1
      have eN : (laN b E kf kl sz N r) = w1 (w1 (w1 N (23 + kl) (nI (lv3 b E kf kl sz N r))) (27 + kl) (nI (lv4 b E kf kl sz N r))) 13 (nI (kl + 1)) := by unfold laN; rw [hr]
      have eX : X = X := by rfl
      have h5 := hs1.2.2.2.1
      have hss := hs.la1 (kf := kf) (kl := kl) (sz := sz) (N := N)
      rw [eN]
      refine jj_aload_n (q := 19) dX9_readLane_18 rfl rfl rfl ?_
      refine jj_cV0v (q := 22) dX9_readLane_19 yk_X9_nextToken ml_X9_134 hm.t0 (exM_next hm hb.q (hs.b0 (most := 4) (n := kl))) rfl rfl rfl ⟨Nat.zero_le _, Nat.zero_le _⟩ ?_
      refine jj_aload_n (q := 23) dX9_readLane_22 rfl rfl rfl ?_
      refine jj_getIw (v := 0) (q := 26) dX9_readLane_23 fl_X9_92 hm.t0 (by rw [g_rd]; exact h5) rfl rfl ?_
      refine jj_if_le (q := 29) (tgt := 30) dX9_readLane_26 rfl rfl (fun h26 => ?_) (fun h26 => absurd (by decide) h26)
      refine jj_aload_n (q := 31) dX9_readLane_30 rfl rfl rfl ?_
      refine jj_getS (q := 34) dX9_readLane_31 fl_X9_20 hm.t0 hm.r0_11 rfl rfl rfl ?_
      refine jj_bipush (v := 23) (q := 36) dX9_readLane_34 rfl rfl ?_
      refine jj_iload_n (q := 37) dX9_readLane_36 rfl rfl rfl ?_
      refine jj_iaddN (q := 38) (a := 23) (b := kl) dX9_readLane_37 rfl rfl rfl ?_
      refine jj_aload_n (q := 39) dX9_readLane_38 rfl rfl rfl ?_
      refine jj_cV0i (q := 42) dX9_readLane_39 yk_X9_position ml_X9_165 hm.t0 (exM_position hm hb hss h12 hf8 h13 hl4 h0 hz30) rfl rfl rfl ⟨Nat.zero_le _, Nat.zero_le _⟩ ?_
      refine jj_iastN (q := 43) (j := 23 + kl) dX9_readLane_42 hm.t3 n3_wr rfl (by omega) rfl ?_
      refine jj_aload_n (q := 44) dX9_readLane_43 rfl rfl rfl ?_
      refine jj_getS (q := 47) dX9_readLane_44 fl_X9_20 hm.t0 hm.r0_11 rfl rfl rfl ?_
      refine jj_bipush (v := 27) (q := 49) dX9_readLane_47 rfl rfl ?_
      refine jj_iload_n (q := 50) dX9_readLane_49 rfl rfl rfl ?_
      refine jj_iaddN (q := 51) (a := 27) (b := kl) dX9_readLane_50 rfl rfl rfl ?_
      refine jj_aload_n (q := 52) dX9_readLane_51 rfl rfl rfl ?_
      refine jj_iconst (v := 1) (q := 53) dX9_readLane_52 rfl rfl ?_
      refine jj_bipush (v := 20) (q := 55) dX9_readLane_53 rfl rfl ?_
      refine jj_cV2i (q := 58) dX9_readLane_55 yk_X9_number ml_X9_151 hm.t0 (exM_number (lo := 1) (hx := 21) hm hb.q hs.la2 rfl (by decide) (by decide)) rfl rfl rfl ⟨Nat.zero_le _, Nat.zero_le _⟩ ?_
      refine jj_iastN (q := 59) (j := 27 + kl) dX9_readLane_58 hm.t3 n3_wr rfl (by omega) rfl ?_
      refine jj_aload_n (q := 60) dX9_readLane_59 rfl rfl rfl ?_
      refine jj_getS (q := 63) dX9_readLane_60 fl_X9_20 hm.t0 hm.r0_11 rfl rfl rfl ?_
      refine jj_bipush (v := 13) (q := 65) dX9_readLane_63 rfl rfl ?_
      refine jj_dup2 (q := 66) dX9_readLane_65 rfl rfl rfl ?_
      refine jj_ialdW (q := 67) (j := 13) (v := nI kl) dX9_readLane_66 hm.t3 n3_rd rfl (by omega) (by rw [w1_ne (by omega), w1_ne (by omega)]; exact h13) rfl ?_
      refine jj_iconst (v := 1) (q := 68) dX9_readLane_67 rfl rfl ?_
      refine jj_iaddN (q := 69) (a := kl) (b := 1) dX9_readLane_68 rfl rfl rfl ?_
      refine jj_iastN (q := 70) (j := 13) dX9_readLane_69 hm.t3 n3_wr rfl (by omega) rfl ?_
      refine jj_vret dX9_readLane_70 rfl (Nat.zero_le _) (Nat.zero_le _) ?_
      exact ⟨rfl, rfl⟩
  refine Ex.of (by decide) (by simp [Value.category]) (Nat.le_of_ble_eq_true rfl) rfl ?_
  refine jj_aload_n (q := 1) dX9_readLane_0 rfl rfl rfl ?_
  refine jj_getS (q := 4) dX9_readLane_1 fl_X9_20 hm.t0 hm.r0_11 rfl rfl rfl ?_
  refine jj_bipush (v := 13) (q := 6) dX9_readLane_4 rfl rfl ?_
  refine jj_ialdW (q := 7) (j := 13) (v := nI kl) dX9_readLane_6 hm.t3 n3_rd rfl (by omega) h13 rfl ?_
  refine jj_istore_n (q := 8) dX9_readLane_7 rfl (by decide) rfl ?_
  refine jj_iload_n (q := 9) dX9_readLane_8 rfl rfl rfl ?_
  refine jj_iconst (v := 4) (q := 10) dX9_readLane_9 rfl rfl ?_
  refine jj_icmp_ne (q := 13) (tgt := 18) dX9_readLane_10 rfl rfl (fun h10 => ?_) (fun h10 => ?_)
  · rw [if_neg (fun w => h10 (by rw [w]; rfl))] at hrest
    exact hrest
  · refine jj_aload_n (q := 14) dX9_readLane_13 rfl rfl rfl ?_
    refine jj_iconst (v := 4) (q := 15) dX9_readLane_14 rfl rfl ?_
    refine jj_cV1v (q := 18) dX9_readLane_15 yk_X9_faults ml_X9_140 hm.t0 (exM_faults (c := 4) hm hb.q hs) rfl rfl rfl ⟨Nat.zero_le _, Nat.zero_le _⟩ ?_
    rw [if_pos (nI_inj' (a := kl) (b := 4) (by omega) (by omega) h10)] at hrest
    exact hrest
theorem exM_shift (hm : hMo T S mo) (hb : mB_ A b E) (hs : mSt b E r G) {ksq : Nat} (h34 : N 34 = nI ksq) (hs4 : ksq ≤ 4) : Ex Γ (d + 3) Y_X9_readShift [.ref mo] (T, R, S, blk 18 I mo (st (qA A N X) 0 G), L, D, z) 0 0 (rV (T, R, S, blk 18 I mo (st (qA A (shN b E ksq r N) X) 0 (shg5 b E ksq r G)), L, D, z)) := by
  have hrest : JJ Γ (jj_E Y_X9_readShift) (jj_Z Γ (rV (T, R, S, blk 18 I mo (st (qA A (shN b E ksq r N) X) 0 (shg5 b E ksq r G)), L, D, z)) 0 0) (jj_rm (d + 3) 0 0) 0 0 18 [some (.ref mo), some (.int (nI ksq)), none] [] (T, R, S, blk 18 I mo (st (qA A N X) 0 (if ksq = 4 then gF b E 4 r G else G)), L, D, z) := by
    have hs1 := hs.sh1 (ksq := ksq)
    cases hr : shr1 b E ksq r with
    | inl e =>
      rw [hr] at hs1
      have hgt := ne0 hs1.2.2.2
      have eG : shg5 b E ksq r G = shg1 b E ksq r G := by unfold shg5 shg4 shg3 shg2 shr4 shr3 shr2; rw [hr]; rfl
      have eN : (shN b E ksq r N) = N := by unfold shN; rw [hr]
      have eX : X = X := by rfl
      rw [eG, eN]
      refine jj_aload_n (q := 19) dX9_readShift_18 rfl rfl rfl ?_
      refine jj_cV0v (q := 22) dX9_readShift_19 yk_X9_nextToken ml_X9_134 hm.t0 (exM_next hm hb.q (hs.b0 (most := 4) (n := ksq))) rfl rfl rfl ⟨Nat.zero_le _, Nat.zero_le _⟩ ?_
      refine jj_aload_n (q := 23) dX9_readShift_22 rfl rfl rfl ?_
      refine jj_getIw (v := nI e.1) (q := 26) dX9_readShift_23 fl_X9_92 hm.t0 (by rw [g_rd]; exact hs1.2.1) rfl rfl ?_
      refine jj_if_le (q := 29) (tgt := 30) dX9_readShift_26 rfl rfl (fun h26 => absurd h26 (Int32.not_le.mpr hgt)) (fun h26 => ?_)
      refine jj_vret dX9_readShift_29 rfl (Nat.zero_le _) (Nat.zero_le _) ?_
      exact ⟨rfl, rfl⟩
    | inr x =>
      have hnm := rBg_n hr
      rw [hr] at hs1
      have eN : (shN b E ksq r N) = w1 (w1 (w1 (w1 (w1 N (35 + 4 * ksq) (nI (sv2 b E ksq r) - 1)) (35 + 4 * ksq + 1) (nI (sv3 b E ksq r))) (35 + 4 * ksq + 2) (nI (sv4 b E ksq r))) (35 + 4 * ksq + 3) (nI (sv5 b E ksq r))) 34 (nI (ksq + 1)) := by unfold shN; rw [hr]
      have eX : X = X := by rfl
      have h5 := hs1.2.2.2.1
      have hss := hs.sh1 (ksq := ksq)
      rw [eN]
      have hv4 : sv4 b E ksq r < 1000 := (vU_lt (by omega)).2
      refine jj_aload_n (q := 19) dX9_readShift_18 rfl rfl rfl ?_
      refine jj_cV0v (q := 22) dX9_readShift_19 yk_X9_nextToken ml_X9_134 hm.t0 (exM_next hm hb.q (hs.b0 (most := 4) (n := ksq))) rfl rfl rfl ⟨Nat.zero_le _, Nat.zero_le _⟩ ?_
      refine jj_aload_n (q := 23) dX9_readShift_22 rfl rfl rfl ?_
      refine jj_getIw (v := 0) (q := 26) dX9_readShift_23 fl_X9_92 hm.t0 (by rw [g_rd]; exact h5) rfl rfl ?_
      refine jj_if_le (q := 29) (tgt := 30) dX9_readShift_26 rfl rfl (fun h26 => ?_) (fun h26 => absurd (by decide) h26)
      refine jj_bipush (v := 35) (q := 32) dX9_readShift_30 rfl rfl ?_
      refine jj_iconst (v := 4) (q := 33) dX9_readShift_32 rfl rfl ?_
      refine jj_iload_n (q := 34) dX9_readShift_33 rfl rfl rfl ?_
      refine jj_imulN (q := 35) (a := 4) (b := ksq) dX9_readShift_34 rfl rfl rfl ?_
      refine jj_iaddN (q := 36) (a := 35) (b := 4 * ksq) dX9_readShift_35 rfl rfl rfl ?_
      refine jj_istore_n (q := 37) dX9_readShift_36 rfl (by decide) rfl ?_
      refine jj_aload_n (q := 38) dX9_readShift_37 rfl rfl rfl ?_
      refine jj_getS (q := 41) dX9_readShift_38 fl_X9_20 hm.t0 hm.r0_11 rfl rfl rfl ?_
      refine jj_iload_n (q := 42) dX9_readShift_41 rfl rfl rfl ?_
      refine jj_aload_n (q := 43) dX9_readShift_42 rfl rfl rfl ?_
      refine jj_iconst (v := 1) (q := 44) dX9_readShift_43 rfl rfl ?_
      refine jj_iconst (v := 3) (q := 45) dX9_readShift_44 rfl rfl ?_
      refine jj_cV2i (q := 48) dX9_readShift_45 yk_X9_number ml_X9_151 hm.t0 (exM_number (lo := 1) (hx := 4) hm hb.q hs.sh1 rfl (by decide) (by decide)) rfl rfl rfl ⟨Nat.zero_le _, Nat.zero_le _⟩ ?_
      refine jj_iconst (v := 1) (q := 49) dX9_readShift_48 rfl rfl ?_
      refine jj_isub (q := 50) dX9_readShift_49 rfl ?_
      refine jj_iastN (q := 51) (j := 35 + (4 * ksq)) dX9_readShift_50 hm.t3 n3_wr rfl (by omega) rfl ?_
      refine jj_aload_n (q := 52) dX9_readShift_51 rfl rfl rfl ?_
      refine jj_getS (q := 55) dX9_readShift_52 fl_X9_20 hm.t0 hm.r0_11 rfl rfl rfl ?_
      refine jj_iload_n (q := 56) dX9_readShift_55 rfl rfl rfl ?_
      refine jj_iconst (v := 1) (q := 57) dX9_readShift_56 rfl rfl ?_
      refine jj_iaddN (q := 58) (a := 35 + (4 * ksq)) (b := 1) dX9_readShift_57 rfl rfl rfl ?_
      refine jj_aload_n (q := 59) dX9_readShift_58 rfl rfl rfl ?_
      refine jj_iconst (v := 0) (q := 60) dX9_readShift_59 rfl rfl ?_
      refine jj_iconst (v := 3) (q := 61) dX9_readShift_60 rfl rfl ?_
      refine jj_cV2i (q := 64) dX9_readShift_61 yk_X9_number ml_X9_151 hm.t0 (exM_number (lo := 0) (hx := 4) hm hb.q hs.sh2 rfl (by decide) (by decide)) rfl rfl rfl ⟨Nat.zero_le _, Nat.zero_le _⟩ ?_
      refine jj_iastN (q := 65) (j := (35 + (4 * ksq)) + 1) dX9_readShift_64 hm.t3 n3_wr rfl (by omega) rfl ?_
      refine jj_aload_n (q := 66) dX9_readShift_65 rfl rfl rfl ?_
      refine jj_getS (q := 69) dX9_readShift_66 fl_X9_20 hm.t0 hm.r0_11 rfl rfl rfl ?_
      refine jj_iload_n (q := 70) dX9_readShift_69 rfl rfl rfl ?_
      refine jj_iconst (v := 2) (q := 71) dX9_readShift_70 rfl rfl ?_
      refine jj_iaddN (q := 72) (a := 35 + (4 * ksq)) (b := 2) dX9_readShift_71 rfl rfl rfl ?_
      refine jj_aload_n (q := 73) dX9_readShift_72 rfl rfl rfl ?_
      refine jj_iconst (v := 0) (q := 74) dX9_readShift_73 rfl rfl ?_
      refine jj_sipush (v := 999) (q := 77) dX9_readShift_74 rfl rfl ?_
      refine jj_cV2i (q := 80) dX9_readShift_77 yk_X9_number ml_X9_151 hm.t0 (exM_number (lo := 0) (hx := 1000) hm hb.q hs.sh3 rfl (by decide) (by decide)) rfl rfl rfl ⟨Nat.zero_le _, Nat.zero_le _⟩ ?_
      refine jj_iastN (q := 81) (j := (35 + (4 * ksq)) + 2) dX9_readShift_80 hm.t3 n3_wr rfl (by omega) rfl ?_
      refine jj_aload_n (q := 82) dX9_readShift_81 rfl rfl rfl ?_
      refine jj_getS (q := 85) dX9_readShift_82 fl_X9_20 hm.t0 hm.r0_11 rfl rfl rfl ?_
      refine jj_iload_n (q := 86) dX9_readShift_85 rfl rfl rfl ?_
      refine jj_iconst (v := 3) (q := 87) dX9_readShift_86 rfl rfl ?_
      refine jj_iaddN (q := 88) (a := 35 + (4 * ksq)) (b := 3) dX9_readShift_87 rfl rfl rfl ?_
      refine jj_aload_n (q := 89) dX9_readShift_88 rfl rfl rfl ?_
      refine jj_aload_n (q := 90) dX9_readShift_89 rfl rfl rfl ?_
      refine jj_getS (q := 93) dX9_readShift_90 fl_X9_20 hm.t0 hm.r0_11 rfl rfl rfl ?_
      refine jj_iload_n (q := 94) dX9_readShift_93 rfl rfl rfl ?_
      refine jj_iconst (v := 2) (q := 95) dX9_readShift_94 rfl rfl ?_
      refine jj_iaddN (q := 96) (a := 35 + (4 * ksq)) (b := 2) dX9_readShift_95 rfl rfl rfl ?_
      refine jj_ialdW (q := 97) (j := (35 + (4 * ksq)) + 2) (v := nI ((sv4 b E ksq r))) dX9_readShift_96 hm.t3 n3_rd rfl (by omega) w1_eq rfl ?_
      refine jj_sipush (v := 1999) (q := 100) dX9_readShift_97 rfl rfl ?_
      refine jj_cV2i (q := 103) dX9_readShift_100 yk_X9_number ml_X9_151 hm.t0 (exM_number (lo := (sv4 b E ksq r)) (hx := 2000) hm hb.q hs.sh4 rfl (by omega) (by decide)) rfl rfl rfl ⟨Nat.zero_le _, Nat.zero_le _⟩ ?_
      refine jj_iastN (q := 104) (j := (35 + (4 * ksq)) + 3) dX9_readShift_103 hm.t3 n3_wr rfl (by omega) rfl ?_
      refine jj_aload_n (q := 105) dX9_readShift_104 rfl rfl rfl ?_
      refine jj_getS (q := 108) dX9_readShift_105 fl_X9_20 hm.t0 hm.r0_11 rfl rfl rfl ?_
      refine jj_bipush (v := 34) (q := 110) dX9_readShift_108 rfl rfl ?_
      refine jj_dup2 (q := 111) dX9_readShift_110 rfl rfl rfl ?_
      refine jj_ialdW (q := 112) (j := 34) (v := nI ksq) dX9_readShift_111 hm.t3 n3_rd rfl (by omega) (by rw [w1_ne (by omega), w1_ne (by omega), w1_ne (by omega), w1_ne (by omega)]; exact h34) rfl ?_
      refine jj_iconst (v := 1) (q := 113) dX9_readShift_112 rfl rfl ?_
      refine jj_iaddN (q := 114) (a := ksq) (b := 1) dX9_readShift_113 rfl rfl rfl ?_
      refine jj_iastN (q := 115) (j := 34) dX9_readShift_114 hm.t3 n3_wr rfl (by omega) rfl ?_
      refine jj_vret dX9_readShift_115 rfl (Nat.zero_le _) (Nat.zero_le _) ?_
      exact ⟨rfl, rfl⟩
  refine Ex.of (by decide) (by simp [Value.category]) (Nat.le_of_ble_eq_true rfl) rfl ?_
  refine jj_aload_n (q := 1) dX9_readShift_0 rfl rfl rfl ?_
  refine jj_getS (q := 4) dX9_readShift_1 fl_X9_20 hm.t0 hm.r0_11 rfl rfl rfl ?_
  refine jj_bipush (v := 34) (q := 6) dX9_readShift_4 rfl rfl ?_
  refine jj_ialdW (q := 7) (j := 34) (v := nI ksq) dX9_readShift_6 hm.t3 n3_rd rfl (by omega) h34 rfl ?_
  refine jj_istore_n (q := 8) dX9_readShift_7 rfl (by decide) rfl ?_
  refine jj_iload_n (q := 9) dX9_readShift_8 rfl rfl rfl ?_
  refine jj_iconst (v := 4) (q := 10) dX9_readShift_9 rfl rfl ?_
  refine jj_icmp_ne (q := 13) (tgt := 18) dX9_readShift_10 rfl rfl (fun h10 => ?_) (fun h10 => ?_)
  · rw [if_neg (fun w => h10 (by rw [w]; rfl))] at hrest
    exact hrest
  · refine jj_aload_n (q := 14) dX9_readShift_13 rfl rfl rfl ?_
    refine jj_iconst (v := 4) (q := 15) dX9_readShift_14 rfl rfl ?_
    refine jj_cV1v (q := 18) dX9_readShift_15 yk_X9_faults ml_X9_140 hm.t0 (exM_faults (c := 4) hm hb.q hs) rfl rfl rfl ⟨Nat.zero_le _, Nat.zero_le _⟩ ?_
    rw [if_pos (nI_inj' (a := ksq) (b := 4) (by omega) (by omega) h10)] at hrest
    exact hrest
theorem exM_bags (hm : hMo T S mo) (hb : mB_ A b E) (hs : mSt b E r G) {kf kcq : Nat} (h12 : N 12 = nI kf) (hf8 : kf ≤ 8) (h2 : X 2 = nI kcq) (hc : kcq ≤ 100) : Ex Γ (d + 3) Y_X9_readBags [.ref mo] (T, R, S, blk 18 I mo (st (qA A N X) 0 G), L, D, z) 0 0 (rV (T, R, S, blk 18 I mo (st (qA A N (bgX b E kcq kf r X)) 0 (bgg4 b E kcq kf r G)), L, D, z)) := by
  have hs4 := hs.bg4 (kcq := kcq) (kf := kf)
  have hh2 : nI 100 - nI kcq = nI (101 - kcq) - 1 := by
    rw [pk_sub (show kcq ≤ 100 by omega), show (1 : Int32) = nI 1 from rfl, pk_sub (show 1 ≤ 101 - kcq by omega), show 101 - kcq - 1 = 100 - kcq by omega]
  have hend : JJ Γ (jj_E Y_X9_readBags) (jj_Z Γ (rV (T, R, S, blk 18 I mo (st (qA A N (bgX b E kcq kf r X)) 0 (bgg4 b E kcq kf r G)), L, D, z)) 0 0) (jj_rm (d + 3) 0 0) 0 0 43 [some (.ref mo), some (.int (nI (bv1 b E kcq kf r))), some (.int (nI (bv2 b E kcq kf r))), some (.int (nI (bv3 b E kcq kf r)))] [] (T, R, S, blk 18 I mo (st (qA A N X) 0 (bgg4 b E kcq kf r G)), L, D, z) := by
    cases hr : bgr4 b E kcq kf r with
    | inl e =>
      rw [hr] at hs4
      have hne : ¬ nI e.1 = 0 := nI_ne0 (by have := hs4.2.2.2; omega) (by have := hs4.2.2.2; omega)
      have eX : bgX b E kcq kf r X = X := by unfold bgX; rw [hr]
      rw [eX]
      refine jj_aload_n (q := 44) dX9_readBags_43 rfl rfl rfl ?_
      refine jj_getIw (v := nI e.1) (q := 47) dX9_readBags_44 fl_X9_92 hm.t0 (by rw [g_rd]; exact hs4.2.1) rfl rfl ?_
      refine jj_if_ne (q := 50) (tgt := 60) dX9_readBags_47 rfl rfl (fun h47 => ?_) (fun h47 => by exfalso; exact hne h47)
      refine jj_vret dX9_readBags_60 rfl (Nat.zero_le _) (Nat.zero_le _) ?_
      exact ⟨rfl, rfl⟩
    | inr x =>
      rw [hr] at hs4
      have hb2 : kcq + (bv2 b E kcq kf r) ≤ 100 := by
        obtain ⟨v, hq⟩ := rU_inr hr
        cases hr3 : bgr3 b E kcq kf r with
        | inl e => rw [hr3] at hq; cases hq
        | inr y =>
          obtain ⟨v2, hq2⟩ := rU_inr hr3
          cases hr2 : bgr2 b E kcq kf r with
          | inl e => rw [hr2] at hq2; cases hq2
          | inr y2 =>
            have hp : pNum b E 1 (101 - kcq) y2.2 = .inr (v2, y.2) := by rw [hr2] at hq2; exact hq2
            have := (pNum_o hp).2.2
            have e : (bv2 b E kcq kf r) = v2 := by unfold bv2; rw [hq2]; rfl
            rw [e]
            dsimp only at this
            omega
      have eX : bgX b E kcq kf r X = mAd (nI (bv1 b E kcq kf r)) (nI (bv3 b E kcq kf r)) (bv2 b E kcq kf r) kcq X := by unfold bgX; rw [hr]
      rw [eX]
      refine jj_aload_n (q := 44) dX9_readBags_43 rfl rfl rfl ?_
      refine jj_getIw (v := 0) (q := 47) dX9_readBags_44 fl_X9_92 hm.t0 (by rw [g_rd]; exact hs4.2.2.2.1) rfl rfl ?_
      refine jj_if_ne (q := 50) (tgt := 60) dX9_readBags_47 rfl rfl (fun h47 => by exfalso; exact h47 rfl) (fun h47 => ?_)
      refine jj_aload_n (q := 51) dX9_readBags_50 rfl rfl rfl ?_
      refine jj_getS (q := 54) dX9_readBags_51 fl_X9_26 hm.t0 hm.r0_13 rfl rfl rfl ?_
      refine jj_iload_n (q := 55) dX9_readBags_54 rfl rfl rfl ?_
      refine jj_iload_n (q := 56) dX9_readBags_55 rfl rfl rfl ?_
      refine jj_iload_n (q := 57) dX9_readBags_56 rfl rfl rfl ?_
      rw [show st (qA A N X) 0 (bgg4 b E kcq kf r G) = st (st (st A 3 N) 0 (bgg4 b E kcq kf r G)) 5 X from st_cm (by decide)]
      refine jj_cS4v (q := 60) dX9_readBags_57 yk_X9_adds ml_X9_168 (ex_adds (u := 5) hm (by decide) h2 hb2) rfl rfl rfl ⟨Nat.zero_le _, Nat.zero_le _⟩ ?_
      refine jj_vret dX9_readBags_60 rfl (Nat.zero_le _) (Nat.zero_le _) ?_
      exact ⟨rfl, by rw [st_cm (u := 0) (v := 5) (by decide)]⟩
  refine Ex.of (by decide) (by simp [Value.category]) (Nat.le_of_ble_eq_true rfl) rfl ?_
  refine jj_aload_n (q := 1) dX9_readBags_0 rfl rfl rfl ?_
  refine jj_cV0v (q := 4) dX9_readBags_1 yk_X9_nextToken ml_X9_134 hm.t0 (exM_next hm hb.q hs) rfl rfl rfl ⟨Nat.zero_le _, Nat.zero_le _⟩ ?_
  refine jj_aload_n (q := 5) dX9_readBags_4 rfl rfl rfl ?_
  refine jj_iconst (v := 0) (q := 6) dX9_readBags_5 rfl rfl ?_
  refine jj_sipush (v := 999) (q := 9) dX9_readBags_6 rfl rfl ?_
  refine jj_cV2i (q := 12) dX9_readBags_9 yk_X9_number ml_X9_151 hm.t0 (exM_number (lo := 0) (hx := 1000) hm hb.q (hs.bg1 (kcq := kcq) (kf := kf)) rfl (by decide) (by decide)) rfl rfl rfl ⟨Nat.zero_le _, Nat.zero_le _⟩ ?_
  refine jj_istore_n (q := 13) dX9_readBags_12 rfl (by decide) rfl ?_
  refine jj_aload_n (q := 14) dX9_readBags_13 rfl rfl rfl ?_
  refine jj_iconst (v := 1) (q := 15) dX9_readBags_14 rfl rfl ?_
  refine jj_bipush (v := 100) (q := 17) dX9_readBags_15 rfl rfl ?_
  refine jj_aload_n (q := 18) dX9_readBags_17 rfl rfl rfl ?_
  refine jj_getS (q := 21) dX9_readBags_18 fl_X9_26 hm.t0 hm.r0_13 rfl rfl rfl ?_
  refine jj_iconst (v := 2) (q := 22) dX9_readBags_21 rfl rfl ?_
  refine jj_ialdW (q := 23) (j := 2) (v := nI kcq) dX9_readBags_22 hm.t5 n5_rd rfl (by omega) h2 rfl ?_
  refine jj_isub (q := 24) dX9_readBags_23 rfl ?_
  refine jj_cV2i (q := 27) dX9_readBags_24 yk_X9_number ml_X9_151 hm.t0 (exM_number (lo := 1) (hx := 101 - kcq) hm hb.q (hs.bg2 (kcq := kcq) (kf := kf)) hh2 (by decide) (by omega)) rfl rfl rfl ⟨Nat.zero_le _, Nat.zero_le _⟩ ?_
  refine jj_istore_n (q := 28) dX9_readBags_27 rfl (by decide) rfl ?_
  refine jj_aload_n (q := 29) dX9_readBags_28 rfl rfl rfl ?_
  refine jj_iconst (v := 0) (q := 30) dX9_readBags_29 rfl rfl ?_
  refine jj_aload_n (q := 31) dX9_readBags_30 rfl rfl rfl ?_
  refine jj_getS (q := 34) dX9_readBags_31 fl_X9_20 hm.t0 hm.r0_11 rfl rfl rfl ?_
  refine jj_bipush (v := 12) (q := 36) dX9_readBags_34 rfl rfl ?_
  refine jj_ialdW (q := 37) (j := 12) (v := nI kf) dX9_readBags_36 hm.t3 n3_rd rfl (by omega) h12 rfl ?_
  refine jj_iconst (v := 1) (q := 38) dX9_readBags_37 rfl rfl ?_
  refine jj_isub (q := 39) dX9_readBags_38 rfl ?_
  refine jj_cV2i (q := 42) dX9_readBags_39 yk_X9_number ml_X9_151 hm.t0 (exM_number (lo := 0) (hx := kf) hm hb.q (hs.bg3 (kcq := kcq) (kf := kf)) rfl (by decide) (by omega)) rfl rfl rfl ⟨Nat.zero_le _, Nat.zero_le _⟩ ?_
  refine jj_istore_n (q := 43) dX9_readBags_42 rfl (by decide) rfl ?_
  exact hend
end M79
