/-! THE COMPONENT'S PUBLIC CALLS: how one ends; tests that throw -/
/-- 0: it returns; 1, 2, 3: the exception -/
def xN : Nat → String
  | 1 => xISE
  | 2 => xIOB
  | _ => xIAE
/-- how a call ends: 0: with G; else with its exception, and nothing changed -/
def cE (n : Nat) (M0 : JM) (G : Option Value → JM → Prop) : JO → JM → Prop := match n with
  | 0 => fun o M' => ∃ v, o = .inl v ∧ G v M'
  | k + 1 => fun o M' => o = .inr (xN (k + 1)) ∧ M' = M0
abbrev cA (n : Nat) (v : Option Value) (M0 M1 : JM) : JO → JM → Prop := cE n M0 (fun w M' => w = v ∧ M' = M1)
def ec : Nat → Nat
  | 0 => 0
  | _ + 1 => 1
def es : Nat → Nat
  | 0 => 0
  | _ + 1 => 6
def orE : Nat → Nat → Nat
  | 0, m => m
  | k + 1, _ => k + 1
theorem orE_0 (n : Nat) : orE n 0 = n := by cases n <;> rfl
section JN5
variable {Γ : Gam} {E : JE} {pc q d ix n1 n2 : Nat} {vl : List (Option Value)} {rest : List Value} {M : JM} {y : JY} {G : Option Value → JM → Prop}
theorem jj_nV0 {b ci : Nat} (hd : decode E.2.1 pc = .ok (.invokevirtual ix, 3)) (hy : YOK y 0) (hm : MLV E.1 ix y ci) (hT : M.1 b = some (.inl ci)) (hx : Ex Γ d y (.ref b :: []) M (ec n1) (es n1) (cA n1 none M M)) (hk : Nat.ble y.2.2.1 21 = true) (hrt : Nat.ble (rest.map fun v => v.category).sum 8 = true) (hxt : E.2.2.2.2.1 = []) (hq : pc + 3 = q) (kk : n1 = 0 → JJ Γ E (jj_Z Γ (cE n2 M G) (ec n2) (es n2)) (jj_rm (d + 1) (ec n2) (es n2)) 0 0 q vl rest M) : JJ Γ E (jj_Z Γ (cE (orE n1 n2) M G) (ec (orE n1 n2)) (es (orE n1 n2))) (jj_rm (d + 1) (ec (orE n1 n2)) (es (orE n1 n2))) 0 0 pc vl (.ref b :: rest) M := by
  cases n1 with
  | zero => exact jj_gV0 hd hy hm hT hx hk hrt hq ⟨Nat.zero_le _, Nat.zero_le _⟩ (fun w M' h => by obtain ⟨v, h1, h2, h3⟩ := h; cases h1; subst h2; subst h3; exact kk rfl) (fun X M' h => by obtain ⟨v, h1, h2⟩ := h; cases h1)
  | succ k => exact jj_gV0 hd hy hm hT hx hk hrt hq ⟨Nat.le_refl _, Nat.le_refl _⟩ (fun w M' h => by obtain ⟨h1, h2⟩ := h; cases h1) (fun X M' h => by obtain ⟨h1, h2⟩ := h; cases h1; subst h2; exact jj_out hxt (Nat.le_refl _) (Nat.le_refl _) ⟨rfl, rfl⟩)
theorem jj_nV1 {b ci : Nat} {v1 : Value} (hd : decode E.2.1 pc = .ok (.invokevirtual ix, 3)) (hy : YOK y 1) (hm : MLV E.1 ix y ci) (hT : M.1 b = some (.inl ci)) (hx : Ex Γ d y (.ref b :: [v1]) M (ec n1) (es n1) (cA n1 none M M)) (hk : Nat.ble y.2.2.1 21 = true) (hrt : Nat.ble (rest.map fun v => v.category).sum 8 = true) (hxt : E.2.2.2.2.1 = []) (hq : pc + 3 = q) (kk : n1 = 0 → JJ Γ E (jj_Z Γ (cE n2 M G) (ec n2) (es n2)) (jj_rm (d + 1) (ec n2) (es n2)) 0 0 q vl rest M) : JJ Γ E (jj_Z Γ (cE (orE n1 n2) M G) (ec (orE n1 n2)) (es (orE n1 n2))) (jj_rm (d + 1) (ec (orE n1 n2)) (es (orE n1 n2))) 0 0 pc vl (v1 :: .ref b :: rest) M := by
  cases n1 with
  | zero => exact jj_gV1 hd hy hm hT hx hk hrt hq ⟨Nat.zero_le _, Nat.zero_le _⟩ (fun w M' h => by obtain ⟨v, h1, h2, h3⟩ := h; cases h1; subst h2; subst h3; exact kk rfl) (fun X M' h => by obtain ⟨v, h1, h2⟩ := h; cases h1)
  | succ k => exact jj_gV1 hd hy hm hT hx hk hrt hq ⟨Nat.le_refl _, Nat.le_refl _⟩ (fun w M' h => by obtain ⟨h1, h2⟩ := h; cases h1) (fun X M' h => by obtain ⟨h1, h2⟩ := h; cases h1; subst h2; exact jj_out hxt (Nat.le_refl _) (Nat.le_refl _) ⟨rfl, rfl⟩)
theorem jj_nV2 {b ci : Nat} {v1 v2 : Value} (hd : decode E.2.1 pc = .ok (.invokevirtual ix, 3)) (hy : YOK y 2) (hm : MLV E.1 ix y ci) (hT : M.1 b = some (.inl ci)) (hx : Ex Γ d y (.ref b :: [v1, v2]) M (ec n1) (es n1) (cA n1 none M M)) (hk : Nat.ble y.2.2.1 21 = true) (hrt : Nat.ble (rest.map fun v => v.category).sum 8 = true) (hxt : E.2.2.2.2.1 = []) (hq : pc + 3 = q) (kk : n1 = 0 → JJ Γ E (jj_Z Γ (cE n2 M G) (ec n2) (es n2)) (jj_rm (d + 1) (ec n2) (es n2)) 0 0 q vl rest M) : JJ Γ E (jj_Z Γ (cE (orE n1 n2) M G) (ec (orE n1 n2)) (es (orE n1 n2))) (jj_rm (d + 1) (ec (orE n1 n2)) (es (orE n1 n2))) 0 0 pc vl (v2 :: v1 :: .ref b :: rest) M := by
  cases n1 with
  | zero => exact jj_gV2 hd hy hm hT hx hk hrt hq ⟨Nat.zero_le _, Nat.zero_le _⟩ (fun w M' h => by obtain ⟨v, h1, h2, h3⟩ := h; cases h1; subst h2; subst h3; exact kk rfl) (fun X M' h => by obtain ⟨v, h1, h2⟩ := h; cases h1)
  | succ k => exact jj_gV2 hd hy hm hT hx hk hrt hq ⟨Nat.le_refl _, Nat.le_refl _⟩ (fun w M' h => by obtain ⟨h1, h2⟩ := h; cases h1) (fun X M' h => by obtain ⟨h1, h2⟩ := h; cases h1; subst h2; exact jj_out hxt (Nat.le_refl _) (Nat.le_refl _) ⟨rfl, rfl⟩)
theorem jj_nV3 {b ci : Nat} {v1 v2 v3 : Value} (hd : decode E.2.1 pc = .ok (.invokevirtual ix, 3)) (hy : YOK y 3) (hm : MLV E.1 ix y ci) (hT : M.1 b = some (.inl ci)) (hx : Ex Γ d y (.ref b :: [v1, v2, v3]) M (ec n1) (es n1) (cA n1 none M M)) (hk : Nat.ble y.2.2.1 21 = true) (hrt : Nat.ble (rest.map fun v => v.category).sum 8 = true) (hxt : E.2.2.2.2.1 = []) (hq : pc + 3 = q) (kk : n1 = 0 → JJ Γ E (jj_Z Γ (cE n2 M G) (ec n2) (es n2)) (jj_rm (d + 1) (ec n2) (es n2)) 0 0 q vl rest M) : JJ Γ E (jj_Z Γ (cE (orE n1 n2) M G) (ec (orE n1 n2)) (es (orE n1 n2))) (jj_rm (d + 1) (ec (orE n1 n2)) (es (orE n1 n2))) 0 0 pc vl (v3 :: v2 :: v1 :: .ref b :: rest) M := by
  cases n1 with
  | zero => exact jj_gV3 hd hy hm hT hx hk hrt hq ⟨Nat.zero_le _, Nat.zero_le _⟩ (fun w M' h => by obtain ⟨v, h1, h2, h3⟩ := h; cases h1; subst h2; subst h3; exact kk rfl) (fun X M' h => by obtain ⟨v, h1, h2⟩ := h; cases h1)
  | succ k => exact jj_gV3 hd hy hm hT hx hk hrt hq ⟨Nat.le_refl _, Nat.le_refl _⟩ (fun w M' h => by obtain ⟨h1, h2⟩ := h; cases h1) (fun X M' h => by obtain ⟨h1, h2⟩ := h; cases h1; subst h2; exact jj_out hxt (Nat.le_refl _) (Nat.le_refl _) ⟨rfl, rfl⟩)
theorem jj_nS2 {v1 v2 : Value} (hd : decode E.2.1 pc = .ok (.invokestatic ix, 3)) (hy : YOK y 2) (hm : MLS E.1 ix y) (hx : Ex Γ d y [v1, v2] M (ec n1) (es n1) (cA n1 none M M)) (hk : Nat.ble y.2.2.1 21 = true) (hrt : Nat.ble (rest.map fun v => v.category).sum 8 = true) (hxt : E.2.2.2.2.1 = []) (hq : pc + 3 = q) (kk : n1 = 0 → JJ Γ E (jj_Z Γ (cE n2 M G) (ec n2) (es n2)) (jj_rm (d + 1) (ec n2) (es n2)) 0 0 q vl rest M) : JJ Γ E (jj_Z Γ (cE (orE n1 n2) M G) (ec (orE n1 n2)) (es (orE n1 n2))) (jj_rm (d + 1) (ec (orE n1 n2)) (es (orE n1 n2))) 0 0 pc vl (v2 :: v1 :: rest) M := by
  cases n1 with
  | zero => exact jj_gS2 hd hy hm hx hk hrt hq ⟨Nat.zero_le _, Nat.zero_le _⟩ (fun w M' h => by obtain ⟨v, h1, h2, h3⟩ := h; cases h1; subst h2; subst h3; exact kk rfl) (fun X M' h => by obtain ⟨v, h1, h2⟩ := h; cases h1)
  | succ k => exact jj_gS2 hd hy hm hx hk hrt hq ⟨Nat.le_refl _, Nat.le_refl _⟩ (fun w M' h => by obtain ⟨h1, h2⟩ := h; cases h1) (fun X M' h => by obtain ⟨h1, h2⟩ := h; cases h1; subst h2; exact jj_out hxt (Nat.le_refl _) (Nat.le_refl _) ⟨rfl, rfl⟩)
theorem jj_nS3 {v1 v2 v3 : Value} (hd : decode E.2.1 pc = .ok (.invokestatic ix, 3)) (hy : YOK y 3) (hm : MLS E.1 ix y) (hx : Ex Γ d y [v1, v2, v3] M (ec n1) (es n1) (cA n1 none M M)) (hk : Nat.ble y.2.2.1 21 = true) (hrt : Nat.ble (rest.map fun v => v.category).sum 8 = true) (hxt : E.2.2.2.2.1 = []) (hq : pc + 3 = q) (kk : n1 = 0 → JJ Γ E (jj_Z Γ (cE n2 M G) (ec n2) (es n2)) (jj_rm (d + 1) (ec n2) (es n2)) 0 0 q vl rest M) : JJ Γ E (jj_Z Γ (cE (orE n1 n2) M G) (ec (orE n1 n2)) (es (orE n1 n2))) (jj_rm (d + 1) (ec (orE n1 n2)) (es (orE n1 n2))) 0 0 pc vl (v3 :: v2 :: v1 :: rest) M := by
  cases n1 with
  | zero => exact jj_gS3 hd hy hm hx hk hrt hq ⟨Nat.zero_le _, Nat.zero_le _⟩ (fun w M' h => by obtain ⟨v, h1, h2, h3⟩ := h; cases h1; subst h2; subst h3; exact kk rfl) (fun X M' h => by obtain ⟨v, h1, h2⟩ := h; cases h1)
  | succ k => exact jj_gS3 hd hy hm hx hk hrt hq ⟨Nat.le_refl _, Nat.le_refl _⟩ (fun w M' h => by obtain ⟨h1, h2⟩ := h; cases h1) (fun X M' h => by obtain ⟨h1, h2⟩ := h; cases h1; subst h2; exact jj_out hxt (Nat.le_refl _) (Nat.le_refl _) ⟨rfl, rfl⟩)
end JN5
/-! the object, its now-block at a and its plan at p -/
def cX (T : JT) (R S : JR) (I : JI) (xo a p : Nat) (O : Nat → Int32) (P : JI) : Prop := (T xo = some (.inl 7) ∧ S xo 2 = some p ∧ S xo 4 = some a) ∧ (hSt T R a ∧ hPl T R p) ∧ ((xo < a ∨ a + 19 ≤ xo) ∧ (p + 16 ≤ a ∨ a + 19 ≤ p)) ∧ I xo = O ∧ ∀ k : Nat, k < 15 → I (p + k) = P k
section CX5
variable {T : JT} {R S : JR} {I K P : JI} {xo a p : Nat} {O : Nat → Int32}
theorem cX.t (h : cX T R S I xo a p O P) : T xo = some (.inl 7) := h.1.1
theorem cX.sp (h : cX T R S I xo a p O P) : S xo 2 = some p := h.1.2.1
theorem cX.sn (h : cX T R S I xo a p O P) : S xo 4 = some a := h.1.2.2
theorem cX.hs (h : cX T R S I xo a p O P) : hSt T R a := h.2.1.1
theorem cX.hp (h : cX T R S I xo a p O P) : hPl T R p := h.2.1.2
theorem cX.rd (h : cX T R S I xo a p O P) : blk 19 I a K xo = O := by rw [blk_out h.2.2.1.1]; exact h.2.2.2.1
theorem cX.rp (h : cX T R S I xo a p O P) (k : Nat) (hk : k < 15) : blk 19 I a K (p + k) = P k := by rw [blk_out (by have := h.2.2.1.2; omega)]; exact h.2.2.2.2 k hk
theorem cX.r0 (h : cX T R S I xo a p O P) : blk 19 I a K p = P 0 := h.rp 0 (by omega)
end CX5
def eAir (O : Nat → Int32) : Nat := if O 1 = 0 then 1 else 0
def eIdx (i n : Int32) : Nat := if i < 0 then 2 else if n ≤ i then 2 else 0
def eRng (v lo hi : Int32) : Nat := if v < lo then 3 else if hi < v then 3 else 0
def eTik (K : JI) (n most : Int32) : Nat := orE (eRng n 1 most) (if K 0 0 + n ≤ 9999 then 0 else 3)
def eNcl (K : JI) (f : Int32) : Nat := if kPh K f = 2 then 3 else 0
section M45
variable {Γ : Gam} {d : Nat} {T : JT} {R S : JR} {I K P : JI} {L : JL} {D : JD} {z : Option Nat} {xo a p c : Nat} {O : Nat → Int32}
theorem ex_needIndex {i n : Int32} : Ex Γ (d + 6) Y_X8_needIndex [.int i, .int n] (T, R, S, I, L, D, none) (ec (eIdx i n)) (es (eIdx i n)) (cA (eIdx i n) none (T, R, S, I, L, D, none) (T, R, S, I, L, D, none)) := by
  by_cases g1 : i < 0
  · rw [show eIdx i n = 2 from if_pos g1]
    refine Ex.of (by decide) (by simp [Value.category]) (Nat.le_of_ble_eq_true rfl) rfl ?_
    refine jj_iload_n (q := 1) dX8_needIndex_0 rfl rfl rfl ?_
    refine jj_if_lt (q := 4) (tgt := 9) dX8_needIndex_1 rfl rfl (fun h1 => ?_) (fun h1 => absurd (g1) h1)
    refine jj_throwW xok_1 ks_X8_350 rfl dX8_needIndex_9 dX8_needIndex_12 dX8_needIndex_13 dX8_needIndex_16 dX8_needIndex_19 (by show 5 < _ + _; omega) (by show 90 ≤ 40 * (_ + _); omega) (by decide) ⟨Nat.le_refl _, Nat.le_refl _⟩ (Nat.le_refl _) (Nat.le_refl _) ?_
    exact ⟨rfl, rfl⟩
  · skip
    by_cases g2 : n ≤ i
    · rw [show eIdx i n = 2 from (if_neg g1).trans (if_pos g2)]
      refine Ex.of (by decide) (by simp [Value.category]) (Nat.le_of_ble_eq_true rfl) rfl ?_
      refine jj_iload_n (q := 1) dX8_needIndex_0 rfl rfl rfl ?_
      refine jj_if_lt (q := 4) (tgt := 9) dX8_needIndex_1 rfl rfl (fun h1 => absurd h1 (g1)) (fun h1 => ?_)
      refine jj_iload_n (q := 5) dX8_needIndex_4 rfl rfl rfl ?_
      refine jj_iload_n (q := 6) dX8_needIndex_5 rfl rfl rfl ?_
      refine jj_icmp_lt (q := 9) (tgt := 20) dX8_needIndex_6 rfl rfl (fun h6 => by exfalso; exact absurd g2 (Int32.not_le.mpr h6)) (fun h6 => ?_)
      refine jj_throwW xok_1 ks_X8_350 rfl dX8_needIndex_9 dX8_needIndex_12 dX8_needIndex_13 dX8_needIndex_16 dX8_needIndex_19 (by show 5 < _ + _; omega) (by show 90 ≤ 40 * (_ + _); omega) (by decide) ⟨Nat.le_refl _, Nat.le_refl _⟩ (Nat.le_refl _) (Nat.le_refl _) ?_
      exact ⟨rfl, rfl⟩
    · skip
      rw [show eIdx i n = 0 from (if_neg g1).trans (if_neg g2)]
      refine Ex.of (by decide) (by simp [Value.category]) (Nat.le_of_ble_eq_true rfl) rfl ?_
      refine jj_iload_n (q := 1) dX8_needIndex_0 rfl rfl rfl ?_
      refine jj_if_lt (q := 4) (tgt := 9) dX8_needIndex_1 rfl rfl (fun h1 => absurd h1 (g1)) (fun h1 => ?_)
      refine jj_iload_n (q := 5) dX8_needIndex_4 rfl rfl rfl ?_
      refine jj_iload_n (q := 6) dX8_needIndex_5 rfl rfl rfl ?_
      refine jj_icmp_lt (q := 9) (tgt := 20) dX8_needIndex_6 rfl rfl (fun h6 => ?_) (fun h6 => by exfalso; exact h6 (Int32.not_le.mp g2))
      refine jj_vret dX8_needIndex_20 rfl (Nat.zero_le _) (Nat.zero_le _) ?_
      exact ⟨_, rfl, rfl, rfl⟩
theorem ex_needRange {v lo hi : Int32} : Ex Γ (d + 6) Y_X8_needRange [.int v, .int lo, .int hi] (T, R, S, I, L, D, none) (ec (eRng v lo hi)) (es (eRng v lo hi)) (cA (eRng v lo hi) none (T, R, S, I, L, D, none) (T, R, S, I, L, D, none)) := by
  by_cases g1 : v < lo
  · rw [show eRng v lo hi = 3 from if_pos g1]
    refine Ex.of (by decide) (by simp [Value.category]) (Nat.le_of_ble_eq_true rfl) rfl ?_
    refine jj_iload_n (q := 1) dX8_needRange_0 rfl rfl rfl ?_
    refine jj_iload_n (q := 2) dX8_needRange_1 rfl rfl rfl ?_
    refine jj_icmp_lt (q := 5) (tgt := 10) dX8_needRange_2 rfl rfl (fun h2 => ?_) (fun h2 => absurd (g1) h2)
    refine jj_throwW xok_2 ks_X8_352 rfl dX8_needRange_10 dX8_needRange_13 dX8_needRange_14 dX8_needRange_17 dX8_needRange_20 (by show 5 < _ + _; omega) (by show 90 ≤ 40 * (_ + _); omega) (by decide) ⟨Nat.le_refl _, Nat.le_refl _⟩ (Nat.le_refl _) (Nat.le_refl _) ?_
    exact ⟨rfl, rfl⟩
  · skip
    by_cases g2 : hi < v
    · rw [show eRng v lo hi = 3 from (if_neg g1).trans (if_pos g2)]
      refine Ex.of (by decide) (by simp [Value.category]) (Nat.le_of_ble_eq_true rfl) rfl ?_
      refine jj_iload_n (q := 1) dX8_needRange_0 rfl rfl rfl ?_
      refine jj_iload_n (q := 2) dX8_needRange_1 rfl rfl rfl ?_
      refine jj_icmp_lt (q := 5) (tgt := 10) dX8_needRange_2 rfl rfl (fun h2 => absurd h2 (g1)) (fun h2 => ?_)
      refine jj_iload_n (q := 6) dX8_needRange_5 rfl rfl rfl ?_
      refine jj_iload_n (q := 7) dX8_needRange_6 rfl rfl rfl ?_
      refine jj_icmp_le (q := 10) (tgt := 21) dX8_needRange_7 rfl rfl (fun h7 => by exfalso; exact absurd g2 (Int32.not_lt.mpr h7)) (fun h7 => ?_)
      refine jj_throwW xok_2 ks_X8_352 rfl dX8_needRange_10 dX8_needRange_13 dX8_needRange_14 dX8_needRange_17 dX8_needRange_20 (by show 5 < _ + _; omega) (by show 90 ≤ 40 * (_ + _); omega) (by decide) ⟨Nat.le_refl _, Nat.le_refl _⟩ (Nat.le_refl _) (Nat.le_refl _) ?_
      exact ⟨rfl, rfl⟩
    · skip
      rw [show eRng v lo hi = 0 from (if_neg g1).trans (if_neg g2)]
      refine Ex.of (by decide) (by simp [Value.category]) (Nat.le_of_ble_eq_true rfl) rfl ?_
      refine jj_iload_n (q := 1) dX8_needRange_0 rfl rfl rfl ?_
      refine jj_iload_n (q := 2) dX8_needRange_1 rfl rfl rfl ?_
      refine jj_icmp_lt (q := 5) (tgt := 10) dX8_needRange_2 rfl rfl (fun h2 => absurd h2 (g1)) (fun h2 => ?_)
      refine jj_iload_n (q := 6) dX8_needRange_5 rfl rfl rfl ?_
      refine jj_iload_n (q := 7) dX8_needRange_6 rfl rfl rfl ?_
      refine jj_icmp_le (q := 10) (tgt := 21) dX8_needRange_7 rfl rfl (fun h7 => ?_) (fun h7 => by exfalso; exact h7 (Int32.not_lt.mp g2))
      refine jj_vret dX8_needRange_21 rfl (Nat.zero_le _) (Nat.zero_le _) ?_
      exact ⟨_, rfl, rfl, rfl⟩
theorem ex_needAirport (hx : cX T R S I xo a p O P) : Ex Γ (d + 6) Y_X8_needAirport [.ref xo] (T, R, S, blk 19 I a K, L, D, none) (ec (eAir O)) (es (eAir O)) (cA (eAir O) none (T, R, S, blk 19 I a K, L, D, none) (T, R, S, blk 19 I a K, L, D, none)) := by
  by_cases g1 : O 1 = 0
  · rw [show eAir O = 1 from if_pos g1]
    refine Ex.of (by decide) (by simp [Value.category]) (Nat.le_of_ble_eq_true rfl) rfl ?_
    refine jj_aload_n (q := 1) dX8_needAirport_0 rfl rfl rfl ?_
    refine jj_getIv (q := 4) dX8_needAirport_1 fl_X8_16 hx.t hx.rd rfl rfl ?_
    refine jj_if_ne (q := 7) (tgt := 18) dX8_needAirport_4 rfl rfl (fun h4 => by exfalso; exact h4 g1) (fun h4 => ?_)
    refine jj_throwW xok_3 ks_X8_341 rfl dX8_needAirport_7 dX8_needAirport_10 dX8_needAirport_11 dX8_needAirport_14 dX8_needAirport_17 (by show 5 < _ + _; omega) (by show 90 ≤ 40 * (_ + _); omega) (by decide) ⟨Nat.le_refl _, Nat.le_refl _⟩ (Nat.le_refl _) (Nat.le_refl _) ?_
    exact ⟨rfl, rfl⟩
  · skip
    rw [show eAir O = 0 from if_neg g1]
    refine Ex.of (by decide) (by simp [Value.category]) (Nat.le_of_ble_eq_true rfl) rfl ?_
    refine jj_aload_n (q := 1) dX8_needAirport_0 rfl rfl rfl ?_
    refine jj_getIv (q := 4) dX8_needAirport_1 fl_X8_16 hx.t hx.rd rfl rfl ?_
    refine jj_if_ne (q := 7) (tgt := 18) dX8_needAirport_4 rfl rfl (fun h4 => ?_) (fun h4 => by exfalso; exact g1 h4)
    refine jj_vret dX8_needAirport_18 rfl (Nat.zero_le _) (Nat.zero_le _) ?_
    exact ⟨_, rfl, rfl, rfl⟩
theorem ex_needBag (hx : cX T R S I xo a p O P) {b : Int32} : Ex Γ (d + 7) Y_X8_needBag [.ref xo, .int b] (T, R, S, blk 19 I a K, L, D, none) (ec (orE (eAir O) (orE (eIdx b (K 1 0)) 0))) (es (orE (eAir O) (orE (eIdx b (K 1 0)) 0))) (cA (orE (eAir O) (orE (eIdx b (K 1 0)) 0)) none (T, R, S, blk 19 I a K, L, D, none) (T, R, S, blk 19 I a K, L, D, none)) := by
  refine Ex.of (by decide) (by simp [Value.category]) (Nat.le_of_ble_eq_true rfl) rfl ?_
  refine jj_aload_n (q := 1) dX8_needBag_0 rfl rfl rfl ?_
  refine jj_nV0 (q := 4) dX8_needBag_1 yk_X8_needAirport ml_X8_168 hx.t (ex_needAirport hx) rfl rfl rfl rfl (fun g1 => ?_)
  refine jj_iload_n (q := 5) dX8_needBag_4 rfl rfl rfl ?_
  refine jj_aload_n (q := 6) dX8_needBag_5 rfl rfl rfl ?_
  refine jj_getS (q := 9) dX8_needBag_6 fl_X8_33 hx.t hx.sn rfl rfl rfl ?_
  refine jj_getR (q := 12) dX8_needBag_9 fl_X8_95 hx.hs.t0 hx.hs.r0_4 rfl rfl rfl ?_
  refine jj_getIv (q := 15) dX8_needBag_12 fl_X8_99 hx.hs.t1 (blk_k (by decide)) rfl rfl ?_
  refine jj_nS2 (q := 18) dX8_needBag_15 yk_X8_needIndex ml_X8_171 ex_needIndex rfl rfl rfl rfl (fun g15 => ?_)
  refine jj_vret dX8_needBag_18 rfl (Nat.zero_le _) (Nat.zero_le _) ?_
  exact ⟨_, rfl, rfl, rfl⟩
theorem ex_needFlight (hx : cX T R S I xo a p O P) {f : Int32} : Ex Γ (d + 7) Y_X8_needFlight [.ref xo, .int f] (T, R, S, blk 19 I a K, L, D, none) (ec (orE (eAir O) (orE (eIdx f (P 0 6)) 0))) (es (orE (eAir O) (orE (eIdx f (P 0 6)) 0))) (cA (orE (eAir O) (orE (eIdx f (P 0 6)) 0)) none (T, R, S, blk 19 I a K, L, D, none) (T, R, S, blk 19 I a K, L, D, none)) := by
  refine Ex.of (by decide) (by simp [Value.category]) (Nat.le_of_ble_eq_true rfl) rfl ?_
  refine jj_aload_n (q := 1) dX8_needFlight_0 rfl rfl rfl ?_
  refine jj_nV0 (q := 4) dX8_needFlight_1 yk_X8_needAirport ml_X8_168 hx.t (ex_needAirport hx) rfl rfl rfl rfl (fun g1 => ?_)
  refine jj_iload_n (q := 5) dX8_needFlight_4 rfl rfl rfl ?_
  refine jj_aload_n (q := 6) dX8_needFlight_5 rfl rfl rfl ?_
  refine jj_getS (q := 9) dX8_needFlight_6 fl_X8_23 hx.t hx.sp rfl rfl rfl ?_
  refine jj_getIv (q := 12) dX8_needFlight_9 fl_X8_226 hx.hp.t0 hx.r0 rfl rfl ?_
  refine jj_nS2 (q := 15) dX8_needFlight_12 yk_X8_needIndex ml_X8_171 ex_needIndex rfl rfl rfl rfl (fun g12 => ?_)
  refine jj_vret dX8_needFlight_15 rfl (Nat.zero_le _) (Nat.zero_le _) ?_
  exact ⟨_, rfl, rfl, rfl⟩
theorem ex_needLane (hx : cX T R S I xo a p O P) {l : Int32} : Ex Γ (d + 7) Y_X8_needLane [.ref xo, .int l] (T, R, S, blk 19 I a K, L, D, none) (ec (orE (eAir O) (orE (eIdx l (P 0 8)) 0))) (es (orE (eAir O) (orE (eIdx l (P 0 8)) 0))) (cA (orE (eAir O) (orE (eIdx l (P 0 8)) 0)) none (T, R, S, blk 19 I a K, L, D, none) (T, R, S, blk 19 I a K, L, D, none)) := by
  refine Ex.of (by decide) (by simp [Value.category]) (Nat.le_of_ble_eq_true rfl) rfl ?_
  refine jj_aload_n (q := 1) dX8_needLane_0 rfl rfl rfl ?_
  refine jj_nV0 (q := 4) dX8_needLane_1 yk_X8_needAirport ml_X8_168 hx.t (ex_needAirport hx) rfl rfl rfl rfl (fun g1 => ?_)
  refine jj_iload_n (q := 5) dX8_needLane_4 rfl rfl rfl ?_
  refine jj_aload_n (q := 6) dX8_needLane_5 rfl rfl rfl ?_
  refine jj_getS (q := 9) dX8_needLane_6 fl_X8_23 hx.t hx.sp rfl rfl rfl ?_
  refine jj_getIv (q := 12) dX8_needLane_9 fl_X8_207 hx.hp.t0 hx.r0 rfl rfl ?_
  refine jj_nS2 (q := 15) dX8_needLane_12 yk_X8_needIndex ml_X8_171 ex_needIndex rfl rfl rfl rfl (fun g12 => ?_)
  refine jj_vret dX8_needLane_15 rfl (Nat.zero_le _) (Nat.zero_le _) ?_
  exact ⟨_, rfl, rfl, rfl⟩
theorem ex_needMachine (hx : cX T R S I xo a p O P) {lv m : Int32} : Ex Γ (d + 7) Y_X8_needMachine [.ref xo, .int lv, .int m] (T, R, S, blk 19 I a K, L, D, none) (ec (orE (eAir O) (orE (eIdx (lv - 1) 3) (orE (eIdx m (atV 3 (P 1) (lv - 1))) 0)))) (es (orE (eAir O) (orE (eIdx (lv - 1) 3) (orE (eIdx m (atV 3 (P 1) (lv - 1))) 0)))) (cA (orE (eAir O) (orE (eIdx (lv - 1) 3) (orE (eIdx m (atV 3 (P 1) (lv - 1))) 0))) none (T, R, S, blk 19 I a K, L, D, none) (T, R, S, blk 19 I a K, L, D, none)) := by
  refine Ex.of (by decide) (by simp [Value.category]) (Nat.le_of_ble_eq_true rfl) rfl ?_
  refine jj_aload_n (q := 1) dX8_needMachine_0 rfl rfl rfl ?_
  refine jj_nV0 (q := 4) dX8_needMachine_1 yk_X8_needAirport ml_X8_168 hx.t (ex_needAirport hx) rfl rfl rfl rfl (fun g1 => ?_)
  refine jj_iload_n (q := 5) dX8_needMachine_4 rfl rfl rfl ?_
  refine jj_iconst (v := 1) (q := 6) dX8_needMachine_5 rfl rfl ?_
  refine jj_isub (q := 7) dX8_needMachine_6 rfl ?_
  refine jj_iconst (v := 3) (q := 8) dX8_needMachine_7 rfl rfl ?_
  refine jj_nS2 (q := 11) dX8_needMachine_8 yk_X8_needIndex ml_X8_171 ex_needIndex rfl rfl rfl rfl (fun g8 => ?_)
  refine jj_iload_n (q := 12) dX8_needMachine_11 rfl rfl rfl ?_
  refine jj_aload_n (q := 13) dX8_needMachine_12 rfl rfl rfl ?_
  refine jj_getS (q := 16) dX8_needMachine_13 fl_X8_23 hx.t hx.sp rfl rfl rfl ?_
  refine jj_getR (q := 19) dX8_needMachine_16 fl_X8_343 hx.hp.t0 hx.hp.r0_3 rfl rfl rfl ?_
  refine jj_iload_n (q := 20) dX8_needMachine_19 rfl rfl rfl ?_
  refine jj_iconst (v := 1) (q := 21) dX8_needMachine_20 rfl rfl ?_
  refine jj_isub (q := 22) dX8_needMachine_21 rfl ?_
  refine jj_cS2i (q := 25) dX8_needMachine_22 yk_X8_at ml_X8_120 (ex_atv hx.hp.t1 (hx.rp 1 (by decide)) rfl) rfl rfl rfl ⟨Nat.zero_le _, Nat.zero_le _⟩ ?_
  refine jj_nS2 (q := 28) dX8_needMachine_25 yk_X8_needIndex ml_X8_171 ex_needIndex rfl rfl rfl rfl (fun g25 => ?_)
  refine jj_vret dX8_needMachine_28 rfl (Nat.zero_le _) (Nat.zero_le _) ?_
  exact ⟨_, rfl, rfl, rfl⟩
end M45
