/-! THE COMPONENT'S PARSER: its memory, rows for its calls -/
def hDj (pa pl sa : Nat) : Prop := (pl + 16 ≤ pa ∨ pa + 2 ≤ pl) ∧ (sa + 19 ≤ pa ∨ pa + 2 ≤ sa) ∧ (sa + 19 ≤ pl ∨ pl + 16 ≤ sa)
theorem blk_cc {w v : Nat} {I A B : JI} {a b : Nat} (h : a + w ≤ b ∨ b + v ≤ a) : blk w (blk v I b B) a A = blk v (blk w I a A) b B := by
  funext c j
  unfold blk
  by_cases h1 : a ≤ c ∧ c < a + w
  · rw [if_pos h1, if_neg (by omega), if_pos h1]
  · rw [if_neg h1]
    by_cases h2 : b ≤ c ∧ c < b + v
    · rw [if_pos h2, if_pos h2]
    · rw [if_neg h2, if_neg h2, if_neg h1]
abbrev cI (I C : JI) (pa pl sa : Nat) (F : JV) (P K : JI) : JI := blk 2 (blk 16 (blk 19 I sa K) pl P) pa (st C 0 F)
abbrev cL (L : JL) (pa sa : Nat) (tk dr : Int64) : JL := u2 (u2 L sa 1 dr) pa 9 tk
abbrev cM (T : JT) (R S : JR) (I : JI) (L : JL) (D : JD) (C : JI) (pa pl sa : Nat) (F : JV) (P K : JI) (tk dr : Int64) : JM := (T, R, S, cI I C pa pl sa F P K, cL L pa sa tk dr, D, none)
section A1a
variable {I C P K : JI} {pa pl sa k j n : Nat} {F : JV} {v i : Int32} {L : JL} {tk dr x : Int64}
theorem c_P (hd : hDj pa pl sa) : cI I C pa pl sa F P K = blk 16 (blk 2 (blk 19 I sa K) pa (st C 0 F)) pl P := blk_cc (by have := hd.1; omega)
theorem c_S (hd : hDj pa pl sa) : cI I C pa pl sa F P K = blk 19 (blk 2 (blk 16 I pl P) pa (st C 0 F)) sa K := by
  unfold cI
  rw [blk_cc (w := 16) (v := 19) (by have := hd.2.2; omega), blk_cc (w := 2) (v := 19) (by have := hd.2.1; omega)]
theorem c_f : cI I C pa pl sa F P K pa = F := p2_rd
theorem c_p (hd : hDj pa pl sa) (h : k < 16) : cI I C pa pl sa F P K (pl + k) = P k := by rw [c_P hd, blk_k h]
theorem c_p0 (hd : hDj pa pl sa) : cI I C pa pl sa F P K pl = P 0 := c_p (k := 0) hd (by decide)
theorem c_s (hd : hDj pa pl sa) (h : k < 19) : cI I C pa pl sa F P K (sa + k) = K k := by rw [c_S hd, blk_k h]
theorem c_s0 (hd : hDj pa pl sa) : cI I C pa pl sa F P K sa = K 0 := c_s (k := 0) hd (by decide)
theorem c_pw (hd : hDj pa pl sa) (h : k < 16) : u2 (cI I C pa pl sa F P K) (pl + k) j v = cI I C pa pl sa F (u2 P k j v) K := by rw [c_P hd, c_P hd, u2_blk h]
theorem c_pw0 (hd : hDj pa pl sa) : u2 (cI I C pa pl sa F P K) pl j v = cI I C pa pl sa F (u2 P 0 j v) K := c_pw (k := 0) hd (by decide)
theorem c_sw (hd : hDj pa pl sa) (h : k < 19) : u2 (cI I C pa pl sa F P K) (sa + k) j v = cI I C pa pl sa F P (u2 K k j v) := by rw [c_S hd, c_S hd, u2_blk h]
theorem c_sw0 (hd : hDj pa pl sa) : u2 (cI I C pa pl sa F P K) sa j v = cI I C pa pl sa F P (u2 K 0 j v) := c_sw (k := 0) hd (by decide)
theorem c_pp (hd : hDj pa pl sa) (h : k < 16) : putI (cI I C pa pl sa F P K) (pl + k) n i v = cI I C pa pl sa F (putI P k n i v) K := by rw [c_P hd, c_P hd, putI_blk h]
theorem c_sp (hd : hDj pa pl sa) (h : k < 19) : putI (cI I C pa pl sa F P K) (sa + k) n i v = cI I C pa pl sa F P (putI K k n i v) := by rw [c_S hd, c_S hd, putI_blk h]
theorem cL_r : cL L pa sa tk dr pa 9 = tk := by simp [cL, u2]
theorem cL_w : u2 (cL L pa sa tk dr) pa 9 x = cL L pa sa x dr := by
  funext b q
  simp only [cL, u2]
  split
  · split <;> rfl
  · rfl
theorem cL_d (h : pa ≠ sa) : u2 (cL L pa sa tk dr) sa 1 x = cL L pa sa tk x := by
  funext b q
  simp only [cL, u2]
  by_cases h1 : b = pa
  · subst h1
    simp [h]
  · simp only [h1, if_false]
    split
    · split <;> rfl
    · rfl
end A1a
/-! bits of the positions that are taken -/
def tkP (tk : Int64) (v : Nat) : Int64 := tk ||| (1 <<< ((nI v).toInt64 &&& 63))
def tkB (tk : Int64) (v : Nat) : Prop := (tk >>> ((nI v).toInt64 &&& 63)) &&& 1 = 1
theorem tk_v : ∀ v : Fin 64, ((nI v.1).toInt64 &&& 63).toBitVec.smod 64 = BitVec.ofNat 64 v.1 := by decide
theorem tkB_iff {tk : Int64} {v : Nat} (h : v < 64) : tkB tk v ↔ tk.toBitVec.getLsbD v = true := by
  have e := tk_v ⟨v, h⟩
  have e2 : (tk >>> ((nI v).toInt64 &&& 63)).toBitVec = tk.toBitVec.sshiftRight' (((nI v).toInt64 &&& 63).toBitVec.smod 64) := rfl
  have e3 : ((tk >>> ((nI v).toInt64 &&& 63)) &&& 1).toBitVec = tk.toBitVec.sshiftRight v &&& 1#64 := by
    show (tk >>> ((nI v).toInt64 &&& 63)).toBitVec &&& 1#64 = _
    rw [e2, e, BitVec.sshiftRight_eq']
    simp [Nat.mod_eq_of_lt (show v < 18446744073709551616 by omega)]
  have e4 : ((tk >>> ((nI v).toInt64 &&& 63)) &&& 1 = 1) ↔ (tk.toBitVec.sshiftRight v &&& 1#64 = 1#64) := ⟨fun w => by rw [← e3, w]; rfl, fun w => Int64.toBitVec.inj (e3.trans w)⟩
  unfold tkB
  rw [e4]
  constructor
  · intro w
    have w2 : (tk.toBitVec.sshiftRight v &&& 1#64).getLsbD 0 = (1#64 : BitVec 64).getLsbD 0 := by rw [w]
    rw [BitVec.getLsbD_and, BitVec.getLsbD_sshiftRight, if_pos (by omega), Nat.add_zero] at w2
    cases hh : tk.toBitVec.getLsbD v with
    | true => rfl
    | false =>
      rw [hh] at w2
      exact absurd w2 (by decide)
  · intro w
    apply BitVec.eq_of_getLsbD_eq
    intro i hi
    by_cases h0 : i = 0
    · subst h0
      simp [BitVec.getLsbD_sshiftRight, h, w]
    · show (tk.toBitVec.sshiftRight v &&& 1#64).getLsbD i = (1#64 : BitVec 64).getLsbD i
      rw [BitVec.getLsbD_and, show (1#64 : BitVec 64).getLsbD i = false by simp [BitVec.getLsbD_one, h0], Bool.and_false]
theorem tkB_P {tk : Int64} {v w : Nat} (hv : v < 64) (hw : w < 64) : tkB (tkP tk v) w ↔ (tkB tk w ∨ w = v) := by
  have e := tk_v ⟨v, hv⟩
  rw [tkB_iff hw, tkB_iff hw]
  have e3 : (tkP tk v).toBitVec = tk.toBitVec ||| ((1#64 : BitVec 64) <<< v) := by
    show tk.toBitVec ||| ((1#64 : BitVec 64) <<< (((nI v).toInt64 &&& 63).toBitVec.smod 64)) = _
    rw [e, BitVec.shiftLeft_eq']
    simp [Nat.mod_eq_of_lt (show v < 18446744073709551616 by omega)]
  rw [e3, BitVec.getLsbD_or, BitVec.getLsbD_shiftLeft, Bool.or_eq_true]
  constructor
  · rintro (h | h)
    · exact Or.inl h
    · refine Or.inr ?_
      simp [BitVec.getLsbD_one] at h
      omega
  · rintro (h | h)
    · exact Or.inl h
    · subst h
      exact Or.inr (by simp [hw])
theorem tkB_0 {v : Nat} (h : v < 64) : ¬ tkB 0 v := by
  rw [tkB_iff h]
  simp
/-! the ends of the component's readings -/
def rC {α : Type} (mmf : JV → JI → JI → Int64 → Int64 → JM) (r : Res α) (V : α → Option Value) (Rqq : α → Nat → JV → JI → JI → Int64 → Int64 → Prop) : JO → JM → Prop := match r with
  | .inl e => fun o M' => o = .inr xIAE ∧ ∃ F P K tk dr, (F 0 = nI e.1 ∧ F 1 = nI e.2 ∧ F 2 = 0 ∧ ∀ l, l < 4 → ∃ n, n ≤ 20 ∧ P 6 l = nI n) ∧ M' = mmf F P K tk dr
  | .inr x => fun o M' => o = .inl (V x.1) ∧ ∃ F P K tk dr, Rqq x.1 x.2 F P K tk dr ∧ M' = mmf F P K tk dr
/-- the parser stands at p, and there was no fault -/
def cSt (b : Nat → Nat) (E p : Nat) (F : JV) : Prop := cAt b E p F ∧ p ≤ E ∧ F 0 = 0 ∧ F 1 = -1 ∧ F 2 = 0
def cP6 (P : JI) : Prop := ∀ l, l < 4 → ∃ n, n ≤ 20 ∧ P 6 l = nI n
def cR0 (b : Nat → Nat) (E : Nat) (P_0 K_0 : JI) (tk0 dr0 : Int64) {α : Type} (_ : α) (q : Nat) (F : JV) (P K : JI) (tk dr : Int64) : Prop := cSt b E q F ∧ P_0 = P ∧ K_0 = K ∧ tk0 = tk ∧ dr0 = dr
theorem cSt.nx {b : Nat → Nat} {E p q : Nat} {F : JV} (h : cSt b E p F) (hq : q ≤ E) : cSt b E q (cNx b E q F) := ⟨cAt_nx h.1.1, hq, (cNx_o (by omega)).trans h.2.2.1, (cNx_o (by omega)).trans h.2.2.2.1, (cNx_o (by omega)).trans h.2.2.2.2⟩
theorem fM_f {b : Nat → Nat} {E p c pl : Nat} {F : JV} (h : cSt b E p F) : fM_ F c pl 0 = nI c ∧ fM_ F c pl 1 = nI pl ∧ fM_ F c pl 2 = 0 := ⟨by unfold fM_; rw [w1_ne (by omega), w1_eq], by unfold fM_; rw [w1_eq], by unfold fM_; rw [w1_ne (by omega), w1_ne (by omega)]; exact h.2.2.2.2⟩
section A1b
variable {Γ : Gam} {Ej : JE} {pc q d ix : Nat} {vl : List (Option Value)} {rest : List Value} {M : JM} {y : JY} {mmf : JV → JI → JI → Int64 → Int64 → JM} {α β : Type} {r : Res α} {RES : Res β} {V2 : β → Option Value} {Rqq : α → Nat → JV → JI → JI → Int64 → Int64 → Prop} {Rq2 : β → Nat → JV → JI → JI → Int64 → Int64 → Prop}
theorem jj_tV0v {bb ci : Nat} (hd : decode Ej.2.1 pc = .ok (.invokevirtual ix, 3)) (hy : YOK y 0) (hm : MLV Ej.1 ix y ci) (hT : M.1 bb = some (.inl ci)) (hx : Ex Γ d y (.ref bb :: []) M (ec (eN r)) (es (eN r)) (rC mmf r (fun _ => none) Rqq)) (hk : Nat.ble y.2.2.1 21 = true) (hrt : Nat.ble (rest.map fun v => v.category).sum 8 = true) (hq : pc + 3 = q) (hxt : Ej.2.2.2.2.1 = []) (hi : ∀ e, r = .inl e → RES = .inl e) (kk : ∀ x p F P K tk dr, r = .inr (x, p) → Rqq x p F P K tk dr → JJ Γ Ej (jj_Z Γ (rC mmf RES V2 Rq2) (ec (eN RES)) (es (eN RES))) (jj_rm (d + 1) (ec (eN RES)) (es (eN RES))) 0 0 q vl (rest) (mmf F P K tk dr)) : JJ Γ Ej (jj_Z Γ (rC mmf RES V2 Rq2) (ec (eN RES)) (es (eN RES))) (jj_rm (d + 1) (ec (eN RES)) (es (eN RES))) 0 0 pc vl (.ref bb :: rest) M := by
  cases r with
  | inl e =>
    have h := hi e rfl
    subst h
    exact jj_gV0 hd hy hm hT hx hk hrt hq ⟨Nat.le_of_eq (Nat.zero_add _), Nat.le_of_eq (Nat.zero_add _)⟩ (fun w M' h => by obtain ⟨h1, h2⟩ := h; cases h1) (fun X M' h => by obtain ⟨h1, h2⟩ := h; cases h1; exact jj_out hxt (Nat.le_of_eq (Nat.zero_add _)) (Nat.le_of_eq (Nat.zero_add _)) ⟨rfl, h2⟩)
  | inr x => exact jj_gV0 hd hy hm hT hx hk hrt hq ⟨Nat.zero_le _, Nat.zero_le _⟩ (fun w M' h => by obtain ⟨h1, F, P, K, tk, dr, h2, h3⟩ := h; cases h1; subst h3; exact kk x.1 x.2 F P K tk dr rfl h2) (fun X M' h => by obtain ⟨h1, h2⟩ := h; cases h1)
theorem jj_tV0i {bb ci : Nat} {Vi : α → Int32} (hd : decode Ej.2.1 pc = .ok (.invokevirtual ix, 3)) (hy : YOK y 0) (hm : MLV Ej.1 ix y ci) (hT : M.1 bb = some (.inl ci)) (hx : Ex Γ d y (.ref bb :: []) M (ec (eN r)) (es (eN r)) (rC mmf r (fun a => some (.int (Vi a))) Rqq)) (hk : Nat.ble y.2.2.1 21 = true) (hrt : Nat.ble (rest.map fun v => v.category).sum 8 = true) (hq : pc + 3 = q) (hxt : Ej.2.2.2.2.1 = []) (hi : ∀ e, r = .inl e → RES = .inl e) (kk : ∀ x p F P K tk dr, r = .inr (x, p) → Rqq x p F P K tk dr → JJ Γ Ej (jj_Z Γ (rC mmf RES V2 Rq2) (ec (eN RES)) (es (eN RES))) (jj_rm (d + 1) (ec (eN RES)) (es (eN RES))) 0 0 q vl (.int (Vi x) :: rest) (mmf F P K tk dr)) : JJ Γ Ej (jj_Z Γ (rC mmf RES V2 Rq2) (ec (eN RES)) (es (eN RES))) (jj_rm (d + 1) (ec (eN RES)) (es (eN RES))) 0 0 pc vl (.ref bb :: rest) M := by
  cases r with
  | inl e =>
    have h := hi e rfl
    subst h
    exact jj_gV0 hd hy hm hT hx hk hrt hq ⟨Nat.le_of_eq (Nat.zero_add _), Nat.le_of_eq (Nat.zero_add _)⟩ (fun w M' h => by obtain ⟨h1, h2⟩ := h; cases h1) (fun X M' h => by obtain ⟨h1, h2⟩ := h; cases h1; exact jj_out hxt (Nat.le_of_eq (Nat.zero_add _)) (Nat.le_of_eq (Nat.zero_add _)) ⟨rfl, h2⟩)
  | inr x => exact jj_gV0 hd hy hm hT hx hk hrt hq ⟨Nat.zero_le _, Nat.zero_le _⟩ (fun w M' h => by obtain ⟨h1, F, P, K, tk, dr, h2, h3⟩ := h; cases h1; subst h3; exact kk x.1 x.2 F P K tk dr rfl h2) (fun X M' h => by obtain ⟨h1, h2⟩ := h; cases h1)
theorem jj_tV1v {bb ci : Nat} {v1 : Value} (hd : decode Ej.2.1 pc = .ok (.invokevirtual ix, 3)) (hy : YOK y 1) (hm : MLV Ej.1 ix y ci) (hT : M.1 bb = some (.inl ci)) (hx : Ex Γ d y (.ref bb :: [v1]) M (ec (eN r)) (es (eN r)) (rC mmf r (fun _ => none) Rqq)) (hk : Nat.ble y.2.2.1 21 = true) (hrt : Nat.ble (rest.map fun v => v.category).sum 8 = true) (hq : pc + 3 = q) (hxt : Ej.2.2.2.2.1 = []) (hi : ∀ e, r = .inl e → RES = .inl e) (kk : ∀ x p F P K tk dr, r = .inr (x, p) → Rqq x p F P K tk dr → JJ Γ Ej (jj_Z Γ (rC mmf RES V2 Rq2) (ec (eN RES)) (es (eN RES))) (jj_rm (d + 1) (ec (eN RES)) (es (eN RES))) 0 0 q vl (rest) (mmf F P K tk dr)) : JJ Γ Ej (jj_Z Γ (rC mmf RES V2 Rq2) (ec (eN RES)) (es (eN RES))) (jj_rm (d + 1) (ec (eN RES)) (es (eN RES))) 0 0 pc vl (v1 :: .ref bb :: rest) M := by
  cases r with
  | inl e =>
    have h := hi e rfl
    subst h
    exact jj_gV1 hd hy hm hT hx hk hrt hq ⟨Nat.le_of_eq (Nat.zero_add _), Nat.le_of_eq (Nat.zero_add _)⟩ (fun w M' h => by obtain ⟨h1, h2⟩ := h; cases h1) (fun X M' h => by obtain ⟨h1, h2⟩ := h; cases h1; exact jj_out hxt (Nat.le_of_eq (Nat.zero_add _)) (Nat.le_of_eq (Nat.zero_add _)) ⟨rfl, h2⟩)
  | inr x => exact jj_gV1 hd hy hm hT hx hk hrt hq ⟨Nat.zero_le _, Nat.zero_le _⟩ (fun w M' h => by obtain ⟨h1, F, P, K, tk, dr, h2, h3⟩ := h; cases h1; subst h3; exact kk x.1 x.2 F P K tk dr rfl h2) (fun X M' h => by obtain ⟨h1, h2⟩ := h; cases h1)
theorem jj_tV1i {bb ci : Nat} {v1 : Value} {Vi : α → Int32} (hd : decode Ej.2.1 pc = .ok (.invokevirtual ix, 3)) (hy : YOK y 1) (hm : MLV Ej.1 ix y ci) (hT : M.1 bb = some (.inl ci)) (hx : Ex Γ d y (.ref bb :: [v1]) M (ec (eN r)) (es (eN r)) (rC mmf r (fun a => some (.int (Vi a))) Rqq)) (hk : Nat.ble y.2.2.1 21 = true) (hrt : Nat.ble (rest.map fun v => v.category).sum 8 = true) (hq : pc + 3 = q) (hxt : Ej.2.2.2.2.1 = []) (hi : ∀ e, r = .inl e → RES = .inl e) (kk : ∀ x p F P K tk dr, r = .inr (x, p) → Rqq x p F P K tk dr → JJ Γ Ej (jj_Z Γ (rC mmf RES V2 Rq2) (ec (eN RES)) (es (eN RES))) (jj_rm (d + 1) (ec (eN RES)) (es (eN RES))) 0 0 q vl (.int (Vi x) :: rest) (mmf F P K tk dr)) : JJ Γ Ej (jj_Z Γ (rC mmf RES V2 Rq2) (ec (eN RES)) (es (eN RES))) (jj_rm (d + 1) (ec (eN RES)) (es (eN RES))) 0 0 pc vl (v1 :: .ref bb :: rest) M := by
  cases r with
  | inl e =>
    have h := hi e rfl
    subst h
    exact jj_gV1 hd hy hm hT hx hk hrt hq ⟨Nat.le_of_eq (Nat.zero_add _), Nat.le_of_eq (Nat.zero_add _)⟩ (fun w M' h => by obtain ⟨h1, h2⟩ := h; cases h1) (fun X M' h => by obtain ⟨h1, h2⟩ := h; cases h1; exact jj_out hxt (Nat.le_of_eq (Nat.zero_add _)) (Nat.le_of_eq (Nat.zero_add _)) ⟨rfl, h2⟩)
  | inr x => exact jj_gV1 hd hy hm hT hx hk hrt hq ⟨Nat.zero_le _, Nat.zero_le _⟩ (fun w M' h => by obtain ⟨h1, F, P, K, tk, dr, h2, h3⟩ := h; cases h1; subst h3; exact kk x.1 x.2 F P K tk dr rfl h2) (fun X M' h => by obtain ⟨h1, h2⟩ := h; cases h1)
theorem jj_tV2v {bb ci : Nat} {v1 v2 : Value} (hd : decode Ej.2.1 pc = .ok (.invokevirtual ix, 3)) (hy : YOK y 2) (hm : MLV Ej.1 ix y ci) (hT : M.1 bb = some (.inl ci)) (hx : Ex Γ d y (.ref bb :: [v1, v2]) M (ec (eN r)) (es (eN r)) (rC mmf r (fun _ => none) Rqq)) (hk : Nat.ble y.2.2.1 21 = true) (hrt : Nat.ble (rest.map fun v => v.category).sum 8 = true) (hq : pc + 3 = q) (hxt : Ej.2.2.2.2.1 = []) (hi : ∀ e, r = .inl e → RES = .inl e) (kk : ∀ x p F P K tk dr, r = .inr (x, p) → Rqq x p F P K tk dr → JJ Γ Ej (jj_Z Γ (rC mmf RES V2 Rq2) (ec (eN RES)) (es (eN RES))) (jj_rm (d + 1) (ec (eN RES)) (es (eN RES))) 0 0 q vl (rest) (mmf F P K tk dr)) : JJ Γ Ej (jj_Z Γ (rC mmf RES V2 Rq2) (ec (eN RES)) (es (eN RES))) (jj_rm (d + 1) (ec (eN RES)) (es (eN RES))) 0 0 pc vl (v2 :: v1 :: .ref bb :: rest) M := by
  cases r with
  | inl e =>
    have h := hi e rfl
    subst h
    exact jj_gV2 hd hy hm hT hx hk hrt hq ⟨Nat.le_of_eq (Nat.zero_add _), Nat.le_of_eq (Nat.zero_add _)⟩ (fun w M' h => by obtain ⟨h1, h2⟩ := h; cases h1) (fun X M' h => by obtain ⟨h1, h2⟩ := h; cases h1; exact jj_out hxt (Nat.le_of_eq (Nat.zero_add _)) (Nat.le_of_eq (Nat.zero_add _)) ⟨rfl, h2⟩)
  | inr x => exact jj_gV2 hd hy hm hT hx hk hrt hq ⟨Nat.zero_le _, Nat.zero_le _⟩ (fun w M' h => by obtain ⟨h1, F, P, K, tk, dr, h2, h3⟩ := h; cases h1; subst h3; exact kk x.1 x.2 F P K tk dr rfl h2) (fun X M' h => by obtain ⟨h1, h2⟩ := h; cases h1)
theorem jj_tV2i {bb ci : Nat} {v1 v2 : Value} {Vi : α → Int32} (hd : decode Ej.2.1 pc = .ok (.invokevirtual ix, 3)) (hy : YOK y 2) (hm : MLV Ej.1 ix y ci) (hT : M.1 bb = some (.inl ci)) (hx : Ex Γ d y (.ref bb :: [v1, v2]) M (ec (eN r)) (es (eN r)) (rC mmf r (fun a => some (.int (Vi a))) Rqq)) (hk : Nat.ble y.2.2.1 21 = true) (hrt : Nat.ble (rest.map fun v => v.category).sum 8 = true) (hq : pc + 3 = q) (hxt : Ej.2.2.2.2.1 = []) (hi : ∀ e, r = .inl e → RES = .inl e) (kk : ∀ x p F P K tk dr, r = .inr (x, p) → Rqq x p F P K tk dr → JJ Γ Ej (jj_Z Γ (rC mmf RES V2 Rq2) (ec (eN RES)) (es (eN RES))) (jj_rm (d + 1) (ec (eN RES)) (es (eN RES))) 0 0 q vl (.int (Vi x) :: rest) (mmf F P K tk dr)) : JJ Γ Ej (jj_Z Γ (rC mmf RES V2 Rq2) (ec (eN RES)) (es (eN RES))) (jj_rm (d + 1) (ec (eN RES)) (es (eN RES))) 0 0 pc vl (v2 :: v1 :: .ref bb :: rest) M := by
  cases r with
  | inl e =>
    have h := hi e rfl
    subst h
    exact jj_gV2 hd hy hm hT hx hk hrt hq ⟨Nat.le_of_eq (Nat.zero_add _), Nat.le_of_eq (Nat.zero_add _)⟩ (fun w M' h => by obtain ⟨h1, h2⟩ := h; cases h1) (fun X M' h => by obtain ⟨h1, h2⟩ := h; cases h1; exact jj_out hxt (Nat.le_of_eq (Nat.zero_add _)) (Nat.le_of_eq (Nat.zero_add _)) ⟨rfl, h2⟩)
  | inr x => exact jj_gV2 hd hy hm hT hx hk hrt hq ⟨Nat.zero_le _, Nat.zero_le _⟩ (fun w M' h => by obtain ⟨h1, F, P, K, tk, dr, h2, h3⟩ := h; cases h1; subst h3; exact kk x.1 x.2 F P K tk dr rfl h2) (fun X M' h => by obtain ⟨h1, h2⟩ := h; cases h1)
theorem jj_tV3v {bb ci : Nat} {v1 v2 v3 : Value} (hd : decode Ej.2.1 pc = .ok (.invokevirtual ix, 3)) (hy : YOK y 3) (hm : MLV Ej.1 ix y ci) (hT : M.1 bb = some (.inl ci)) (hx : Ex Γ d y (.ref bb :: [v1, v2, v3]) M (ec (eN r)) (es (eN r)) (rC mmf r (fun _ => none) Rqq)) (hk : Nat.ble y.2.2.1 21 = true) (hrt : Nat.ble (rest.map fun v => v.category).sum 8 = true) (hq : pc + 3 = q) (hxt : Ej.2.2.2.2.1 = []) (hi : ∀ e, r = .inl e → RES = .inl e) (kk : ∀ x p F P K tk dr, r = .inr (x, p) → Rqq x p F P K tk dr → JJ Γ Ej (jj_Z Γ (rC mmf RES V2 Rq2) (ec (eN RES)) (es (eN RES))) (jj_rm (d + 1) (ec (eN RES)) (es (eN RES))) 0 0 q vl (rest) (mmf F P K tk dr)) : JJ Γ Ej (jj_Z Γ (rC mmf RES V2 Rq2) (ec (eN RES)) (es (eN RES))) (jj_rm (d + 1) (ec (eN RES)) (es (eN RES))) 0 0 pc vl (v3 :: v2 :: v1 :: .ref bb :: rest) M := by
  cases r with
  | inl e =>
    have h := hi e rfl
    subst h
    exact jj_gV3 hd hy hm hT hx hk hrt hq ⟨Nat.le_of_eq (Nat.zero_add _), Nat.le_of_eq (Nat.zero_add _)⟩ (fun w M' h => by obtain ⟨h1, h2⟩ := h; cases h1) (fun X M' h => by obtain ⟨h1, h2⟩ := h; cases h1; exact jj_out hxt (Nat.le_of_eq (Nat.zero_add _)) (Nat.le_of_eq (Nat.zero_add _)) ⟨rfl, h2⟩)
  | inr x => exact jj_gV3 hd hy hm hT hx hk hrt hq ⟨Nat.zero_le _, Nat.zero_le _⟩ (fun w M' h => by obtain ⟨h1, F, P, K, tk, dr, h2, h3⟩ := h; cases h1; subst h3; exact kk x.1 x.2 F P K tk dr rfl h2) (fun X M' h => by obtain ⟨h1, h2⟩ := h; cases h1)
theorem jj_tV3i {bb ci : Nat} {v1 v2 v3 : Value} {Vi : α → Int32} (hd : decode Ej.2.1 pc = .ok (.invokevirtual ix, 3)) (hy : YOK y 3) (hm : MLV Ej.1 ix y ci) (hT : M.1 bb = some (.inl ci)) (hx : Ex Γ d y (.ref bb :: [v1, v2, v3]) M (ec (eN r)) (es (eN r)) (rC mmf r (fun a => some (.int (Vi a))) Rqq)) (hk : Nat.ble y.2.2.1 21 = true) (hrt : Nat.ble (rest.map fun v => v.category).sum 8 = true) (hq : pc + 3 = q) (hxt : Ej.2.2.2.2.1 = []) (hi : ∀ e, r = .inl e → RES = .inl e) (kk : ∀ x p F P K tk dr, r = .inr (x, p) → Rqq x p F P K tk dr → JJ Γ Ej (jj_Z Γ (rC mmf RES V2 Rq2) (ec (eN RES)) (es (eN RES))) (jj_rm (d + 1) (ec (eN RES)) (es (eN RES))) 0 0 q vl (.int (Vi x) :: rest) (mmf F P K tk dr)) : JJ Γ Ej (jj_Z Γ (rC mmf RES V2 Rq2) (ec (eN RES)) (es (eN RES))) (jj_rm (d + 1) (ec (eN RES)) (es (eN RES))) 0 0 pc vl (v3 :: v2 :: v1 :: .ref bb :: rest) M := by
  cases r with
  | inl e =>
    have h := hi e rfl
    subst h
    exact jj_gV3 hd hy hm hT hx hk hrt hq ⟨Nat.le_of_eq (Nat.zero_add _), Nat.le_of_eq (Nat.zero_add _)⟩ (fun w M' h => by obtain ⟨h1, h2⟩ := h; cases h1) (fun X M' h => by obtain ⟨h1, h2⟩ := h; cases h1; exact jj_out hxt (Nat.le_of_eq (Nat.zero_add _)) (Nat.le_of_eq (Nat.zero_add _)) ⟨rfl, h2⟩)
  | inr x => exact jj_gV3 hd hy hm hT hx hk hrt hq ⟨Nat.zero_le _, Nat.zero_le _⟩ (fun w M' h => by obtain ⟨h1, F, P, K, tk, dr, h2, h3⟩ := h; cases h1; subst h3; exact kk x.1 x.2 F P K tk dr rfl h2) (fun X M' h => by obtain ⟨h1, h2⟩ := h; cases h1)
end A1b
section A1c
variable {Γ : Gam} {d : Nat} {T : JT} {R S : JR} {I C P K : JI} {L : JL} {D : JD} {tk dr : Int64} {pa pl sa E p : Nat} {F : JV} {b : Nat → Nat}
theorem rRs_C {α : Type} {r : Res α} {V : α → Option Value} (hs : cSt b E p F) (hcp : cP6 P) (hq : ∀ x, r = .inr x → x.2 ≤ E) {o : JO} {M' : JM} (h : rRs r (fun c pl_ => (cM T R S I L D C pa pl sa (fM_ F c pl_) P K tk dr)) V (fun _ q => (cM T R S I L D C pa pl sa (cNx b E q F) P K tk dr)) o M') : rC (cM T R S I L D C pa pl sa) r V (cR0 b E P K tk dr) o M' := by
  cases r with
  | inl e =>
    obtain ⟨h1, h2⟩ := h
    have hf := fM_f (c := e.1) (pl := e.2) hs
    exact ⟨h1, _, P, K, tk, dr, ⟨hf.1, hf.2.1, hf.2.2, hcp⟩, h2⟩
  | inr x =>
    obtain ⟨h1, h2⟩ := h
    exact ⟨h1, _, P, K, tk, dr, ⟨hs.nx (hq x rfl), rfl, rfl, rfl, rfl⟩, h2⟩
theorem ct_num (hp : hPa T R pa) (hb : pB_ C b E) (hs : cSt b E p F) (hcp : cP6 P) {lo hx : Nat} {h : Int32} (hh : h = nI hx - 1) (hlb : lo < 2 ^ 30) (hxb : hx < 2 ^ 30) : Ex Γ (d + 7) Y_X2_takeNumber [.ref pa, .int (nI lo), .int h] (cM T R S I L D C pa pl sa F P K tk dr) (ec (eN (pNum b E lo hx p))) (es (eN (pNum b E lo hx p))) (rC (cM T R S I L D C pa pl sa) (pNum b E lo hx p) (fun v => some (.int (nI v))) (cR0 b E P K tk dr)) := by
  have hnb := tN_bd (b := b) hs.2.1
  exact (ex_takeNumber hp hb hs.2.1 hs.1 hh hlb hxb).mono (fun o M' h => rRs_C hs hcp (fun x hx => by rw [(pNum_o hx).2.1]; exact hnb.2.1) h)
theorem ct_word (hp : hPa T R pa) (hb : pB_ C b E) (hs : cSt b E p F) (hcp : cP6 P) {own tx : String} {i2 : Nat} (hs0 : Cond.stringRef own i2 tx ∈ lw_tbl) {l : List Nat} (hl : sTx tx = l.map nI) (h128 : ∀ i, i < l.length → l.getD i 0 < 128) (hl8 : l.length ≤ 8) : Ex Γ (d + 7) Y_X2_takeWord [.ref pa, .ref (Γ.ss own i2)] (cM T R S I L D C pa pl sa F P K tk dr) (ec (eN (pWd b E l p))) (es (eN (pWd b E l p))) (rC (cM T R S I L D C pa pl sa) (pWd b E l p) (fun _ => none) (cR0 b E P K tk dr)) := by
  have hnb := tN_bd (b := b) hs.2.1
  refine (ex_takeWord hp hb hs.2.1 hs.1 hs0 hl h128 hl8).mono (fun o M' h => rRs_C hs hcp (fun x hx => ?_) h)
  unfold pWd at hx
  split at hx
  · cases hx; exact hnb.2.1
  · cases hx
theorem ct_sign (hp : hPa T R pa) (hb : pB_ C b E) (hs : cSt b E p F) (hcp : cP6 P) {c : Nat} (hc : c < 128) : Ex Γ (d + 7) Y_X2_takeSign [.ref pa, .int (nI c)] (cM T R S I L D C pa pl sa F P K tk dr) (ec (eN (pSg b E c p))) (es (eN (pSg b E c p))) (rC (cM T R S I L D C pa pl sa) (pSg b E c p) (fun _ => none) (cR0 b E P K tk dr)) := by
  have hnb := tN_bd (b := b) hs.2.1
  refine (ex_takeSign hp hb hs.2.1 hs.1 hc).mono (fun o M' h => rRs_C hs hcp (fun x hx => ?_) h)
  unfold pSg at hx
  split at hx
  · cases hx; exact hnb.2.1
  · cases hx
theorem ct_step (hp : hPa T R pa) (hb : pB_ C b E) (hs : cSt b E p F) : Ex Γ (d + 4) Y_X2_step [.ref pa] (cM T R S I L D C pa pl sa F P K tk dr) 0 0 (rV (cM T R S I L D C pa pl sa (cNx b E (tN b E p) F) P K tk dr)) := ex_step hp hb hs.1.1 (tN_bd hs.2.1).2.1 hs.1.2.1
theorem cSt.st (hs : cSt b E p F) : cSt b E (tN b E p) (cNx b E (tN b E p) F) := hs.nx (tN_bd hs.2.1).2.1
theorem ct_fail (hp : hPa T R pa) (hb : pB_ C b E) (hs : cSt b E p F) (hcp : cP6 P) {c : Nat} : Ex Γ (d + 6) Y_X2_fail [.ref pa, .int (nI c)] (cM T R S I L D C pa pl sa F P K tk dr) 1 6 (rX xIAE (cM T R S I L D C pa pl sa (fM_ F c (tS b E p)) P K tk dr)) := ex_fail hp hb hs.2.1 hs.1
theorem rC_x {α : Type} {c : Nat} {V : α → Option Value} {Rqq : α → Nat → JV → JI → JI → Int64 → Int64 → Prop} (hs : cSt b E p F) (hcp : cP6 P) : rC (cM T R S I L D C pa pl sa) (.inl (c, tS b E p) : Res α) V Rqq (.inr xIAE) (cM T R S I L D C pa pl sa (fM_ F c (tS b E p)) P K tk dr) := by
  have hf := fM_f (c := c) (pl := tS b E p) hs
  exact ⟨rfl, _, P, K, tk, dr, ⟨hf.1, hf.2.1, hf.2.2, hcp⟩, rfl⟩
theorem Res.bd_r {α β : Type} {x : α × Nat} {f : α → Nat → Res β} : Res.bd (.inr x) f = f x.1 x.2 := rfl
end A1c
