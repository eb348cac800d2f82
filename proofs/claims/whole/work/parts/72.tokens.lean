/-! TOKENS: pure; the component's step -/
def skF (b : Nat → Nat) (lo hi E : Nat) : Nat → Nat → Nat
  | 0, p => p
  | k + 1, p => if p < E ∧ lo ≤ b p ∧ b p ≤ hi then skF b lo hi E k (p + 1) else p
def skp (b : Nat → Nat) (lo hi E p : Nat) : Nat := skF b lo hi E (E - p) p
section TOK
variable {b : Nat → Nat} {lo hi E p : Nat}
theorem skp_yes (h : p < E ∧ lo ≤ b p ∧ b p ≤ hi) : skp b lo hi E p = skp b lo hi E (p + 1) := by
  unfold skp
  rw [show E - p = (E - (p + 1)) + 1 by omega, skF, if_pos h]
theorem skp_no (h : ¬ (p < E ∧ lo ≤ b p ∧ b p ≤ hi)) : skp b lo hi E p = p := by
  unfold skp
  cases hk : E - p with
  | zero => rfl
  | succ k => rw [skF, if_neg h]
theorem skp_b : ∀ (k p : Nat), E - p = k → p ≤ E → p ≤ skp b lo hi E p ∧ skp b lo hi E p ≤ E
  | 0, p, hk, hp => by rw [skp_no (by omega)]; omega
  | k + 1, p, hk, hp => by
    by_cases h : p < E ∧ lo ≤ b p ∧ b p ≤ hi
    · rw [skp_yes h]
      have := skp_b k (p + 1) (by omega) (by omega)
      omega
    · rw [skp_no h]; omega
theorem skp_bd (hp : p ≤ E) : p ≤ skp b lo hi E p ∧ skp b lo hi E p ≤ E := skp_b (E - p) p rfl hp
theorem skp_in : ∀ (k p : Nat), E - p = k → ∀ j, p ≤ j → j < skp b lo hi E p → lo ≤ b j ∧ b j ≤ hi
  | 0, p, hk, j, h1, h2 => by rw [skp_no (by omega)] at h2; omega
  | k + 1, p, hk, j, h1, h2 => by
    by_cases h : p < E ∧ lo ≤ b p ∧ b p ≤ hi
    · rw [skp_yes h] at h2
      by_cases e : j = p
      · subst e; exact h.2
      · exact skp_in k (p + 1) (by omega) j (by omega) h2
    · rw [skp_no h] at h2; omega
end TOK
/-- number of n digits from q on -/
def dcm (b : Nat → Nat) (q : Nat) : Nat → Nat
  | 0 => 0
  | n + 1 => dcm b q n * 10 + (b (q + n) - 48)
def isL (v : Nat) : Bool := decide (97 ≤ v ∧ v ≤ 122)
def isD (v : Nat) : Bool := decide (48 ≤ v ∧ v ≤ 57)
def isG (v : Nat) : Bool := decide (v = 59 ∨ v = 40 ∨ v = 41 ∨ v = 60 ∨ v = 62 ∨ v = 61)
/-- where a token begins, ends; its kind (0 end, 1 word, 2 number, 3 sign, 4 bad) -/
def tS (b : Nat → Nat) (E p : Nat) : Nat := skp b 32 32 E p
def qN (b : Nat → Nat) (E q : Nat) : Nat := if E ≤ q then q else if isL (b q) = true then skp b 97 122 E q else if isD (b q) = true then skp b 48 57 E q else q + 1
def qK (b : Nat → Nat) (E q : Nat) : Nat := if E ≤ q then 0 else if isL (b q) = true then (if qN b E q - q ≤ 8 then 1 else 4) else if isD (b q) = true then (if qN b E q - q ≤ 5 then 2 else 4) else if isG (b q) = true then 3 else 4
def tN (b : Nat → Nat) (E p : Nat) : Nat := qN b E (tS b E p)
def tK (b : Nat → Nat) (E p : Nat) : Nat := qK b E (tS b E p)
def tV (b : Nat → Nat) (E p : Nat) : Nat := if isD (b (tS b E p)) = true then dcm b (tS b E p) (tN b E p - tS b E p) else b (tS b E p)
theorem tS_bd {b : Nat → Nat} {E p : Nat} (h : p ≤ E) : p ≤ tS b E p ∧ tS b E p ≤ E := skp_bd h
theorem qN_bd {b : Nat → Nat} {E q : Nat} (h : q ≤ E) : q ≤ qN b E q ∧ qN b E q ≤ E ∧ (q < E → q < qN b E q) := by
  unfold qN
  by_cases h1 : E ≤ q
  · rw [if_pos h1]; omega
  · rw [if_neg h1]
    by_cases h2 : isL (b q) = true
    · rw [if_pos h2, skp_yes ⟨by omega, of_decide_eq_true h2⟩]
      have := skp_bd (b := b) (lo := 97) (hi := 122) (E := E) (p := q + 1) (by omega)
      omega
    · rw [if_neg h2]
      by_cases h3 : isD (b q) = true
      · rw [if_pos h3, skp_yes ⟨by omega, of_decide_eq_true h3⟩]
        have := skp_bd (b := b) (lo := 48) (hi := 57) (E := E) (p := q + 1) (by omega)
        omega
      · rw [if_neg h3]; omega
/-- a byte as the machine keeps it -/
def sgB (v : Nat) : Int32 := (nI v).toInt8.toInt32
theorem sgB_s {v : Nat} (h : v < 128) : sgB v = nI v := fa_byte_small h
theorem sgB_n : ∀ v, v < 256 → 128 ≤ v → sgB v < 0 := by
  unfold sgB
  decide +kernel
theorem sgB_lo {v lo : Nat} (hv : v < 256) (h0 : lo < 128) : sgB v < nI lo ↔ v < lo ∨ 128 ≤ v := by
  by_cases h : v < 128
  · rw [sgB_s h, nI_lt_iff (by omega) (by omega)]; omega
  · have := sgB_n v hv (by omega)
    constructor
    · intro _; right; omega
    · intro _
      rw [fa_lt, Int32.toInt_zero] at this
      rw [fa_lt, nI_toInt (by omega)]
      omega
theorem sgB_hi {v hi : Nat} (hv : v < 256) (h0 : hi < 128) : nI hi < sgB v ↔ hi < v ∧ v < 128 := by
  by_cases h : v < 128
  · rw [sgB_s h, nI_lt_iff (by omega) (by omega)]; omega
  · have := sgB_n v hv (by omega)
    constructor
    · intro w
      rw [fa_lt, Int32.toInt_zero] at this
      rw [fa_lt, nI_toInt (by omega)] at w
      omega
    · omega
/-- the parser's object: shape, bytes -/
def pB_ (C : JI) (b : Nat → Nat) (E : Nat) : Prop := E ≤ 1200 ∧ (∀ j, j < E → C 1 j = sgB (b j) ∧ b j < 256)
section M72
variable {Γ : Gam} {d : Nat} {T : JT} {R S : JR} {I C : JI} {L : JL} {D : JD} {z : Option Nat} {pa E p : Nat} {F : JV} {b : Nat → Nat}
theorem p2_rd : blk 2 I pa (st C 0 F) pa = F := by rw [blk_0 (by decide), st_eq]
theorem p2_rb : blk 2 I pa (st C 0 F) (pa + 1) = C 1 := by rw [blk_k (by decide), st_ne (by decide)]
theorem p2_wr {j : Nat} {v : Int32} : u2 (blk 2 I pa (st C 0 F)) pa j v = blk 2 I pa (st C 0 (w1 F j v)) := by rw [u2_blk0 (by decide), u2_st]
theorem lp_skip (hp : hPa T R pa) (hb : pB_ C b E)  {lo hi : Nat} (hlo : 1 ≤ lo) (hlh : lo ≤ hi) (hh : hi < 128) : ∀ (k p : Nat) (F : JV), E - p = k → p ≤ E → F 4 = nI E → F 5 = nI p → JJ Γ (jj_E Y_X2_skip) (jj_Z Γ (rV (T, R, S, blk 2 I pa (st C 0 (w1 F 5 (nI (skp b lo hi E p)))), L, D, z)) 0 0) (jj_rm (d) 0 0) 0 0 0 [some (.ref pa), some (.int (nI lo)), some (.int (nI hi))] [] (T, R, S, blk 2 I pa (st C 0 F), L, D, z) := by
  have h12 := hb.1
  intro k
  induction k with
  | zero =>
    intro p F hk hp2 hE h5
    rw [skp_no (by omega), show w1 F 5 (nI p) = F by funext j; unfold w1; split; (rename_i e; rw [e, h5]); rfl]
    refine jj_aload_n (q := 1) dX2_skip_0 rfl rfl rfl ?_
    refine jj_getIw (v := nI p) (q := 4) dX2_skip_1 fl_X2_28 hp.t0 (by rw [p2_rd]; exact h5) rfl rfl ?_
    refine jj_aload_n (q := 5) dX2_skip_4 rfl rfl rfl ?_
    refine jj_getIw (v := nI E) (q := 8) dX2_skip_5 fl_X2_25 hp.t0 (by rw [p2_rd]; exact hE) rfl rfl ?_
    refine jj_icmp_ge (q := 11) (tgt := 50) dX2_skip_8 rfl rfl (fun h8 => ?_) (fun h8 => absurd (nI_le (show E ≤ p by omega) (by omega)) h8)
    refine jj_vret dX2_skip_50 rfl (Nat.zero_le _) (Nat.zero_le _) ?_
    exact ⟨rfl, rfl⟩
  | succ k ih =>
    intro p F hk hp2 hE h5
    have hv := hb.2 p (by omega)
    by_cases hin : lo ≤ b p ∧ b p ≤ hi
    · rw [skp_yes ⟨by omega, hin⟩, show w1 F 5 (nI (skp b lo hi E (p + 1))) = w1 (w1 F 5 (nI (p + 1))) 5 (nI (skp b lo hi E (p + 1))) by funext j; unfold w1; split <;> rfl]
      refine jj_aload_n (q := 1) dX2_skip_0 rfl rfl rfl ?_
      refine jj_getIw (v := nI p) (q := 4) dX2_skip_1 fl_X2_28 hp.t0 (by rw [p2_rd]; exact h5) rfl rfl ?_
      refine jj_aload_n (q := 5) dX2_skip_4 rfl rfl rfl ?_
      refine jj_getIw (v := nI E) (q := 8) dX2_skip_5 fl_X2_25 hp.t0 (by rw [p2_rd]; exact hE) rfl rfl ?_
      refine jj_icmp_ge (q := 11) (tgt := 50) dX2_skip_8 rfl rfl (fun h8 => absurd h8 (nI_ge (show p < E by omega) (by omega))) (fun h8 => ?_)
      refine jj_aload_n (q := 12) dX2_skip_11 rfl rfl rfl ?_
      refine jj_getR (q := 15) dX2_skip_12 fl_X2_21 hp.t0 hp.r0_3 rfl rfl rfl ?_
      refine jj_aload_n (q := 16) dX2_skip_15 rfl rfl rfl ?_
      refine jj_getIw (v := nI p) (q := 19) dX2_skip_16 fl_X2_28 hp.t0 (by rw [p2_rd]; exact h5) rfl rfl ?_
      refine jj_baldv (q := 20) dX2_skip_19 hp.t1 p2_rb (nI_in (show p < 1200 by omega) (by omega)) rfl ?_
      rw [nI_clamp (show p < 2 ^ 31 by omega), hv.1]
      refine jj_iload_n (q := 21) dX2_skip_20 rfl rfl rfl ?_
      refine jj_icmp_lt (q := 24) (tgt := 50) dX2_skip_21 rfl rfl (fun h21 => absurd h21 (fun w => by have := (sgB_lo hv.2 (by omega)).mp w; omega)) (fun h21 => ?_)
      refine jj_aload_n (q := 25) dX2_skip_24 rfl rfl rfl ?_
      refine jj_getR (q := 28) dX2_skip_25 fl_X2_21 hp.t0 hp.r0_3 rfl rfl rfl ?_
      refine jj_aload_n (q := 29) dX2_skip_28 rfl rfl rfl ?_
      refine jj_getIw (v := nI p) (q := 32) dX2_skip_29 fl_X2_28 hp.t0 (by rw [p2_rd]; exact h5) rfl rfl ?_
      refine jj_baldv (q := 33) dX2_skip_32 hp.t1 p2_rb (nI_in (show p < 1200 by omega) (by omega)) rfl ?_
      rw [nI_clamp (show p < 2 ^ 31 by omega), hv.1]
      refine jj_iload_n (q := 34) dX2_skip_33 rfl rfl rfl ?_
      refine jj_icmp_gt (q := 37) (tgt := 50) dX2_skip_34 rfl rfl (fun h34 => absurd h34 (fun w => by have := (sgB_hi hv.2 hh).mp w; omega)) (fun h34 => ?_)
      refine jj_aload_n (q := 38) dX2_skip_37 rfl rfl rfl ?_
      refine jj_dup (q := 39) dX2_skip_38 rfl rfl ?_
      refine jj_getIw (v := nI p) (q := 42) dX2_skip_39 fl_X2_28 hp.t0 (by rw [p2_rd]; exact h5) rfl rfl ?_
      refine jj_iconst (v := 1) (q := 43) dX2_skip_42 rfl rfl ?_
      refine jj_iaddN (q := 44) (a := p) (b := 1) dX2_skip_43 rfl rfl rfl ?_
      refine jj_putIv (q := 47) dX2_skip_44 fl_X2_28 hp.t0 p2_wr rfl rfl rfl rfl rfl ?_
      refine jj_goto (tgt := 0) dX2_skip_47 rfl ?_
      exact ih (p + 1) _ (by omega) (by omega) (by rw [w1_ne (by omega)]; exact hE) w1_eq
    · rw [skp_no (fun w => hin w.2), show w1 F 5 (nI p) = F by funext j; unfold w1; split; (rename_i e; rw [e, h5]); rfl]
      refine jj_aload_n (q := 1) dX2_skip_0 rfl rfl rfl ?_
      refine jj_getIw (v := nI p) (q := 4) dX2_skip_1 fl_X2_28 hp.t0 (by rw [p2_rd]; exact h5) rfl rfl ?_
      refine jj_aload_n (q := 5) dX2_skip_4 rfl rfl rfl ?_
      refine jj_getIw (v := nI E) (q := 8) dX2_skip_5 fl_X2_25 hp.t0 (by rw [p2_rd]; exact hE) rfl rfl ?_
      refine jj_icmp_ge (q := 11) (tgt := 50) dX2_skip_8 rfl rfl (fun h8 => absurd h8 (nI_ge (show p < E by omega) (by omega))) (fun h8 => ?_)
      refine jj_aload_n (q := 12) dX2_skip_11 rfl rfl rfl ?_
      refine jj_getR (q := 15) dX2_skip_12 fl_X2_21 hp.t0 hp.r0_3 rfl rfl rfl ?_
      refine jj_aload_n (q := 16) dX2_skip_15 rfl rfl rfl ?_
      refine jj_getIw (v := nI p) (q := 19) dX2_skip_16 fl_X2_28 hp.t0 (by rw [p2_rd]; exact h5) rfl rfl ?_
      refine jj_baldv (q := 20) dX2_skip_19 hp.t1 p2_rb (nI_in (show p < 1200 by omega) (by omega)) rfl ?_
      rw [nI_clamp (show p < 2 ^ 31 by omega), hv.1]
      refine jj_iload_n (q := 21) dX2_skip_20 rfl rfl rfl ?_
      refine jj_icmp_lt (q := 24) (tgt := 50) dX2_skip_21 rfl rfl (fun h21 => ?_) (fun h21 => ?_)
      · refine jj_vret dX2_skip_50 rfl (Nat.zero_le _) (Nat.zero_le _) ?_
        exact ⟨rfl, rfl⟩
      · refine jj_aload_n (q := 25) dX2_skip_24 rfl rfl rfl ?_
        refine jj_getR (q := 28) dX2_skip_25 fl_X2_21 hp.t0 hp.r0_3 rfl rfl rfl ?_
        refine jj_aload_n (q := 29) dX2_skip_28 rfl rfl rfl ?_
        refine jj_getIw (v := nI p) (q := 32) dX2_skip_29 fl_X2_28 hp.t0 (by rw [p2_rd]; exact h5) rfl rfl ?_
        refine jj_baldv (q := 33) dX2_skip_32 hp.t1 p2_rb (nI_in (show p < 1200 by omega) (by omega)) rfl ?_
        rw [nI_clamp (show p < 2 ^ 31 by omega), hv.1]
        refine jj_iload_n (q := 34) dX2_skip_33 rfl rfl rfl ?_
        refine jj_icmp_gt (q := 37) (tgt := 50) dX2_skip_34 rfl rfl (fun h34 => ?_) (fun h34 => ?_)
        · refine jj_vret dX2_skip_50 rfl (Nat.zero_le _) (Nat.zero_le _) ?_
          exact ⟨rfl, rfl⟩
        · exact absurd ⟨by have g1 : ¬ (b p < lo ∨ 128 ≤ b p) := fun w => h21 ((sgB_lo hv.2 (by omega)).mpr w); omega, by have g1 : ¬ (b p < lo ∨ 128 ≤ b p) := fun w => h21 ((sgB_lo hv.2 (by omega)).mpr w); have g2 : ¬ (hi < b p ∧ b p < 128) := fun w => h34 ((sgB_hi hv.2 hh).mpr w); omega⟩ hin
theorem ex_skip (hp : hPa T R pa) (hb : pB_ C b E) (hE : F 4 = nI E) {lo hi : Nat} (hlo : 1 ≤ lo) (hlh : lo ≤ hi) (hh : hi < 128) (hp2 : p ≤ E) (h5 : F 5 = nI p) : Ex Γ (d) Y_X2_skip [.ref pa, .int (nI lo), .int (nI hi)] (T, R, S, blk 2 I pa (st C 0 F), L, D, z) 0 0 (rV (T, R, S, blk 2 I pa (st C 0 (w1 F 5 (nI (skp b lo hi E p)))), L, D, z)) := by
  refine Ex.of (by decide) (by simp [Value.category]) (Nat.le_of_ble_eq_true rfl) rfl ?_
  exact lp_skip hp hb hlo hlh hh (E - p) p F rfl hp2 hE h5
theorem ex_skipN (hp : hPa T R pa) (hb : pB_ C b E) (hE : F 4 = nI E) {lo hi n : Nat} (hn : skp b lo hi E p = n) (hlo : 1 ≤ lo) (hlh : lo ≤ hi) (hh : hi < 128) (hp2 : p ≤ E) (h5 : F 5 = nI p) : Ex Γ (d) Y_X2_skip [.ref pa, .int (nI lo), .int (nI hi)] (T, R, S, blk 2 I pa (st C 0 F), L, D, z) 0 0 (rV (T, R, S, blk 2 I pa (st C 0 (w1 F 5 (nI n))), L, D, z)) := by
  subst hn
  exact ex_skip hp hb hE hlo hlh hh hp2 h5
theorem dec_s {v c : Nat} (h : 48 ≤ c) : nI (v * 10) + nI c - 48 = nI (v * 10 + (c - 48)) := by
  rw [show nI c = nI (c - 48) + 48 by rw [show (48 : Int32) = nI 48 from rfl, nI_add, show c - 48 + 48 = c by omega], ← Int32.add_assoc, Int32.add_sub_cancel, nI_add]
/-- the parser's fields behind a step -/
def cV (b : Nat → Nat) (E q : Nat) (F : JV) : Int32 := if E ≤ q then F 8 else if isL (b q) = true then F 8 else if isD (b q) = true then (if qN b E q - q ≤ 5 then nI (dcm b q (qN b E q - q)) else 0) else sgB (b q)
def cNx (b : Nat → Nat) (E p : Nat) (F : JV) : JV := w1 (w1 (w1 (w1 F 5 (nI (tN b E p))) 7 (nI (tS b E p))) 6 (nI (tK b E p))) 8 (cV b E (tS b E p) F)
theorem cN_a {F : JV} {q n k : Int32} : w1 (w1 (w1 (w1 F 5 q) 7 q) 5 n) 6 k = w1 (w1 (w1 (w1 F 5 n) 7 q) 6 k) 8 (F 8) := by
  funext j
  unfold w1
  repeat' split
  all_goals first | rfl | omega | (rename_i e; rw [e]) | (rename_i e _ _ _; rw [e]) | (rename_i e _ _ _ _; rw [e])
theorem cN_b {F : JV} {q n k v : Int32} : w1 (w1 (w1 (w1 (w1 F 5 q) 7 q) 5 n) 6 k) 8 v = w1 (w1 (w1 (w1 F 5 n) 7 q) 6 k) 8 v := by
  funext j
  unfold w1
  repeat' split
  all_goals first | rfl | omega
theorem cN_c {F : JV} {q k : Int32} : w1 (w1 (w1 F 5 q) 7 q) 6 k = w1 (w1 (w1 (w1 F 5 q) 7 q) 6 k) 8 (F 8) := by
  funext j
  unfold w1
  repeat' split
  all_goals first | rfl | omega | (rename_i e; rw [e]) | (rename_i e _ _; rw [e]) | (rename_i e _ _ _; rw [e])
theorem sg255 : ∀ v, v < 256 → ((sgB v &&& 255).toUInt32 % 65536).toInt32 = nI v := by
  unfold sgB
  decide +kernel
theorem sgTx : pTx ";()<>=" ∧ 0 < (sTx ";()<>=").length := by
  refine ⟨⟨by decide +kernel, ?_⟩, by decide +kernel⟩
  have h : ∀ j, j < 6 → (sTx ";()<>=").getD j 0 = nI ([59, 40, 41, 60, 62, 61].getD j 0) ∧ [59, 40, 41, 60, 62, 61].getD j 0 < 128 := by decide +kernel
  intro j hj
  exact ⟨_, (h j hj).2, (h j hj).1⟩
theorem sgIx : ∀ v, v < 256 → (sIx ";()<>=" (sgB v) < 0 ↔ ¬ isG v = true) := by
  decide +kernel
theorem lp_dec (hp : hPa T R pa) (hb : pB_ C b E) (hE : F 4 = nI E) {q n : Nat} (h7 : F 7 = nI q) (h5 : F 5 = nI (q + n)) (hn : n ≤ 5) (hqn : q + n ≤ E) (hd : ∀ j, q ≤ j → j < q + n → 48 ≤ b j ∧ b j ≤ 57) : ∀ (k m : Nat), m + k = n → JJ Γ (jj_E Y_X2_decimal) (jj_Z Γ (rI (nI (dcm b q n)) (T, R, S, blk 2 I pa (st C 0 F), L, D, z)) 0 0) (jj_rm (d) 0 0) 0 0 7 [some (.ref pa), some (.int (nI (dcm b q m))), some (.int (nI (q + m)))] [] (T, R, S, blk 2 I pa (st C 0 F), L, D, z) := by
  have h12 := hb.1
  intro k
  induction k with
  | zero =>
    intro m hm
    refine jj_iload_n (q := 8) dX2_decimal_7 rfl rfl rfl ?_
    refine jj_aload_n (q := 9) dX2_decimal_8 rfl rfl rfl ?_
    refine jj_getIw (v := nI (q + n)) (q := 12) dX2_decimal_9 fl_X2_28 hp.t0 (by rw [p2_rd]; exact h5) rfl rfl ?_
    refine jj_icmp_ge (q := 15) (tgt := 36) dX2_decimal_12 rfl rfl (fun h12 => ?_) (fun h12 => absurd (nI_le (show q + n ≤ q + m by omega) (by omega)) h12)
    refine jj_iload_n (q := 37) dX2_decimal_36 rfl rfl rfl ?_
    refine jj_iret dX2_decimal_37 rfl (Nat.zero_le _) (Nat.zero_le _) ?_
    exact ⟨by rw [show m = n by omega], rfl⟩
  | succ k ih =>
    intro m hm
    have hv := hb.2 (q + m) (by omega)
    have hdg := hd (q + m) (by omega) (by omega)
    refine jj_iload_n (q := 8) dX2_decimal_7 rfl rfl rfl ?_
    refine jj_aload_n (q := 9) dX2_decimal_8 rfl rfl rfl ?_
    refine jj_getIw (v := nI (q + n)) (q := 12) dX2_decimal_9 fl_X2_28 hp.t0 (by rw [p2_rd]; exact h5) rfl rfl ?_
    refine jj_icmp_ge (q := 15) (tgt := 36) dX2_decimal_12 rfl rfl (fun h12 => absurd h12 (nI_ge (show q + m < q + n by omega) (by omega))) (fun h12 => ?_)
    refine jj_iload_n (q := 16) dX2_decimal_15 rfl rfl rfl ?_
    refine jj_bipush (v := 10) (q := 18) dX2_decimal_16 rfl rfl ?_
    refine jj_imulN (q := 19) (a := dcm b q m) (b := 10) dX2_decimal_18 rfl rfl rfl ?_
    refine jj_aload_n (q := 20) dX2_decimal_19 rfl rfl rfl ?_
    refine jj_getR (q := 23) dX2_decimal_20 fl_X2_21 hp.t0 hp.r0_3 rfl rfl rfl ?_
    refine jj_iload_n (q := 24) dX2_decimal_23 rfl rfl rfl ?_
    refine jj_baldv (q := 25) dX2_decimal_24 hp.t1 p2_rb (nI_in (show q + m < 1200 by omega) (by omega)) rfl ?_
    rw [nI_clamp (show q + m < 2 ^ 31 by omega), hv.1, sgB_s (by omega)]
    refine jj_iadd (q := 26) dX2_decimal_25 rfl ?_
    refine jj_bipush (v := 48) (q := 28) dX2_decimal_26 rfl rfl ?_
    refine jj_isub (q := 29) dX2_decimal_28 rfl ?_
    rw [dec_s hdg.1]
    refine jj_istore_n (q := 30) dX2_decimal_29 rfl (by decide) rfl ?_
    refine jj_iinc (v := nI ((q + m) + 1)) (q := 33) dX2_decimal_30 rfl (nI_incn (q + m) 1 rfl) (by decide) rfl ?_
    refine jj_goto (tgt := 7) dX2_decimal_33 rfl ?_
    exact ih (m + 1) (by omega)
theorem ex_decimal (hp : hPa T R pa) (hb : pB_ C b E) (hE : F 4 = nI E) {q n : Nat} (h7 : F 7 = nI q) (h5 : F 5 = nI (q + n)) (hn : n ≤ 5) (hqn : q + n ≤ E) (hd : ∀ j, q ≤ j → j < q + n → 48 ≤ b j ∧ b j ≤ 57) : Ex Γ (d) Y_X2_decimal [.ref pa] (T, R, S, blk 2 I pa (st C 0 F), L, D, z) 0 0 (rI (nI (dcm b q n)) (T, R, S, blk 2 I pa (st C 0 F), L, D, z)) := by
  refine Ex.of (by decide) (by simp [Value.category]) (Nat.le_of_ble_eq_true rfl) rfl ?_
  refine jj_iconst (v := 0) (q := 1) dX2_decimal_0 rfl rfl ?_
  refine jj_istore_n (q := 2) dX2_decimal_1 rfl (by decide) rfl ?_
  refine jj_aload_n (q := 3) dX2_decimal_2 rfl rfl rfl ?_
  refine jj_getIw (v := nI q) (q := 6) dX2_decimal_3 fl_X2_34 hp.t0 (by rw [p2_rd]; exact h7) rfl rfl ?_
  refine jj_istore_n (q := 7) dX2_decimal_6 rfl (by decide) rfl ?_
  exact lp_dec hp hb hE h7 h5 hn hqn hd n 0 (by omega)
theorem ex_step (hp : hPa T R pa) (hb : pB_ C b E) (hE : F 4 = nI E) (hpE : p ≤ E) (h5 : F 5 = nI p) : Ex Γ (d + 4) Y_X2_step [.ref pa] (T, R, S, blk 2 I pa (st C 0 F), L, D, z) 0 0 (rV (T, R, S, blk 2 I pa (st C 0 (cNx b E p F)), L, D, z)) := by
  have h12 := hb.1
  have hq := tS_bd (b := b) hpE
  have hqn := qN_bd (b := b) hq.2
  unfold cNx
  by_cases c1 : E ≤ tS b E p
  · rw [show tN b E p = tS b E p from if_pos c1, show tK b E p = 0 from if_pos c1, show cV b E (tS b E p) F = F 8 from if_pos c1, ← cN_c]
    refine Ex.of (by decide) (by simp [Value.category]) (Nat.le_of_ble_eq_true rfl) rfl ?_
    refine jj_aload_n (q := 1) dX2_step_0 rfl rfl rfl ?_
    refine jj_bipush (v := 32) (q := 3) dX2_step_1 rfl rfl ?_
    refine jj_bipush (v := 32) (q := 5) dX2_step_3 rfl rfl ?_
    refine jj_cV2v (q := 8) dX2_step_5 yk_X2_skip ml_X2_267 hp.t0 (ex_skipN (lo := 32) (hi := 32) (n := tS b E p) hp hb hE rfl (by omega) (by omega) (by omega) hpE h5) rfl rfl rfl ⟨Nat.zero_le _, Nat.zero_le _⟩ ?_
    refine jj_aload_n (q := 9) dX2_step_8 rfl rfl rfl ?_
    refine jj_aload_n (q := 10) dX2_step_9 rfl rfl rfl ?_
    refine jj_getIw (v := nI (tS b E p)) (q := 13) dX2_step_10 fl_X2_28 hp.t0 (by rw [p2_rd, w1_eq]) rfl rfl ?_
    refine jj_putIv (q := 16) dX2_step_13 fl_X2_34 hp.t0 p2_wr rfl rfl rfl rfl rfl ?_
    refine jj_aload_n (q := 17) dX2_step_16 rfl rfl rfl ?_
    refine jj_getIw (v := nI (tS b E p)) (q := 20) dX2_step_17 fl_X2_28 hp.t0 (by rw [p2_rd, w1_ne (by omega), w1_eq]) rfl rfl ?_
    refine jj_aload_n (q := 21) dX2_step_20 rfl rfl rfl ?_
    refine jj_getIw (v := nI E) (q := 24) dX2_step_21 fl_X2_25 hp.t0 (by rw [p2_rd, w1_ne (by omega), w1_ne (by omega)]; exact hE) rfl rfl ?_
    refine jj_icmp_lt (q := 27) (tgt := 33) dX2_step_24 rfl rfl (fun h24 => absurd h24 (nI_nltN c1 (by omega))) (fun h24 => ?_)
    refine jj_aload_n (q := 28) dX2_step_27 rfl rfl rfl ?_
    refine jj_iconst (v := 0) (q := 29) dX2_step_28 rfl rfl ?_
    refine jj_putIv (q := 32) dX2_step_29 fl_X2_31 hp.t0 p2_wr rfl rfl rfl rfl rfl ?_
    refine jj_vret dX2_step_32 rfl (Nat.zero_le _) (Nat.zero_le _) ?_
    exact ⟨rfl, rfl⟩
  · have hv := hb.2 (tS b E p) (by omega)
    by_cases c2 : isL (b (tS b E p)) = true
    · have hl := of_decide_eq_true c2
      have hsk : skp b 97 122 E (tS b E p) = qN b E (tS b E p) := by unfold qN; rw [if_neg c1, if_pos c2]
      rw [show tN b E p = qN b E (tS b E p) from rfl, show tK b E p = (if qN b E (tS b E p) - tS b E p ≤ 8 then 1 else 4) by unfold tK qK; rw [if_neg c1, if_pos c2], show cV b E (tS b E p) F = F 8 by unfold cV; rw [if_neg c1, if_pos c2], ← cN_a]
      by_cases c8 : qN b E (tS b E p) - tS b E p ≤ 8
      · rw [if_pos c8]
        refine Ex.of (by decide) (by simp [Value.category]) (Nat.le_of_ble_eq_true rfl) rfl ?_
        refine jj_aload_n (q := 1) dX2_step_0 rfl rfl rfl ?_
        refine jj_bipush (v := 32) (q := 3) dX2_step_1 rfl rfl ?_
        refine jj_bipush (v := 32) (q := 5) dX2_step_3 rfl rfl ?_
        refine jj_cV2v (q := 8) dX2_step_5 yk_X2_skip ml_X2_267 hp.t0 (ex_skipN (lo := 32) (hi := 32) (n := tS b E p) hp hb hE rfl (by omega) (by omega) (by omega) hpE h5) rfl rfl rfl ⟨Nat.zero_le _, Nat.zero_le _⟩ ?_
        refine jj_aload_n (q := 9) dX2_step_8 rfl rfl rfl ?_
        refine jj_aload_n (q := 10) dX2_step_9 rfl rfl rfl ?_
        refine jj_getIw (v := nI (tS b E p)) (q := 13) dX2_step_10 fl_X2_28 hp.t0 (by rw [p2_rd, w1_eq]) rfl rfl ?_
        refine jj_putIv (q := 16) dX2_step_13 fl_X2_34 hp.t0 p2_wr rfl rfl rfl rfl rfl ?_
        refine jj_aload_n (q := 17) dX2_step_16 rfl rfl rfl ?_
        refine jj_getIw (v := nI (tS b E p)) (q := 20) dX2_step_17 fl_X2_28 hp.t0 (by rw [p2_rd, w1_ne (by omega), w1_eq]) rfl rfl ?_
        refine jj_aload_n (q := 21) dX2_step_20 rfl rfl rfl ?_
        refine jj_getIw (v := nI E) (q := 24) dX2_step_21 fl_X2_25 hp.t0 (by rw [p2_rd, w1_ne (by omega), w1_ne (by omega)]; exact hE) rfl rfl ?_
        refine jj_icmp_lt (q := 27) (tgt := 33) dX2_step_24 rfl rfl (fun h24 => ?_) (fun h24 => absurd (nI_ltN (show tS b E p < E by omega) (by omega)) h24)
        refine jj_aload_n (q := 34) dX2_step_33 rfl rfl rfl ?_
        refine jj_getR (q := 37) dX2_step_34 fl_X2_21 hp.t0 hp.r0_3 rfl rfl rfl ?_
        refine jj_aload_n (q := 38) dX2_step_37 rfl rfl rfl ?_
        refine jj_getIw (v := nI (tS b E p)) (q := 41) dX2_step_38 fl_X2_28 hp.t0 (by rw [p2_rd, w1_ne (by omega), w1_eq]) rfl rfl ?_
        refine jj_baldv (q := 42) dX2_step_41 hp.t1 p2_rb (nI_in (show tS b E p < 1200 by omega) (by omega)) rfl ?_
        rw [nI_clamp (show tS b E p < 2 ^ 31 by omega), hv.1]
        refine jj_istore_n (q := 43) dX2_step_42 rfl (by decide) rfl ?_
        refine jj_iload_n (q := 44) dX2_step_43 rfl rfl rfl ?_
        refine jj_bipush (v := 97) (q := 46) dX2_step_44 rfl rfl ?_
        refine jj_icmp_lt (q := 49) (tgt := 89) dX2_step_46 rfl rfl (fun h46 => absurd h46 (fun w => by have := (sgB_lo (lo := 97) hv.2 (by omega)).mp w; omega)) (fun h46 => ?_)
        refine jj_iload_n (q := 50) dX2_step_49 rfl rfl rfl ?_
        refine jj_bipush (v := 122) (q := 52) dX2_step_50 rfl rfl ?_
        refine jj_icmp_gt (q := 55) (tgt := 89) dX2_step_52 rfl rfl (fun h52 => absurd h52 (fun w => by have := (sgB_hi (hi := 122) hv.2 (by omega)).mp w; omega)) (fun h52 => ?_)
        refine jj_aload_n (q := 56) dX2_step_55 rfl rfl rfl ?_
        refine jj_bipush (v := 97) (q := 58) dX2_step_56 rfl rfl ?_
        refine jj_bipush (v := 122) (q := 60) dX2_step_58 rfl rfl ?_
        refine jj_cV2v (q := 63) dX2_step_60 yk_X2_skip ml_X2_267 hp.t0 (ex_skipN (lo := 97) (hi := 122) hp hb (by rw [w1_ne (by omega), w1_ne (by omega)]; exact hE) hsk (by omega) (by omega) (by omega) hq.2 (by rw [w1_ne (by omega), w1_eq])) rfl rfl rfl ⟨Nat.zero_le _, Nat.zero_le _⟩ ?_
        refine jj_aload_n (q := 64) dX2_step_63 rfl rfl rfl ?_
        refine jj_aload_n (q := 65) dX2_step_64 rfl rfl rfl ?_
        refine jj_getIw (v := nI (qN b E (tS b E p))) (q := 68) dX2_step_65 fl_X2_28 hp.t0 (by rw [p2_rd, w1_eq]) rfl rfl ?_
        refine jj_aload_n (q := 69) dX2_step_68 rfl rfl rfl ?_
        refine jj_getIw (v := nI (tS b E p)) (q := 72) dX2_step_69 fl_X2_34 hp.t0 (by rw [p2_rd, w1_ne (by omega), w1_eq]) rfl rfl ?_
        refine jj_isubN (q := 73) (e := qN b E (tS b E p) - tS b E p) (a := qN b E (tS b E p)) (b := tS b E p) dX2_step_72 rfl rfl (by omega) rfl ?_
        refine jj_bipush (v := 8) (q := 75) dX2_step_73 rfl rfl ?_
        refine jj_icmp_gt (q := 78) (tgt := 82) dX2_step_75 rfl rfl (fun h75 => absurd h75 (nI_nltN (b := 8) c8 (by omega))) (fun h75 => ?_)
        refine jj_iconst (v := 1) (q := 79) dX2_step_78 rfl rfl ?_
        refine jj_goto (tgt := 83) dX2_step_79 rfl ?_
        refine jj_putIv (q := 86) dX2_step_83 fl_X2_31 hp.t0 p2_wr rfl rfl rfl rfl rfl ?_
        refine jj_goto (tgt := 193) dX2_step_86 rfl ?_
        refine jj_vret dX2_step_193 rfl (Nat.zero_le _) (Nat.zero_le _) ?_
        exact ⟨rfl, rfl⟩
      · rw [if_neg c8]
        refine Ex.of (by decide) (by simp [Value.category]) (Nat.le_of_ble_eq_true rfl) rfl ?_
        refine jj_aload_n (q := 1) dX2_step_0 rfl rfl rfl ?_
        refine jj_bipush (v := 32) (q := 3) dX2_step_1 rfl rfl ?_
        refine jj_bipush (v := 32) (q := 5) dX2_step_3 rfl rfl ?_
        refine jj_cV2v (q := 8) dX2_step_5 yk_X2_skip ml_X2_267 hp.t0 (ex_skipN (lo := 32) (hi := 32) (n := tS b E p) hp hb hE rfl (by omega) (by omega) (by omega) hpE h5) rfl rfl rfl ⟨Nat.zero_le _, Nat.zero_le _⟩ ?_
        refine jj_aload_n (q := 9) dX2_step_8 rfl rfl rfl ?_
        refine jj_aload_n (q := 10) dX2_step_9 rfl rfl rfl ?_
        refine jj_getIw (v := nI (tS b E p)) (q := 13) dX2_step_10 fl_X2_28 hp.t0 (by rw [p2_rd, w1_eq]) rfl rfl ?_
        refine jj_putIv (q := 16) dX2_step_13 fl_X2_34 hp.t0 p2_wr rfl rfl rfl rfl rfl ?_
        refine jj_aload_n (q := 17) dX2_step_16 rfl rfl rfl ?_
        refine jj_getIw (v := nI (tS b E p)) (q := 20) dX2_step_17 fl_X2_28 hp.t0 (by rw [p2_rd, w1_ne (by omega), w1_eq]) rfl rfl ?_
        refine jj_aload_n (q := 21) dX2_step_20 rfl rfl rfl ?_
        refine jj_getIw (v := nI E) (q := 24) dX2_step_21 fl_X2_25 hp.t0 (by rw [p2_rd, w1_ne (by omega), w1_ne (by omega)]; exact hE) rfl rfl ?_
        refine jj_icmp_lt (q := 27) (tgt := 33) dX2_step_24 rfl rfl (fun h24 => ?_) (fun h24 => absurd (nI_ltN (show tS b E p < E by omega) (by omega)) h24)
        refine jj_aload_n (q := 34) dX2_step_33 rfl rfl rfl ?_
        refine jj_getR (q := 37) dX2_step_34 fl_X2_21 hp.t0 hp.r0_3 rfl rfl rfl ?_
        refine jj_aload_n (q := 38) dX2_step_37 rfl rfl rfl ?_
        refine jj_getIw (v := nI (tS b E p)) (q := 41) dX2_step_38 fl_X2_28 hp.t0 (by rw [p2_rd, w1_ne (by omega), w1_eq]) rfl rfl ?_
        refine jj_baldv (q := 42) dX2_step_41 hp.t1 p2_rb (nI_in (show tS b E p < 1200 by omega) (by omega)) rfl ?_
        rw [nI_clamp (show tS b E p < 2 ^ 31 by omega), hv.1]
        refine jj_istore_n (q := 43) dX2_step_42 rfl (by decide) rfl ?_
        refine jj_iload_n (q := 44) dX2_step_43 rfl rfl rfl ?_
        refine jj_bipush (v := 97) (q := 46) dX2_step_44 rfl rfl ?_
        refine jj_icmp_lt (q := 49) (tgt := 89) dX2_step_46 rfl rfl (fun h46 => absurd h46 (fun w => by have := (sgB_lo (lo := 97) hv.2 (by omega)).mp w; omega)) (fun h46 => ?_)
        refine jj_iload_n (q := 50) dX2_step_49 rfl rfl rfl ?_
        refine jj_bipush (v := 122) (q := 52) dX2_step_50 rfl rfl ?_
        refine jj_icmp_gt (q := 55) (tgt := 89) dX2_step_52 rfl rfl (fun h52 => absurd h52 (fun w => by have := (sgB_hi (hi := 122) hv.2 (by omega)).mp w; omega)) (fun h52 => ?_)
        refine jj_aload_n (q := 56) dX2_step_55 rfl rfl rfl ?_
        refine jj_bipush (v := 97) (q := 58) dX2_step_56 rfl rfl ?_
        refine jj_bipush (v := 122) (q := 60) dX2_step_58 rfl rfl ?_
        refine jj_cV2v (q := 63) dX2_step_60 yk_X2_skip ml_X2_267 hp.t0 (ex_skipN (lo := 97) (hi := 122) hp hb (by rw [w1_ne (by omega), w1_ne (by omega)]; exact hE) hsk (by omega) (by omega) (by omega) hq.2 (by rw [w1_ne (by omega), w1_eq])) rfl rfl rfl ⟨Nat.zero_le _, Nat.zero_le _⟩ ?_
        refine jj_aload_n (q := 64) dX2_step_63 rfl rfl rfl ?_
        refine jj_aload_n (q := 65) dX2_step_64 rfl rfl rfl ?_
        refine jj_getIw (v := nI (qN b E (tS b E p))) (q := 68) dX2_step_65 fl_X2_28 hp.t0 (by rw [p2_rd, w1_eq]) rfl rfl ?_
        refine jj_aload_n (q := 69) dX2_step_68 rfl rfl rfl ?_
        refine jj_getIw (v := nI (tS b E p)) (q := 72) dX2_step_69 fl_X2_34 hp.t0 (by rw [p2_rd, w1_ne (by omega), w1_eq]) rfl rfl ?_
        refine jj_isubN (q := 73) (e := qN b E (tS b E p) - tS b E p) (a := qN b E (tS b E p)) (b := tS b E p) dX2_step_72 rfl rfl (by omega) rfl ?_
        refine jj_bipush (v := 8) (q := 75) dX2_step_73 rfl rfl ?_
        refine jj_icmp_gt (q := 78) (tgt := 82) dX2_step_75 rfl rfl (fun h75 => ?_) (fun h75 => absurd (nI_ltN (a := 8) (show 8 < qN b E (tS b E p) - tS b E p by omega) (by omega)) h75)
        refine jj_iconst (v := 4) (q := 83) dX2_step_82 rfl rfl ?_
        refine jj_putIv (q := 86) dX2_step_83 fl_X2_31 hp.t0 p2_wr rfl rfl rfl rfl rfl ?_
        refine jj_goto (tgt := 193) dX2_step_86 rfl ?_
        refine jj_vret dX2_step_193 rfl (Nat.zero_le _) (Nat.zero_le _) ?_
        exact ⟨rfl, rfl⟩
    · by_cases c3 : isD (b (tS b E p)) = true
      · have hl := of_decide_eq_true c3
        have hsk : skp b 48 57 E (tS b E p) = qN b E (tS b E p) := by unfold qN; rw [if_neg c1, if_neg c2, if_pos c3]
        have hdig : ∀ j, tS b E p ≤ j → j < tS b E p + (qN b E (tS b E p) - tS b E p) → 48 ≤ b j ∧ b j ≤ 57 := fun j h1 h2 => skp_in (E - tS b E p) _ rfl j h1 (by rw [hsk]; omega)
        rw [show tN b E p = qN b E (tS b E p) from rfl, show tK b E p = (if qN b E (tS b E p) - tS b E p ≤ 5 then 2 else 4) by unfold tK qK; rw [if_neg c1, if_neg c2, if_pos c3], show cV b E (tS b E p) F = (if qN b E (tS b E p) - tS b E p ≤ 5 then nI (dcm b (tS b E p) (qN b E (tS b E p) - tS b E p)) else 0) by unfold cV; rw [if_neg c1, if_neg c2, if_pos c3], ← cN_b (q := nI (tS b E p))]
        by_cases hlen : qN b E (tS b E p) - tS b E p ≤ 5
        · rw [if_pos hlen, if_pos hlen]
          refine Ex.of (by decide) (by simp [Value.category]) (Nat.le_of_ble_eq_true rfl) rfl ?_
          refine jj_aload_n (q := 1) dX2_step_0 rfl rfl rfl ?_
          refine jj_bipush (v := 32) (q := 3) dX2_step_1 rfl rfl ?_
          refine jj_bipush (v := 32) (q := 5) dX2_step_3 rfl rfl ?_
          refine jj_cV2v (q := 8) dX2_step_5 yk_X2_skip ml_X2_267 hp.t0 (ex_skipN (lo := 32) (hi := 32) (n := tS b E p) hp hb hE rfl (by omega) (by omega) (by omega) hpE h5) rfl rfl rfl ⟨Nat.zero_le _, Nat.zero_le _⟩ ?_
          refine jj_aload_n (q := 9) dX2_step_8 rfl rfl rfl ?_
          refine jj_aload_n (q := 10) dX2_step_9 rfl rfl rfl ?_
          refine jj_getIw (v := nI (tS b E p)) (q := 13) dX2_step_10 fl_X2_28 hp.t0 (by rw [p2_rd, w1_eq]) rfl rfl ?_
          refine jj_putIv (q := 16) dX2_step_13 fl_X2_34 hp.t0 p2_wr rfl rfl rfl rfl rfl ?_
          refine jj_aload_n (q := 17) dX2_step_16 rfl rfl rfl ?_
          refine jj_getIw (v := nI (tS b E p)) (q := 20) dX2_step_17 fl_X2_28 hp.t0 (by rw [p2_rd, w1_ne (by omega), w1_eq]) rfl rfl ?_
          refine jj_aload_n (q := 21) dX2_step_20 rfl rfl rfl ?_
          refine jj_getIw (v := nI E) (q := 24) dX2_step_21 fl_X2_25 hp.t0 (by rw [p2_rd, w1_ne (by omega), w1_ne (by omega)]; exact hE) rfl rfl ?_
          refine jj_icmp_lt (q := 27) (tgt := 33) dX2_step_24 rfl rfl (fun h24 => ?_) (fun h24 => absurd (nI_ltN (show tS b E p < E by omega) (by omega)) h24)
          refine jj_aload_n (q := 34) dX2_step_33 rfl rfl rfl ?_
          refine jj_getR (q := 37) dX2_step_34 fl_X2_21 hp.t0 hp.r0_3 rfl rfl rfl ?_
          refine jj_aload_n (q := 38) dX2_step_37 rfl rfl rfl ?_
          refine jj_getIw (v := nI (tS b E p)) (q := 41) dX2_step_38 fl_X2_28 hp.t0 (by rw [p2_rd, w1_ne (by omega), w1_eq]) rfl rfl ?_
          refine jj_baldv (q := 42) dX2_step_41 hp.t1 p2_rb (nI_in (show tS b E p < 1200 by omega) (by omega)) rfl ?_
          rw [nI_clamp (show tS b E p < 2 ^ 31 by omega), hv.1]
          refine jj_istore_n (q := 43) dX2_step_42 rfl (by decide) rfl ?_
          refine jj_iload_n (q := 44) dX2_step_43 rfl rfl rfl ?_
          refine jj_bipush (v := 97) (q := 46) dX2_step_44 rfl rfl ?_
          refine jj_icmp_lt (q := 49) (tgt := 89) dX2_step_46 rfl rfl (fun h46 => ?_) (fun h46 => absurd ((sgB_lo (lo := 97) hv.2 (by omega)).mpr (by omega)) h46)
          refine jj_iload_n (q := 90) dX2_step_89 rfl rfl rfl ?_
          refine jj_bipush (v := 48) (q := 92) dX2_step_90 rfl rfl ?_
          refine jj_icmp_lt (q := 95) (tgt := 154) dX2_step_92 rfl rfl (fun h92 => absurd h92 (fun w => by have := (sgB_lo (lo := 48) hv.2 (by omega)).mp w; omega)) (fun h92 => ?_)
          refine jj_iload_n (q := 96) dX2_step_95 rfl rfl rfl ?_
          refine jj_bipush (v := 57) (q := 98) dX2_step_96 rfl rfl ?_
          refine jj_icmp_gt (q := 101) (tgt := 154) dX2_step_98 rfl rfl (fun h98 => absurd h98 (fun w => by have := (sgB_hi (hi := 57) hv.2 (by omega)).mp w; omega)) (fun h98 => ?_)
          refine jj_aload_n (q := 102) dX2_step_101 rfl rfl rfl ?_
          refine jj_bipush (v := 48) (q := 104) dX2_step_102 rfl rfl ?_
          refine jj_bipush (v := 57) (q := 106) dX2_step_104 rfl rfl ?_
          refine jj_cV2v (q := 109) dX2_step_106 yk_X2_skip ml_X2_267 hp.t0 (ex_skipN (lo := 48) (hi := 57) hp hb (by rw [w1_ne (by omega), w1_ne (by omega)]; exact hE) hsk (by omega) (by omega) (by omega) hq.2 (by rw [w1_ne (by omega), w1_eq])) rfl rfl rfl ⟨Nat.zero_le _, Nat.zero_le _⟩ ?_
          refine jj_aload_n (q := 110) dX2_step_109 rfl rfl rfl ?_
          refine jj_aload_n (q := 111) dX2_step_110 rfl rfl rfl ?_
          refine jj_getIw (v := nI (qN b E (tS b E p))) (q := 114) dX2_step_111 fl_X2_28 hp.t0 (by rw [p2_rd, w1_eq]) rfl rfl ?_
          refine jj_aload_n (q := 115) dX2_step_114 rfl rfl rfl ?_
          refine jj_getIw (v := nI (tS b E p)) (q := 118) dX2_step_115 fl_X2_34 hp.t0 (by rw [p2_rd, w1_ne (by omega), w1_eq]) rfl rfl ?_
          refine jj_isubN (q := 119) (e := qN b E (tS b E p) - tS b E p) (a := qN b E (tS b E p)) (b := tS b E p) dX2_step_118 rfl rfl (by omega) rfl ?_
          refine jj_iconst (v := 5) (q := 120) dX2_step_119 rfl rfl ?_
          refine jj_icmp_gt (q := 123) (tgt := 127) dX2_step_120 rfl rfl (fun h120 => absurd h120 (nI_nltN (b := 5) hlen (by omega))) (fun h120 => ?_)
          refine jj_iconst (v := 2) (q := 124) dX2_step_123 rfl rfl ?_
          refine jj_goto (tgt := 128) dX2_step_124 rfl ?_
          refine jj_putIv (q := 131) dX2_step_128 fl_X2_31 hp.t0 p2_wr rfl rfl rfl rfl rfl ?_
          refine jj_aload_n (q := 132) dX2_step_131 rfl rfl rfl ?_
          refine jj_aload_n (q := 133) dX2_step_132 rfl rfl rfl ?_
          refine jj_getIw (v := 2) (q := 136) dX2_step_133 fl_X2_31 hp.t0 (by rw [p2_rd, w1_eq]) rfl rfl ?_
          refine jj_iconst (v := 2) (q := 137) dX2_step_136 rfl rfl ?_
          refine jj_icmp_ne (q := 140) (tgt := 147) dX2_step_137 rfl rfl (fun h137 => by exfalso; exact h137 rfl) (fun h137 => ?_)
          refine jj_aload_n (q := 141) dX2_step_140 rfl rfl rfl ?_
          refine jj_cV0i (q := 144) dX2_step_141 yk_X2_decimal ml_X2_270 hp.t0 (ex_decimal (q := tS b E p) (n := qN b E (tS b E p) - tS b E p) hp hb (by (repeat rw [w1_ne (by omega)]); exact hE) (by rw [w1_ne (by omega), w1_ne (by omega), w1_eq]) (by rw [w1_ne (by omega), w1_eq, show tS b E p + (qN b E (tS b E p) - tS b E p) = qN b E (tS b E p) by omega]) hlen (by omega) hdig) rfl rfl rfl ⟨Nat.zero_le _, Nat.zero_le _⟩ ?_
          refine jj_goto (tgt := 148) dX2_step_144 rfl ?_
          refine jj_putIv (q := 151) dX2_step_148 fl_X2_37 hp.t0 p2_wr rfl rfl rfl rfl rfl ?_
          refine jj_goto (tgt := 193) dX2_step_151 rfl ?_
          refine jj_vret dX2_step_193 rfl (Nat.zero_le _) (Nat.zero_le _) ?_
          exact ⟨rfl, rfl⟩
        · rw [if_neg hlen, if_neg hlen]
          refine Ex.of (by decide) (by simp [Value.category]) (Nat.le_of_ble_eq_true rfl) rfl ?_
          refine jj_aload_n (q := 1) dX2_step_0 rfl rfl rfl ?_
          refine jj_bipush (v := 32) (q := 3) dX2_step_1 rfl rfl ?_
          refine jj_bipush (v := 32) (q := 5) dX2_step_3 rfl rfl ?_
          refine jj_cV2v (q := 8) dX2_step_5 yk_X2_skip ml_X2_267 hp.t0 (ex_skipN (lo := 32) (hi := 32) (n := tS b E p) hp hb hE rfl (by omega) (by omega) (by omega) hpE h5) rfl rfl rfl ⟨Nat.zero_le _, Nat.zero_le _⟩ ?_
          refine jj_aload_n (q := 9) dX2_step_8 rfl rfl rfl ?_
          refine jj_aload_n (q := 10) dX2_step_9 rfl rfl rfl ?_
          refine jj_getIw (v := nI (tS b E p)) (q := 13) dX2_step_10 fl_X2_28 hp.t0 (by rw [p2_rd, w1_eq]) rfl rfl ?_
          refine jj_putIv (q := 16) dX2_step_13 fl_X2_34 hp.t0 p2_wr rfl rfl rfl rfl rfl ?_
          refine jj_aload_n (q := 17) dX2_step_16 rfl rfl rfl ?_
          refine jj_getIw (v := nI (tS b E p)) (q := 20) dX2_step_17 fl_X2_28 hp.t0 (by rw [p2_rd, w1_ne (by omega), w1_eq]) rfl rfl ?_
          refine jj_aload_n (q := 21) dX2_step_20 rfl rfl rfl ?_
          refine jj_getIw (v := nI E) (q := 24) dX2_step_21 fl_X2_25 hp.t0 (by rw [p2_rd, w1_ne (by omega), w1_ne (by omega)]; exact hE) rfl rfl ?_
          refine jj_icmp_lt (q := 27) (tgt := 33) dX2_step_24 rfl rfl (fun h24 => ?_) (fun h24 => absurd (nI_ltN (show tS b E p < E by omega) (by omega)) h24)
          refine jj_aload_n (q := 34) dX2_step_33 rfl rfl rfl ?_
          refine jj_getR (q := 37) dX2_step_34 fl_X2_21 hp.t0 hp.r0_3 rfl rfl rfl ?_
          refine jj_aload_n (q := 38) dX2_step_37 rfl rfl rfl ?_
          refine jj_getIw (v := nI (tS b E p)) (q := 41) dX2_step_38 fl_X2_28 hp.t0 (by rw [p2_rd, w1_ne (by omega), w1_eq]) rfl rfl ?_
          refine jj_baldv (q := 42) dX2_step_41 hp.t1 p2_rb (nI_in (show tS b E p < 1200 by omega) (by omega)) rfl ?_
          rw [nI_clamp (show tS b E p < 2 ^ 31 by omega), hv.1]
          refine jj_istore_n (q := 43) dX2_step_42 rfl (by decide) rfl ?_
          refine jj_iload_n (q := 44) dX2_step_43 rfl rfl rfl ?_
          refine jj_bipush (v := 97) (q := 46) dX2_step_44 rfl rfl ?_
          refine jj_icmp_lt (q := 49) (tgt := 89) dX2_step_46 rfl rfl (fun h46 => ?_) (fun h46 => absurd ((sgB_lo (lo := 97) hv.2 (by omega)).mpr (by omega)) h46)
          refine jj_iload_n (q := 90) dX2_step_89 rfl rfl rfl ?_
          refine jj_bipush (v := 48) (q := 92) dX2_step_90 rfl rfl ?_
          refine jj_icmp_lt (q := 95) (tgt := 154) dX2_step_92 rfl rfl (fun h92 => absurd h92 (fun w => by have := (sgB_lo (lo := 48) hv.2 (by omega)).mp w; omega)) (fun h92 => ?_)
          refine jj_iload_n (q := 96) dX2_step_95 rfl rfl rfl ?_
          refine jj_bipush (v := 57) (q := 98) dX2_step_96 rfl rfl ?_
          refine jj_icmp_gt (q := 101) (tgt := 154) dX2_step_98 rfl rfl (fun h98 => absurd h98 (fun w => by have := (sgB_hi (hi := 57) hv.2 (by omega)).mp w; omega)) (fun h98 => ?_)
          refine jj_aload_n (q := 102) dX2_step_101 rfl rfl rfl ?_
          refine jj_bipush (v := 48) (q := 104) dX2_step_102 rfl rfl ?_
          refine jj_bipush (v := 57) (q := 106) dX2_step_104 rfl rfl ?_
          refine jj_cV2v (q := 109) dX2_step_106 yk_X2_skip ml_X2_267 hp.t0 (ex_skipN (lo := 48) (hi := 57) hp hb (by rw [w1_ne (by omega), w1_ne (by omega)]; exact hE) hsk (by omega) (by omega) (by omega) hq.2 (by rw [w1_ne (by omega), w1_eq])) rfl rfl rfl ⟨Nat.zero_le _, Nat.zero_le _⟩ ?_
          refine jj_aload_n (q := 110) dX2_step_109 rfl rfl rfl ?_
          refine jj_aload_n (q := 111) dX2_step_110 rfl rfl rfl ?_
          refine jj_getIw (v := nI (qN b E (tS b E p))) (q := 114) dX2_step_111 fl_X2_28 hp.t0 (by rw [p2_rd, w1_eq]) rfl rfl ?_
          refine jj_aload_n (q := 115) dX2_step_114 rfl rfl rfl ?_
          refine jj_getIw (v := nI (tS b E p)) (q := 118) dX2_step_115 fl_X2_34 hp.t0 (by rw [p2_rd, w1_ne (by omega), w1_eq]) rfl rfl ?_
          refine jj_isubN (q := 119) (e := qN b E (tS b E p) - tS b E p) (a := qN b E (tS b E p)) (b := tS b E p) dX2_step_118 rfl rfl (by omega) rfl ?_
          refine jj_iconst (v := 5) (q := 120) dX2_step_119 rfl rfl ?_
          refine jj_icmp_gt (q := 123) (tgt := 127) dX2_step_120 rfl rfl (fun h120 => ?_) (fun h120 => absurd (nI_ltN (a := 5) (show 5 < qN b E (tS b E p) - tS b E p by omega) (by omega)) h120)
          refine jj_iconst (v := 4) (q := 128) dX2_step_127 rfl rfl ?_
          refine jj_putIv (q := 131) dX2_step_128 fl_X2_31 hp.t0 p2_wr rfl rfl rfl rfl rfl ?_
          refine jj_aload_n (q := 132) dX2_step_131 rfl rfl rfl ?_
          refine jj_aload_n (q := 133) dX2_step_132 rfl rfl rfl ?_
          refine jj_getIw (v := 4) (q := 136) dX2_step_133 fl_X2_31 hp.t0 (by rw [p2_rd, w1_eq]) rfl rfl ?_
          refine jj_iconst (v := 2) (q := 137) dX2_step_136 rfl rfl ?_
          refine jj_icmp_ne (q := 140) (tgt := 147) dX2_step_137 rfl rfl (fun h137 => ?_) (fun h137 => by exfalso; exact absurd h137 (by decide))
          refine jj_iconst (v := 0) (q := 148) dX2_step_147 rfl rfl ?_
          refine jj_putIv (q := 151) dX2_step_148 fl_X2_37 hp.t0 p2_wr rfl rfl rfl rfl rfl ?_
          refine jj_goto (tgt := 193) dX2_step_151 rfl ?_
          refine jj_vret dX2_step_193 rfl (Nat.zero_le _) (Nat.zero_le _) ?_
          exact ⟨rfl, rfl⟩
      · have nl : ¬ (97 ≤ b (tS b E p) ∧ b (tS b E p) ≤ 122) := fun w => c2 (decide_eq_true w)
        have nd : ¬ (48 ≤ b (tS b E p) ∧ b (tS b E p) ≤ 57) := fun w => c3 (decide_eq_true w)
        have hgx := sgIx (b (tS b E p)) hv.2
        rw [show tN b E p = tS b E p + 1 by unfold tN qN; rw [if_neg c1, if_neg c2, if_neg c3], show tK b E p = (if isG (b (tS b E p)) = true then 3 else 4) by unfold tK qK; rw [if_neg c1, if_neg c2, if_neg c3], show cV b E (tS b E p) F = sgB (b (tS b E p)) by unfold cV; rw [if_neg c1, if_neg c2, if_neg c3], ← cN_b (q := nI (tS b E p))]
        by_cases cG : isG (b (tS b E p)) = true
        · rw [if_pos cG]
          refine Ex.of (by decide) (by simp [Value.category]) (Nat.le_of_ble_eq_true rfl) rfl ?_
          refine jj_aload_n (q := 1) dX2_step_0 rfl rfl rfl ?_
          refine jj_bipush (v := 32) (q := 3) dX2_step_1 rfl rfl ?_
          refine jj_bipush (v := 32) (q := 5) dX2_step_3 rfl rfl ?_
          refine jj_cV2v (q := 8) dX2_step_5 yk_X2_skip ml_X2_267 hp.t0 (ex_skipN (lo := 32) (hi := 32) (n := tS b E p) hp hb hE rfl (by omega) (by omega) (by omega) hpE h5) rfl rfl rfl ⟨Nat.zero_le _, Nat.zero_le _⟩ ?_
          refine jj_aload_n (q := 9) dX2_step_8 rfl rfl rfl ?_
          refine jj_aload_n (q := 10) dX2_step_9 rfl rfl rfl ?_
          refine jj_getIw (v := nI (tS b E p)) (q := 13) dX2_step_10 fl_X2_28 hp.t0 (by rw [p2_rd, w1_eq]) rfl rfl ?_
          refine jj_putIv (q := 16) dX2_step_13 fl_X2_34 hp.t0 p2_wr rfl rfl rfl rfl rfl ?_
          refine jj_aload_n (q := 17) dX2_step_16 rfl rfl rfl ?_
          refine jj_getIw (v := nI (tS b E p)) (q := 20) dX2_step_17 fl_X2_28 hp.t0 (by rw [p2_rd, w1_ne (by omega), w1_eq]) rfl rfl ?_
          refine jj_aload_n (q := 21) dX2_step_20 rfl rfl rfl ?_
          refine jj_getIw (v := nI E) (q := 24) dX2_step_21 fl_X2_25 hp.t0 (by rw [p2_rd, w1_ne (by omega), w1_ne (by omega)]; exact hE) rfl rfl ?_
          refine jj_icmp_lt (q := 27) (tgt := 33) dX2_step_24 rfl rfl (fun h24 => ?_) (fun h24 => absurd (nI_ltN (show tS b E p < E by omega) (by omega)) h24)
          refine jj_aload_n (q := 34) dX2_step_33 rfl rfl rfl ?_
          refine jj_getR (q := 37) dX2_step_34 fl_X2_21 hp.t0 hp.r0_3 rfl rfl rfl ?_
          refine jj_aload_n (q := 38) dX2_step_37 rfl rfl rfl ?_
          refine jj_getIw (v := nI (tS b E p)) (q := 41) dX2_step_38 fl_X2_28 hp.t0 (by rw [p2_rd, w1_ne (by omega), w1_eq]) rfl rfl ?_
          refine jj_baldv (q := 42) dX2_step_41 hp.t1 p2_rb (nI_in (show tS b E p < 1200 by omega) (by omega)) rfl ?_
          rw [nI_clamp (show tS b E p < 2 ^ 31 by omega), hv.1]
          refine jj_istore_n (q := 43) dX2_step_42 rfl (by decide) rfl ?_
          refine jj_iload_n (q := 44) dX2_step_43 rfl rfl rfl ?_
          refine jj_bipush (v := 97) (q := 46) dX2_step_44 rfl rfl ?_
          refine jj_icmp_lt (q := 49) (tgt := 89) dX2_step_46 rfl rfl (fun h46 => ?_) (fun h46 => ?_)
          · refine jj_iload_n (q := 90) dX2_step_89 rfl rfl rfl ?_
            refine jj_bipush (v := 48) (q := 92) dX2_step_90 rfl rfl ?_
            refine jj_icmp_lt (q := 95) (tgt := 154) dX2_step_92 rfl rfl (fun h92 => ?_) (fun h92 => ?_)
            · refine jj_aload_n (q := 155) dX2_step_154 rfl rfl rfl ?_
              refine jj_dup (q := 156) dX2_step_155 rfl rfl ?_
              refine jj_getIw (v := nI (tS b E p)) (q := 159) dX2_step_156 fl_X2_28 hp.t0 (by rw [p2_rd, w1_ne (by omega), w1_eq]) rfl rfl ?_
              refine jj_iconst (v := 1) (q := 160) dX2_step_159 rfl rfl ?_
              refine jj_iaddN (q := 161) (a := tS b E p) (b := 1) dX2_step_160 rfl rfl rfl ?_
              refine jj_putIv (q := 164) dX2_step_161 fl_X2_28 hp.t0 p2_wr rfl rfl rfl rfl rfl ?_
              refine jj_aload_n (q := 165) dX2_step_164 rfl rfl rfl ?_
              refine jj_ldcSw (q := 168) dX2_step_165 ks_X2_273 rfl ?_
              refine jj_iload_n (q := 169) dX2_step_168 rfl rfl rfl ?_
              refine jj_sipush (v := 255) (q := 172) dX2_step_169 rfl rfl ?_
              refine jj_iand (q := 173) dX2_step_172 rfl ?_
              refine jj_i2c (q := 174) dX2_step_173 rfl ?_
              rw [sg255 _ hv.2]
              refine jj_k1i (q := 177) ks_X2_273 dX2_step_174 yk_J0_indexOf_0f7a4 mk_X2_275 (ex_indexOf ks_X2_273 sgTx.1 sgTx.2 hv.2) rfl rfl rfl ⟨Nat.zero_le _, Nat.zero_le _⟩ ?_
              refine jj_if_lt (q := 180) (tgt := 184) dX2_step_177 rfl rfl (fun h177 => absurd h177 (fun w => (hgx.mp w) cG)) (fun h177 => ?_)
              refine jj_iconst (v := 3) (q := 181) dX2_step_180 rfl rfl ?_
              refine jj_goto (tgt := 185) dX2_step_181 rfl ?_
              refine jj_putIv (q := 188) dX2_step_185 fl_X2_31 hp.t0 p2_wr rfl rfl rfl rfl rfl ?_
              refine jj_aload_n (q := 189) dX2_step_188 rfl rfl rfl ?_
              refine jj_iload_n (q := 190) dX2_step_189 rfl rfl rfl ?_
              refine jj_putIv (q := 193) dX2_step_190 fl_X2_37 hp.t0 p2_wr rfl rfl rfl rfl rfl ?_
              refine jj_vret dX2_step_193 rfl (Nat.zero_le _) (Nat.zero_le _) ?_
              exact ⟨rfl, rfl⟩
            · refine jj_iload_n (q := 96) dX2_step_95 rfl rfl rfl ?_
              refine jj_bipush (v := 57) (q := 98) dX2_step_96 rfl rfl ?_
              refine jj_icmp_gt (q := 101) (tgt := 154) dX2_step_98 rfl rfl (fun h98 => ?_) (fun h98 => ?_)
              · refine jj_aload_n (q := 155) dX2_step_154 rfl rfl rfl ?_
                refine jj_dup (q := 156) dX2_step_155 rfl rfl ?_
                refine jj_getIw (v := nI (tS b E p)) (q := 159) dX2_step_156 fl_X2_28 hp.t0 (by rw [p2_rd, w1_ne (by omega), w1_eq]) rfl rfl ?_
                refine jj_iconst (v := 1) (q := 160) dX2_step_159 rfl rfl ?_
                refine jj_iaddN (q := 161) (a := tS b E p) (b := 1) dX2_step_160 rfl rfl rfl ?_
                refine jj_putIv (q := 164) dX2_step_161 fl_X2_28 hp.t0 p2_wr rfl rfl rfl rfl rfl ?_
                refine jj_aload_n (q := 165) dX2_step_164 rfl rfl rfl ?_
                refine jj_ldcSw (q := 168) dX2_step_165 ks_X2_273 rfl ?_
                refine jj_iload_n (q := 169) dX2_step_168 rfl rfl rfl ?_
                refine jj_sipush (v := 255) (q := 172) dX2_step_169 rfl rfl ?_
                refine jj_iand (q := 173) dX2_step_172 rfl ?_
                refine jj_i2c (q := 174) dX2_step_173 rfl ?_
                rw [sg255 _ hv.2]
                refine jj_k1i (q := 177) ks_X2_273 dX2_step_174 yk_J0_indexOf_0f7a4 mk_X2_275 (ex_indexOf ks_X2_273 sgTx.1 sgTx.2 hv.2) rfl rfl rfl ⟨Nat.zero_le _, Nat.zero_le _⟩ ?_
                refine jj_if_lt (q := 180) (tgt := 184) dX2_step_177 rfl rfl (fun h177 => absurd h177 (fun w => (hgx.mp w) cG)) (fun h177 => ?_)
                refine jj_iconst (v := 3) (q := 181) dX2_step_180 rfl rfl ?_
                refine jj_goto (tgt := 185) dX2_step_181 rfl ?_
                refine jj_putIv (q := 188) dX2_step_185 fl_X2_31 hp.t0 p2_wr rfl rfl rfl rfl rfl ?_
                refine jj_aload_n (q := 189) dX2_step_188 rfl rfl rfl ?_
                refine jj_iload_n (q := 190) dX2_step_189 rfl rfl rfl ?_
                refine jj_putIv (q := 193) dX2_step_190 fl_X2_37 hp.t0 p2_wr rfl rfl rfl rfl rfl ?_
                refine jj_vret dX2_step_193 rfl (Nat.zero_le _) (Nat.zero_le _) ?_
                exact ⟨rfl, rfl⟩
              · exact absurd ⟨by have g1 : ¬ (b (tS b E p) < 48 ∨ 128 ≤ b (tS b E p)) := fun w => h92 ((sgB_lo (lo := 48) hv.2 (by omega)).mpr w); omega, by have g1 : ¬ (b (tS b E p) < 48 ∨ 128 ≤ b (tS b E p)) := fun w => h92 ((sgB_lo (lo := 48) hv.2 (by omega)).mpr w); have g2 : ¬ (57 < b (tS b E p) ∧ b (tS b E p) < 128) := fun w => h98 ((sgB_hi (hi := 57) hv.2 (by omega)).mpr w); omega⟩ nd
          · refine jj_iload_n (q := 50) dX2_step_49 rfl rfl rfl ?_
            refine jj_bipush (v := 122) (q := 52) dX2_step_50 rfl rfl ?_
            refine jj_icmp_gt (q := 55) (tgt := 89) dX2_step_52 rfl rfl (fun h52 => ?_) (fun h52 => ?_)
            · refine jj_iload_n (q := 90) dX2_step_89 rfl rfl rfl ?_
              refine jj_bipush (v := 48) (q := 92) dX2_step_90 rfl rfl ?_
              refine jj_icmp_lt (q := 95) (tgt := 154) dX2_step_92 rfl rfl (fun h92 => ?_) (fun h92 => ?_)
              · refine jj_aload_n (q := 155) dX2_step_154 rfl rfl rfl ?_
                refine jj_dup (q := 156) dX2_step_155 rfl rfl ?_
                refine jj_getIw (v := nI (tS b E p)) (q := 159) dX2_step_156 fl_X2_28 hp.t0 (by rw [p2_rd, w1_ne (by omega), w1_eq]) rfl rfl ?_
                refine jj_iconst (v := 1) (q := 160) dX2_step_159 rfl rfl ?_
                refine jj_iaddN (q := 161) (a := tS b E p) (b := 1) dX2_step_160 rfl rfl rfl ?_
                refine jj_putIv (q := 164) dX2_step_161 fl_X2_28 hp.t0 p2_wr rfl rfl rfl rfl rfl ?_
                refine jj_aload_n (q := 165) dX2_step_164 rfl rfl rfl ?_
                refine jj_ldcSw (q := 168) dX2_step_165 ks_X2_273 rfl ?_
                refine jj_iload_n (q := 169) dX2_step_168 rfl rfl rfl ?_
                refine jj_sipush (v := 255) (q := 172) dX2_step_169 rfl rfl ?_
                refine jj_iand (q := 173) dX2_step_172 rfl ?_
                refine jj_i2c (q := 174) dX2_step_173 rfl ?_
                rw [sg255 _ hv.2]
                refine jj_k1i (q := 177) ks_X2_273 dX2_step_174 yk_J0_indexOf_0f7a4 mk_X2_275 (ex_indexOf ks_X2_273 sgTx.1 sgTx.2 hv.2) rfl rfl rfl ⟨Nat.zero_le _, Nat.zero_le _⟩ ?_
                refine jj_if_lt (q := 180) (tgt := 184) dX2_step_177 rfl rfl (fun h177 => absurd h177 (fun w => (hgx.mp w) cG)) (fun h177 => ?_)
                refine jj_iconst (v := 3) (q := 181) dX2_step_180 rfl rfl ?_
                refine jj_goto (tgt := 185) dX2_step_181 rfl ?_
                refine jj_putIv (q := 188) dX2_step_185 fl_X2_31 hp.t0 p2_wr rfl rfl rfl rfl rfl ?_
                refine jj_aload_n (q := 189) dX2_step_188 rfl rfl rfl ?_
                refine jj_iload_n (q := 190) dX2_step_189 rfl rfl rfl ?_
                refine jj_putIv (q := 193) dX2_step_190 fl_X2_37 hp.t0 p2_wr rfl rfl rfl rfl rfl ?_
                refine jj_vret dX2_step_193 rfl (Nat.zero_le _) (Nat.zero_le _) ?_
                exact ⟨rfl, rfl⟩
              · refine jj_iload_n (q := 96) dX2_step_95 rfl rfl rfl ?_
                refine jj_bipush (v := 57) (q := 98) dX2_step_96 rfl rfl ?_
                refine jj_icmp_gt (q := 101) (tgt := 154) dX2_step_98 rfl rfl (fun h98 => ?_) (fun h98 => ?_)
                · refine jj_aload_n (q := 155) dX2_step_154 rfl rfl rfl ?_
                  refine jj_dup (q := 156) dX2_step_155 rfl rfl ?_
                  refine jj_getIw (v := nI (tS b E p)) (q := 159) dX2_step_156 fl_X2_28 hp.t0 (by rw [p2_rd, w1_ne (by omega), w1_eq]) rfl rfl ?_
                  refine jj_iconst (v := 1) (q := 160) dX2_step_159 rfl rfl ?_
                  refine jj_iaddN (q := 161) (a := tS b E p) (b := 1) dX2_step_160 rfl rfl rfl ?_
                  refine jj_putIv (q := 164) dX2_step_161 fl_X2_28 hp.t0 p2_wr rfl rfl rfl rfl rfl ?_
                  refine jj_aload_n (q := 165) dX2_step_164 rfl rfl rfl ?_
                  refine jj_ldcSw (q := 168) dX2_step_165 ks_X2_273 rfl ?_
                  refine jj_iload_n (q := 169) dX2_step_168 rfl rfl rfl ?_
                  refine jj_sipush (v := 255) (q := 172) dX2_step_169 rfl rfl ?_
                  refine jj_iand (q := 173) dX2_step_172 rfl ?_
                  refine jj_i2c (q := 174) dX2_step_173 rfl ?_
                  rw [sg255 _ hv.2]
                  refine jj_k1i (q := 177) ks_X2_273 dX2_step_174 yk_J0_indexOf_0f7a4 mk_X2_275 (ex_indexOf ks_X2_273 sgTx.1 sgTx.2 hv.2) rfl rfl rfl ⟨Nat.zero_le _, Nat.zero_le _⟩ ?_
                  refine jj_if_lt (q := 180) (tgt := 184) dX2_step_177 rfl rfl (fun h177 => absurd h177 (fun w => (hgx.mp w) cG)) (fun h177 => ?_)
                  refine jj_iconst (v := 3) (q := 181) dX2_step_180 rfl rfl ?_
                  refine jj_goto (tgt := 185) dX2_step_181 rfl ?_
                  refine jj_putIv (q := 188) dX2_step_185 fl_X2_31 hp.t0 p2_wr rfl rfl rfl rfl rfl ?_
                  refine jj_aload_n (q := 189) dX2_step_188 rfl rfl rfl ?_
                  refine jj_iload_n (q := 190) dX2_step_189 rfl rfl rfl ?_
                  refine jj_putIv (q := 193) dX2_step_190 fl_X2_37 hp.t0 p2_wr rfl rfl rfl rfl rfl ?_
                  refine jj_vret dX2_step_193 rfl (Nat.zero_le _) (Nat.zero_le _) ?_
                  exact ⟨rfl, rfl⟩
                · exact absurd ⟨by have g1 : ¬ (b (tS b E p) < 48 ∨ 128 ≤ b (tS b E p)) := fun w => h92 ((sgB_lo (lo := 48) hv.2 (by omega)).mpr w); omega, by have g1 : ¬ (b (tS b E p) < 48 ∨ 128 ≤ b (tS b E p)) := fun w => h92 ((sgB_lo (lo := 48) hv.2 (by omega)).mpr w); have g2 : ¬ (57 < b (tS b E p) ∧ b (tS b E p) < 128) := fun w => h98 ((sgB_hi (hi := 57) hv.2 (by omega)).mpr w); omega⟩ nd
            · exact absurd ⟨by have g1 : ¬ (b (tS b E p) < 97 ∨ 128 ≤ b (tS b E p)) := fun w => h46 ((sgB_lo (lo := 97) hv.2 (by omega)).mpr w); omega, by have g1 : ¬ (b (tS b E p) < 97 ∨ 128 ≤ b (tS b E p)) := fun w => h46 ((sgB_lo (lo := 97) hv.2 (by omega)).mpr w); have g2 : ¬ (122 < b (tS b E p) ∧ b (tS b E p) < 128) := fun w => h52 ((sgB_hi (hi := 122) hv.2 (by omega)).mpr w); omega⟩ nl
        · rw [if_neg cG]
          refine Ex.of (by decide) (by simp [Value.category]) (Nat.le_of_ble_eq_true rfl) rfl ?_
          refine jj_aload_n (q := 1) dX2_step_0 rfl rfl rfl ?_
          refine jj_bipush (v := 32) (q := 3) dX2_step_1 rfl rfl ?_
          refine jj_bipush (v := 32) (q := 5) dX2_step_3 rfl rfl ?_
          refine jj_cV2v (q := 8) dX2_step_5 yk_X2_skip ml_X2_267 hp.t0 (ex_skipN (lo := 32) (hi := 32) (n := tS b E p) hp hb hE rfl (by omega) (by omega) (by omega) hpE h5) rfl rfl rfl ⟨Nat.zero_le _, Nat.zero_le _⟩ ?_
          refine jj_aload_n (q := 9) dX2_step_8 rfl rfl rfl ?_
          refine jj_aload_n (q := 10) dX2_step_9 rfl rfl rfl ?_
          refine jj_getIw (v := nI (tS b E p)) (q := 13) dX2_step_10 fl_X2_28 hp.t0 (by rw [p2_rd, w1_eq]) rfl rfl ?_
          refine jj_putIv (q := 16) dX2_step_13 fl_X2_34 hp.t0 p2_wr rfl rfl rfl rfl rfl ?_
          refine jj_aload_n (q := 17) dX2_step_16 rfl rfl rfl ?_
          refine jj_getIw (v := nI (tS b E p)) (q := 20) dX2_step_17 fl_X2_28 hp.t0 (by rw [p2_rd, w1_ne (by omega), w1_eq]) rfl rfl ?_
          refine jj_aload_n (q := 21) dX2_step_20 rfl rfl rfl ?_
          refine jj_getIw (v := nI E) (q := 24) dX2_step_21 fl_X2_25 hp.t0 (by rw [p2_rd, w1_ne (by omega), w1_ne (by omega)]; exact hE) rfl rfl ?_
          refine jj_icmp_lt (q := 27) (tgt := 33) dX2_step_24 rfl rfl (fun h24 => ?_) (fun h24 => absurd (nI_ltN (show tS b E p < E by omega) (by omega)) h24)
          refine jj_aload_n (q := 34) dX2_step_33 rfl rfl rfl ?_
          refine jj_getR (q := 37) dX2_step_34 fl_X2_21 hp.t0 hp.r0_3 rfl rfl rfl ?_
          refine jj_aload_n (q := 38) dX2_step_37 rfl rfl rfl ?_
          refine jj_getIw (v := nI (tS b E p)) (q := 41) dX2_step_38 fl_X2_28 hp.t0 (by rw [p2_rd, w1_ne (by omega), w1_eq]) rfl rfl ?_
          refine jj_baldv (q := 42) dX2_step_41 hp.t1 p2_rb (nI_in (show tS b E p < 1200 by omega) (by omega)) rfl ?_
          rw [nI_clamp (show tS b E p < 2 ^ 31 by omega), hv.1]
          refine jj_istore_n (q := 43) dX2_step_42 rfl (by decide) rfl ?_
          refine jj_iload_n (q := 44) dX2_step_43 rfl rfl rfl ?_
          refine jj_bipush (v := 97) (q := 46) dX2_step_44 rfl rfl ?_
          refine jj_icmp_lt (q := 49) (tgt := 89) dX2_step_46 rfl rfl (fun h46 => ?_) (fun h46 => ?_)
          · refine jj_iload_n (q := 90) dX2_step_89 rfl rfl rfl ?_
            refine jj_bipush (v := 48) (q := 92) dX2_step_90 rfl rfl ?_
            refine jj_icmp_lt (q := 95) (tgt := 154) dX2_step_92 rfl rfl (fun h92 => ?_) (fun h92 => ?_)
            · refine jj_aload_n (q := 155) dX2_step_154 rfl rfl rfl ?_
              refine jj_dup (q := 156) dX2_step_155 rfl rfl ?_
              refine jj_getIw (v := nI (tS b E p)) (q := 159) dX2_step_156 fl_X2_28 hp.t0 (by rw [p2_rd, w1_ne (by omega), w1_eq]) rfl rfl ?_
              refine jj_iconst (v := 1) (q := 160) dX2_step_159 rfl rfl ?_
              refine jj_iaddN (q := 161) (a := tS b E p) (b := 1) dX2_step_160 rfl rfl rfl ?_
              refine jj_putIv (q := 164) dX2_step_161 fl_X2_28 hp.t0 p2_wr rfl rfl rfl rfl rfl ?_
              refine jj_aload_n (q := 165) dX2_step_164 rfl rfl rfl ?_
              refine jj_ldcSw (q := 168) dX2_step_165 ks_X2_273 rfl ?_
              refine jj_iload_n (q := 169) dX2_step_168 rfl rfl rfl ?_
              refine jj_sipush (v := 255) (q := 172) dX2_step_169 rfl rfl ?_
              refine jj_iand (q := 173) dX2_step_172 rfl ?_
              refine jj_i2c (q := 174) dX2_step_173 rfl ?_
              rw [sg255 _ hv.2]
              refine jj_k1i (q := 177) ks_X2_273 dX2_step_174 yk_J0_indexOf_0f7a4 mk_X2_275 (ex_indexOf ks_X2_273 sgTx.1 sgTx.2 hv.2) rfl rfl rfl ⟨Nat.zero_le _, Nat.zero_le _⟩ ?_
              refine jj_if_lt (q := 180) (tgt := 184) dX2_step_177 rfl rfl (fun h177 => ?_) (fun h177 => absurd (hgx.mpr cG) h177)
              refine jj_iconst (v := 4) (q := 185) dX2_step_184 rfl rfl ?_
              refine jj_putIv (q := 188) dX2_step_185 fl_X2_31 hp.t0 p2_wr rfl rfl rfl rfl rfl ?_
              refine jj_aload_n (q := 189) dX2_step_188 rfl rfl rfl ?_
              refine jj_iload_n (q := 190) dX2_step_189 rfl rfl rfl ?_
              refine jj_putIv (q := 193) dX2_step_190 fl_X2_37 hp.t0 p2_wr rfl rfl rfl rfl rfl ?_
              refine jj_vret dX2_step_193 rfl (Nat.zero_le _) (Nat.zero_le _) ?_
              exact ⟨rfl, rfl⟩
            · refine jj_iload_n (q := 96) dX2_step_95 rfl rfl rfl ?_
              refine jj_bipush (v := 57) (q := 98) dX2_step_96 rfl rfl ?_
              refine jj_icmp_gt (q := 101) (tgt := 154) dX2_step_98 rfl rfl (fun h98 => ?_) (fun h98 => ?_)
              · refine jj_aload_n (q := 155) dX2_step_154 rfl rfl rfl ?_
                refine jj_dup (q := 156) dX2_step_155 rfl rfl ?_
                refine jj_getIw (v := nI (tS b E p)) (q := 159) dX2_step_156 fl_X2_28 hp.t0 (by rw [p2_rd, w1_ne (by omega), w1_eq]) rfl rfl ?_
                refine jj_iconst (v := 1) (q := 160) dX2_step_159 rfl rfl ?_
                refine jj_iaddN (q := 161) (a := tS b E p) (b := 1) dX2_step_160 rfl rfl rfl ?_
                refine jj_putIv (q := 164) dX2_step_161 fl_X2_28 hp.t0 p2_wr rfl rfl rfl rfl rfl ?_
                refine jj_aload_n (q := 165) dX2_step_164 rfl rfl rfl ?_
                refine jj_ldcSw (q := 168) dX2_step_165 ks_X2_273 rfl ?_
                refine jj_iload_n (q := 169) dX2_step_168 rfl rfl rfl ?_
                refine jj_sipush (v := 255) (q := 172) dX2_step_169 rfl rfl ?_
                refine jj_iand (q := 173) dX2_step_172 rfl ?_
                refine jj_i2c (q := 174) dX2_step_173 rfl ?_
                rw [sg255 _ hv.2]
                refine jj_k1i (q := 177) ks_X2_273 dX2_step_174 yk_J0_indexOf_0f7a4 mk_X2_275 (ex_indexOf ks_X2_273 sgTx.1 sgTx.2 hv.2) rfl rfl rfl ⟨Nat.zero_le _, Nat.zero_le _⟩ ?_
                refine jj_if_lt (q := 180) (tgt := 184) dX2_step_177 rfl rfl (fun h177 => ?_) (fun h177 => absurd (hgx.mpr cG) h177)
                refine jj_iconst (v := 4) (q := 185) dX2_step_184 rfl rfl ?_
                refine jj_putIv (q := 188) dX2_step_185 fl_X2_31 hp.t0 p2_wr rfl rfl rfl rfl rfl ?_
                refine jj_aload_n (q := 189) dX2_step_188 rfl rfl rfl ?_
                refine jj_iload_n (q := 190) dX2_step_189 rfl rfl rfl ?_
                refine jj_putIv (q := 193) dX2_step_190 fl_X2_37 hp.t0 p2_wr rfl rfl rfl rfl rfl ?_
                refine jj_vret dX2_step_193 rfl (Nat.zero_le _) (Nat.zero_le _) ?_
                exact ⟨rfl, rfl⟩
              · exact absurd ⟨by have g1 : ¬ (b (tS b E p) < 48 ∨ 128 ≤ b (tS b E p)) := fun w => h92 ((sgB_lo (lo := 48) hv.2 (by omega)).mpr w); omega, by have g1 : ¬ (b (tS b E p) < 48 ∨ 128 ≤ b (tS b E p)) := fun w => h92 ((sgB_lo (lo := 48) hv.2 (by omega)).mpr w); have g2 : ¬ (57 < b (tS b E p) ∧ b (tS b E p) < 128) := fun w => h98 ((sgB_hi (hi := 57) hv.2 (by omega)).mpr w); omega⟩ nd
          · refine jj_iload_n (q := 50) dX2_step_49 rfl rfl rfl ?_
            refine jj_bipush (v := 122) (q := 52) dX2_step_50 rfl rfl ?_
            refine jj_icmp_gt (q := 55) (tgt := 89) dX2_step_52 rfl rfl (fun h52 => ?_) (fun h52 => ?_)
            · refine jj_iload_n (q := 90) dX2_step_89 rfl rfl rfl ?_
              refine jj_bipush (v := 48) (q := 92) dX2_step_90 rfl rfl ?_
              refine jj_icmp_lt (q := 95) (tgt := 154) dX2_step_92 rfl rfl (fun h92 => ?_) (fun h92 => ?_)
              · refine jj_aload_n (q := 155) dX2_step_154 rfl rfl rfl ?_
                refine jj_dup (q := 156) dX2_step_155 rfl rfl ?_
                refine jj_getIw (v := nI (tS b E p)) (q := 159) dX2_step_156 fl_X2_28 hp.t0 (by rw [p2_rd, w1_ne (by omega), w1_eq]) rfl rfl ?_
                refine jj_iconst (v := 1) (q := 160) dX2_step_159 rfl rfl ?_
                refine jj_iaddN (q := 161) (a := tS b E p) (b := 1) dX2_step_160 rfl rfl rfl ?_
                refine jj_putIv (q := 164) dX2_step_161 fl_X2_28 hp.t0 p2_wr rfl rfl rfl rfl rfl ?_
                refine jj_aload_n (q := 165) dX2_step_164 rfl rfl rfl ?_
                refine jj_ldcSw (q := 168) dX2_step_165 ks_X2_273 rfl ?_
                refine jj_iload_n (q := 169) dX2_step_168 rfl rfl rfl ?_
                refine jj_sipush (v := 255) (q := 172) dX2_step_169 rfl rfl ?_
                refine jj_iand (q := 173) dX2_step_172 rfl ?_
                refine jj_i2c (q := 174) dX2_step_173 rfl ?_
                rw [sg255 _ hv.2]
                refine jj_k1i (q := 177) ks_X2_273 dX2_step_174 yk_J0_indexOf_0f7a4 mk_X2_275 (ex_indexOf ks_X2_273 sgTx.1 sgTx.2 hv.2) rfl rfl rfl ⟨Nat.zero_le _, Nat.zero_le _⟩ ?_
                refine jj_if_lt (q := 180) (tgt := 184) dX2_step_177 rfl rfl (fun h177 => ?_) (fun h177 => absurd (hgx.mpr cG) h177)
                refine jj_iconst (v := 4) (q := 185) dX2_step_184 rfl rfl ?_
                refine jj_putIv (q := 188) dX2_step_185 fl_X2_31 hp.t0 p2_wr rfl rfl rfl rfl rfl ?_
                refine jj_aload_n (q := 189) dX2_step_188 rfl rfl rfl ?_
                refine jj_iload_n (q := 190) dX2_step_189 rfl rfl rfl ?_
                refine jj_putIv (q := 193) dX2_step_190 fl_X2_37 hp.t0 p2_wr rfl rfl rfl rfl rfl ?_
                refine jj_vret dX2_step_193 rfl (Nat.zero_le _) (Nat.zero_le _) ?_
                exact ⟨rfl, rfl⟩
              · refine jj_iload_n (q := 96) dX2_step_95 rfl rfl rfl ?_
                refine jj_bipush (v := 57) (q := 98) dX2_step_96 rfl rfl ?_
                refine jj_icmp_gt (q := 101) (tgt := 154) dX2_step_98 rfl rfl (fun h98 => ?_) (fun h98 => ?_)
                · refine jj_aload_n (q := 155) dX2_step_154 rfl rfl rfl ?_
                  refine jj_dup (q := 156) dX2_step_155 rfl rfl ?_
                  refine jj_getIw (v := nI (tS b E p)) (q := 159) dX2_step_156 fl_X2_28 hp.t0 (by rw [p2_rd, w1_ne (by omega), w1_eq]) rfl rfl ?_
                  refine jj_iconst (v := 1) (q := 160) dX2_step_159 rfl rfl ?_
                  refine jj_iaddN (q := 161) (a := tS b E p) (b := 1) dX2_step_160 rfl rfl rfl ?_
                  refine jj_putIv (q := 164) dX2_step_161 fl_X2_28 hp.t0 p2_wr rfl rfl rfl rfl rfl ?_
                  refine jj_aload_n (q := 165) dX2_step_164 rfl rfl rfl ?_
                  refine jj_ldcSw (q := 168) dX2_step_165 ks_X2_273 rfl ?_
                  refine jj_iload_n (q := 169) dX2_step_168 rfl rfl rfl ?_
                  refine jj_sipush (v := 255) (q := 172) dX2_step_169 rfl rfl ?_
                  refine jj_iand (q := 173) dX2_step_172 rfl ?_
                  refine jj_i2c (q := 174) dX2_step_173 rfl ?_
                  rw [sg255 _ hv.2]
                  refine jj_k1i (q := 177) ks_X2_273 dX2_step_174 yk_J0_indexOf_0f7a4 mk_X2_275 (ex_indexOf ks_X2_273 sgTx.1 sgTx.2 hv.2) rfl rfl rfl ⟨Nat.zero_le _, Nat.zero_le _⟩ ?_
                  refine jj_if_lt (q := 180) (tgt := 184) dX2_step_177 rfl rfl (fun h177 => ?_) (fun h177 => absurd (hgx.mpr cG) h177)
                  refine jj_iconst (v := 4) (q := 185) dX2_step_184 rfl rfl ?_
                  refine jj_putIv (q := 188) dX2_step_185 fl_X2_31 hp.t0 p2_wr rfl rfl rfl rfl rfl ?_
                  refine jj_aload_n (q := 189) dX2_step_188 rfl rfl rfl ?_
                  refine jj_iload_n (q := 190) dX2_step_189 rfl rfl rfl ?_
                  refine jj_putIv (q := 193) dX2_step_190 fl_X2_37 hp.t0 p2_wr rfl rfl rfl rfl rfl ?_
                  refine jj_vret dX2_step_193 rfl (Nat.zero_le _) (Nat.zero_le _) ?_
                  exact ⟨rfl, rfl⟩
                · exact absurd ⟨by have g1 : ¬ (b (tS b E p) < 48 ∨ 128 ≤ b (tS b E p)) := fun w => h92 ((sgB_lo (lo := 48) hv.2 (by omega)).mpr w); omega, by have g1 : ¬ (b (tS b E p) < 48 ∨ 128 ≤ b (tS b E p)) := fun w => h92 ((sgB_lo (lo := 48) hv.2 (by omega)).mpr w); have g2 : ¬ (57 < b (tS b E p) ∧ b (tS b E p) < 128) := fun w => h98 ((sgB_hi (hi := 57) hv.2 (by omega)).mpr w); omega⟩ nd
            · exact absurd ⟨by have g1 : ¬ (b (tS b E p) < 97 ∨ 128 ≤ b (tS b E p)) := fun w => h46 ((sgB_lo (lo := 97) hv.2 (by omega)).mpr w); omega, by have g1 : ¬ (b (tS b E p) < 97 ∨ 128 ≤ b (tS b E p)) := fun w => h46 ((sgB_lo (lo := 97) hv.2 (by omega)).mpr w); have g2 : ¬ (122 < b (tS b E p) ∧ b (tS b E p) < 128) := fun w => h52 ((sgB_hi (hi := 122) hv.2 (by omega)).mpr w); omega⟩ nl
end M72
