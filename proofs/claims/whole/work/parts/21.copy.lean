/-! FILLING, COPYING, CLEARING; adding bags; the plan's questions -/
def uF (f : JI) (a n : Nat) (v : Int32) : JI := fun b j => if b = a ∧ j < n then v else f b j
def cpK (K : JI) (k : Nat) (f : Nat → Int32) (n : Nat) : JI := fun b j => if b = k then va_cpy f (K k) 0 0 n j else K b j
theorem uF_0 (f : JI) (a : Nat) (v : Int32) : uF f a 0 v = f := by
  funext b j
  simp [uF]
theorem uF_s {f : JI} {a i : Nat} {v : Int32} (hi : i < 2 ^ 31) : u2 (uF f a i v) a (nI i).toNatClampNeg v = uF f a (i + 1) v := by
  rw [nI_clamp hi]
  funext b j
  unfold u2 uF
  by_cases hb : b = a
  · subst hb
    by_cases hj : j = i
    · subst hj
      simp
    · simp only [hj, ↓reduceIte, true_and]
      by_cases h : j < i
      · rw [if_pos h, if_pos (by omega)]
      · rw [if_neg h, if_neg (by omega)]
  · simp [hb]
theorem uF_blk {w : Nat} {I K : JI} {a k n : Nat} {v : Int32} (h : k < w) : uF (blk w I a K) (a + k) n v = blk w I a (uF K k n v) := by
  funext b i
  by_cases hr : a ≤ b ∧ b < a + w
  · have e : b = a + (b - a) := by omega
    rw [e, blk_k (by omega)]
    unfold uF
    rw [blk_k (by omega)]
    by_cases hb : b - a = k
    · rw [hb]; simp
    · rw [if_neg (by omega), if_neg (by omega)]
  · rw [blk_out (by omega)]
    unfold uF
    rw [if_neg (by omega), blk_out (by omega)]
theorem uC_cp {w : Nat} {I K : JI} {a b0 k n : Nat} {f : Nat → Int32} (h : k < w) (hf : blk w I a K b0 = f) : uC (blk w I a K) b0 0 (a + k) 0 n = blk w I a (cpK K k f n) := by
  funext b i
  by_cases hb : b = a + k
  · subst hb
    rw [uC_eq, blk_k h, blk_k h, hf]
    unfold cpK
    simp
  · rw [uC_ne hb]
    by_cases hr : a ≤ b ∧ b < a + w
    · have e : b = a + (b - a) := by omega
      rw [e, blk_k (by omega), blk_k (by omega)]
      unfold cpK
      rw [if_neg (by omega)]
    · rw [blk_out (by omega), blk_out (by omega)]
/-- Bags.clear, State.clear -/
def kBC (K : JI) : JI := uF (u2 K 1 0 0) 8 14 0
def kClr (K : JI) : JI := u2 (uF (uF (uF (uF (uF (kBC (u2 (u2 K 0 0 0) 0 3 0)) 11 4 0) 12 4 0) 14 40 (-1)) 15 12 (-1)) 17 12 0) 0 14 0
/-- Bags.takeFrom, State.copyFrom -/
def kTk (K K0 : JI) : JI := cpK (cpK (cpK (cpK (cpK (cpK (cpK (u2 K 1 0 (K0 1 0)) 2 (K0 2) 100) 3 (K0 3) 100) 4 (K0 4) 100) 5 (K0 5) 100) 6 (K0 6) 100) 7 (K0 7) 100) 8 (K0 8) 14
def kCp (K K0 : JI) : JI := cpK (u2 (cpK (cpK (cpK (cpK (cpK (cpK (cpK (cpK (cpK (kTk (u2 (u2 (u2 K 0 0 (K0 0 0)) 0 2 (K0 0 2)) 0 3 (K0 0 3)) K0) 9 (K0 9) 8) 10 (K0 10) 8) 11 (K0 11) 4) 12 (K0 12) 4) 13 (K0 13) 80) 14 (K0 14) 40) 15 (K0 15) 12) 16 (K0 16) 12) 17 (K0 17) 12) 0 14 (K0 0 14)) 18 (K0 18) 300
section M21
variable {Γ : Gam} {d : Nat} {T : JT} {R S : JR} {I I' K K0 : JI} {L : JL} {D : JD} {z : Option Nat} {a b c n : Nat} {r : Int64}
theorem lp_fill (hT : T a = some (.inr (.int, n))) (hn : n < 2 ^ 31) {v : Int32} : ∀ (k i : Nat), i + k = n → JJ Γ (jj_E Y_J7_fill_53178) (jj_Z Γ (rV (T, R, S, uF I a n v, L, D, z)) 0 0) (jj_rm (d) 0 0) 0 0 5 [some (.ref a), some (.int v), some (.int (nI i)), some (.int (nI n))] [] (T, R, S, uF I a i v, L, D, z) := by
  intro k
  induction k with
  | zero =>
    intro i hi
    refine jj_iload_n (q := 6) dJ7_fill_53178_5 rfl rfl rfl ?_
    refine jj_iload_n (q := 7) dJ7_fill_53178_6 rfl rfl rfl ?_
    refine jj_icmp_ge (q := 10) (tgt := 20) dJ7_fill_53178_7 rfl rfl (fun h7 => ?_) (fun h7 => absurd ((nI_le (show n ≤ i by omega) (by omega))) h7)
    refine jj_vret dJ7_fill_53178_20 rfl (Nat.zero_le _) (Nat.zero_le _) ?_
    exact ⟨rfl, by rw [show n = i by omega]⟩
  | succ k ih =>
    intro i hi
    refine jj_iload_n (q := 6) dJ7_fill_53178_5 rfl rfl rfl ?_
    refine jj_iload_n (q := 7) dJ7_fill_53178_6 rfl rfl rfl ?_
    refine jj_icmp_ge (q := 10) (tgt := 20) dJ7_fill_53178_7 rfl rfl (fun h7 => absurd h7 ((nI_ge (show i < n by omega) hn))) (fun h7 => ?_)
    refine jj_aload_n (q := 11) dJ7_fill_53178_10 rfl rfl rfl ?_
    refine jj_iload_n (q := 12) dJ7_fill_53178_11 rfl rfl rfl ?_
    refine jj_iload_n (q := 13) dJ7_fill_53178_12 rfl rfl rfl ?_
    refine jj_iastv (q := 14) dJ7_fill_53178_13 hT (uF_s (by omega)) (vp_in_nI (show i < n by omega) hn) rfl ?_
    refine jj_iinc (v := nI (i + 1)) (q := 17) dJ7_fill_53178_14 rfl (nI_inc i) (by decide) rfl ?_
    refine jj_goto (tgt := 5) dJ7_fill_53178_17 rfl ?_
    exact ih (i + 1) (by omega)
theorem ex_fill (hT : T a = some (.inr (.int, n))) (hn : n < 2 ^ 31) {v : Int32} : Ex Γ (d) Y_J7_fill_53178 [.ref a, .int v] (T, R, S, I, L, D, z) 0 0 (rV (T, R, S, uF I a n v, L, D, z)) := by
  refine Ex.of (by decide) (by simp [Value.category]) (Nat.le_of_ble_eq_true rfl) rfl ?_
  refine jj_iconst (v := 0) (q := 1) dJ7_fill_53178_0 rfl rfl ?_
  refine jj_istore_n (q := 2) dJ7_fill_53178_1 rfl (by decide) rfl ?_
  refine jj_aload_n (q := 3) dJ7_fill_53178_2 rfl rfl rfl ?_
  refine jj_alen (q := 4) dJ7_fill_53178_3 hT (by decide) rfl rfl ?_
  refine jj_istore_n (q := 5) dJ7_fill_53178_4 rfl (by decide) rfl ?_
  have h9 := lp_fill (Γ := Γ) (d := d) (R := R) (S := S) (I := I) (L := L) (D := D) (z := z) hT hn (v := v) n 0 (by omega)
  rw [uF_0] at h9
  exact h9
theorem ex_fillv {v : Int32} (hT : T a = some (.inr (.int, n))) (he : uF I a n v = I') (hn : Nat.blt n 2147483648 = true) : Ex Γ d Y_J7_fill_53178 [.ref a, .int v] (T, R, S, I, L, D, z) 0 0 (rV (T, R, S, I', L, D, z)) := by
  subst he
  exact ex_fill hT (Nat.le_of_ble_eq_true hn)
theorem ex_copyv {a0 : Nat} (hT0 : T a0 = some (.inr (.int, n))) (hT : T a = some (.inr (.int, n))) (he : uC I a0 0 a 0 n = I') (hn : Nat.blt n 2147483648 = true) : Ex Γ (d + 1) Y_X8_copy [.ref a0, .ref a] (T, R, S, I, L, D, z) 0 0 (rV (T, R, S, I', L, D, z)) := by
  subst he
  exact ex_copy hT0 hT (Nat.le_of_ble_eq_true hn)
theorem ex_bclear (hs : hSt T R a) : Ex Γ (d + 1) Y_X0_clear [.ref (a + 1)] (T, R, S, blk 19 I a K, L, D, z) 0 0 (rV (T, R, S, blk 19 I a (kBC K), L, D, z)) := by
  refine Ex.of (by decide) (by simp [Value.category]) (Nat.le_of_ble_eq_true rfl) rfl ?_
  refine jj_aload_n (q := 1) dX0_clear_0 rfl rfl rfl ?_
  refine jj_iconst (v := 0) (q := 2) dX0_clear_1 rfl rfl ?_
  refine jj_putIv (q := 5) dX0_clear_2 fl_X0_9 hs.t1 (u2_blk (by decide)) rfl rfl rfl rfl rfl ?_
  refine jj_aload_n (q := 6) dX0_clear_5 rfl rfl rfl ?_
  refine jj_getR (q := 9) dX0_clear_6 fl_X0_34 hs.t1 hs.r1_7 rfl rfl rfl ?_
  refine jj_iconst (v := 0) (q := 10) dX0_clear_9 rfl rfl ?_
  refine jj_cS2v (q := 13) dX0_clear_10 yk_J7_fill_53178 ml_X0_37 (ex_fillv hs.t8 (uF_blk (by decide)) rfl) rfl rfl rfl ⟨Nat.zero_le _, Nat.zero_le _⟩ ?_
  refine jj_vret dX0_clear_13 rfl (Nat.zero_le _) (Nat.zero_le _) ?_
  exact ⟨rfl, rfl⟩
theorem ex_sclear (hs : hSt T R a) : Ex Γ (d + 2) Y_X4_clear [.ref a] (T, R, S, blk 19 I a K, L, D, z) 0 0 (rV (T, R, S, blk 19 I a (kClr K), L, D, z)) := by
  refine Ex.of (by decide) (by simp [Value.category]) (Nat.le_of_ble_eq_true rfl) rfl ?_
  refine jj_aload_n (q := 1) dX4_clear_0 rfl rfl rfl ?_
  refine jj_iconst (v := 0) (q := 2) dX4_clear_1 rfl rfl ?_
  refine jj_putIv (q := 5) dX4_clear_2 fl_X4_9 hs.t0 (u2_blk0 (by decide)) rfl rfl rfl rfl rfl ?_
  refine jj_aload_n (q := 6) dX4_clear_5 rfl rfl rfl ?_
  refine jj_iconst (v := 0) (q := 7) dX4_clear_6 rfl rfl ?_
  refine jj_putIv (q := 10) dX4_clear_7 fl_X4_22 hs.t0 (u2_blk0 (by decide)) rfl rfl rfl rfl rfl ?_
  refine jj_aload_n (q := 11) dX4_clear_10 rfl rfl rfl ?_
  refine jj_getR (q := 14) dX4_clear_11 fl_X4_28 hs.t0 hs.r0_4 rfl rfl rfl ?_
  refine jj_cV0v (q := 17) dX4_clear_14 yk_X0_clear ml_X4_66 hs.t1 (ex_bclear hs) rfl rfl rfl ⟨Nat.zero_le _, Nat.zero_le _⟩ ?_
  refine jj_aload_n (q := 18) dX4_clear_17 rfl rfl rfl ?_
  refine jj_getR (q := 21) dX4_clear_18 fl_X4_39 hs.t0 hs.r0_7 rfl rfl rfl ?_
  refine jj_iconst (v := 0) (q := 22) dX4_clear_21 rfl rfl ?_
  refine jj_cS2v (q := 25) dX4_clear_22 yk_J7_fill_53178 ml_X4_69 (ex_fillv hs.t11 (uF_blk (by decide)) rfl) rfl rfl rfl ⟨Nat.zero_le _, Nat.zero_le _⟩ ?_
  refine jj_aload_n (q := 26) dX4_clear_25 rfl rfl rfl ?_
  refine jj_getR (q := 29) dX4_clear_26 fl_X4_42 hs.t0 hs.r0_8 rfl rfl rfl ?_
  refine jj_iconst (v := 0) (q := 30) dX4_clear_29 rfl rfl ?_
  refine jj_cS2v (q := 33) dX4_clear_30 yk_J7_fill_53178 ml_X4_69 (ex_fillv hs.t12 (uF_blk (by decide)) rfl) rfl rfl rfl ⟨Nat.zero_le _, Nat.zero_le _⟩ ?_
  refine jj_aload_n (q := 34) dX4_clear_33 rfl rfl rfl ?_
  refine jj_getR (q := 37) dX4_clear_34 fl_X4_48 hs.t0 hs.r0_10 rfl rfl rfl ?_
  refine jj_iconst (v := -1) (q := 38) dX4_clear_37 rfl rfl ?_
  refine jj_cS2v (q := 41) dX4_clear_38 yk_J7_fill_53178 ml_X4_69 (ex_fillv hs.t14 (uF_blk (by decide)) rfl) rfl rfl rfl ⟨Nat.zero_le _, Nat.zero_le _⟩ ?_
  refine jj_aload_n (q := 42) dX4_clear_41 rfl rfl rfl ?_
  refine jj_getR (q := 45) dX4_clear_42 fl_X4_51 hs.t0 hs.r0_11 rfl rfl rfl ?_
  refine jj_iconst (v := -1) (q := 46) dX4_clear_45 rfl rfl ?_
  refine jj_cS2v (q := 49) dX4_clear_46 yk_J7_fill_53178 ml_X4_69 (ex_fillv hs.t15 (uF_blk (by decide)) rfl) rfl rfl rfl ⟨Nat.zero_le _, Nat.zero_le _⟩ ?_
  refine jj_aload_n (q := 50) dX4_clear_49 rfl rfl rfl ?_
  refine jj_getR (q := 53) dX4_clear_50 fl_X4_57 hs.t0 hs.r0_13 rfl rfl rfl ?_
  refine jj_iconst (v := 0) (q := 54) dX4_clear_53 rfl rfl ?_
  refine jj_cS2v (q := 57) dX4_clear_54 yk_J7_fill_53178 ml_X4_69 (ex_fillv hs.t17 (uF_blk (by decide)) rfl) rfl rfl rfl ⟨Nat.zero_le _, Nat.zero_le _⟩ ?_
  refine jj_aload_n (q := 58) dX4_clear_57 rfl rfl rfl ?_
  refine jj_iconst (v := 0) (q := 59) dX4_clear_58 rfl rfl ?_
  refine jj_putIv (q := 62) dX4_clear_59 fl_X4_60 hs.t0 (u2_blk0 (by decide)) rfl rfl rfl rfl rfl ?_
  refine jj_vret dX4_clear_62 rfl (Nat.zero_le _) (Nat.zero_le _) ?_
  exact ⟨rfl, rfl⟩
theorem ex_takeFrom (hs : hSt T R a) (hb : hSt T R b) (hro : ∀ k : Nat, k < 19 → ∀ {K : JI}, blk 19 I a K (b + k) = K0 k) : Ex Γ (d + 2) Y_X0_takeFrom [.ref (a + 1), .ref (b + 1)] (T, R, S, blk 19 I a K, L, D, z) 0 0 (rV (T, R, S, blk 19 I a (kTk K K0), L, D, z)) := by
  refine Ex.of (by decide) (by simp [Value.category]) (Nat.le_of_ble_eq_true rfl) rfl ?_
  refine jj_aload_n (q := 1) dX0_takeFrom_0 rfl rfl rfl ?_
  refine jj_aload_n (q := 2) dX0_takeFrom_1 rfl rfl rfl ?_
  refine jj_getIv (q := 5) dX0_takeFrom_2 fl_X0_9 hb.t1 (hro 1 (by decide)) rfl rfl ?_
  refine jj_putIv (q := 8) dX0_takeFrom_5 fl_X0_9 hs.t1 (u2_blk (by decide)) rfl rfl rfl rfl rfl ?_
  refine jj_aload_n (q := 9) dX0_takeFrom_8 rfl rfl rfl ?_
  refine jj_getR (q := 12) dX0_takeFrom_9 fl_X0_15 hb.t1 hb.r1_1 rfl rfl rfl ?_
  refine jj_aload_n (q := 13) dX0_takeFrom_12 rfl rfl rfl ?_
  refine jj_getR (q := 16) dX0_takeFrom_13 fl_X0_15 hs.t1 hs.r1_1 rfl rfl rfl ?_
  refine jj_cN2v (q := 19) dX0_takeFrom_16 yk_X8_copy ml_X0_43 (ex_copyv hb.t2 hs.t2 (uC_cp (by decide) (hro 2 (by decide))) rfl) rfl rfl rfl ⟨Nat.zero_le _, Nat.zero_le _⟩ ?_
  refine jj_aload_n (q := 20) dX0_takeFrom_19 rfl rfl rfl ?_
  refine jj_getR (q := 23) dX0_takeFrom_20 fl_X0_19 hb.t1 hb.r1_2 rfl rfl rfl ?_
  refine jj_aload_n (q := 24) dX0_takeFrom_23 rfl rfl rfl ?_
  refine jj_getR (q := 27) dX0_takeFrom_24 fl_X0_19 hs.t1 hs.r1_2 rfl rfl rfl ?_
  refine jj_cN2v (q := 30) dX0_takeFrom_27 yk_X8_copy ml_X0_43 (ex_copyv hb.t3 hs.t3 (uC_cp (by decide) (hro 3 (by decide))) rfl) rfl rfl rfl ⟨Nat.zero_le _, Nat.zero_le _⟩ ?_
  refine jj_aload_n (q := 31) dX0_takeFrom_30 rfl rfl rfl ?_
  refine jj_getR (q := 34) dX0_takeFrom_31 fl_X0_22 hb.t1 hb.r1_3 rfl rfl rfl ?_
  refine jj_aload_n (q := 35) dX0_takeFrom_34 rfl rfl rfl ?_
  refine jj_getR (q := 38) dX0_takeFrom_35 fl_X0_22 hs.t1 hs.r1_3 rfl rfl rfl ?_
  refine jj_cN2v (q := 41) dX0_takeFrom_38 yk_X8_copy ml_X0_43 (ex_copyv hb.t4 hs.t4 (uC_cp (by decide) (hro 4 (by decide))) rfl) rfl rfl rfl ⟨Nat.zero_le _, Nat.zero_le _⟩ ?_
  refine jj_aload_n (q := 42) dX0_takeFrom_41 rfl rfl rfl ?_
  refine jj_getR (q := 45) dX0_takeFrom_42 fl_X0_25 hb.t1 hb.r1_4 rfl rfl rfl ?_
  refine jj_aload_n (q := 46) dX0_takeFrom_45 rfl rfl rfl ?_
  refine jj_getR (q := 49) dX0_takeFrom_46 fl_X0_25 hs.t1 hs.r1_4 rfl rfl rfl ?_
  refine jj_cN2v (q := 52) dX0_takeFrom_49 yk_X8_copy ml_X0_43 (ex_copyv hb.t5 hs.t5 (uC_cp (by decide) (hro 5 (by decide))) rfl) rfl rfl rfl ⟨Nat.zero_le _, Nat.zero_le _⟩ ?_
  refine jj_aload_n (q := 53) dX0_takeFrom_52 rfl rfl rfl ?_
  refine jj_getR (q := 56) dX0_takeFrom_53 fl_X0_28 hb.t1 hb.r1_5 rfl rfl rfl ?_
  refine jj_aload_n (q := 57) dX0_takeFrom_56 rfl rfl rfl ?_
  refine jj_getR (q := 60) dX0_takeFrom_57 fl_X0_28 hs.t1 hs.r1_5 rfl rfl rfl ?_
  refine jj_cN2v (q := 63) dX0_takeFrom_60 yk_X8_copy ml_X0_43 (ex_copyv hb.t6 hs.t6 (uC_cp (by decide) (hro 6 (by decide))) rfl) rfl rfl rfl ⟨Nat.zero_le _, Nat.zero_le _⟩ ?_
  refine jj_aload_n (q := 64) dX0_takeFrom_63 rfl rfl rfl ?_
  refine jj_getR (q := 67) dX0_takeFrom_64 fl_X0_31 hb.t1 hb.r1_6 rfl rfl rfl ?_
  refine jj_aload_n (q := 68) dX0_takeFrom_67 rfl rfl rfl ?_
  refine jj_getR (q := 71) dX0_takeFrom_68 fl_X0_31 hs.t1 hs.r1_6 rfl rfl rfl ?_
  refine jj_cN2v (q := 74) dX0_takeFrom_71 yk_X8_copy ml_X0_43 (ex_copyv hb.t7 hs.t7 (uC_cp (by decide) (hro 7 (by decide))) rfl) rfl rfl rfl ⟨Nat.zero_le _, Nat.zero_le _⟩ ?_
  refine jj_aload_n (q := 75) dX0_takeFrom_74 rfl rfl rfl ?_
  refine jj_getR (q := 78) dX0_takeFrom_75 fl_X0_34 hb.t1 hb.r1_7 rfl rfl rfl ?_
  refine jj_aload_n (q := 79) dX0_takeFrom_78 rfl rfl rfl ?_
  refine jj_getR (q := 82) dX0_takeFrom_79 fl_X0_34 hs.t1 hs.r1_7 rfl rfl rfl ?_
  refine jj_cN2v (q := 85) dX0_takeFrom_82 yk_X8_copy ml_X0_43 (ex_copyv hb.t8 hs.t8 (uC_cp (by decide) (hro 8 (by decide))) rfl) rfl rfl rfl ⟨Nat.zero_le _, Nat.zero_le _⟩ ?_
  refine jj_vret dX0_takeFrom_85 rfl (Nat.zero_le _) (Nat.zero_le _) ?_
  exact ⟨rfl, rfl⟩
theorem ex_copyFrom (hs : hSt T R a) (hb : hSt T R b) (hro : ∀ k : Nat, k < 19 → ∀ {K : JI}, blk 19 I a K (b + k) = K0 k) (hL : L b 1 = r) : Ex Γ (d + 3) Y_X4_copyFrom [.ref a, .ref b] (T, R, S, blk 19 I a K, L, D, z) 0 0 (rV (T, R, S, blk 19 I a (kCp K K0), u2 L a 1 r, D, z)) := by
  refine Ex.of (by decide) (by simp [Value.category]) (Nat.le_of_ble_eq_true rfl) rfl ?_
  refine jj_aload_n (q := 1) dX4_copyFrom_0 rfl rfl rfl ?_
  refine jj_aload_n (q := 2) dX4_copyFrom_1 rfl rfl rfl ?_
  refine jj_getIv (q := 5) dX4_copyFrom_2 fl_X4_9 hb.t0 (hro 0 (by decide)) rfl rfl ?_
  refine jj_putIv (q := 8) dX4_copyFrom_5 fl_X4_9 hs.t0 (u2_blk0 (by decide)) rfl rfl rfl rfl rfl ?_
  refine jj_aload_n (q := 9) dX4_copyFrom_8 rfl rfl rfl ?_
  refine jj_aload_n (q := 10) dX4_copyFrom_9 rfl rfl rfl ?_
  refine jj_getLv (q := 13) dX4_copyFrom_10 fl_X4_15 hb.t0 hL rfl rfl ?_
  refine jj_putLv (q := 16) dX4_copyFrom_13 fl_X4_15 hs.t0 rfl rfl rfl rfl ?_
  refine jj_aload_n (q := 17) dX4_copyFrom_16 rfl rfl rfl ?_
  refine jj_aload_n (q := 18) dX4_copyFrom_17 rfl rfl rfl ?_
  refine jj_getIv (q := 21) dX4_copyFrom_18 fl_X4_19 hb.t0 (hro 0 (by decide)) rfl rfl ?_
  refine jj_putIv (q := 24) dX4_copyFrom_21 fl_X4_19 hs.t0 (u2_blk0 (by decide)) rfl rfl rfl rfl rfl ?_
  refine jj_aload_n (q := 25) dX4_copyFrom_24 rfl rfl rfl ?_
  refine jj_aload_n (q := 26) dX4_copyFrom_25 rfl rfl rfl ?_
  refine jj_getIv (q := 29) dX4_copyFrom_26 fl_X4_22 hb.t0 (hro 0 (by decide)) rfl rfl ?_
  refine jj_putIv (q := 32) dX4_copyFrom_29 fl_X4_22 hs.t0 (u2_blk0 (by decide)) rfl rfl rfl rfl rfl ?_
  refine jj_aload_n (q := 33) dX4_copyFrom_32 rfl rfl rfl ?_
  refine jj_getR (q := 36) dX4_copyFrom_33 fl_X4_28 hs.t0 hs.r0_4 rfl rfl rfl ?_
  refine jj_aload_n (q := 37) dX4_copyFrom_36 rfl rfl rfl ?_
  refine jj_getR (q := 40) dX4_copyFrom_37 fl_X4_28 hb.t0 hb.r0_4 rfl rfl rfl ?_
  refine jj_cV1v (q := 43) dX4_copyFrom_40 yk_X0_takeFrom ml_X4_75 hs.t1 (ex_takeFrom hs hb hro) rfl rfl rfl ⟨Nat.zero_le _, Nat.zero_le _⟩ ?_
  refine jj_aload_n (q := 44) dX4_copyFrom_43 rfl rfl rfl ?_
  refine jj_getR (q := 47) dX4_copyFrom_44 fl_X4_32 hb.t0 hb.r0_5 rfl rfl rfl ?_
  refine jj_aload_n (q := 48) dX4_copyFrom_47 rfl rfl rfl ?_
  refine jj_getR (q := 51) dX4_copyFrom_48 fl_X4_32 hs.t0 hs.r0_5 rfl rfl rfl ?_
  refine jj_cN2v (q := 54) dX4_copyFrom_51 yk_X8_copy ml_X4_79 (ex_copyv hb.t9 hs.t9 (uC_cp (by decide) (hro 9 (by decide))) rfl) rfl rfl rfl ⟨Nat.zero_le _, Nat.zero_le _⟩ ?_
  refine jj_aload_n (q := 55) dX4_copyFrom_54 rfl rfl rfl ?_
  refine jj_getR (q := 58) dX4_copyFrom_55 fl_X4_36 hb.t0 hb.r0_6 rfl rfl rfl ?_
  refine jj_aload_n (q := 59) dX4_copyFrom_58 rfl rfl rfl ?_
  refine jj_getR (q := 62) dX4_copyFrom_59 fl_X4_36 hs.t0 hs.r0_6 rfl rfl rfl ?_
  refine jj_cN2v (q := 65) dX4_copyFrom_62 yk_X8_copy ml_X4_79 (ex_copyv hb.t10 hs.t10 (uC_cp (by decide) (hro 10 (by decide))) rfl) rfl rfl rfl ⟨Nat.zero_le _, Nat.zero_le _⟩ ?_
  refine jj_aload_n (q := 66) dX4_copyFrom_65 rfl rfl rfl ?_
  refine jj_getR (q := 69) dX4_copyFrom_66 fl_X4_39 hb.t0 hb.r0_7 rfl rfl rfl ?_
  refine jj_aload_n (q := 70) dX4_copyFrom_69 rfl rfl rfl ?_
  refine jj_getR (q := 73) dX4_copyFrom_70 fl_X4_39 hs.t0 hs.r0_7 rfl rfl rfl ?_
  refine jj_cN2v (q := 76) dX4_copyFrom_73 yk_X8_copy ml_X4_79 (ex_copyv hb.t11 hs.t11 (uC_cp (by decide) (hro 11 (by decide))) rfl) rfl rfl rfl ⟨Nat.zero_le _, Nat.zero_le _⟩ ?_
  refine jj_aload_n (q := 77) dX4_copyFrom_76 rfl rfl rfl ?_
  refine jj_getR (q := 80) dX4_copyFrom_77 fl_X4_42 hb.t0 hb.r0_8 rfl rfl rfl ?_
  refine jj_aload_n (q := 81) dX4_copyFrom_80 rfl rfl rfl ?_
  refine jj_getR (q := 84) dX4_copyFrom_81 fl_X4_42 hs.t0 hs.r0_8 rfl rfl rfl ?_
  refine jj_cN2v (q := 87) dX4_copyFrom_84 yk_X8_copy ml_X4_79 (ex_copyv hb.t12 hs.t12 (uC_cp (by decide) (hro 12 (by decide))) rfl) rfl rfl rfl ⟨Nat.zero_le _, Nat.zero_le _⟩ ?_
  refine jj_aload_n (q := 88) dX4_copyFrom_87 rfl rfl rfl ?_
  refine jj_getR (q := 91) dX4_copyFrom_88 fl_X4_45 hb.t0 hb.r0_9 rfl rfl rfl ?_
  refine jj_aload_n (q := 92) dX4_copyFrom_91 rfl rfl rfl ?_
  refine jj_getR (q := 95) dX4_copyFrom_92 fl_X4_45 hs.t0 hs.r0_9 rfl rfl rfl ?_
  refine jj_cN2v (q := 98) dX4_copyFrom_95 yk_X8_copy ml_X4_79 (ex_copyv hb.t13 hs.t13 (uC_cp (by decide) (hro 13 (by decide))) rfl) rfl rfl rfl ⟨Nat.zero_le _, Nat.zero_le _⟩ ?_
  refine jj_aload_n (q := 99) dX4_copyFrom_98 rfl rfl rfl ?_
  refine jj_getR (q := 102) dX4_copyFrom_99 fl_X4_48 hb.t0 hb.r0_10 rfl rfl rfl ?_
  refine jj_aload_n (q := 103) dX4_copyFrom_102 rfl rfl rfl ?_
  refine jj_getR (q := 106) dX4_copyFrom_103 fl_X4_48 hs.t0 hs.r0_10 rfl rfl rfl ?_
  refine jj_cN2v (q := 109) dX4_copyFrom_106 yk_X8_copy ml_X4_79 (ex_copyv hb.t14 hs.t14 (uC_cp (by decide) (hro 14 (by decide))) rfl) rfl rfl rfl ⟨Nat.zero_le _, Nat.zero_le _⟩ ?_
  refine jj_aload_n (q := 110) dX4_copyFrom_109 rfl rfl rfl ?_
  refine jj_getR (q := 113) dX4_copyFrom_110 fl_X4_51 hb.t0 hb.r0_11 rfl rfl rfl ?_
  refine jj_aload_n (q := 114) dX4_copyFrom_113 rfl rfl rfl ?_
  refine jj_getR (q := 117) dX4_copyFrom_114 fl_X4_51 hs.t0 hs.r0_11 rfl rfl rfl ?_
  refine jj_cN2v (q := 120) dX4_copyFrom_117 yk_X8_copy ml_X4_79 (ex_copyv hb.t15 hs.t15 (uC_cp (by decide) (hro 15 (by decide))) rfl) rfl rfl rfl ⟨Nat.zero_le _, Nat.zero_le _⟩ ?_
  refine jj_aload_n (q := 121) dX4_copyFrom_120 rfl rfl rfl ?_
  refine jj_getR (q := 124) dX4_copyFrom_121 fl_X4_54 hb.t0 hb.r0_12 rfl rfl rfl ?_
  refine jj_aload_n (q := 125) dX4_copyFrom_124 rfl rfl rfl ?_
  refine jj_getR (q := 128) dX4_copyFrom_125 fl_X4_54 hs.t0 hs.r0_12 rfl rfl rfl ?_
  refine jj_cN2v (q := 131) dX4_copyFrom_128 yk_X8_copy ml_X4_79 (ex_copyv hb.t16 hs.t16 (uC_cp (by decide) (hro 16 (by decide))) rfl) rfl rfl rfl ⟨Nat.zero_le _, Nat.zero_le _⟩ ?_
  refine jj_aload_n (q := 132) dX4_copyFrom_131 rfl rfl rfl ?_
  refine jj_getR (q := 135) dX4_copyFrom_132 fl_X4_57 hb.t0 hb.r0_13 rfl rfl rfl ?_
  refine jj_aload_n (q := 136) dX4_copyFrom_135 rfl rfl rfl ?_
  refine jj_getR (q := 139) dX4_copyFrom_136 fl_X4_57 hs.t0 hs.r0_13 rfl rfl rfl ?_
  refine jj_cN2v (q := 142) dX4_copyFrom_139 yk_X8_copy ml_X4_79 (ex_copyv hb.t17 hs.t17 (uC_cp (by decide) (hro 17 (by decide))) rfl) rfl rfl rfl ⟨Nat.zero_le _, Nat.zero_le _⟩ ?_
  refine jj_aload_n (q := 143) dX4_copyFrom_142 rfl rfl rfl ?_
  refine jj_aload_n (q := 144) dX4_copyFrom_143 rfl rfl rfl ?_
  refine jj_getIv (q := 147) dX4_copyFrom_144 fl_X4_60 hb.t0 (hro 0 (by decide)) rfl rfl ?_
  refine jj_putIv (q := 150) dX4_copyFrom_147 fl_X4_60 hs.t0 (u2_blk0 (by decide)) rfl rfl rfl rfl rfl ?_
  refine jj_aload_n (q := 151) dX4_copyFrom_150 rfl rfl rfl ?_
  refine jj_getR (q := 154) dX4_copyFrom_151 fl_X4_63 hb.t0 hb.r0_15 rfl rfl rfl ?_
  refine jj_aload_n (q := 155) dX4_copyFrom_154 rfl rfl rfl ?_
  refine jj_getR (q := 158) dX4_copyFrom_155 fl_X4_63 hs.t0 hs.r0_15 rfl rfl rfl ?_
  refine jj_cN2v (q := 161) dX4_copyFrom_158 yk_X8_copy ml_X4_79 (ex_copyv hb.t18 hs.t18 (uC_cp (by decide) (hro 18 (by decide))) rfl) rfl rfl rfl ⟨Nat.zero_le _, Nat.zero_le _⟩ ?_
  refine jj_vret dX4_copyFrom_161 rfl (Nat.zero_le _) (Nat.zero_le _) ?_
  exact ⟨rfl, rfl⟩
theorem lp_addGroup (hs : hSt T R a) {t f g : Int32} : ∀ (k i c : Nat) (K : JI), K 1 0 = nI c → c + k ≤ 100 → g = nI (i + k) → i + k ≤ 100 → JJ Γ (jj_E Y_X0_addGroup) (jj_Z Γ (rV (T, R, S, blk 19 I a (kAds t f k c K), L, D, z)) 0 0) (jj_rm (d + 1) 0 0) 0 0 3 [some (.ref (a + 1)), some (.int t), some (.int g), some (.int f), some (.int (nI i))] [] (T, R, S, blk 19 I a K, L, D, z) := by
  intro k
  induction k with
  | zero =>
    intro i c K hc hck hg hik
    subst hg
    refine jj_iload (q := 5) dX0_addGroup_3 rfl rfl ?_
    refine jj_iload_n (q := 6) dX0_addGroup_5 rfl rfl rfl ?_
    refine jj_icmp_ge (q := 9) (tgt := 104) dX0_addGroup_6 rfl rfl (fun h6 => ?_) (fun h6 => absurd ((nI_le (show i + 0 ≤ i by omega) (by omega))) h6)
    refine jj_vret dX0_addGroup_104 rfl (Nat.zero_le _) (Nat.zero_le _) ?_
    exact ⟨rfl, rfl⟩
  | succ k ih =>
    intro i c K hc hck hg hik
    have hg' := hg
    subst hg
    refine jj_iload (q := 5) dX0_addGroup_3 rfl rfl ?_
    refine jj_iload_n (q := 6) dX0_addGroup_5 rfl rfl rfl ?_
    refine jj_icmp_ge (q := 9) (tgt := 104) dX0_addGroup_6 rfl rfl (fun h6 => absurd h6 ((nI_ge (show i < i + (k + 1) by omega) (by omega)))) (fun h6 => ?_)
    refine jj_aload_n (q := 10) dX0_addGroup_9 rfl rfl rfl ?_
    refine jj_getIw (v := nI c) (q := 13) dX0_addGroup_10 fl_X0_9 hs.t1 (by rw [blk_k (by decide)]; simp [u2_ap, hc]) rfl rfl ?_
    refine jj_bipush (v := 100) (q := 15) dX0_addGroup_13 rfl rfl ?_
    refine jj_icmp_ge (q := 18) (tgt := 104) dX0_addGroup_15 rfl rfl (fun h15 => absurd h15 ((nI_ge (show c < 100 by omega) (by omega) : ¬ nI 100 ≤ nI c))) (fun h15 => ?_)
    refine jj_aload_n (q := 19) dX0_addGroup_18 rfl rfl rfl ?_
    refine jj_getR (q := 22) dX0_addGroup_19 fl_X0_15 hs.t1 hs.r1_1 rfl rfl rfl ?_
    refine jj_aload_n (q := 23) dX0_addGroup_22 rfl rfl rfl ?_
    refine jj_getIw (v := nI c) (q := 26) dX0_addGroup_23 fl_X0_9 hs.t1 (by rw [blk_k (by decide)]; simp [u2_ap, hc]) rfl rfl ?_
    refine jj_iconst (v := 0) (q := 27) dX0_addGroup_26 rfl rfl ?_
    refine jj_iastv (q := 28) dX0_addGroup_27 hs.t2 (u2_blkn (by decide) (by omega)) (vp_in_nI (show c < 100 by omega) (by omega)) rfl ?_
    refine jj_aload_n (q := 29) dX0_addGroup_28 rfl rfl rfl ?_
    refine jj_getR (q := 32) dX0_addGroup_29 fl_X0_19 hs.t1 hs.r1_2 rfl rfl rfl ?_
    refine jj_aload_n (q := 33) dX0_addGroup_32 rfl rfl rfl ?_
    refine jj_getIw (v := nI c) (q := 36) dX0_addGroup_33 fl_X0_9 hs.t1 (by rw [blk_k (by decide)]; simp [u2_ap, hc]) rfl rfl ?_
    refine jj_iload_n (q := 37) dX0_addGroup_36 rfl rfl rfl ?_
    refine jj_iastv (q := 38) dX0_addGroup_37 hs.t3 (u2_blkn (by decide) (by omega)) (vp_in_nI (show c < 100 by omega) (by omega)) rfl ?_
    refine jj_aload_n (q := 39) dX0_addGroup_38 rfl rfl rfl ?_
    refine jj_getR (q := 42) dX0_addGroup_39 fl_X0_22 hs.t1 hs.r1_3 rfl rfl rfl ?_
    refine jj_aload_n (q := 43) dX0_addGroup_42 rfl rfl rfl ?_
    refine jj_getIw (v := nI c) (q := 46) dX0_addGroup_43 fl_X0_9 hs.t1 (by rw [blk_k (by decide)]; simp [u2_ap, hc]) rfl rfl ?_
    refine jj_iload_n (q := 47) dX0_addGroup_46 rfl rfl rfl ?_
    refine jj_iastv (q := 48) dX0_addGroup_47 hs.t4 (u2_blkn (by decide) (by omega)) (vp_in_nI (show c < 100 by omega) (by omega)) rfl ?_
    refine jj_aload_n (q := 49) dX0_addGroup_48 rfl rfl rfl ?_
    refine jj_getR (q := 52) dX0_addGroup_49 fl_X0_25 hs.t1 hs.r1_4 rfl rfl rfl ?_
    refine jj_aload_n (q := 53) dX0_addGroup_52 rfl rfl rfl ?_
    refine jj_getIw (v := nI c) (q := 56) dX0_addGroup_53 fl_X0_9 hs.t1 (by rw [blk_k (by decide)]; simp [u2_ap, hc]) rfl rfl ?_
    refine jj_iconst (v := 0) (q := 57) dX0_addGroup_56 rfl rfl ?_
    refine jj_iastv (q := 58) dX0_addGroup_57 hs.t5 (u2_blkn (by decide) (by omega)) (vp_in_nI (show c < 100 by omega) (by omega)) rfl ?_
    refine jj_aload_n (q := 59) dX0_addGroup_58 rfl rfl rfl ?_
    refine jj_getR (q := 62) dX0_addGroup_59 fl_X0_28 hs.t1 hs.r1_5 rfl rfl rfl ?_
    refine jj_aload_n (q := 63) dX0_addGroup_62 rfl rfl rfl ?_
    refine jj_getIw (v := nI c) (q := 66) dX0_addGroup_63 fl_X0_9 hs.t1 (by rw [blk_k (by decide)]; simp [u2_ap, hc]) rfl rfl ?_
    refine jj_iconst (v := 0) (q := 67) dX0_addGroup_66 rfl rfl ?_
    refine jj_iastv (q := 68) dX0_addGroup_67 hs.t6 (u2_blkn (by decide) (by omega)) (vp_in_nI (show c < 100 by omega) (by omega)) rfl ?_
    refine jj_aload_n (q := 69) dX0_addGroup_68 rfl rfl rfl ?_
    refine jj_getR (q := 72) dX0_addGroup_69 fl_X0_31 hs.t1 hs.r1_6 rfl rfl rfl ?_
    refine jj_aload_n (q := 73) dX0_addGroup_72 rfl rfl rfl ?_
    refine jj_getIw (v := nI c) (q := 76) dX0_addGroup_73 fl_X0_9 hs.t1 (by rw [blk_k (by decide)]; simp [u2_ap, hc]) rfl rfl ?_
    refine jj_iconst (v := -1) (q := 77) dX0_addGroup_76 rfl rfl ?_
    refine jj_iastv (q := 78) dX0_addGroup_77 hs.t7 (u2_blkn (by decide) (by omega)) (vp_in_nI (show c < 100 by omega) (by omega)) rfl ?_
    refine jj_aload_n (q := 79) dX0_addGroup_78 rfl rfl rfl ?_
    refine jj_dup (q := 80) dX0_addGroup_79 rfl rfl ?_
    refine jj_getIw (v := nI c) (q := 83) dX0_addGroup_80 fl_X0_9 hs.t1 (by rw [blk_k (by decide)]; simp [u2_ap, hc]) rfl rfl ?_
    refine jj_iconst (v := 1) (q := 84) dX0_addGroup_83 rfl rfl ?_
    refine jj_iadd (q := 85) dX0_addGroup_84 rfl ?_
    rw [show nI c + 1 = nI (c + 1) from (nI_succ c).symm]
    refine jj_putIv (q := 88) dX0_addGroup_85 fl_X0_9 hs.t1 (u2_blk (by decide)) rfl rfl rfl rfl rfl ?_
    refine jj_aload_n (q := 89) dX0_addGroup_88 rfl rfl rfl ?_
    refine jj_getR (q := 92) dX0_addGroup_89 fl_X0_34 hs.t1 hs.r1_7 rfl rfl rfl ?_
    refine jj_iconst (v := 0) (q := 93) dX0_addGroup_92 rfl rfl ?_
    refine jj_dup2 (q := 94) dX0_addGroup_93 rfl rfl rfl ?_
    refine jj_ialdv (q := 95) dX0_addGroup_94 hs.t8 (blk_k (by decide)) (vpl rfl rfl) rfl ?_
    refine jj_iconst (v := 1) (q := 96) dX0_addGroup_95 rfl rfl ?_
    refine jj_iadd (q := 97) dX0_addGroup_96 rfl ?_
    refine jj_iastv (q := 98) dX0_addGroup_97 hs.t8 (u2_blk (by decide)) (vpl rfl rfl) rfl ?_
    rw [show (0 : Int32).toNatClampNeg = 0 from rfl]
    refine jj_iinc (v := nI (i + 1)) (q := 101) dX0_addGroup_98 rfl (nI_inc i) (by decide) rfl ?_
    refine jj_goto (tgt := 3) dX0_addGroup_101 rfl ?_
    have h9 := ih (i + 1) (c + 1) (kAd K c t f) (by simp [kAd, u2_ap]) (by omega) (by rw [hg']; congr 1; omega) (by omega)
    rw [kAds]
    refine Eq.mp ?_ h9
    congr 2
    
theorem ex_addGroup (hs : hSt T R a) {t f : Int32} {k : Nat} (hc : K 1 0 = nI c) (hck : c + k ≤ 100) : Ex Γ (d + 1) Y_X0_addGroup [.ref (a + 1), .int t, .int (nI k), .int f] (T, R, S, blk 19 I a K, L, D, z) 0 0 (rV (T, R, S, blk 19 I a (kAds t f k c K), L, D, z)) := by
  refine Ex.of (by decide) (by simp [Value.category]) (Nat.le_of_ble_eq_true rfl) rfl ?_
  refine jj_iconst (v := 0) (q := 1) dX0_addGroup_0 rfl rfl ?_
  refine jj_istore (q := 3) dX0_addGroup_1 (by decide) rfl ?_
  exact lp_addGroup hs k 0 c K hc hck (by rw [Nat.zero_add]) (by omega)
end M21
