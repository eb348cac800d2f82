/-! THE TIMETABLE of the component -/
def cW (K : JI) (o f : Nat) : Int32 := if K 10 o - K 10 f < 0 then 1 else if K 10 o - K 10 f = 0 then (if nI f ≤ nI o then 0 else 1) else 0
def pCl (K : JI) (f : Nat) : Nat → Bool := fun o => decide (cW K o f = 1)
def kFC (K : JI) (nf : Nat) (r : Int32) : Int32 := srch (fun f => decide (nI (fb_ct (pCl K f) nf) = r)) nf nI (-1)
def lT (l m : Nat) : List Nat := if m = 0 then [] else ([44] ++ (dg l ++ ([120] ++ dg m)))
def rL (m : Nat → Nat) : Nat → Nat → List Nat
  | _, 0 => []
  | l, k + 1 => lT l (m l) ++ rL m (l + 1) k
def tW (nl : Nat) (op cl : Nat → Nat) (m : Nat → Nat → Nat) (f : Nat) : List Nat := [65 + f] ++ (dg (op f) ++ ([45] ++ (dg (cl f) ++ rL (fun l => m l f) 0 nl)))
def rTt (tw : Nat → List Nat) : Nat → Nat → List Nat
  | _, 0 => []
  | r, k + 1 => (if r = 0 then [] else [59]) ++ (tw r ++ rTt tw (r + 1) k)
theorem lT_len {l m : Nat} (hl : l < 4) (hm : m ≤ 20) : (lT l m).length ≤ 5 := by
  have h1 : (dg l).length ≤ 1 := dj_small (k := 0) (by omega) (by omega)
  have h2 : (dg m).length ≤ 2 := dj_small (k := 1) (by omega) (by omega)
  unfold lT
  split
  · simp
  · simp only [List.length_append, List.length_singleton]; omega
theorem rL_len {m : Nat → Nat} (hm : ∀ l, m l ≤ 20) : ∀ (k l : Nat), l + k ≤ 4 → (rL m l k).length ≤ 5 * k
  | 0, _, _ => by unfold rL; simp
  | k + 1, l, h => by
    have := rL_len hm k (l + 1) (by omega)
    have := lT_len (l := l) (by omega) (hm l)
    unfold rL
    rw [List.length_append]
    omega
theorem dg9 {v : Nat} (h : v < 2 ^ 29) : (dg v).length ≤ 9 := dj_small (k := 8) (by omega) (by omega)
theorem tW_len {nl f : Nat} {op cl : Nat → Nat} {m : Nat → Nat → Nat} (hn : nl ≤ 4) (ho : op f < 2 ^ 29) (hc : cl f < 2 ^ 29) (hm : ∀ l, m l f ≤ 20) : (tW nl op cl m f).length ≤ 40 := by
  have h1 := dg9 ho
  have h2 := dg9 hc
  have h3 := rL_len hm nl 0 (by omega)
  unfold tW
  simp only [List.length_append, List.length_singleton]
  omega
theorem rTt_len {tw : Nat → List Nat} {nf : Nat} (h : ∀ r, r < nf → (tw r).length ≤ 40) : ∀ (k r : Nat), r + k ≤ nf → (rTt tw r k).length ≤ 41 * k
  | 0, _, _ => by unfold rTt; simp
  | k + 1, r, hr => by
    have := rTt_len h k (r + 1) (by omega)
    have := h r (by omega)
    unfold rTt
    rw [List.length_append, List.length_append]
    have : (if r = 0 then ([] : List Nat) else [59]).length ≤ 1 := by split <;> simp
    omega
section M56
variable {Γ : Gam} {d : Nat} {T : JT} {R S : JR} {I K P B : JI} {L : JL} {D : JD} {z : Option Nat} {xo a p t n kk s c : Nat} {O : Nat → Int32}
theorem lp_fcI (hx : cX T R S I xo a p O P) {nf : Nat} (hf : P 0 6 = nI nf) (hf8 : nf ≤ 8) {f : Nat} (hff : f < nf) {r : Int32} {Zf : List Frame → Array Value → State → State → Prop} (hz : ∀ x5, JJ Γ (jj_E Y_X8_flightByClose) Zf (jj_rm (d + 1) 0 0) 0 0 81 [some (.ref xo), some (.int r), some (.int (nI f)), some (.int (nI (fb_ct (pCl K f) nf))), some (.int (nI nf)), x5] [] (T, R, S, blk 19 I a K, L, D, z)) : ∀ (k i m : Nat) (x5 : Option Value), (i + k = nf ∧ m = fb_ct (pCl K f) i) → JJ Γ (jj_E Y_X8_flightByClose) Zf (jj_rm (d + 1) 0 0) 0 0 18 [some (.ref xo), some (.int r), some (.int (nI f)), some (.int (nI m)), some (.int (nI i)), x5] [] (T, R, S, blk 19 I a K, L, D, z) := by
  intro k
  induction k with
  | zero =>
    intro i m x5 hi
    refine jj_iload (q := 20) dX8_flightByClose_18 rfl rfl ?_
    refine jj_aload_n (q := 21) dX8_flightByClose_20 rfl rfl rfl ?_
    refine jj_getS (q := 24) dX8_flightByClose_21 fl_X8_23 hx.t hx.sp rfl rfl rfl ?_
    refine jj_getIw (v := nI nf) (q := 27) dX8_flightByClose_24 fl_X8_226 hx.hp.t0 (by rw [hx.r0]; exact hf) rfl rfl ?_
    refine jj_icmp_ge (q := 30) (tgt := 81) dX8_flightByClose_27 rfl rfl (fun h27 => ?_) (fun h27 => absurd (nI_le (show nf ≤ i by omega) (by omega)) h27)
    obtain ⟨e1, e2⟩ := hi
    have e : i = nf := by omega
    subst e
    rw [e2]
    exact hz _
  | succ k ih =>
    intro i m x5 hi
    refine jj_iload (q := 20) dX8_flightByClose_18 rfl rfl ?_
    refine jj_aload_n (q := 21) dX8_flightByClose_20 rfl rfl rfl ?_
    refine jj_getS (q := 24) dX8_flightByClose_21 fl_X8_23 hx.t hx.sp rfl rfl rfl ?_
    refine jj_getIw (v := nI nf) (q := 27) dX8_flightByClose_24 fl_X8_226 hx.hp.t0 (by rw [hx.r0]; exact hf) rfl rfl ?_
    refine jj_icmp_ge (q := 30) (tgt := 81) dX8_flightByClose_27 rfl rfl (fun h27 => absurd h27 ((nI_ge (show i < nf by omega) (by omega)))) (fun h27 => ?_)
    refine jj_aload_n (q := 31) dX8_flightByClose_30 rfl rfl rfl ?_
    refine jj_getS (q := 34) dX8_flightByClose_31 fl_X8_33 hx.t hx.sn rfl rfl rfl ?_
    refine jj_getR (q := 37) dX8_flightByClose_34 fl_X8_156 hx.hs.t0 hx.hs.r0_6 rfl rfl rfl ?_
    refine jj_iload (q := 39) dX8_flightByClose_37 rfl rfl ?_
    refine jj_cS2i (q := 42) dX8_flightByClose_39 yk_X8_at ml_X8_120 (ex_atv hx.hs.t10 (blk_k (by decide)) rfl) rfl rfl rfl ⟨Nat.zero_le _, Nat.zero_le _⟩ ?_
    rw [atV_nI (show i < 8 by omega) (by omega)]
    refine jj_aload_n (q := 43) dX8_flightByClose_42 rfl rfl rfl ?_
    refine jj_getS (q := 46) dX8_flightByClose_43 fl_X8_33 hx.t hx.sn rfl rfl rfl ?_
    refine jj_getR (q := 49) dX8_flightByClose_46 fl_X8_156 hx.hs.t0 hx.hs.r0_6 rfl rfl rfl ?_
    refine jj_iload_n (q := 50) dX8_flightByClose_49 rfl rfl rfl ?_
    refine jj_cS2i (q := 53) dX8_flightByClose_50 yk_X8_at ml_X8_120 (ex_atv hx.hs.t10 (blk_k (by decide)) rfl) rfl rfl rfl ⟨Nat.zero_le _, Nat.zero_le _⟩ ?_
    rw [atV_nI (show f < 8 by omega) (by omega)]
    refine jj_isub (q := 54) dX8_flightByClose_53 rfl ?_
    refine jj_istore (q := 56) dX8_flightByClose_54 (by decide) rfl ?_
    refine jj_iload (q := 58) dX8_flightByClose_56 rfl rfl ?_
    refine jj_if_lt (q := 61) (tgt := 72) dX8_flightByClose_58 rfl rfl (fun h58 => ?_) (fun h58 => ?_)
    · refine jj_iinc (v := nI (m + 1)) (q := 75) dX8_flightByClose_72 rfl (nI_incn m 1 rfl) (by decide) rfl ?_
      refine jj_iinc (v := nI (i + 1)) (q := 78) dX8_flightByClose_75 rfl (nI_incn i 1 rfl) (by decide) rfl ?_
      refine jj_goto (tgt := 18) dX8_flightByClose_78 rfl ?_
      refine ih (i + 1) _ _ ⟨by omega, ?_⟩
      first
        | exact ct_y hi.2 (decide_eq_true (by unfold cW; (first | rw [if_pos h58] | rw [if_neg h58] | skip); (first | rw [if_pos h63] | rw [if_neg h63] | skip); (first | rw [if_pos h69] | rw [if_neg h69] | skip)))
        | exact ct_m hi.2 (decide_eq_false (by unfold cW; (first | rw [if_pos h58] | rw [if_neg h58] | skip); (first | rw [if_pos h63] | rw [if_neg h63] | skip); (first | rw [if_pos h69] | rw [if_neg h69] | skip); decide))
    · refine jj_iload (q := 63) dX8_flightByClose_61 rfl rfl ?_
      refine jj_if_ne (q := 66) (tgt := 75) dX8_flightByClose_63 rfl rfl (fun h63 => ?_) (fun h63 => ?_)
      · refine jj_iinc (v := nI (i + 1)) (q := 78) dX8_flightByClose_75 rfl (nI_incn i 1 rfl) (by decide) rfl ?_
        refine jj_goto (tgt := 18) dX8_flightByClose_78 rfl ?_
        refine ih (i + 1) _ _ ⟨by omega, ?_⟩
        first
          | exact ct_y hi.2 (decide_eq_true (by unfold cW; (first | rw [if_pos h58] | rw [if_neg h58] | skip); (first | rw [if_pos h63] | rw [if_neg h63] | skip); (first | rw [if_pos h69] | rw [if_neg h69] | skip)))
          | exact ct_m hi.2 (decide_eq_false (by unfold cW; (first | rw [if_pos h58] | rw [if_neg h58] | skip); (first | rw [if_pos h63] | rw [if_neg h63] | skip); (first | rw [if_pos h69] | rw [if_neg h69] | skip); decide))
      · refine jj_iload (q := 68) dX8_flightByClose_66 rfl rfl ?_
        refine jj_iload_n (q := 69) dX8_flightByClose_68 rfl rfl rfl ?_
        refine jj_icmp_ge (q := 72) (tgt := 75) dX8_flightByClose_69 rfl rfl (fun h69 => ?_) (fun h69 => ?_)
        · refine jj_iinc (v := nI (i + 1)) (q := 78) dX8_flightByClose_75 rfl (nI_incn i 1 rfl) (by decide) rfl ?_
          refine jj_goto (tgt := 18) dX8_flightByClose_78 rfl ?_
          refine ih (i + 1) _ _ ⟨by omega, ?_⟩
          first
            | exact ct_y hi.2 (decide_eq_true (by unfold cW; (first | rw [if_pos h58] | rw [if_neg h58] | skip); (first | rw [if_pos h63] | rw [if_neg h63] | skip); (first | rw [if_pos h69] | rw [if_neg h69] | skip)))
            | exact ct_m hi.2 (decide_eq_false (by unfold cW; (first | rw [if_pos h58] | rw [if_neg h58] | skip); (first | rw [if_pos h63] | rw [if_neg h63] | skip); (first | rw [if_pos h69] | rw [if_neg h69] | skip); decide))
        · refine jj_iinc (v := nI (m + 1)) (q := 75) dX8_flightByClose_72 rfl (nI_incn m 1 rfl) (by decide) rfl ?_
          refine jj_iinc (v := nI (i + 1)) (q := 78) dX8_flightByClose_75 rfl (nI_incn i 1 rfl) (by decide) rfl ?_
          refine jj_goto (tgt := 18) dX8_flightByClose_78 rfl ?_
          refine ih (i + 1) _ _ ⟨by omega, ?_⟩
          first
            | exact ct_y hi.2 (decide_eq_true (by unfold cW; (first | rw [if_pos h58] | rw [if_neg h58] | skip); (first | rw [if_pos h63] | rw [if_neg h63] | skip); (first | rw [if_pos h69] | rw [if_neg h69] | skip)))
            | exact ct_m hi.2 (decide_eq_false (by unfold cW; (first | rw [if_pos h58] | rw [if_neg h58] | skip); (first | rw [if_pos h63] | rw [if_neg h63] | skip); (first | rw [if_pos h69] | rw [if_neg h69] | skip); decide))
theorem lp_fcO (hx : cX T R S I xo a p O P) {nf : Nat} (hf : P 0 6 = nI nf) (hf8 : nf ≤ 8) {r : Int32} : ∀ (k i : Nat) (x3 x4 x5 : Option Value), (i + k = nf ∧ ∀ j, j < i → decide (nI (fb_ct (pCl K j) nf) = r) = false) → JJ Γ (jj_E Y_X8_flightByClose) (jj_Z Γ (rI (kFC K nf r) (T, R, S, blk 19 I a K, L, D, z)) 0 0) (jj_rm (d + 1) 0 0) 0 0 2 [some (.ref xo), some (.int r), some (.int (nI i)), x3, x4, x5] [] (T, R, S, blk 19 I a K, L, D, z) := by
  intro k
  induction k with
  | zero =>
    intro i x3 x4 x5 hi
    refine jj_iload_n (q := 3) dX8_flightByClose_2 rfl rfl rfl ?_
    refine jj_aload_n (q := 4) dX8_flightByClose_3 rfl rfl rfl ?_
    refine jj_getS (q := 7) dX8_flightByClose_4 fl_X8_23 hx.t hx.sp rfl rfl rfl ?_
    refine jj_getIw (v := nI nf) (q := 10) dX8_flightByClose_7 fl_X8_226 hx.hp.t0 (by rw [hx.r0]; exact hf) rfl rfl ?_
    refine jj_icmp_ge (q := 13) (tgt := 94) dX8_flightByClose_10 rfl rfl (fun h10 => ?_) (fun h10 => absurd (nI_le (show nf ≤ i by omega) (by omega)) h10)
    refine jj_iconst (v := -1) (q := 95) dX8_flightByClose_94 rfl rfl ?_
    refine jj_iret dX8_flightByClose_95 rfl (Nat.zero_le _) (Nat.zero_le _) ?_
    exact ⟨by unfold kFC; rw [srch_none (fun j hj => hi.2 j (by omega))], rfl⟩
  | succ k ih =>
    intro i x3 x4 x5 hi
    refine jj_iload_n (q := 3) dX8_flightByClose_2 rfl rfl rfl ?_
    refine jj_aload_n (q := 4) dX8_flightByClose_3 rfl rfl rfl ?_
    refine jj_getS (q := 7) dX8_flightByClose_4 fl_X8_23 hx.t hx.sp rfl rfl rfl ?_
    refine jj_getIw (v := nI nf) (q := 10) dX8_flightByClose_7 fl_X8_226 hx.hp.t0 (by rw [hx.r0]; exact hf) rfl rfl ?_
    refine jj_icmp_ge (q := 13) (tgt := 94) dX8_flightByClose_10 rfl rfl (fun h10 => absurd h10 ((nI_ge (show i < nf by omega) (by omega)))) (fun h10 => ?_)
    refine jj_iconst (v := 0) (q := 14) dX8_flightByClose_13 rfl rfl ?_
    refine jj_istore_n (q := 15) dX8_flightByClose_14 rfl (by decide) rfl ?_
    refine jj_iconst (v := 0) (q := 16) dX8_flightByClose_15 rfl rfl ?_
    refine jj_istore (q := 18) dX8_flightByClose_16 (by decide) rfl ?_
    refine lp_fcI hx hf hf8 (show i < nf by omega) (fun y5 => ?_) nf 0 0 _ ⟨by omega, rfl⟩
    refine jj_iload_n (q := 82) dX8_flightByClose_81 rfl rfl rfl ?_
    refine jj_iload_n (q := 83) dX8_flightByClose_82 rfl rfl rfl ?_
    refine jj_icmp_ne (q := 86) (tgt := 88) dX8_flightByClose_83 rfl rfl (fun h83 => ?_) (fun h83 => ?_)
    · refine jj_iinc (v := nI (i + 1)) (q := 91) dX8_flightByClose_88 rfl (nI_incn i 1 rfl) (by decide) rfl ?_
      refine jj_goto (tgt := 2) dX8_flightByClose_91 rfl ?_
      refine ih (i + 1) _ _ _ ⟨by omega, fun j hj => ?_⟩
      by_cases e : j = i
      · subst e; exact decide_eq_false h83
      · exact hi.2 j (by omega)
    · refine jj_iload_n (q := 87) dX8_flightByClose_86 rfl rfl rfl ?_
      refine jj_iret dX8_flightByClose_87 rfl (Nat.zero_le _) (Nat.zero_le _) ?_
      exact ⟨by unfold kFC; rw [srch_hit hi.2 (decide_eq_true h83) (by omega)], rfl⟩
theorem ex_flightByClose (hx : cX T R S I xo a p O P) {nf : Nat} (hf : P 0 6 = nI nf) (hf8 : nf ≤ 8) {r : Int32} : Ex Γ (d + 1) Y_X8_flightByClose [.ref xo, .int r] (T, R, S, blk 19 I a K, L, D, z) 0 0 (rI (kFC K nf r) (T, R, S, blk 19 I a K, L, D, z)) := by
  refine Ex.of (by decide) (by simp [Value.category]) (Nat.le_of_ble_eq_true rfl) rfl ?_
  refine jj_iconst (v := 0) (q := 1) dX8_flightByClose_0 rfl rfl ?_
  refine jj_istore_n (q := 2) dX8_flightByClose_1 rfl (by decide) rfl ?_
  exact lp_fcO hx hf hf8 nf 0 _ _ _ ⟨by omega, fun j hj => by omega⟩
def kM (K : JI) (ls : Nat → Nat) (l f : Nat) : Nat := if l < 4 then fb_ct (pSt K l (nI f)) (ls l) else 0
theorem kM20 {ls : Nat → Nat} (hls : ∀ l, l < 4 → K 12 l = nI (ls l) ∧ ls l ≤ 20) (l f : Nat) : kM K ls l f ≤ 20 := by
  unfold kM
  split
  · rename_i h; exact Nat.le_trans (fb_ct_le _ _) (hls l h).2
  · omega
theorem lp_wt (h : cT T R S I xo a p t n 13 O P) {nl : Nat} (hq : P 0 8 = nI nl) (hl : nl ≤ 4) {ls : Nat → Nat} (hls : ∀ l, l < 4 → K 12 l = nI (ls l) ∧ ls l ≤ 20) {f : Nat} : ∀ (k i s : Nat) (B B' : JI) (x3 : Option Value), i + k = nl → B 0 0 = nI s → s + (rL (fun l => kM K ls l f) i k).length ≤ n → wL B (rL (fun l => kM K ls l f) i k) = B' → JJ Γ (jj_E Y_X8_writeTimes) (jj_Z Γ (rV (T, R, S, blk 19 (blk 2 I t B') a K, L, D, z)) 0 0) (jj_rm (d + 2) 0 0) 0 0 58 [some (.ref xo), some (.int (nI f)), some (.int (nI i)), x3] [] (T, R, S, blk 19 (blk 2 I t B) a K, L, D, z) := by
  intro k
  induction k with
  | zero =>
    intro i s B B' x3 hi hs hn he
    subst he
    refine jj_iload_n (q := 59) dX8_writeTimes_58 rfl rfl rfl ?_
    refine jj_aload_n (q := 60) dX8_writeTimes_59 rfl rfl rfl ?_
    refine jj_getS (q := 63) dX8_writeTimes_60 fl_X8_23 (h.1 B).t (h.1 B).sp rfl rfl rfl ?_
    refine jj_getIw (v := nI nl) (q := 66) dX8_writeTimes_63 fl_X8_207 (h.1 B).hp.t0 (by rw [(h.1 _).r0]; exact hq) rfl rfl ?_
    refine jj_icmp_ge (q := 69) (tgt := 123) dX8_writeTimes_66 rfl rfl (fun h66 => ?_) (fun h66 => absurd (nI_le (show nl ≤ i by omega) (by omega)) h66)
    refine jj_vret dX8_writeTimes_123 rfl (Nat.zero_le _) (Nat.zero_le _) ?_
    exact ⟨rfl, rfl⟩
  | succ k ih =>
    intro i s B B' x3 hi hs hn he
    have hn30 := h.2.2.2.2
    have h20 := kM20 hls i f
    have hk : fb_ct (pSt K i (nI f)) (ls i) = kM K ls i f := by unfold kM; rw [if_pos (by omega)]
    have d1 : (dg i).length ≤ 1 := dj_small (k := 0) (by omega) (by omega)
    have d2 : (dg (kM K ls i f)).length ≤ 2 := dj_small (k := 1) (by omega) (by omega)
    rw [rL, wL_app] at he
    rw [rL, List.length_append] at hn
    by_cases h0 : kM K ls i f = 0
    · rw [show lT i (kM K ls i f) = [] from if_pos h0] at he hn
      rw [wL_nil] at he
      rw [List.length_nil] at hn
      refine jj_iload_n (q := 59) dX8_writeTimes_58 rfl rfl rfl ?_
      refine jj_aload_n (q := 60) dX8_writeTimes_59 rfl rfl rfl ?_
      refine jj_getS (q := 63) dX8_writeTimes_60 fl_X8_23 (h.1 B).t (h.1 B).sp rfl rfl rfl ?_
      refine jj_getIw (v := nI nl) (q := 66) dX8_writeTimes_63 fl_X8_207 (h.1 B).hp.t0 (by rw [(h.1 _).r0]; exact hq) rfl rfl ?_
      refine jj_icmp_ge (q := 69) (tgt := 123) dX8_writeTimes_66 rfl rfl (fun h66 => absurd h66 ((nI_ge (show i < nl by omega) (by omega)))) (fun h66 => ?_)
      refine jj_aload_n (q := 70) dX8_writeTimes_69 rfl rfl rfl ?_
      refine jj_getS (q := 73) dX8_writeTimes_70 fl_X8_33 (h.1 B).t (h.1 B).sn rfl rfl rfl ?_
      refine jj_iload_n (q := 74) dX8_writeTimes_73 rfl rfl rfl ?_
      refine jj_iload_n (q := 75) dX8_writeTimes_74 rfl rfl rfl ?_
      refine jj_cV2i (q := 78) dX8_writeTimes_75 yk_X4_storedOf ml_X8_354 (h.1 B).hs.t0 (ex_storedOf (h.1 B).hs (show i < 4 by omega) (hls i (by omega)).1 (hls i (by omega)).2) rfl rfl rfl ⟨Nat.zero_le _, Nat.zero_le _⟩ ?_
      rw [hk]
      refine jj_istore_n (q := 79) dX8_writeTimes_78 rfl (by decide) rfl ?_
      refine jj_iload_n (q := 80) dX8_writeTimes_79 rfl rfl rfl ?_
      refine jj_if_le (q := 83) (tgt := 117) dX8_writeTimes_80 rfl rfl (fun h80 => ?_) (fun h80 => absurd (by rw [h0]; decide) h80)
      refine jj_iinc (v := nI (i + 1)) (q := 120) dX8_writeTimes_117 rfl (nI_incn i 1 rfl) (by decide) rfl ?_
      refine jj_goto (tgt := 58) dX8_writeTimes_120 rfl ?_
      exact ih (i + 1) s B B' _ (by omega) hs (by omega) he
    · have hT : lT i (kM K ls i f) = [44] ++ (dg i ++ ([120] ++ dg (kM K ls i f))) := if_neg h0
      rw [hT] at he hn
      rw [List.length_append, List.length_append, List.length_append, List.length_singleton, List.length_singleton] at hn
      rw [wL_app, wL_app, wL_app] at he
      have s1 := wL_0 (l := [44]) hs (by rw [List.length_singleton]; omega)
      rw [List.length_singleton] at s1
      have s2 := wL_0 (l := dg i) s1 (by omega)
      have s3 := wL_0 (l := [120]) s2 (by rw [List.length_singleton]; omega)
      rw [List.length_singleton] at s3
      have s4 := wL_0 (l := dg (kM K ls i f)) s3 (by omega)
      refine jj_iload_n (q := 59) dX8_writeTimes_58 rfl rfl rfl ?_
      refine jj_aload_n (q := 60) dX8_writeTimes_59 rfl rfl rfl ?_
      refine jj_getS (q := 63) dX8_writeTimes_60 fl_X8_23 (h.1 B).t (h.1 B).sp rfl rfl rfl ?_
      refine jj_getIw (v := nI nl) (q := 66) dX8_writeTimes_63 fl_X8_207 (h.1 B).hp.t0 (by rw [(h.1 _).r0]; exact hq) rfl rfl ?_
      refine jj_icmp_ge (q := 69) (tgt := 123) dX8_writeTimes_66 rfl rfl (fun h66 => absurd h66 ((nI_ge (show i < nl by omega) (by omega)))) (fun h66 => ?_)
      refine jj_aload_n (q := 70) dX8_writeTimes_69 rfl rfl rfl ?_
      refine jj_getS (q := 73) dX8_writeTimes_70 fl_X8_33 (h.1 B).t (h.1 B).sn rfl rfl rfl ?_
      refine jj_iload_n (q := 74) dX8_writeTimes_73 rfl rfl rfl ?_
      refine jj_iload_n (q := 75) dX8_writeTimes_74 rfl rfl rfl ?_
      refine jj_cV2i (q := 78) dX8_writeTimes_75 yk_X4_storedOf ml_X8_354 (h.1 B).hs.t0 (ex_storedOf (h.1 B).hs (show i < 4 by omega) (hls i (by omega)).1 (hls i (by omega)).2) rfl rfl rfl ⟨Nat.zero_le _, Nat.zero_le _⟩ ?_
      rw [hk]
      refine jj_istore_n (q := 79) dX8_writeTimes_78 rfl (by decide) rfl ?_
      refine jj_iload_n (q := 80) dX8_writeTimes_79 rfl rfl rfl ?_
      refine jj_if_le (q := 83) (tgt := 117) dX8_writeTimes_80 rfl rfl (fun h80 => absurd h80 (nI_ge (a := 0) (b := kM K ls i f) (by omega) (by omega))) (fun h80 => ?_)
      refine jj_aload_n (q := 84) dX8_writeTimes_83 rfl rfl rfl ?_
      refine jj_getS (q := 87) dX8_writeTimes_84 fl_X8_71 (h.1 B).t h.2.2.2.1 rfl rfl rfl ?_
      refine jj_bipush (v := 44) (q := 89) dX8_writeTimes_87 rfl rfl ?_
      refine jj_cV1v (q := 92) dX8_writeTimes_89 yk_X6_putByte ml_X8_267 h.2.1.1 (tx_putByte (b := 44) h hs (by omega) (by rw [List.length_singleton]; omega)) rfl rfl rfl ⟨Nat.zero_le _, Nat.zero_le _⟩ ?_
      refine jj_aload_n (q := 93) dX8_writeTimes_92 rfl rfl rfl ?_
      refine jj_getS (q := 96) dX8_writeTimes_93 fl_X8_71 (h.1 B).t h.2.2.2.1 rfl rfl rfl ?_
      refine jj_iload_n (q := 97) dX8_writeTimes_96 rfl rfl rfl ?_
      refine jj_cV1v (q := 100) dX8_writeTimes_97 yk_X6_putNumber ml_X8_264 h.2.1.1 (tx_putNumber (v := i) h s1 (by omega) (by omega)) rfl rfl rfl ⟨Nat.zero_le _, Nat.zero_le _⟩ ?_
      refine jj_aload_n (q := 101) dX8_writeTimes_100 rfl rfl rfl ?_
      refine jj_getS (q := 104) dX8_writeTimes_101 fl_X8_71 (h.1 B).t h.2.2.2.1 rfl rfl rfl ?_
      refine jj_bipush (v := 120) (q := 106) dX8_writeTimes_104 rfl rfl ?_
      refine jj_cV1v (q := 109) dX8_writeTimes_106 yk_X6_putByte ml_X8_267 h.2.1.1 (tx_putByte (b := 120) h s2 (by omega) (by rw [List.length_singleton]; omega)) rfl rfl rfl ⟨Nat.zero_le _, Nat.zero_le _⟩ ?_
      refine jj_aload_n (q := 110) dX8_writeTimes_109 rfl rfl rfl ?_
      refine jj_getS (q := 113) dX8_writeTimes_110 fl_X8_71 (h.1 B).t h.2.2.2.1 rfl rfl rfl ?_
      refine jj_iload_n (q := 114) dX8_writeTimes_113 rfl rfl rfl ?_
      refine jj_cV1v (q := 117) dX8_writeTimes_114 yk_X6_putNumber ml_X8_264 h.2.1.1 (tx_putNumber (v := kM K ls i f) h s3 (by omega) (by omega)) rfl rfl rfl ⟨Nat.zero_le _, Nat.zero_le _⟩ ?_
      refine jj_iinc (v := nI (i + 1)) (q := 120) dX8_writeTimes_117 rfl (nI_incn i 1 rfl) (by decide) rfl ?_
      refine jj_goto (tgt := 58) dX8_writeTimes_120 rfl ?_
      exact ih (i + 1) _ _ B' _ (by omega) s4 (by omega) he
theorem ex_writeTimes (h : cT T R S I xo a p t n 13 O P) {nl : Nat} (hq : P 0 8 = nI nl) (hl : nl ≤ 4) {ls : Nat → Nat} (hls : ∀ l, l < 4 → K 12 l = nI (ls l) ∧ ls l ≤ 20) {nf : Nat} (hf8 : nf ≤ 8) {op cl : Nat → Nat} (hoc : ∀ f, f < nf → K 9 f = nI (op f) ∧ op f < 2 ^ 29 ∧ K 10 f = nI (cl f) ∧ cl f < 2 ^ 29) (hs : B 0 0 = nI s) {f : Nat} (hff : f < nf) (hn : s + (tW nl op cl (kM K ls) f).length ≤ n) : Ex Γ (d + 2) Y_X8_writeTimes [.ref xo, .int (nI f)] (T, R, S, blk 19 (blk 2 I t B) a K, L, D, z) 0 0 (rV (T, R, S, blk 19 (blk 2 I t (wL B (tW nl op cl (kM K ls) f))) a K, L, D, z)) := by
  have hn30 := h.2.2.2.2
  obtain ⟨o1, o2, o3, o4⟩ := hoc f hff
  have g1 := dg9 o2
  have g2 := dg9 o4
  unfold tW at hn ⊢
  rw [List.length_append, List.length_append, List.length_append, List.length_append, List.length_singleton, List.length_singleton] at hn
  rw [wL_app, wL_app, wL_app, wL_app]
  have s1 := wL_0 (l := [65 + f]) hs (by rw [List.length_singleton]; omega)
  rw [List.length_singleton] at s1
  have s2 := wL_0 (l := dg (op f)) s1 (by omega)
  have s3 := wL_0 (l := [45]) s2 (by rw [List.length_singleton]; omega)
  rw [List.length_singleton] at s3
  have s4 := wL_0 (l := dg (cl f)) s3 (by omega)
  refine Ex.of (by decide) (by simp [Value.category]) (Nat.le_of_ble_eq_true rfl) rfl ?_
  refine jj_aload_n (q := 1) dX8_writeTimes_0 rfl rfl rfl ?_
  refine jj_getS (q := 4) dX8_writeTimes_1 fl_X8_71 (h.1 B).t h.2.2.2.1 rfl rfl rfl ?_
  refine jj_bipush (v := 65) (q := 6) dX8_writeTimes_4 rfl rfl ?_
  refine jj_iload_n (q := 7) dX8_writeTimes_6 rfl rfl rfl ?_
  refine jj_iaddN (q := 8) (a := 65) (b := f) dX8_writeTimes_7 rfl rfl rfl ?_
  refine jj_cV1v (q := 11) dX8_writeTimes_8 yk_X6_putByte ml_X8_267 h.2.1.1 (tx_putByte (b := 65 + f) h hs (by omega) (by rw [List.length_singleton]; omega)) rfl rfl rfl ⟨Nat.zero_le _, Nat.zero_le _⟩ ?_
  refine jj_aload_n (q := 12) dX8_writeTimes_11 rfl rfl rfl ?_
  refine jj_getS (q := 15) dX8_writeTimes_12 fl_X8_71 (h.1 B).t h.2.2.2.1 rfl rfl rfl ?_
  refine jj_aload_n (q := 16) dX8_writeTimes_15 rfl rfl rfl ?_
  refine jj_getS (q := 19) dX8_writeTimes_16 fl_X8_33 (h.1 B).t (h.1 B).sn rfl rfl rfl ?_
  refine jj_getR (q := 22) dX8_writeTimes_19 fl_X8_235 (h.1 B).hs.t0 (h.1 B).hs.r0_5 rfl rfl rfl ?_
  refine jj_iload_n (q := 23) dX8_writeTimes_22 rfl rfl rfl ?_
  refine jj_cS2i (q := 26) dX8_writeTimes_23 yk_X8_at ml_X8_120 (ex_atv (h.1 B).hs.t9 (blk_k (by decide)) rfl) rfl rfl rfl ⟨Nat.zero_le _, Nat.zero_le _⟩ ?_
  rw [atV_nI (show f < 8 by omega) (by omega), o1]
  refine jj_cV1v (q := 29) dX8_writeTimes_26 yk_X6_putNumber ml_X8_264 h.2.1.1 (tx_putNumber (v := op f) h s1 (by omega) (by omega)) rfl rfl rfl ⟨Nat.zero_le _, Nat.zero_le _⟩ ?_
  refine jj_aload_n (q := 30) dX8_writeTimes_29 rfl rfl rfl ?_
  refine jj_getS (q := 33) dX8_writeTimes_30 fl_X8_71 (h.1 B).t h.2.2.2.1 rfl rfl rfl ?_
  refine jj_bipush (v := 45) (q := 35) dX8_writeTimes_33 rfl rfl ?_
  refine jj_cV1v (q := 38) dX8_writeTimes_35 yk_X6_putByte ml_X8_267 h.2.1.1 (tx_putByte (b := 45) h s2 (by omega) (by rw [List.length_singleton]; omega)) rfl rfl rfl ⟨Nat.zero_le _, Nat.zero_le _⟩ ?_
  refine jj_aload_n (q := 39) dX8_writeTimes_38 rfl rfl rfl ?_
  refine jj_getS (q := 42) dX8_writeTimes_39 fl_X8_71 (h.1 B).t h.2.2.2.1 rfl rfl rfl ?_
  refine jj_aload_n (q := 43) dX8_writeTimes_42 rfl rfl rfl ?_
  refine jj_getS (q := 46) dX8_writeTimes_43 fl_X8_33 (h.1 B).t (h.1 B).sn rfl rfl rfl ?_
  refine jj_getR (q := 49) dX8_writeTimes_46 fl_X8_156 (h.1 B).hs.t0 (h.1 B).hs.r0_6 rfl rfl rfl ?_
  refine jj_iload_n (q := 50) dX8_writeTimes_49 rfl rfl rfl ?_
  refine jj_cS2i (q := 53) dX8_writeTimes_50 yk_X8_at ml_X8_120 (ex_atv (h.1 B).hs.t10 (blk_k (by decide)) rfl) rfl rfl rfl ⟨Nat.zero_le _, Nat.zero_le _⟩ ?_
  rw [atV_nI (show f < 8 by omega) (by omega), o3]
  refine jj_cV1v (q := 56) dX8_writeTimes_53 yk_X6_putNumber ml_X8_264 h.2.1.1 (tx_putNumber (v := cl f) h s3 (by omega) (by omega)) rfl rfl rfl ⟨Nat.zero_le _, Nat.zero_le _⟩ ?_
  refine jj_iconst (v := 0) (q := 57) dX8_writeTimes_56 rfl rfl ?_
  refine jj_istore_n (q := 58) dX8_writeTimes_57 rfl (by decide) rfl ?_
  exact lp_wt h hq hl hls nl 0 _ _ _ _ (by omega) s4 (by omega) rfl
theorem lp_tt (h : cT T R S I xo a p t n 13 O P) {nl : Nat} (hq : P 0 8 = nI nl) (hl : nl ≤ 4) {ls : Nat → Nat} (hls : ∀ l, l < 4 → K 12 l = nI (ls l) ∧ ls l ≤ 20) {nf : Nat} (hf8 : nf ≤ 8) {op cl : Nat → Nat} (hoc : ∀ f, f < nf → K 9 f = nI (op f) ∧ op f < 2 ^ 29 ∧ K 10 f = nI (cl f) ∧ cl f < 2 ^ 29) (hf : P 0 6 = nI nf) {ph : Nat → Nat} (hph : ∀ r, r < nf → kFC K nf (nI r) = nI (ph r) ∧ ph r < nf) {B0 : JI} : ∀ (k i s : Nat) (B B' : JI), i + k = nf → B 0 0 = nI s → s + (rTt (fun r => tW nl op cl (kM K ls) (ph r)) i k).length ≤ n → wL B (rTt (fun r => tW nl op cl (kM K ls) (ph r)) i k) = B' → JJ Γ (jj_E Y_X8_timetable) (jj_Z Γ (cA 0 (some (.int (B' 0 0))) (T, R, S, blk 19 (blk 2 I t B0) a K, L, D, none) (T, R, S, blk 19 (blk 2 I t B') a K, L, D, none)) 0 0) (jj_rm (d + 8) 0 0) 0 0 14 [some (.ref xo), some (.int (nI i))] [] (T, R, S, blk 19 (blk 2 I t B) a K, L, D, none) := by
  intro k
  induction k with
  | zero =>
    intro i s B B' hi hs hn he
    subst he
    refine jj_iload_n (q := 15) dX8_timetable_14 rfl rfl rfl ?_
    refine jj_aload_n (q := 16) dX8_timetable_15 rfl rfl rfl ?_
    refine jj_getS (q := 19) dX8_timetable_16 fl_X8_23 (h.1 B).t (h.1 B).sp rfl rfl rfl ?_
    refine jj_getIw (v := nI nf) (q := 22) dX8_timetable_19 fl_X8_226 (h.1 B).hp.t0 (by rw [(h.1 _).r0]; exact hf) rfl rfl ?_
    refine jj_icmp_ge (q := 25) (tgt := 48) dX8_timetable_22 rfl rfl (fun h22 => ?_) (fun h22 => absurd (nI_le (show nf ≤ i by omega) (by omega)) h22)
    refine jj_aload_n (q := 49) dX8_timetable_48 rfl rfl rfl ?_
    refine jj_getS (q := 52) dX8_timetable_49 fl_X8_71 (h.1 B).t h.2.2.2.1 rfl rfl rfl ?_
    refine jj_getIv (q := 55) dX8_timetable_52 fl_X8_260 h.2.1.1 h.sz rfl rfl ?_
    refine jj_iret dX8_timetable_55 rfl (Nat.zero_le _) (Nat.zero_le _) ?_
    exact cA_i rfl
  | succ k ih =>
    intro i s B B' hi hs hn he
    have hn30 := h.2.2.2.2
    rw [rTt, wL_app, wL_app] at he
    rw [rTt, List.length_append, List.length_append] at hn
    have hpi := hph i (by omega)
    have hw1 : 1 ≤ (tW nl op cl (kM K ls) (ph i)).length := by unfold tW; rw [List.length_append, List.length_singleton]; omega
    have s1 := wL_0 (l := if i = 0 then ([] : List Nat) else [59]) hs (by omega)
    have s2 := wL_0 (l := tW nl op cl (kM K ls) (ph i)) s1 (by omega)
    refine jj_iload_n (q := 15) dX8_timetable_14 rfl rfl rfl ?_
    refine jj_aload_n (q := 16) dX8_timetable_15 rfl rfl rfl ?_
    refine jj_getS (q := 19) dX8_timetable_16 fl_X8_23 (h.1 B).t (h.1 B).sp rfl rfl rfl ?_
    refine jj_getIw (v := nI nf) (q := 22) dX8_timetable_19 fl_X8_226 (h.1 B).hp.t0 (by rw [(h.1 _).r0]; exact hf) rfl rfl ?_
    refine jj_icmp_ge (q := 25) (tgt := 48) dX8_timetable_22 rfl rfl (fun h22 => absurd h22 ((nI_ge (show i < nf by omega) (by omega)))) (fun h22 => ?_)
    refine jj_aload_n (q := 26) dX8_timetable_25 rfl rfl rfl ?_
    refine jj_getS (q := 29) dX8_timetable_26 fl_X8_71 (h.1 B).t h.2.2.2.1 rfl rfl rfl ?_
    refine jj_iload_n (q := 30) dX8_timetable_29 rfl rfl rfl ?_
    refine jj_cV1v (q := 33) dX8_timetable_30 yk_X6_separate ml_X8_261 h.2.1.1 (tx_separate h hs (by omega) (by omega)) rfl rfl rfl ⟨Nat.zero_le _, Nat.zero_le _⟩ ?_
    refine jj_aload_n (q := 34) dX8_timetable_33 rfl rfl rfl ?_
    refine jj_aload_n (q := 35) dX8_timetable_34 rfl rfl rfl ?_
    refine jj_iload_n (q := 36) dX8_timetable_35 rfl rfl rfl ?_
    refine jj_cV1i (q := 39) dX8_timetable_36 yk_X8_flightByClose ml_X8_276 (h.1 B).t (ex_flightByClose (h.1 _) hf hf8) rfl rfl rfl ⟨Nat.zero_le _, Nat.zero_le _⟩ ?_
    rw [hpi.1]
    refine jj_cV1v (q := 42) dX8_timetable_39 yk_X8_writeTimes ml_X8_279 (h.1 B).t (ex_writeTimes h hq hl hls hf8 hoc s1 (hph i (by omega)).2 (by omega)) rfl rfl rfl ⟨Nat.zero_le _, Nat.zero_le _⟩ ?_
    refine jj_iinc (v := nI (i + 1)) (q := 45) dX8_timetable_42 rfl (nI_incn i 1 rfl) (by decide) rfl ?_
    refine jj_goto (tgt := 14) dX8_timetable_45 rfl ?_
    exact ih (i + 1) _ _ B' (by omega) s2 (by omega) he
theorem ex_timetable (h : cT T R S I xo a p t n 13 O P) (hn : 400 ≤ n) {nl : Nat} (hq : P 0 8 = nI nl) (hl : nl ≤ 4) {ls : Nat → Nat} (hls : ∀ l, l < 4 → K 12 l = nI (ls l) ∧ ls l ≤ 20) {nf : Nat} (hf8 : nf ≤ 8) {op cl : Nat → Nat} (hoc : ∀ f, f < nf → K 9 f = nI (op f) ∧ op f < 2 ^ 29 ∧ K 10 f = nI (cl f) ∧ cl f < 2 ^ 29) (hf : P 0 6 = nI nf) {ph : Nat → Nat} (hph : ∀ r, r < nf → kFC K nf (nI r) = nI (ph r) ∧ ph r < nf) : Ex Γ (d + 8) Y_X8_timetable [.ref xo] (T, R, S, blk 19 (blk 2 I t B) a K, L, D, none) (ec (orE (eAir O) 0)) (es (orE (eAir O) 0)) (cA (orE (eAir O) 0) (some (.int (nI (rTt (fun r => tW nl op cl (kM K ls) (ph r)) 0 nf).length))) (T, R, S, blk 19 (blk 2 I t B) a K, L, D, none) (T, R, S, blk 19 (blk 2 I t (wL (u2 B 0 0 0) (rTt (fun r => tW nl op cl (kM K ls) (ph r)) 0 nf))) a K, L, D, none)) := by
  have hlen := rTt_len (tw := (fun r => tW nl op cl (kM K ls) (ph r))) (nf := nf) (fun r hr => tW_len hl (hoc _ (hph r hr).2).2.1 (hoc _ (hph r hr).2).2.2.2 (fun l => kM20 hls l _)) nf 0 (by omega)
  have hn30 := h.2.2.2.2
  have hs0 : u2 B 0 0 0 0 0 = nI 0 := rfl
  have hsz := wL_0 (l := rTt (fun r => tW nl op cl (kM K ls) (ph r)) 0 nf) hs0 (by omega)
  rw [Nat.zero_add] at hsz
  rw [← hsz]
  refine Ex.of (by decide) (by simp [Value.category]) (Nat.le_of_ble_eq_true rfl) rfl ?_
  refine jj_aload_n (q := 1) dX8_timetable_0 rfl rfl rfl ?_
  refine jj_nV0 (q := 4) dX8_timetable_1 yk_X8_needAirport ml_X8_168 (h.1 B).t (ex_needAirport (h.1 _)) rfl rfl rfl rfl (fun g1 => ?_)
  refine jj_aload_n (q := 5) dX8_timetable_4 rfl rfl rfl ?_
  refine jj_getS (q := 8) dX8_timetable_5 fl_X8_71 (h.1 B).t h.2.2.2.1 rfl rfl rfl ?_
  refine jj_iconst (v := 0) (q := 9) dX8_timetable_8 rfl rfl ?_
  refine jj_putIv (q := 12) dX8_timetable_9 fl_X8_260 h.2.1.1 h.u2 rfl rfl rfl rfl rfl ?_
  refine jj_iconst (v := 0) (q := 13) dX8_timetable_12 rfl rfl ?_
  refine jj_istore_n (q := 14) dX8_timetable_13 rfl (by decide) rfl ?_
  exact lp_tt h hq hl hls hf8 hoc hf hph nf 0 0 _ _ (by omega) hs0 (by omega) rfl
end M56
