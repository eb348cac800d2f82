/-! WORDS, SIGNS, NUMBERS: pure; the component's -/
abbrev Res (α : Type) : Type := (Nat × Nat) ⊕ (α × Nat)
def Res.bd {α β : Type} (r : Res α) (f : α → Nat → Res β) : Res β := match r with
  | .inl e => .inl e
  | .inr x => f x.1 x.2
/-- how a reading ends: 0, or 3: the IllegalArgumentException -/
def eN {α : Type} (r : Res α) : Nat := match r with
  | .inl _ => 3
  | .inr _ => 0
def isW (b : Nat → Nat) (E p : Nat) (l : List Nat) : Bool := decide (tK b E p = 1 ∧ tN b E p - tS b E p = l.length ∧ ∀ i, i < l.length → b (tS b E p + i) = l.getD i 0)
def isS (b : Nat → Nat) (E p c : Nat) : Bool := decide (tK b E p = 3 ∧ tV b E p = c)
def pNum (b : Nat → Nat) (E lo hx p : Nat) : Res Nat := if tK b E p = 2 then (if tV b E p < lo then .inl (2, tS b E p) else if tV b E p < hx then .inr (tV b E p, tN b E p) else .inl (2, tS b E p)) else .inl (1, tS b E p)
def pWd (b : Nat → Nat) (E : Nat) (l : List Nat) (p : Nat) : Res Unit := if isW b E p l = true then .inr ((), tN b E p) else .inl (1, tS b E p)
def pSg (b : Nat → Nat) (E c p : Nat) : Res Unit := if isS b E p c = true then .inr ((), tN b E p) else .inl (1, tS b E p)
theorem tK_D {b : Nat → Nat} {E p : Nat} (h : tK b E p = 2) : isD (b (tS b E p)) = true ∧ tS b E p < E ∧ tN b E p - tS b E p ≤ 5 := by
  unfold tK qK at h
  by_cases c1 : E ≤ tS b E p
  · rw [if_pos c1] at h; omega
  · rw [if_neg c1] at h
    by_cases c2 : isL (b (tS b E p)) = true
    · rw [if_pos c2] at h; split at h <;> omega
    · rw [if_neg c2] at h
      by_cases c3 : isD (b (tS b E p)) = true
      · rw [if_pos c3] at h
        refine ⟨c3, by omega, ?_⟩
        show qN b E (tS b E p) - tS b E p ≤ 5
        split at h
        · rename_i c; exact c
        · omega
      · rw [if_neg c3] at h; split at h <;> omega
theorem tK_G {b : Nat → Nat} {E p : Nat} (h : tK b E p = 3) : isG (b (tS b E p)) = true ∧ ¬ isL (b (tS b E p)) = true ∧ ¬ isD (b (tS b E p)) = true ∧ tS b E p < E := by
  unfold tK qK at h
  by_cases c1 : E ≤ tS b E p
  · rw [if_pos c1] at h; omega
  · rw [if_neg c1] at h
    by_cases c2 : isL (b (tS b E p)) = true
    · rw [if_pos c2] at h; split at h <;> omega
    · rw [if_neg c2] at h
      by_cases c3 : isD (b (tS b E p)) = true
      · rw [if_pos c3] at h; split at h <;> omega
      · rw [if_neg c3] at h
        by_cases c4 : isG (b (tS b E p)) = true
        · exact ⟨c4, c2, c3, by omega⟩
        · rw [if_neg c4] at h; omega
theorem dcm_lt {b : Nat → Nat} {q : Nat} : ∀ n, (∀ j, q ≤ j → j < q + n → 48 ≤ b j ∧ b j ≤ 57) → dcm b q n < 10 ^ n
  | 0, _ => (by decide : 0 < 1)
  | n + 1, h => by
    have ih := dcm_lt n (fun j h1 h2 => h j h1 (by omega))
    have := h (q + n) (by omega) (by omega)
    unfold dcm
    rw [Nat.pow_succ]
    omega
theorem tV_lt {b : Nat → Nat} {E p : Nat} (hp : p ≤ E) (h : tK b E p = 2) : tV b E p < 100000 := by
  have hD := tK_D h
  have hq := tS_bd (b := b) hp
  unfold tV
  rw [if_pos hD.1]
  have hsk : skp b 48 57 E (tS b E p) = tN b E p := by
    unfold tN qN
    rw [if_neg (by omega), if_neg (fun w => by have a := of_decide_eq_true w; have c := of_decide_eq_true hD.1; omega), if_pos hD.1]
  have h1 := dcm_lt (b := b) (q := tS b E p) (tN b E p - tS b E p) (fun j h1 h2 => skp_in (E - tS b E p) _ rfl j h1 (by rw [hsk]; omega))
  exact Nat.lt_of_lt_of_le h1 (Nat.le_trans (Nat.pow_le_pow_right (by omega) hD.2.2) (by decide))
theorem tN_bd {b : Nat → Nat} {E p : Nat} (hp : p ≤ E) : tS b E p ≤ tN b E p ∧ tN b E p ≤ E ∧ p ≤ tN b E p ∧ (tK b E p ≠ 0 → p < tN b E p) := by
  have hq := tS_bd (b := b) hp
  have hn := qN_bd (b := b) hq.2
  have e : tN b E p = qN b E (tS b E p) := rfl
  refine ⟨by omega, by omega, by omega, fun h => ?_⟩
  have : ¬ E ≤ tS b E p := fun w => h (if_pos w)
  omega
/-- the component's parser stands at p -/
def cAt (b : Nat → Nat) (E p : Nat) (F : JV) : Prop := F 4 = nI E ∧ F 5 = nI (tN b E p) ∧ F 6 = nI (tK b E p) ∧ F 7 = nI (tS b E p) ∧ (tK b E p = 2 → F 8 = nI (tV b E p)) ∧ (tK b E p = 3 → F 8 = nI (tV b E p))
theorem tK_le (b : Nat → Nat) (E p : Nat) : tK b E p ≤ 4 := by
  unfold tK qK
  repeat' split
  all_goals omega
theorem cAt_nx {b : Nat → Nat} {E p : Nat} {F : JV} (h4 : F 4 = nI E) : cAt b E p (cNx b E p F) := by
  unfold cNx
  refine ⟨by rw [w1_ne (by omega), w1_ne (by omega), w1_ne (by omega), w1_ne (by omega)]; exact h4, by rw [w1_ne (by omega), w1_ne (by omega), w1_ne (by omega), w1_eq], by rw [w1_ne (by omega), w1_eq], by rw [w1_ne (by omega), w1_ne (by omega), w1_eq], fun h => ?_, fun h => ?_⟩
  · have hD := tK_D h
    rw [w1_eq]
    unfold cV tV
    rw [if_neg (by omega), if_neg (fun w => by have a := of_decide_eq_true w; have c := of_decide_eq_true hD.1; omega), if_pos hD.1, if_pos hD.1, if_pos (show qN b E (tS b E p) - tS b E p ≤ 5 from hD.2.2)]
    rfl
  · have hG := tK_G h
    have hg := of_decide_eq_true hG.1
    rw [w1_eq]
    unfold cV tV
    rw [if_neg (by omega), if_neg hG.2.1, if_neg hG.2.2.1, if_neg hG.2.2.1, sgB_s (by omega)]
/-- the other fields stay -/
theorem cNx_o {b : Nat → Nat} {E p j : Nat} {F : JV} (h : j < 5) : cNx b E p F j = F j := by
  unfold cNx
  rw [w1_ne (by omega), w1_ne (by omega), w1_ne (by omega), w1_ne (by omega)]
section M74
variable {Γ : Gam} {d : Nat} {T : JT} {R S : JR} {I C : JI} {L : JL} {D : JD} {z : Option Nat} {pa E p : Nat} {F : JV} {b : Nat → Nat}
theorem ex_fail (hp : hPa T R pa) (hb : pB_ C b E) (hpE : p ≤ E) (ha : cAt b E p F) {c : Int32} : Ex Γ (d + 6) Y_X2_fail [.ref pa, .int c] (T, R, S, blk 2 I pa (st C 0 F), L, D, none) 1 6 (rX xIAE (T, R, S, blk 2 I pa (st C 0 (w1 (w1 F 0 c) 1 (nI (tS b E p)))), L, D, none)) := by
  refine Ex.of (by decide) (by simp [Value.category]) (Nat.le_of_ble_eq_true rfl) rfl ?_
  refine jj_aload_n (q := 1) dX2_fail_0 rfl rfl rfl ?_
  refine jj_iload_n (q := 2) dX2_fail_1 rfl rfl rfl ?_
  refine jj_putIv (q := 5) dX2_fail_2 fl_X2_9 hp.t0 p2_wr rfl rfl rfl rfl rfl ?_
  refine jj_aload_n (q := 6) dX2_fail_5 rfl rfl rfl ?_
  refine jj_aload_n (q := 7) dX2_fail_6 rfl rfl rfl ?_
  refine jj_getIw (v := nI (tS b E p)) (q := 10) dX2_fail_7 fl_X2_34 hp.t0 (by rw [p2_rd, w1_ne (by omega)]; exact ha.2.2.2.1) rfl rfl ?_
  refine jj_putIv (q := 13) dX2_fail_10 fl_X2_15 hp.t0 p2_wr rfl rfl rfl rfl rfl ?_
  refine jj_throw xok_4 ks_X2_255 rfl dX2_fail_13 dX2_fail_16 dX2_fail_17 dX2_fail_19 dX2_fail_22 (by show 5 < _ + _; omega) (by show 90 ≤ 40 * (_ + _); omega) (by decide) ⟨Nat.le_refl _, Nat.le_refl _⟩ (Nat.le_refl _) (Nat.le_refl _) ?_
  exact ⟨rfl, rfl⟩
theorem ex_isSign (hp : hPa T R pa) (hb : pB_ C b E) (hpE : p ≤ E) (ha : cAt b E p F) {c : Nat} (hc : c < 128) : Ex Γ d Y_X2_isSign [.ref pa, .int (nI c)] (T, R, S, blk 2 I pa (st C 0 F), L, D, z) 0 0 (rI (if isS b E p c = true then 1 else 0) (T, R, S, blk 2 I pa (st C 0 F), L, D, z)) := by
  have hk := tK_le b E p
  have hiff : isS b E p c = true ↔ (tK b E p = 3 ∧ tV b E p = c) := decide_eq_true_iff
  by_cases h3 : tK b E p = 3
  · have h8 := ha.2.2.2.2.2 h3
    have hv : tV b E p < 256 := by
      have hG := tK_G h3
      have := (hb.2 _ hG.2.2.2).2
      unfold tV
      rw [if_neg hG.2.2.1]
      exact this
    refine Ex.of (by decide) (by simp [Value.category]) (Nat.le_of_ble_eq_true rfl) rfl ?_
    refine jj_aload_n (q := 1) dX2_isSign_0 rfl rfl rfl ?_
    refine jj_getIw (v := nI (tK b E p)) (q := 4) dX2_isSign_1 fl_X2_31 hp.t0 (by rw [p2_rd]; exact ha.2.2.1) rfl rfl ?_
    refine jj_iconst (v := 3) (q := 5) dX2_isSign_4 rfl rfl ?_
    refine jj_icmp_ne (q := 8) (tgt := 20) dX2_isSign_5 rfl rfl (fun h5 => by exfalso; exact h5 (by rw [h3]; rfl)) (fun h5 => ?_)
    refine jj_aload_n (q := 9) dX2_isSign_8 rfl rfl rfl ?_
    refine jj_getIw (v := nI (tV b E p)) (q := 12) dX2_isSign_9 fl_X2_37 hp.t0 (by rw [p2_rd]; exact h8) rfl rfl ?_
    refine jj_iload_n (q := 13) dX2_isSign_12 rfl rfl rfl ?_
    refine jj_icmp_ne (q := 16) (tgt := 20) dX2_isSign_13 rfl rfl (fun h13 => ?_) (fun h13 => ?_)
    · refine jj_iconst (v := 0) (q := 21) dX2_isSign_20 rfl rfl ?_
      refine jj_zret dX2_isSign_21 rfl (by first | rfl | assumption) (Nat.zero_le _) (Nat.zero_le _) ?_
      exact ⟨by rw [if_neg (fun w => h13 (by rw [(hiff.mp w).2]))], rfl⟩
    · refine jj_iconst (v := 1) (q := 17) dX2_isSign_16 rfl rfl ?_
      refine jj_goto (tgt := 21) dX2_isSign_17 rfl ?_
      refine jj_zret dX2_isSign_21 rfl (by first | rfl | assumption) (Nat.zero_le _) (Nat.zero_le _) ?_
      exact ⟨by rw [if_pos (hiff.mpr ⟨h3, nI_inj' (by omega) (by omega) h13⟩)], rfl⟩
  · rw [if_neg (fun w => h3 (hiff.mp w).1)]
    refine Ex.of (by decide) (by simp [Value.category]) (Nat.le_of_ble_eq_true rfl) rfl ?_
    refine jj_aload_n (q := 1) dX2_isSign_0 rfl rfl rfl ?_
    refine jj_getIw (v := nI (tK b E p)) (q := 4) dX2_isSign_1 fl_X2_31 hp.t0 (by rw [p2_rd]; exact ha.2.2.1) rfl rfl ?_
    refine jj_iconst (v := 3) (q := 5) dX2_isSign_4 rfl rfl ?_
    refine jj_icmp_ne (q := 8) (tgt := 20) dX2_isSign_5 rfl rfl (fun h5 => ?_) (fun h5 => by exfalso; exact h3 (nI_inj' (by omega) (by omega) h5))
    refine jj_iconst (v := 0) (q := 21) dX2_isSign_20 rfl rfl ?_
    refine jj_zret dX2_isSign_21 rfl (by first | rfl | assumption) (Nat.zero_le _) (Nat.zero_le _) ?_
    exact ⟨rfl, rfl⟩
theorem tx_p {tx : String} {l : List Nat} (hl : sTx tx = l.map nI) (h128 : ∀ i, i < l.length → l.getD i 0 < 128) (hl8 : l.length ≤ 8) : pTx tx ∧ (sTx tx).length = l.length ∧ ∀ j, j < l.length → (sTx tx).getD j 0 = nI (l.getD j 0) := by
  have e : ∀ j, j < l.length → (sTx tx).getD j 0 = nI (l.getD j 0) := fun j hj => by
    rw [hl, List.getD_eq_getElem?_getD, List.getElem?_map, List.getD_eq_getElem?_getD, List.getElem?_eq_getElem hj]
    rfl
  have hn : (sTx tx).length = l.length := by rw [hl, List.length_map]
  exact ⟨⟨by omega, fun j hj => ⟨_, h128 j (by omega), e j (by omega)⟩⟩, hn, e⟩
theorem sgB_inj {v c : Nat} (hv : v < 256) (hc : c < 128) : sgB v = nI c ↔ v = c := by
  by_cases h : v < 128
  · rw [sgB_s h]
    exact ⟨fun w => nI_inj' (by omega) (by omega) w, fun w => by rw [w]⟩
  · have := sgB_n v hv (by omega)
    exact ⟨fun w => absurd (by rw [w] at this; exact this) (nI_ltz (by omega)), fun w => by omega⟩
theorem lp_isWord (hp : hPa T R pa) (hb : pB_ C b E) (hpE : p ≤ E) (ha : cAt b E p F) {own tx : String} {i2 : Nat} (hs : Cond.stringRef own i2 tx ∈ lw_tbl) {l : List Nat} (hl : sTx tx = l.map nI) (h128 : ∀ i, i < l.length → l.getD i 0 < 128) (hl8 : l.length ≤ 8) (hk : tK b E p = 1) (hlen : tN b E p - tS b E p = l.length) : ∀ (k i : Nat), (i + k = l.length ∧ ∀ j, j < i → b (tS b E p + j) = l.getD j 0) → JJ Γ (jj_E Y_X2_isWord) (jj_Z Γ (rI (if isW b E p l = true then 1 else 0) (T, R, S, blk 2 I pa (st C 0 F), L, D, z)) 0 0) (jj_rm (d + 4) 0 0) 0 0 28 [some (.ref pa), some (.ref (Γ.ss own i2)), some (.int (nI i))] [] (T, R, S, blk 2 I pa (st C 0 F), L, D, z) := by
  have htx := tx_p hl h128 hl8
  have h12 := hb.1
  have hnb := tN_bd (b := b) hpE
  have hiff : isW b E p l = true ↔ (tK b E p = 1 ∧ tN b E p - tS b E p = l.length ∧ ∀ i, i < l.length → b (tS b E p + i) = l.getD i 0) := decide_eq_true_iff
  intro k
  induction k with
  | zero =>
    intro i hi
    refine jj_iload_n (q := 29) dX2_isWord_28 rfl rfl rfl ?_
    refine jj_aload_n (q := 30) dX2_isWord_29 rfl rfl rfl ?_
    refine jj_k0i (q := 33) hs dX2_isWord_30 yk_J0_length_8abf5 mk_X2_259 (ex_length hs) rfl rfl rfl ⟨Nat.zero_le _, Nat.zero_le _⟩ ?_
    rw [htx.2.1]
    refine jj_icmp_ge (q := 36) (tgt := 77) dX2_isWord_33 rfl rfl (fun h33 => ?_) (fun h33 => absurd (nI_le (show l.length ≤ i by omega) (by omega)) h33)
    refine jj_iconst (v := 1) (q := 78) dX2_isWord_77 rfl rfl ?_
    refine jj_zret dX2_isWord_78 rfl (by first | rfl | assumption) (Nat.zero_le _) (Nat.zero_le _) ?_
    exact ⟨by rw [if_pos (hiff.mpr ⟨hk, hlen, fun j hj => hi.2 j (by omega)⟩)], rfl⟩
  | succ k ih =>
    intro i hi
    have hv := hb.2 (tS b E p + i) (by omega)
    have hc := h128 i (by omega)
    refine jj_iload_n (q := 29) dX2_isWord_28 rfl rfl rfl ?_
    refine jj_aload_n (q := 30) dX2_isWord_29 rfl rfl rfl ?_
    refine jj_k0i (q := 33) hs dX2_isWord_30 yk_J0_length_8abf5 mk_X2_259 (ex_length hs) rfl rfl rfl ⟨Nat.zero_le _, Nat.zero_le _⟩ ?_
    rw [htx.2.1]
    refine jj_icmp_ge (q := 36) (tgt := 77) dX2_isWord_33 rfl rfl (fun h33 => absurd h33 (nI_ge (show i < l.length by omega) (by omega))) (fun h33 => ?_)
    refine jj_aload_n (q := 37) dX2_isWord_36 rfl rfl rfl ?_
    refine jj_getIw (v := nI (tS b E p)) (q := 40) dX2_isWord_37 fl_X2_34 hp.t0 (by rw [p2_rd]; exact ha.2.2.2.1) rfl rfl ?_
    refine jj_iload_n (q := 41) dX2_isWord_40 rfl rfl rfl ?_
    refine jj_iaddN (q := 42) (a := tS b E p) (b := i) dX2_isWord_41 rfl rfl rfl ?_
    refine jj_aload_n (q := 43) dX2_isWord_42 rfl rfl rfl ?_
    refine jj_getR (q := 46) dX2_isWord_43 fl_X2_21 hp.t0 hp.r0_3 rfl rfl rfl ?_
    refine jj_alen (q := 47) dX2_isWord_46 hp.t1 (by decide) rfl rfl ?_
    refine jj_icmp_ge (q := 50) (tgt := 77) dX2_isWord_47 rfl rfl (fun h47 => absurd h47 (nI_ge (show tS b E p + i < 1200 by omega) (by omega))) (fun h47 => ?_)
    refine jj_aload_n (q := 51) dX2_isWord_50 rfl rfl rfl ?_
    refine jj_getR (q := 54) dX2_isWord_51 fl_X2_21 hp.t0 hp.r0_3 rfl rfl rfl ?_
    refine jj_aload_n (q := 55) dX2_isWord_54 rfl rfl rfl ?_
    refine jj_getIw (v := nI (tS b E p)) (q := 58) dX2_isWord_55 fl_X2_34 hp.t0 (by rw [p2_rd]; exact ha.2.2.2.1) rfl rfl ?_
    refine jj_iload_n (q := 59) dX2_isWord_58 rfl rfl rfl ?_
    refine jj_iaddN (q := 60) (a := tS b E p) (b := i) dX2_isWord_59 rfl rfl rfl ?_
    refine jj_baldv (q := 61) dX2_isWord_60 hp.t1 p2_rb (nI_in (show tS b E p + i < 1200 by omega) (by omega)) rfl ?_
    rw [nI_clamp (show tS b E p + i < 2 ^ 31 by omega), hv.1]
    refine jj_aload_n (q := 62) dX2_isWord_61 rfl rfl rfl ?_
    refine jj_iload_n (q := 63) dX2_isWord_62 rfl rfl rfl ?_
    refine jj_k1i (q := 66) hs dX2_isWord_63 yk_J0_charAt_5068e mk_X2_263 (ex_charAt hs htx.1 (show i < (sTx tx).length by omega)) rfl rfl rfl ⟨Nat.zero_le _, Nat.zero_le _⟩ ?_
    rw [htx.2.2 i (by omega)]
    refine jj_icmp_eq (q := 69) (tgt := 71) dX2_isWord_66 rfl rfl (fun h66 => ?_) (fun h66 => ?_)
    · refine jj_iinc (v := nI (i + 1)) (q := 74) dX2_isWord_71 rfl (nI_incn i 1 rfl) (by decide) rfl ?_
      refine jj_goto (tgt := 28) dX2_isWord_74 rfl ?_
      refine ih (i + 1) ⟨by omega, fun j hj => ?_⟩
      by_cases e : j = i
      · subst e; exact (sgB_inj hv.2 hc).mp h66
      · exact hi.2 j (by omega)
    · refine jj_iconst (v := 0) (q := 70) dX2_isWord_69 rfl rfl ?_
      refine jj_zret dX2_isWord_70 rfl (by first | rfl | assumption) (Nat.zero_le _) (Nat.zero_le _) ?_
      exact ⟨by rw [if_neg (fun w => h66 ((sgB_inj hv.2 hc).mpr ((hiff.mp w).2.2 i (by omega))))], rfl⟩
theorem ex_isWord (hp : hPa T R pa) (hb : pB_ C b E) (hpE : p ≤ E) (ha : cAt b E p F) {own tx : String} {i2 : Nat} (hs : Cond.stringRef own i2 tx ∈ lw_tbl) {l : List Nat} (hl : sTx tx = l.map nI) (h128 : ∀ i, i < l.length → l.getD i 0 < 128) (hl8 : l.length ≤ 8) : Ex Γ (d + 4) Y_X2_isWord [.ref pa, .ref (Γ.ss own i2)] (T, R, S, blk 2 I pa (st C 0 F), L, D, z) 0 0 (rI (if isW b E p l = true then 1 else 0) (T, R, S, blk 2 I pa (st C 0 F), L, D, z)) := by
  have htx := tx_p hl h128 hl8
  have h12 := hb.1
  have hnb := tN_bd (b := b) hpE
  have hk4 := tK_le b E p
  have hiff : isW b E p l = true ↔ (tK b E p = 1 ∧ tN b E p - tS b E p = l.length ∧ ∀ i, i < l.length → b (tS b E p + i) = l.getD i 0) := decide_eq_true_iff
  by_cases hk : tK b E p = 1
  · by_cases hlen : tN b E p - tS b E p = l.length
    · skip
      refine Ex.of (by decide) (by simp [Value.category]) (Nat.le_of_ble_eq_true rfl) rfl ?_
      refine jj_aload_n (q := 1) dX2_isWord_0 rfl rfl rfl ?_
      refine jj_getIw (v := nI (tK b E p)) (q := 4) dX2_isWord_1 fl_X2_31 hp.t0 (by rw [p2_rd]; exact ha.2.2.1) rfl rfl ?_
      refine jj_iconst (v := 1) (q := 5) dX2_isWord_4 rfl rfl ?_
      refine jj_icmp_ne (q := 8) (tgt := 24) dX2_isWord_5 rfl rfl (fun h5 => by exfalso; exact h5 (by rw [hk]; rfl)) (fun h5 => ?_)
      refine jj_aload_n (q := 9) dX2_isWord_8 rfl rfl rfl ?_
      refine jj_getIw (v := nI (tN b E p)) (q := 12) dX2_isWord_9 fl_X2_28 hp.t0 (by rw [p2_rd]; exact ha.2.1) rfl rfl ?_
      refine jj_aload_n (q := 13) dX2_isWord_12 rfl rfl rfl ?_
      refine jj_getIw (v := nI (tS b E p)) (q := 16) dX2_isWord_13 fl_X2_34 hp.t0 (by rw [p2_rd]; exact ha.2.2.2.1) rfl rfl ?_
      refine jj_isubN (q := 17) (e := tN b E p - tS b E p) (a := tN b E p) (b := tS b E p) dX2_isWord_16 rfl rfl (by omega) rfl ?_
      refine jj_aload_n (q := 18) dX2_isWord_17 rfl rfl rfl ?_
      refine jj_k0i (q := 21) hs dX2_isWord_18 yk_J0_length_8abf5 mk_X2_259 (ex_length hs) rfl rfl rfl ⟨Nat.zero_le _, Nat.zero_le _⟩ ?_
      rw [htx.2.1]
      refine jj_icmp_eq (q := 24) (tgt := 26) dX2_isWord_21 rfl rfl (fun h21 => ?_) (fun h21 => absurd (by rw [hlen]) h21)
      refine jj_iconst (v := 0) (q := 27) dX2_isWord_26 rfl rfl ?_
      refine jj_istore_n (q := 28) dX2_isWord_27 rfl (by decide) rfl ?_
      exact lp_isWord hp hb hpE ha hs hl h128 hl8 hk hlen l.length 0 ⟨by omega, fun j hj => by omega⟩
    · rw [if_neg (fun w => hlen (hiff.mp w).2.1)]
      refine Ex.of (by decide) (by simp [Value.category]) (Nat.le_of_ble_eq_true rfl) rfl ?_
      refine jj_aload_n (q := 1) dX2_isWord_0 rfl rfl rfl ?_
      refine jj_getIw (v := nI (tK b E p)) (q := 4) dX2_isWord_1 fl_X2_31 hp.t0 (by rw [p2_rd]; exact ha.2.2.1) rfl rfl ?_
      refine jj_iconst (v := 1) (q := 5) dX2_isWord_4 rfl rfl ?_
      refine jj_icmp_ne (q := 8) (tgt := 24) dX2_isWord_5 rfl rfl (fun h5 => by exfalso; exact h5 (by rw [hk]; rfl)) (fun h5 => ?_)
      refine jj_aload_n (q := 9) dX2_isWord_8 rfl rfl rfl ?_
      refine jj_getIw (v := nI (tN b E p)) (q := 12) dX2_isWord_9 fl_X2_28 hp.t0 (by rw [p2_rd]; exact ha.2.1) rfl rfl ?_
      refine jj_aload_n (q := 13) dX2_isWord_12 rfl rfl rfl ?_
      refine jj_getIw (v := nI (tS b E p)) (q := 16) dX2_isWord_13 fl_X2_34 hp.t0 (by rw [p2_rd]; exact ha.2.2.2.1) rfl rfl ?_
      refine jj_isubN (q := 17) (e := tN b E p - tS b E p) (a := tN b E p) (b := tS b E p) dX2_isWord_16 rfl rfl (by omega) rfl ?_
      refine jj_aload_n (q := 18) dX2_isWord_17 rfl rfl rfl ?_
      refine jj_k0i (q := 21) hs dX2_isWord_18 yk_J0_length_8abf5 mk_X2_259 (ex_length hs) rfl rfl rfl ⟨Nat.zero_le _, Nat.zero_le _⟩ ?_
      rw [htx.2.1]
      refine jj_icmp_eq (q := 24) (tgt := 26) dX2_isWord_21 rfl rfl (fun h21 => absurd h21 (fun w => hlen (nI_inj' (by omega) (by omega) w))) (fun h21 => ?_)
      refine jj_iconst (v := 0) (q := 25) dX2_isWord_24 rfl rfl ?_
      refine jj_zret dX2_isWord_25 rfl (by first | rfl | assumption) (Nat.zero_le _) (Nat.zero_le _) ?_
      exact ⟨rfl, rfl⟩
  · rw [if_neg (fun w => hk (hiff.mp w).1)]
    refine Ex.of (by decide) (by simp [Value.category]) (Nat.le_of_ble_eq_true rfl) rfl ?_
    refine jj_aload_n (q := 1) dX2_isWord_0 rfl rfl rfl ?_
    refine jj_getIw (v := nI (tK b E p)) (q := 4) dX2_isWord_1 fl_X2_31 hp.t0 (by rw [p2_rd]; exact ha.2.2.1) rfl rfl ?_
    refine jj_iconst (v := 1) (q := 5) dX2_isWord_4 rfl rfl ?_
    refine jj_icmp_ne (q := 8) (tgt := 24) dX2_isWord_5 rfl rfl (fun h5 => ?_) (fun h5 => by exfalso; exact hk (nI_inj' (by omega) (by omega) h5))
    refine jj_iconst (v := 0) (q := 25) dX2_isWord_24 rfl rfl ?_
    refine jj_zret dX2_isWord_25 rfl (by first | rfl | assumption) (Nat.zero_le _) (Nat.zero_le _) ?_
    exact ⟨rfl, rfl⟩
/-- the two ends of a reading -/
def rRs {α : Type} (r : Res α) (B : Nat → Nat → JM) (V : α → Option Value) (W : α → Nat → JM) : JO → JM → Prop := match r with
  | .inl e => fun o M' => o = .inr xIAE ∧ M' = B e.1 e.2
  | .inr x => fun o M' => o = .inl (V x.1) ∧ M' = W x.1 x.2
/-- a failure's memory -/
def fM_ (F : JV) (c pl : Nat) : JV := w1 (w1 F 0 (nI c)) 1 (nI pl)
theorem ex_takeNumber (hp : hPa T R pa) (hb : pB_ C b E) (hpE : p ≤ E) (ha : cAt b E p F) {lo hx : Nat} {h : Int32} (hh : h = nI hx - 1) (hlb : lo < 2 ^ 30) (hxb : hx < 2 ^ 30) : Ex Γ (d + 7) Y_X2_takeNumber [.ref pa, .int (nI lo), .int h] (T, R, S, blk 2 I pa (st C 0 F), L, D, none) (ec (eN (pNum b E lo hx p))) (es (eN (pNum b E lo hx p))) (rRs (pNum b E lo hx p) (fun c pl => (T, R, S, blk 2 I pa (st C 0 (fM_ F c pl)), L, D, none)) (fun v => some (.int (nI v))) (fun _ q => (T, R, S, blk 2 I pa (st C 0 (cNx b E q F)), L, D, none))) := by
  have hk4 := tK_le b E p
  have h12 := hb.1
  have hnb := tN_bd (b := b) hpE
  by_cases hk : tK b E p = 2
  · have h8 := ha.2.2.2.2.1 hk
    have hv := tV_lt hpE hk
    by_cases h1 : tV b E p < lo
    · rw [show pNum b E lo hx p = .inl (2, tS b E p) by unfold pNum; rw [if_pos hk, if_pos h1]]
      refine Ex.of (by decide) (by simp [Value.category]) (Nat.le_of_ble_eq_true rfl) rfl ?_
      refine jj_aload_n (q := 1) dX2_takeNumber_0 rfl rfl rfl ?_
      refine jj_getIw (v := nI (tK b E p)) (q := 4) dX2_takeNumber_1 fl_X2_31 hp.t0 (by rw [p2_rd]; exact ha.2.2.1) rfl rfl ?_
      refine jj_iconst (v := 2) (q := 5) dX2_takeNumber_4 rfl rfl ?_
      refine jj_icmp_eq (q := 8) (tgt := 13) dX2_takeNumber_5 rfl rfl (fun h5 => ?_) (fun h5 => absurd (by rw [hk]; rfl) h5)
      refine jj_aload_n (q := 14) dX2_takeNumber_13 rfl rfl rfl ?_
      refine jj_getIw (v := nI (tV b E p)) (q := 17) dX2_takeNumber_14 fl_X2_37 hp.t0 (by rw [p2_rd]; exact h8) rfl rfl ?_
      refine jj_iload_n (q := 18) dX2_takeNumber_17 rfl rfl rfl ?_
      refine jj_icmp_lt (q := 21) (tgt := 29) dX2_takeNumber_18 rfl rfl (fun h18 => ?_) (fun h18 => absurd (nI_lt h1 (by omega)) h18)
      refine jj_aload_n (q := 30) dX2_takeNumber_29 rfl rfl rfl ?_
      refine jj_iconst (v := 2) (q := 31) dX2_takeNumber_30 rfl rfl ?_
      refine jj_xV1 (q := 34) dX2_takeNumber_31 yk_X2_fail ml_X2_72 hp.t0 (ex_fail hp hb hpE ha (c := 2)) rfl rfl rfl ⟨Nat.le_refl _, Nat.le_refl _⟩ rfl (Nat.le_refl _) (Nat.le_refl _) ?_
      exact ⟨rfl, rfl⟩
    · by_cases h2 : tV b E p < hx
      · rw [show pNum b E lo hx p = .inr (tV b E p, tN b E p) by unfold pNum; rw [if_pos hk, if_neg h1, if_pos h2]]
        have hle : ¬ h < nI (tV b E p) := fun w => by rw [hh] at w; exact nI_ge h2 (by omega) ((pred_lt (by omega) (nI_ltz (by omega))).mp w)
        refine Ex.of (by decide) (by simp [Value.category]) (Nat.le_of_ble_eq_true rfl) rfl ?_
        refine jj_aload_n (q := 1) dX2_takeNumber_0 rfl rfl rfl ?_
        refine jj_getIw (v := nI (tK b E p)) (q := 4) dX2_takeNumber_1 fl_X2_31 hp.t0 (by rw [p2_rd]; exact ha.2.2.1) rfl rfl ?_
        refine jj_iconst (v := 2) (q := 5) dX2_takeNumber_4 rfl rfl ?_
        refine jj_icmp_eq (q := 8) (tgt := 13) dX2_takeNumber_5 rfl rfl (fun h5 => ?_) (fun h5 => absurd (by rw [hk]; rfl) h5)
        refine jj_aload_n (q := 14) dX2_takeNumber_13 rfl rfl rfl ?_
        refine jj_getIw (v := nI (tV b E p)) (q := 17) dX2_takeNumber_14 fl_X2_37 hp.t0 (by rw [p2_rd]; exact h8) rfl rfl ?_
        refine jj_iload_n (q := 18) dX2_takeNumber_17 rfl rfl rfl ?_
        refine jj_icmp_lt (q := 21) (tgt := 29) dX2_takeNumber_18 rfl rfl (fun h18 => absurd h18 (nI_nlt (by omega) (by omega))) (fun h18 => ?_)
        refine jj_aload_n (q := 22) dX2_takeNumber_21 rfl rfl rfl ?_
        refine jj_getIw (v := nI (tV b E p)) (q := 25) dX2_takeNumber_22 fl_X2_37 hp.t0 (by rw [p2_rd]; exact h8) rfl rfl ?_
        refine jj_iload_n (q := 26) dX2_takeNumber_25 rfl rfl rfl ?_
        refine jj_icmp_le (q := 29) (tgt := 34) dX2_takeNumber_26 rfl rfl (fun h26 => ?_) (fun h26 => absurd (Int32.not_lt.mp hle) h26)
        refine jj_aload_n (q := 35) dX2_takeNumber_34 rfl rfl rfl ?_
        refine jj_getIw (v := nI (tV b E p)) (q := 38) dX2_takeNumber_35 fl_X2_37 hp.t0 (by rw [p2_rd]; exact h8) rfl rfl ?_
        refine jj_istore_n (q := 39) dX2_takeNumber_38 rfl (by decide) rfl ?_
        refine jj_aload_n (q := 40) dX2_takeNumber_39 rfl rfl rfl ?_
        refine jj_cV0v (q := 43) dX2_takeNumber_40 yk_X2_step ml_X2_58 hp.t0 (ex_step hp hb ha.1 hnb.2.1 ha.2.1) rfl rfl rfl ⟨Nat.zero_le _, Nat.zero_le _⟩ ?_
        refine jj_iload_n (q := 44) dX2_takeNumber_43 rfl rfl rfl ?_
        refine jj_iret dX2_takeNumber_44 rfl (Nat.zero_le _) (Nat.zero_le _) ?_
        exact ⟨rfl, rfl⟩
      · rw [show pNum b E lo hx p = .inl (2, tS b E p) by unfold pNum; rw [if_pos hk, if_neg h1, if_neg h2]]
        have hle : h < nI (tV b E p) := by rw [hh]; exact (pred_lt (by omega) (nI_ltz (by omega))).mpr (nI_le (by omega) (by omega))
        refine Ex.of (by decide) (by simp [Value.category]) (Nat.le_of_ble_eq_true rfl) rfl ?_
        refine jj_aload_n (q := 1) dX2_takeNumber_0 rfl rfl rfl ?_
        refine jj_getIw (v := nI (tK b E p)) (q := 4) dX2_takeNumber_1 fl_X2_31 hp.t0 (by rw [p2_rd]; exact ha.2.2.1) rfl rfl ?_
        refine jj_iconst (v := 2) (q := 5) dX2_takeNumber_4 rfl rfl ?_
        refine jj_icmp_eq (q := 8) (tgt := 13) dX2_takeNumber_5 rfl rfl (fun h5 => ?_) (fun h5 => absurd (by rw [hk]; rfl) h5)
        refine jj_aload_n (q := 14) dX2_takeNumber_13 rfl rfl rfl ?_
        refine jj_getIw (v := nI (tV b E p)) (q := 17) dX2_takeNumber_14 fl_X2_37 hp.t0 (by rw [p2_rd]; exact h8) rfl rfl ?_
        refine jj_iload_n (q := 18) dX2_takeNumber_17 rfl rfl rfl ?_
        refine jj_icmp_lt (q := 21) (tgt := 29) dX2_takeNumber_18 rfl rfl (fun h18 => absurd h18 (nI_nlt (by omega) (by omega))) (fun h18 => ?_)
        refine jj_aload_n (q := 22) dX2_takeNumber_21 rfl rfl rfl ?_
        refine jj_getIw (v := nI (tV b E p)) (q := 25) dX2_takeNumber_22 fl_X2_37 hp.t0 (by rw [p2_rd]; exact h8) rfl rfl ?_
        refine jj_iload_n (q := 26) dX2_takeNumber_25 rfl rfl rfl ?_
        refine jj_icmp_le (q := 29) (tgt := 34) dX2_takeNumber_26 rfl rfl (fun h26 => absurd h26 (Int32.not_le.mpr hle)) (fun h26 => ?_)
        refine jj_aload_n (q := 30) dX2_takeNumber_29 rfl rfl rfl ?_
        refine jj_iconst (v := 2) (q := 31) dX2_takeNumber_30 rfl rfl ?_
        refine jj_xV1 (q := 34) dX2_takeNumber_31 yk_X2_fail ml_X2_72 hp.t0 (ex_fail hp hb hpE ha (c := 2)) rfl rfl rfl ⟨Nat.le_refl _, Nat.le_refl _⟩ rfl (Nat.le_refl _) (Nat.le_refl _) ?_
        exact ⟨rfl, rfl⟩
  · rw [show pNum b E lo hx p = .inl (1, tS b E p) by unfold pNum; rw [if_neg hk]]
    refine Ex.of (by decide) (by simp [Value.category]) (Nat.le_of_ble_eq_true rfl) rfl ?_
    refine jj_aload_n (q := 1) dX2_takeNumber_0 rfl rfl rfl ?_
    refine jj_getIw (v := nI (tK b E p)) (q := 4) dX2_takeNumber_1 fl_X2_31 hp.t0 (by rw [p2_rd]; exact ha.2.2.1) rfl rfl ?_
    refine jj_iconst (v := 2) (q := 5) dX2_takeNumber_4 rfl rfl ?_
    refine jj_icmp_eq (q := 8) (tgt := 13) dX2_takeNumber_5 rfl rfl (fun h5 => absurd h5 (fun w => hk (nI_inj' (by omega) (by omega) w))) (fun h5 => ?_)
    refine jj_aload_n (q := 9) dX2_takeNumber_8 rfl rfl rfl ?_
    refine jj_iconst (v := 1) (q := 10) dX2_takeNumber_9 rfl rfl ?_
    refine jj_xV1 (q := 13) dX2_takeNumber_10 yk_X2_fail ml_X2_72 hp.t0 (ex_fail hp hb hpE ha (c := 1)) rfl rfl rfl ⟨Nat.le_refl _, Nat.le_refl _⟩ rfl (Nat.le_refl _) (Nat.le_refl _) ?_
    exact ⟨rfl, rfl⟩
theorem ex_takeWord (hp : hPa T R pa) (hb : pB_ C b E) (hpE : p ≤ E) (ha : cAt b E p F) {own tx : String} {i2 : Nat} (hs : Cond.stringRef own i2 tx ∈ lw_tbl) {l : List Nat} (hl : sTx tx = l.map nI) (h128 : ∀ i, i < l.length → l.getD i 0 < 128) (hl8 : l.length ≤ 8) : Ex Γ (d + 7) Y_X2_takeWord [.ref pa, .ref (Γ.ss own i2)] (T, R, S, blk 2 I pa (st C 0 F), L, D, none) (ec (eN (pWd b E l p))) (es (eN (pWd b E l p))) (rRs (pWd b E l p) (fun c pl => (T, R, S, blk 2 I pa (st C 0 (fM_ F c pl)), L, D, none)) (fun _ => none) (fun _ q => (T, R, S, blk 2 I pa (st C 0 (cNx b E q F)), L, D, none))) := by
  have hk4 := tK_le b E p
  have h12 := hb.1
  have hnb := tN_bd (b := b) hpE
  by_cases hw : isW b E p l = true
  · rw [show pWd b E l p = .inr ((), tN b E p) from if_pos hw]
    refine Ex.of (by decide) (by simp [Value.category]) (Nat.le_of_ble_eq_true rfl) rfl ?_
    refine jj_aload_n (q := 1) dX2_takeWord_0 rfl rfl rfl ?_
    refine jj_aload_n (q := 2) dX2_takeWord_1 rfl rfl rfl ?_
    refine jj_cV1i (q := 5) dX2_takeWord_2 yk_X2_isWord ml_X2_131 hp.t0 (ex_isWord hp hb hpE ha hs hl h128 hl8) rfl rfl rfl ⟨Nat.zero_le _, Nat.zero_le _⟩ ?_
    refine jj_if_ne (q := 8) (tgt := 13) dX2_takeWord_5 rfl rfl (fun h5 => ?_) (fun h5 => by exfalso; exact absurd h5 (by rw [if_pos hw]; decide))
    refine jj_aload_n (q := 14) dX2_takeWord_13 rfl rfl rfl ?_
    refine jj_cV0v (q := 17) dX2_takeWord_14 yk_X2_step ml_X2_58 hp.t0 (ex_step hp hb ha.1 hnb.2.1 ha.2.1) rfl rfl rfl ⟨Nat.zero_le _, Nat.zero_le _⟩ ?_
    refine jj_vret dX2_takeWord_17 rfl (Nat.zero_le _) (Nat.zero_le _) ?_
    exact ⟨rfl, rfl⟩
  · rw [show pWd b E l p = .inl (1, tS b E p) from if_neg hw]
    refine Ex.of (by decide) (by simp [Value.category]) (Nat.le_of_ble_eq_true rfl) rfl ?_
    refine jj_aload_n (q := 1) dX2_takeWord_0 rfl rfl rfl ?_
    refine jj_aload_n (q := 2) dX2_takeWord_1 rfl rfl rfl ?_
    refine jj_cV1i (q := 5) dX2_takeWord_2 yk_X2_isWord ml_X2_131 hp.t0 (ex_isWord hp hb hpE ha hs hl h128 hl8) rfl rfl rfl ⟨Nat.zero_le _, Nat.zero_le _⟩ ?_
    refine jj_if_ne (q := 8) (tgt := 13) dX2_takeWord_5 rfl rfl (fun h5 => by exfalso; exact h5 (if_neg hw)) (fun h5 => ?_)
    refine jj_aload_n (q := 9) dX2_takeWord_8 rfl rfl rfl ?_
    refine jj_iconst (v := 1) (q := 10) dX2_takeWord_9 rfl rfl ?_
    refine jj_xV1 (q := 13) dX2_takeWord_10 yk_X2_fail ml_X2_72 hp.t0 (ex_fail hp hb hpE ha (c := 1)) rfl rfl rfl ⟨Nat.le_refl _, Nat.le_refl _⟩ rfl (Nat.le_refl _) (Nat.le_refl _) ?_
    exact ⟨rfl, rfl⟩
theorem ex_takeSign (hp : hPa T R pa) (hb : pB_ C b E) (hpE : p ≤ E) (ha : cAt b E p F) {c : Nat} (hc : c < 128) : Ex Γ (d + 7) Y_X2_takeSign [.ref pa, .int (nI c)] (T, R, S, blk 2 I pa (st C 0 F), L, D, none) (ec (eN (pSg b E c p))) (es (eN (pSg b E c p))) (rRs (pSg b E c p) (fun c pl => (T, R, S, blk 2 I pa (st C 0 (fM_ F c pl)), L, D, none)) (fun _ => none) (fun _ q => (T, R, S, blk 2 I pa (st C 0 (cNx b E q F)), L, D, none))) := by
  have hk4 := tK_le b E p
  have h12 := hb.1
  have hnb := tN_bd (b := b) hpE
  by_cases hw : isS b E p c = true
  · rw [show pSg b E c p = .inr ((), tN b E p) from if_pos hw]
    refine Ex.of (by decide) (by simp [Value.category]) (Nat.le_of_ble_eq_true rfl) rfl ?_
    refine jj_aload_n (q := 1) dX2_takeSign_0 rfl rfl rfl ?_
    refine jj_iload_n (q := 2) dX2_takeSign_1 rfl rfl rfl ?_
    refine jj_cV1i (q := 5) dX2_takeSign_2 yk_X2_isSign ml_X2_65 hp.t0 (ex_isSign hp hb hpE ha hc) rfl rfl rfl ⟨Nat.zero_le _, Nat.zero_le _⟩ ?_
    refine jj_if_ne (q := 8) (tgt := 13) dX2_takeSign_5 rfl rfl (fun h5 => ?_) (fun h5 => by exfalso; exact absurd h5 (by rw [if_pos hw]; decide))
    refine jj_aload_n (q := 14) dX2_takeSign_13 rfl rfl rfl ?_
    refine jj_cV0v (q := 17) dX2_takeSign_14 yk_X2_step ml_X2_58 hp.t0 (ex_step hp hb ha.1 hnb.2.1 ha.2.1) rfl rfl rfl ⟨Nat.zero_le _, Nat.zero_le _⟩ ?_
    refine jj_vret dX2_takeSign_17 rfl (Nat.zero_le _) (Nat.zero_le _) ?_
    exact ⟨rfl, rfl⟩
  · rw [show pSg b E c p = .inl (1, tS b E p) from if_neg hw]
    refine Ex.of (by decide) (by simp [Value.category]) (Nat.le_of_ble_eq_true rfl) rfl ?_
    refine jj_aload_n (q := 1) dX2_takeSign_0 rfl rfl rfl ?_
    refine jj_iload_n (q := 2) dX2_takeSign_1 rfl rfl rfl ?_
    refine jj_cV1i (q := 5) dX2_takeSign_2 yk_X2_isSign ml_X2_65 hp.t0 (ex_isSign hp hb hpE ha hc) rfl rfl rfl ⟨Nat.zero_le _, Nat.zero_le _⟩ ?_
    refine jj_if_ne (q := 8) (tgt := 13) dX2_takeSign_5 rfl rfl (fun h5 => by exfalso; exact h5 (if_neg hw)) (fun h5 => ?_)
    refine jj_aload_n (q := 9) dX2_takeSign_8 rfl rfl rfl ?_
    refine jj_iconst (v := 1) (q := 10) dX2_takeSign_9 rfl rfl ?_
    refine jj_xV1 (q := 13) dX2_takeSign_10 yk_X2_fail ml_X2_72 hp.t0 (ex_fail hp hb hpE ha (c := 1)) rfl rfl rfl ⟨Nat.le_refl _, Nat.le_refl _⟩ rfl (Nat.le_refl _) (Nat.le_refl _) ?_
    exact ⟨rfl, rfl⟩
end M74
