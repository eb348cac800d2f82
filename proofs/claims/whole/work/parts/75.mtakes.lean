/-! WORDS, SIGNS, NUMBERS of the model: at a position, or behind a fault -/
def mAt (b : Nat → Nat) (E p : Nat) (G : JV) : Prop := G 4 = nI (tN b E p) ∧ G 5 = 0 ∧ G 7 = nI (mKd (tK b E p)) ∧ G 8 = nI (tS b E p) ∧ (tK b E p = 2 → G 9 = nI (tV b E p)) ∧ (tK b E p = 3 → G 9 = nI (tV b E p)) ∧ G 6 = -1
def mSt (b : Nat → Nat) (E : Nat) (r : Res Unit) (G : JV) : Prop := G 3 = nI E ∧ match r with
  | .inl e => G 5 = nI e.1 ∧ G 6 = nI e.2 ∧ 1 ≤ e.1 ∧ e.1 < 8
  | .inr x => x.2 ≤ E ∧ mAt b E x.2 G
def fG (G : JV) (c pl : Nat) : JV := w1 (w1 G 5 (nI c)) 6 (nI pl)
/-- on to the next token; a fault -/
def rN (b : Nat → Nat) (E : Nat) (r : Res Unit) : Res Unit := r.bd (fun _ p => .inr ((), tN b E p))
def rF_ (b : Nat → Nat) (E c : Nat) (r : Res Unit) : Res Unit := r.bd (fun _ p => .inl (c, tS b E p))
def gN (b : Nat → Nat) (E : Nat) (r : Res Unit) (G : JV) : JV := match r with
  | .inl _ => G
  | .inr x => mNx b E (tN b E x.2) G
def gF (b : Nat → Nat) (E c : Nat) (r : Res Unit) (G : JV) : JV := match r with
  | .inl _ => G
  | .inr x => fG G c (tS b E x.2)
def rS (b : Nat → Nat) (E : Nat) (r : Res Unit) (c : Nat) : Bool := match r with
  | .inl _ => false
  | .inr x => isS b E x.2 c
def rW (b : Nat → Nat) (E : Nat) (r : Res Unit) (l : List Nat) : Bool := match r with
  | .inl _ => false
  | .inr x => isW b E x.2 l
theorem mAt_nx {b : Nat → Nat} {E p : Nat} {G : JV} (h5 : G 5 = 0) (h6 : G 6 = -1) : mAt b E p (mNx b E p G) := by
  unfold mNx
  refine ⟨by rw [w1_ne (by omega), w1_ne (by omega), w1_ne (by omega), w1_eq], by rw [w1_ne (by omega), w1_ne (by omega), w1_ne (by omega), w1_ne (by omega)]; exact h5, by rw [w1_ne (by omega), w1_eq], by rw [w1_ne (by omega), w1_ne (by omega), w1_eq], fun h => ?_, fun h => ?_, by rw [w1_ne (by omega), w1_ne (by omega), w1_ne (by omega), w1_ne (by omega)]; exact h6⟩
  · have hD := tK_D h
    rw [w1_eq]
    unfold mV tV
    rw [if_neg (by omega), if_neg (fun w => by have a := of_decide_eq_true w; have c := of_decide_eq_true hD.1; omega), if_pos hD.1, if_pos hD.1, show min 5 (qN b E (tS b E p) - tS b E p) = qN b E (tS b E p) - tS b E p from Nat.min_eq_right hD.2.2]
    rfl
  · have hG := tK_G h
    rw [w1_eq]
    unfold mV tV
    rw [if_neg (by omega), if_neg hG.2.1, if_neg hG.2.2.1, if_neg hG.2.2.1]
theorem mNx_o {b : Nat → Nat} {E p j : Nat} {G : JV} (h : j < 4 ∨ 5 ≤ j ∧ j < 7 ∨ 9 < j) : mNx b E p G j = G j := by
  unfold mNx
  rw [w1_ne (by omega), w1_ne (by omega), w1_ne (by omega), w1_ne (by omega)]
theorem mSt.n {b : Nat → Nat} {E : Nat} {r : Res Unit} {G : JV} (h : mSt b E r G) : mSt b E (rN b E r) (gN b E r G) := by
  cases r with
  | inl e => exact h
  | inr x =>
    obtain ⟨h3, hx, ha⟩ := h
    have := tN_bd (b := b) hx
    exact ⟨(mNx_o (by omega)).trans h3, this.2.1, mAt_nx ha.2.1 ha.2.2.2.2.2.2⟩
theorem mSt.f {b : Nat → Nat} {E c : Nat} {r : Res Unit} {G : JV} (h : mSt b E r G) (hc : 1 ≤ c ∧ c < 8) : mSt b E (rF_ b E c r) (gF b E c r G) := by
  cases r with
  | inl e => exact h
  | inr x =>
    obtain ⟨h3, hx, ha⟩ := h
    exact ⟨by show fG G c _ 3 = _; unfold fG; rw [w1_ne (by omega), w1_ne (by omega)]; exact h3, by show fG G c _ 5 = _; unfold fG; rw [w1_ne (by omega), w1_eq], by show fG G c _ 6 = _; unfold fG; rw [w1_eq], hc⟩
theorem gN_o {b : Nat → Nat} {E j : Nat} {r : Res Unit} {G : JV} (h : j < 4 ∨ 9 < j) : gN b E r G j = G j := by
  cases r with
  | inl e => rfl
  | inr x => exact mNx_o (by omega)
theorem gF_o {b : Nat → Nat} {E c j : Nat} {r : Res Unit} {G : JV} (h : j < 5 ∨ 6 < j) : gF b E c r G j = G j := by
  cases r with
  | inl e => rfl
  | inr x => show fG G c _ j = _; unfold fG; rw [w1_ne (by omega), w1_ne (by omega)]
/-- a word that must stand here; a number -/
def rKw (b : Nat → Nat) (E : Nat) (l : List Nat) (r : Res Unit) : Res Unit := r.bd (fun _ p => pWd b E l p)
def gKw (b : Nat → Nat) (E : Nat) (l : List Nat) (r : Res Unit) (G : JV) : JV := if rW b E r l = true then gN b E r G else gF b E 1 r G
def rNu (b : Nat → Nat) (E lo hx : Nat) (r : Res Unit) : Res Nat := r.bd (fun _ p => pNum b E lo hx p)
def nV {α : Type} (lo : Nat) (r : Res Nat) : Nat := match r with
  | .inl _ => lo
  | .inr x => x.1
def rU {α : Type} (r : Res α) : Res Unit := r.bd (fun _ p => .inr ((), p))
/-- behind look: the token is still here -/
def gLk (b : Nat → Nat) (E lo hx : Nat) (r : Res Unit) (G : JV) : JV := match r with
  | .inl _ => G
  | .inr x => match pNum b E lo hx x.2 with
    | .inl e => fG G e.1 e.2
    | .inr _ => G
def rLk (b : Nat → Nat) (E lo hx : Nat) (r : Res Unit) : Res Unit := r.bd (fun _ p => (pNum b E lo hx p).bd (fun _ _ => .inr ((), p)))
theorem mSt.kw {b : Nat → Nat} {E : Nat} {l : List Nat} {r : Res Unit} {G : JV} (h : mSt b E r G) : mSt b E (rKw b E l r) (gKw b E l r G) := by
  cases r with
  | inl e =>
    show mSt b E (.inl e) (if false = true then _ else G)
    exact h
  | inr x =>
    unfold gKw
    show mSt b E (pWd b E l x.2) (if isW b E x.2 l = true then _ else _)
    unfold pWd
    by_cases hw : isW b E x.2 l = true
    · rw [if_pos hw, if_pos hw]; exact h.n
    · rw [if_neg hw, if_neg hw]; exact h.f (by omega)
theorem pNum_e {b : Nat → Nat} {E lo hx p : Nat} {e : Nat × Nat} (h : pNum b E lo hx p = .inl e) : (e.1 = 1 ∨ e.1 = 2) ∧ e.2 = tS b E p := by
  unfold pNum at h
  repeat' split at h
  all_goals cases h
  all_goals simp
theorem pNum_o {b : Nat → Nat} {E lo hx p : Nat} {x : Nat × Nat} (h : pNum b E lo hx p = .inr x) : tK b E p = 2 ∧ x = (tV b E p, tN b E p) ∧ lo ≤ x.1 ∧ x.1 < hx := by
  unfold pNum at h
  repeat' split at h
  all_goals cases h
  refine ⟨by assumption, rfl, ?_, by assumption⟩
  omega
theorem mSt.lk {b : Nat → Nat} {E lo hx : Nat} {r : Res Unit} {G : JV} (h : mSt b E r G) : mSt b E (rLk b E lo hx r) (gLk b E lo hx r G) := by
  cases r with
  | inl e => exact h
  | inr x =>
    unfold rLk gLk
    dsimp only [Res.bd]
    cases hn : pNum b E lo hx x.2 with
    | inl e =>
      have := pNum_e hn
      have hf := h.f (c := e.1) (by omega)
      have e2 : (e.1, tS b E x.2) = e := by rw [← this.2]
      show mSt b E (.inl e) (fG G e.1 e.2)
      rw [this.2, ← e2]
      exact hf
    | inr y => exact h
section M75
variable {Γ : Gam} {d : Nat} {T : JT} {R S : JR} {I A : JI} {L : JL} {D : JD} {z : Option Nat} {mo E : Nat} {G : JV} {b : Nat → Nat} {r : Res Unit}
theorem ne0 {e : Nat} (h : 1 ≤ e ∧ e < 8) : 0 < nI e := nI_ltN (a := 0) (by omega) (by omega)
theorem exM_next (hm : hMo T S mo) (hb : mB_ A b E) (hs : mSt b E r G) : Ex Γ (d + 1) Y_X9_nextToken [.ref mo] (T, R, S, blk 18 I mo (st A 0 G), L, D, z) 0 0 (rV (T, R, S, blk 18 I mo (st A 0 (gN b E r G)), L, D, z)) := by
  cases r with
  | inl e => exact ex_nextX hm (by rw [hs.2.1]; exact ne0 hs.2.2.2)
  | inr x => exact ex_next hm hb hs.1 hs.2.2.2.1 (tN_bd hs.2.1).2.1 hs.2.2.1
theorem exM_faults (hm : hMo T S mo) (hb : mB_ A b E) (hs : mSt b E r G) {c : Nat} : Ex Γ d Y_X9_faults [.ref mo, .int (nI c)] (T, R, S, blk 18 I mo (st A 0 G), L, D, z) 0 0 (rV (T, R, S, blk 18 I mo (st A 0 (gF b E c r G)), L, D, z)) := by
  cases r with
  | inl e => exact ex_faultsX hm (by rw [hs.2.1]; exact ne0 hs.2.2.2)
  | inr x =>
    have e := ex_faults (Γ := Γ) (d := d) (T := T) (R := R) (S := S) (I := I) (A := A) (L := L) (D := D) (z := z) (w := nI c) hm hs.2.2.2.1
    rw [hs.2.2.2.2.2.1] at e
    exact e
theorem exM_sign (hm : hMo T S mo) (hb : mB_ A b E) (hs : mSt b E r G) {c : Nat} (hc : c < 128) : Ex Γ d Y_X9_isSignHere [.ref mo, .int (nI c)] (T, R, S, blk 18 I mo (st A 0 G), L, D, z) 0 0 (rI (if rS b E r c = true then 1 else 0) (T, R, S, blk 18 I mo (st A 0 G), L, D, z)) := by
  cases r with
  | inl e =>
    rw [if_neg (show ¬ rS b E (.inl e) c = true by simp [rS])]
    have hne : ¬ nI e.1 = 0 := nI_ne0 (by have := hs.2.2.2; omega) (by have := hs.2.2.2; omega)
    refine Ex.of (by decide) (by simp [Value.category]) (Nat.le_of_ble_eq_true rfl) rfl ?_
    refine jj_aload_n (q := 1) dX9_isSignHere_0 rfl rfl rfl ?_
    refine jj_getIw (v := nI e.1) (q := 4) dX9_isSignHere_1 fl_X9_92 hm.t0 (by rw [g_rd]; exact hs.2.1) rfl rfl ?_
    refine jj_if_ne (q := 7) (tgt := 27) dX9_isSignHere_4 rfl rfl (fun h4 => ?_) (fun h4 => by exfalso; exact hne h4)
    refine jj_iconst (v := 0) (q := 28) dX9_isSignHere_27 rfl rfl ?_
    refine jj_zret dX9_isSignHere_28 rfl (by first | rfl | assumption) (Nat.zero_le _) (Nat.zero_le _) ?_
    exact ⟨rfl, rfl⟩
  | inr x =>
    have hk4 := tK_le b E x.2
    have ha := hs.2.2
    have hiff : isS b E x.2 c = true ↔ (tK b E x.2 = 3 ∧ tV b E x.2 = c) := decide_eq_true_iff
    show Ex Γ d _ _ _ 0 0 (rI (if isS b E x.2 c = true then 1 else 0) _)
    by_cases h3 : tK b E x.2 = 3
    · have h8 := ha.2.2.2.2.2.1 h3
      have hv : tV b E x.2 < 256 := by
        have hG := tK_G h3
        have := (hb.2 _ hG.2.2.2).2
        unfold tV
        rw [if_neg hG.2.2.1]
        exact this
      have hk : mKd (tK b E x.2) = 4 := by rw [h3]; rfl
      refine Ex.of (by decide) (by simp [Value.category]) (Nat.le_of_ble_eq_true rfl) rfl ?_
      refine jj_aload_n (q := 1) dX9_isSignHere_0 rfl rfl rfl ?_
      refine jj_getIw (v := 0) (q := 4) dX9_isSignHere_1 fl_X9_92 hm.t0 (by rw [g_rd]; exact ha.2.1) rfl rfl ?_
      refine jj_if_ne (q := 7) (tgt := 27) dX9_isSignHere_4 rfl rfl (fun h4 => by exfalso; exact h4 rfl) (fun h4 => ?_)
      refine jj_aload_n (q := 8) dX9_isSignHere_7 rfl rfl rfl ?_
      refine jj_getIw (v := nI (mKd (tK b E x.2))) (q := 11) dX9_isSignHere_8 fl_X9_108 hm.t0 (by rw [g_rd]; exact ha.2.2.1) rfl rfl ?_
      refine jj_iconst (v := 4) (q := 12) dX9_isSignHere_11 rfl rfl ?_
      refine jj_icmp_ne (q := 15) (tgt := 27) dX9_isSignHere_12 rfl rfl (fun h12 => by exfalso; exact h12 (by rw [hk]; rfl)) (fun h12 => ?_)
      refine jj_aload_n (q := 16) dX9_isSignHere_15 rfl rfl rfl ?_
      refine jj_getIw (v := nI (tV b E x.2)) (q := 19) dX9_isSignHere_16 fl_X9_115 hm.t0 (by rw [g_rd]; exact h8) rfl rfl ?_
      refine jj_iload_n (q := 20) dX9_isSignHere_19 rfl rfl rfl ?_
      refine jj_icmp_ne (q := 23) (tgt := 27) dX9_isSignHere_20 rfl rfl (fun h20 => ?_) (fun h20 => ?_)
      · refine jj_iconst (v := 0) (q := 28) dX9_isSignHere_27 rfl rfl ?_
        refine jj_zret dX9_isSignHere_28 rfl (by first | rfl | assumption) (Nat.zero_le _) (Nat.zero_le _) ?_
        exact ⟨by rw [if_neg (fun w => h20 (by rw [(hiff.mp w).2]))], rfl⟩
      · refine jj_iconst (v := 1) (q := 24) dX9_isSignHere_23 rfl rfl ?_
        refine jj_goto (tgt := 28) dX9_isSignHere_24 rfl ?_
        refine jj_zret dX9_isSignHere_28 rfl (by first | rfl | assumption) (Nat.zero_le _) (Nat.zero_le _) ?_
        exact ⟨by rw [if_pos (hiff.mpr ⟨h3, nI_inj' (by omega) (by omega) h20⟩)], rfl⟩
    · rw [if_neg (fun w => h3 (hiff.mp w).1)]
      have hk : mKd (tK b E x.2) ≠ 4 ∧ mKd (tK b E x.2) ≤ 5 := by unfold mKd; split <;> omega
      refine Ex.of (by decide) (by simp [Value.category]) (Nat.le_of_ble_eq_true rfl) rfl ?_
      refine jj_aload_n (q := 1) dX9_isSignHere_0 rfl rfl rfl ?_
      refine jj_getIw (v := 0) (q := 4) dX9_isSignHere_1 fl_X9_92 hm.t0 (by rw [g_rd]; exact ha.2.1) rfl rfl ?_
      refine jj_if_ne (q := 7) (tgt := 27) dX9_isSignHere_4 rfl rfl (fun h4 => by exfalso; exact h4 rfl) (fun h4 => ?_)
      refine jj_aload_n (q := 8) dX9_isSignHere_7 rfl rfl rfl ?_
      refine jj_getIw (v := nI (mKd (tK b E x.2))) (q := 11) dX9_isSignHere_8 fl_X9_108 hm.t0 (by rw [g_rd]; exact ha.2.2.1) rfl rfl ?_
      refine jj_iconst (v := 4) (q := 12) dX9_isSignHere_11 rfl rfl ?_
      refine jj_icmp_ne (q := 15) (tgt := 27) dX9_isSignHere_12 rfl rfl (fun h12 => ?_) (fun h12 => by exfalso; exact hk.1 (nI_inj' (by omega) (by omega) h12))
      refine jj_iconst (v := 0) (q := 28) dX9_isSignHere_27 rfl rfl ?_
      refine jj_zret dX9_isSignHere_28 rfl (by first | rfl | assumption) (Nat.zero_le _) (Nat.zero_le _) ?_
      exact ⟨rfl, rfl⟩
theorem lp_mWord (hm : hMo T S mo) (hb : mB_ A b E) {p : Nat} (hpE : p ≤ E) (ha : mAt b E p G) {own tx : String} {i2 : Nat} (hst : Cond.stringRef own i2 tx ∈ lw_tbl) {l : List Nat} (hl : sTx tx = l.map nI) (h128 : ∀ i, i < l.length → l.getD i 0 < 128) (hl8 : l.length ≤ 8) (hk : tK b E p = 1) (hlen : tN b E p - tS b E p = l.length) : ∀ (k i : Nat), (i + k = l.length ∧ ∀ j, j < i → b (tS b E p + j) = l.getD j 0) → JJ Γ (jj_E Y_X9_isWord) (jj_Z Γ (rI (if isW b E p l = true then 1 else 0) (T, R, S, blk 18 I mo (st A 0 G), L, D, z)) 0 0) (jj_rm (d + 4) 0 0) 0 0 35 [some (.ref mo), some (.ref (Γ.ss own i2)), some (.int (nI i))] [] (T, R, S, blk 18 I mo (st A 0 G), L, D, z) := by
  have htx := tx_p hl h128 hl8
  have h12 := hb.1
  have hnb := tN_bd (b := b) hpE
  have hiff : isW b E p l = true ↔ (tK b E p = 1 ∧ tN b E p - tS b E p = l.length ∧ ∀ i, i < l.length → b (tS b E p + i) = l.getD i 0) := decide_eq_true_iff
  intro k
  induction k with
  | zero =>
    intro i hi
    refine jj_iload_n (q := 36) dX9_isWord_35 rfl rfl rfl ?_
    refine jj_aload_n (q := 37) dX9_isWord_36 rfl rfl rfl ?_
    refine jj_k0i (q := 40) hst dX9_isWord_37 yk_J0_length_8abf5 mk_X9_122 (ex_length hst) rfl rfl rfl ⟨Nat.zero_le _, Nat.zero_le _⟩ ?_
    rw [htx.2.1]
    refine jj_icmp_ge (q := 43) (tgt := 70) dX9_isWord_40 rfl rfl (fun h40 => ?_) (fun h40 => absurd (nI_le (show l.length ≤ i by omega) (by omega)) h40)
    refine jj_iconst (v := 1) (q := 71) dX9_isWord_70 rfl rfl ?_
    refine jj_zret dX9_isWord_71 rfl (by first | rfl | assumption) (Nat.zero_le _) (Nat.zero_le _) ?_
    exact ⟨by rw [if_pos (hiff.mpr ⟨hk, hlen, fun j hj => hi.2 j (by omega)⟩)], rfl⟩
  | succ k ih =>
    intro i hi
    have hv := hb.2 (tS b E p + i) (by omega)
    have hc := h128 i (by omega)
    refine jj_iload_n (q := 36) dX9_isWord_35 rfl rfl rfl ?_
    refine jj_aload_n (q := 37) dX9_isWord_36 rfl rfl rfl ?_
    refine jj_k0i (q := 40) hst dX9_isWord_37 yk_J0_length_8abf5 mk_X9_122 (ex_length hst) rfl rfl rfl ⟨Nat.zero_le _, Nat.zero_le _⟩ ?_
    rw [htx.2.1]
    refine jj_icmp_ge (q := 43) (tgt := 70) dX9_isWord_40 rfl rfl (fun h40 => absurd h40 (nI_ge (show i < l.length by omega) (by omega))) (fun h40 => ?_)
    refine jj_aload_n (q := 44) dX9_isWord_43 rfl rfl rfl ?_
    refine jj_getS (q := 47) dX9_isWord_44 fl_X9_9 hm.t0 hm.r0_1 rfl rfl rfl ?_
    refine jj_aload_n (q := 48) dX9_isWord_47 rfl rfl rfl ?_
    refine jj_getIw (v := nI (tS b E p)) (q := 51) dX9_isWord_48 fl_X9_98 hm.t0 (by rw [g_rd]; exact ha.2.2.2.1) rfl rfl ?_
    refine jj_iload_n (q := 52) dX9_isWord_51 rfl rfl rfl ?_
    refine jj_iaddN (q := 53) (a := tS b E p) (b := i) dX9_isWord_52 rfl rfl rfl ?_
    refine jj_ialdW (q := 54) (j := (tS b E p) + i) (v := nI (b (tS b E p + i))) dX9_isWord_53 hm.t1 (blk_sn (by decide) (by decide)) rfl (by omega) hv.1 rfl ?_
    refine jj_aload_n (q := 55) dX9_isWord_54 rfl rfl rfl ?_
    refine jj_iload_n (q := 56) dX9_isWord_55 rfl rfl rfl ?_
    refine jj_k1i (q := 59) hst dX9_isWord_56 yk_J0_charAt_5068e mk_X9_126 (ex_charAt hst htx.1 (show i < (sTx tx).length by omega)) rfl rfl rfl ⟨Nat.zero_le _, Nat.zero_le _⟩ ?_
    rw [htx.2.2 i (by omega)]
    refine jj_icmp_eq (q := 62) (tgt := 64) dX9_isWord_59 rfl rfl (fun h59 => ?_) (fun h59 => ?_)
    · refine jj_iinc (v := nI (i + 1)) (q := 67) dX9_isWord_64 rfl (nI_incn i 1 rfl) (by decide) rfl ?_
      refine jj_goto (tgt := 35) dX9_isWord_67 rfl ?_
      refine ih (i + 1) ⟨by omega, fun j hj => ?_⟩
      by_cases e : j = i
      · subst e; exact nI_inj' (by omega) (by omega) h59
      · exact hi.2 j (by omega)
    · refine jj_iconst (v := 0) (q := 63) dX9_isWord_62 rfl rfl ?_
      refine jj_zret dX9_isWord_63 rfl (by first | rfl | assumption) (Nat.zero_le _) (Nat.zero_le _) ?_
      exact ⟨by rw [if_neg (fun w => h59 (by rw [(hiff.mp w).2.2 i (by omega)]))], rfl⟩
theorem exM_word (hm : hMo T S mo) (hb : mB_ A b E) (hs : mSt b E r G) {own tx : String} {i2 : Nat} (hst : Cond.stringRef own i2 tx ∈ lw_tbl) {l : List Nat} (hl : sTx tx = l.map nI) (h128 : ∀ i, i < l.length → l.getD i 0 < 128) (hl8 : l.length ≤ 8) : Ex Γ (d + 4) Y_X9_isWord [.ref mo, .ref (Γ.ss own i2)] (T, R, S, blk 18 I mo (st A 0 G), L, D, z) 0 0 (rI (if rW b E r l = true then 1 else 0) (T, R, S, blk 18 I mo (st A 0 G), L, D, z)) := by
  have htx := tx_p hl h128 hl8
  have h12 := hb.1
  cases r with
  | inl e =>
    rw [if_neg (show ¬ rW b E (.inl e) l = true by simp [rW])]
    have hgt := ne0 hs.2.2.2
    refine Ex.of (by decide) (by simp [Value.category]) (Nat.le_of_ble_eq_true rfl) rfl ?_
    refine jj_aload_n (q := 1) dX9_isWord_0 rfl rfl rfl ?_
    refine jj_getIw (v := nI e.1) (q := 4) dX9_isWord_1 fl_X9_92 hm.t0 (by rw [g_rd]; exact hs.2.1) rfl rfl ?_
    refine jj_if_gt (q := 7) (tgt := 31) dX9_isWord_4 rfl rfl (fun h4 => ?_) (fun h4 => absurd (hgt) h4)
    refine jj_iconst (v := 0) (q := 32) dX9_isWord_31 rfl rfl ?_
    refine jj_zret dX9_isWord_32 rfl (by first | rfl | assumption) (Nat.zero_le _) (Nat.zero_le _) ?_
    exact ⟨rfl, rfl⟩
  | inr x =>
    have hk4 := tK_le b E x.2
    have ha := hs.2.2
    have hnb := tN_bd (b := b) hs.2.1
    have hiff : isW b E x.2 l = true ↔ (tK b E x.2 = 1 ∧ tN b E x.2 - tS b E x.2 = l.length ∧ ∀ i, i < l.length → b (tS b E x.2 + i) = l.getD i 0) := decide_eq_true_iff
    show Ex Γ (d + 4) _ _ _ 0 0 (rI (if isW b E x.2 l = true then 1 else 0) _)
    by_cases hk : tK b E x.2 = 1
    · have hkk : mKd (tK b E x.2) = 2 := by rw [hk]; rfl
      by_cases hlen : tN b E x.2 - tS b E x.2 = l.length
      · skip
        refine Ex.of (by decide) (by simp [Value.category]) (Nat.le_of_ble_eq_true rfl) rfl ?_
        refine jj_aload_n (q := 1) dX9_isWord_0 rfl rfl rfl ?_
        refine jj_getIw (v := 0) (q := 4) dX9_isWord_1 fl_X9_92 hm.t0 (by rw [g_rd]; exact ha.2.1) rfl rfl ?_
        refine jj_if_gt (q := 7) (tgt := 31) dX9_isWord_4 rfl rfl (fun h4 => absurd h4 (by decide)) (fun h4 => ?_)
        refine jj_aload_n (q := 8) dX9_isWord_7 rfl rfl rfl ?_
        refine jj_getIw (v := nI (mKd (tK b E x.2))) (q := 11) dX9_isWord_8 fl_X9_108 hm.t0 (by rw [g_rd]; exact ha.2.2.1) rfl rfl ?_
        refine jj_iconst (v := 2) (q := 12) dX9_isWord_11 rfl rfl ?_
        refine jj_icmp_ne (q := 15) (tgt := 31) dX9_isWord_12 rfl rfl (fun h12_ => by exfalso; exact h12_ (by rw [hkk]; rfl)) (fun _ => ?_)
        refine jj_aload_n (q := 16) dX9_isWord_15 rfl rfl rfl ?_
        refine jj_getIw (v := nI (tN b E x.2)) (q := 19) dX9_isWord_16 fl_X9_101 hm.t0 (by rw [g_rd]; exact ha.1) rfl rfl ?_
        refine jj_aload_n (q := 20) dX9_isWord_19 rfl rfl rfl ?_
        refine jj_getIw (v := nI (tS b E x.2)) (q := 23) dX9_isWord_20 fl_X9_98 hm.t0 (by rw [g_rd]; exact ha.2.2.2.1) rfl rfl ?_
        refine jj_isubN (q := 24) (e := tN b E x.2 - tS b E x.2) (a := tN b E x.2) (b := tS b E x.2) dX9_isWord_23 rfl rfl (by omega) rfl ?_
        refine jj_aload_n (q := 25) dX9_isWord_24 rfl rfl rfl ?_
        refine jj_k0i (q := 28) hst dX9_isWord_25 yk_J0_length_8abf5 mk_X9_122 (ex_length hst) rfl rfl rfl ⟨Nat.zero_le _, Nat.zero_le _⟩ ?_
        rw [htx.2.1]
        refine jj_icmp_eq (q := 31) (tgt := 33) dX9_isWord_28 rfl rfl (fun h28 => ?_) (fun h28 => absurd (by rw [hlen]) h28)
        refine jj_iconst (v := 0) (q := 34) dX9_isWord_33 rfl rfl ?_
        refine jj_istore_n (q := 35) dX9_isWord_34 rfl (by decide) rfl ?_
        exact lp_mWord hm hb hs.2.1 ha hst hl h128 hl8 hk hlen l.length 0 ⟨by omega, fun j hj => by omega⟩
      · rw [if_neg (fun w => hlen (hiff.mp w).2.1)]
        refine Ex.of (by decide) (by simp [Value.category]) (Nat.le_of_ble_eq_true rfl) rfl ?_
        refine jj_aload_n (q := 1) dX9_isWord_0 rfl rfl rfl ?_
        refine jj_getIw (v := 0) (q := 4) dX9_isWord_1 fl_X9_92 hm.t0 (by rw [g_rd]; exact ha.2.1) rfl rfl ?_
        refine jj_if_gt (q := 7) (tgt := 31) dX9_isWord_4 rfl rfl (fun h4 => absurd h4 (by decide)) (fun h4 => ?_)
        refine jj_aload_n (q := 8) dX9_isWord_7 rfl rfl rfl ?_
        refine jj_getIw (v := nI (mKd (tK b E x.2))) (q := 11) dX9_isWord_8 fl_X9_108 hm.t0 (by rw [g_rd]; exact ha.2.2.1) rfl rfl ?_
        refine jj_iconst (v := 2) (q := 12) dX9_isWord_11 rfl rfl ?_
        refine jj_icmp_ne (q := 15) (tgt := 31) dX9_isWord_12 rfl rfl (fun h12_ => by exfalso; exact h12_ (by rw [hkk]; rfl)) (fun _ => ?_)
        refine jj_aload_n (q := 16) dX9_isWord_15 rfl rfl rfl ?_
        refine jj_getIw (v := nI (tN b E x.2)) (q := 19) dX9_isWord_16 fl_X9_101 hm.t0 (by rw [g_rd]; exact ha.1) rfl rfl ?_
        refine jj_aload_n (q := 20) dX9_isWord_19 rfl rfl rfl ?_
        refine jj_getIw (v := nI (tS b E x.2)) (q := 23) dX9_isWord_20 fl_X9_98 hm.t0 (by rw [g_rd]; exact ha.2.2.2.1) rfl rfl ?_
        refine jj_isubN (q := 24) (e := tN b E x.2 - tS b E x.2) (a := tN b E x.2) (b := tS b E x.2) dX9_isWord_23 rfl rfl (by omega) rfl ?_
        refine jj_aload_n (q := 25) dX9_isWord_24 rfl rfl rfl ?_
        refine jj_k0i (q := 28) hst dX9_isWord_25 yk_J0_length_8abf5 mk_X9_122 (ex_length hst) rfl rfl rfl ⟨Nat.zero_le _, Nat.zero_le _⟩ ?_
        rw [htx.2.1]
        refine jj_icmp_eq (q := 31) (tgt := 33) dX9_isWord_28 rfl rfl (fun h28 => absurd h28 (fun w => hlen (nI_inj' (by omega) (by omega) w))) (fun h28 => ?_)
        refine jj_iconst (v := 0) (q := 32) dX9_isWord_31 rfl rfl ?_
        refine jj_zret dX9_isWord_32 rfl (by first | rfl | assumption) (Nat.zero_le _) (Nat.zero_le _) ?_
        exact ⟨rfl, rfl⟩
    · rw [if_neg (fun w => hk (hiff.mp w).1)]
      have hkk : mKd (tK b E x.2) ≠ 2 ∧ mKd (tK b E x.2) ≤ 5 := by unfold mKd; split <;> omega
      refine Ex.of (by decide) (by simp [Value.category]) (Nat.le_of_ble_eq_true rfl) rfl ?_
      refine jj_aload_n (q := 1) dX9_isWord_0 rfl rfl rfl ?_
      refine jj_getIw (v := 0) (q := 4) dX9_isWord_1 fl_X9_92 hm.t0 (by rw [g_rd]; exact ha.2.1) rfl rfl ?_
      refine jj_if_gt (q := 7) (tgt := 31) dX9_isWord_4 rfl rfl (fun h4 => absurd h4 (by decide)) (fun h4 => ?_)
      refine jj_aload_n (q := 8) dX9_isWord_7 rfl rfl rfl ?_
      refine jj_getIw (v := nI (mKd (tK b E x.2))) (q := 11) dX9_isWord_8 fl_X9_108 hm.t0 (by rw [g_rd]; exact ha.2.2.1) rfl rfl ?_
      refine jj_iconst (v := 2) (q := 12) dX9_isWord_11 rfl rfl ?_
      refine jj_icmp_ne (q := 15) (tgt := 31) dX9_isWord_12 rfl rfl (fun _ => ?_) (fun h12_ => by exfalso; exact hkk.1 (nI_inj' (by omega) (by omega) h12_))
      refine jj_iconst (v := 0) (q := 32) dX9_isWord_31 rfl rfl ?_
      refine jj_zret dX9_isWord_32 rfl (by first | rfl | assumption) (Nat.zero_le _) (Nat.zero_le _) ?_
      exact ⟨rfl, rfl⟩
end M75
