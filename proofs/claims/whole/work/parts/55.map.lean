/-! MAP AND BYTES of the component; ranks -/
def rM (g : Nat → Nat) : Nat → Nat → List Nat
  | _, 0 => []
  | i, k + 1 => g i :: rM g (i + 1) k
theorem rM_len (g : Nat → Nat) : ∀ (k i : Nat), (rM g i k).length = k
  | 0, _ => rfl
  | k + 1, i => by rw [rM, List.length_cons, rM_len g k (i + 1)]
/-- what the map shows at a position -/
def gM (K : JI) (g : Nat → Nat) (ln : Nat) : Prop := ∀ i, i < ln → (K 14 i = -1 ∧ g i = 46) ∨ ∃ b f, K 14 i = nI b ∧ b < 100 ∧ K 3 b = nI f ∧ f < 8 ∧ g i = 65 + f
/-- as many places as things: each place is taken -/
theorem inj_surj : ∀ (n : Nat) (g : Nat → Nat), (∀ i, i < n → g i < n) → (∀ i j, i < n → j < n → g i = g j → i = j) → ∀ r, r < n → ∃ i, i < n ∧ g i = r
  | 0, _, _, _, r, hr => by omega
  | n + 1, g, hb, hi, r, hr => by
    by_cases e : g n = r
    · exact ⟨n, by omega, e⟩
    · have hv := hb n (by omega)
      have h1 : ∀ i, i < n → (if g i = n then g n else g i) < n := fun i h => by
        have h2 := hb i (by omega)
        have h3 := fun w => hi i n (by omega) (by omega) w
        split
        · rename_i w
          by_cases q : g n = n
          · have := h3 (by rw [w, q]); omega
          · omega
        · omega
      have h2 : ∀ i j, i < n → j < n → (if g i = n then g n else g i) = (if g j = n then g n else g j) → i = j := fun i j hin hjn h => by
        have a1 := fun w => hi i n (by omega) (by omega) w
        have a2 := fun w => hi j n (by omega) (by omega) w
        have a3 := fun w => hi i j (by omega) (by omega) w
        split at h
        · split at h
          · rename_i w1 w2; exact a3 (by rw [w1, w2])
          · have := a2 h.symm; omega
        · split at h
          · have := a1 h; omega
          · exact a3 h
      by_cases q : r = n
      · subst q
        have hlt : g r < r := by omega
        obtain ⟨i, k1, k2⟩ := inj_surj r _ h1 h2 (g r) hlt
        split at k2
        · rename_i w; exact ⟨i, by omega, w⟩
        · have := hi i r (by omega) (by omega) k2; omega
      · obtain ⟨i, k1, k2⟩ := inj_surj n _ h1 h2 r (by omega)
        split at k2
        · exact absurd k2 e
        · exact ⟨i, by omega, k2⟩
section M55
variable {Γ : Gam} {d : Nat} {T : JT} {R S : JR} {I K P B : JI} {L : JL} {D : JD} {z : Option Nat} {xo a p t n kk s c : Nat} {O : Nat → Int32}
theorem lp_map (h : cT T R S I xo a p t n 12 O P) {ln : Nat} (hq : P 0 0 = nI ln) (hl : ln ≤ 40) {g : Nat → Nat} (hg : gM K g ln) {B0 : JI} : ∀ (k i s : Nat) (B B' : JI) (x2 : Option Value), i + k = ln → B 0 0 = nI s → s + k ≤ n → wL B (rM g i k) = B' → JJ Γ (jj_E Y_X8_map) (jj_Z Γ (cA 0 (some (.int (B' 0 0))) (T, R, S, blk 19 (blk 2 I t B0) a K, L, D, none) (T, R, S, blk 19 (blk 2 I t B') a K, L, D, none)) 0 0) (jj_rm (d + 8) 0 0) 0 0 14 [some (.ref xo), some (.int (nI i)), x2] [] (T, R, S, blk 19 (blk 2 I t B) a K, L, D, none) := by
  intro k
  induction k with
  | zero =>
    intro i s B B' x2 hi hs hn he
    subst he
    refine jj_iload_n (q := 15) dX8_map_14 rfl rfl rfl ?_
    refine jj_aload_n (q := 16) dX8_map_15 rfl rfl rfl ?_
    refine jj_getS (q := 19) dX8_map_16 fl_X8_23 (h.1 B).t (h.1 B).sp rfl rfl rfl ?_
    refine jj_getIw (v := nI ln) (q := 22) dX8_map_19 fl_X8_146 (h.1 B).hp.t0 (by rw [(h.1 _).r0]; exact hq) rfl rfl ?_
    refine jj_icmp_ge (q := 25) (tgt := 77) dX8_map_22 rfl rfl (fun h22 => ?_) (fun h22 => absurd (nI_le (show ln ≤ i by omega) (by omega)) h22)
    refine jj_aload_n (q := 78) dX8_map_77 rfl rfl rfl ?_
    refine jj_getS (q := 81) dX8_map_78 fl_X8_68 (h.1 B).t h.2.2.2.1 rfl rfl rfl ?_
    refine jj_getIv (q := 84) dX8_map_81 fl_X8_260 h.2.1.1 h.sz rfl rfl ?_
    refine jj_iret dX8_map_84 rfl (Nat.zero_le _) (Nat.zero_le _) ?_
    exact cA_i rfl
  | succ k ih =>
    intro i s B B' x2 hi hs hn he
    have hn30 := h.2.2.2.2
    have s1 := wL_0 (l := [g i]) hs (by rw [List.length_singleton]; omega)
    rw [List.length_singleton] at s1
    rcases hg i (by omega) with ⟨e1, e2⟩ | ⟨b, f, e1, e2, e3, e4, e5⟩
    · have hb : g i < 128 := by omega
      refine jj_iload_n (q := 15) dX8_map_14 rfl rfl rfl ?_
      refine jj_aload_n (q := 16) dX8_map_15 rfl rfl rfl ?_
      refine jj_getS (q := 19) dX8_map_16 fl_X8_23 (h.1 B).t (h.1 B).sp rfl rfl rfl ?_
      refine jj_getIw (v := nI ln) (q := 22) dX8_map_19 fl_X8_146 (h.1 B).hp.t0 (by rw [(h.1 _).r0]; exact hq) rfl rfl ?_
      refine jj_icmp_ge (q := 25) (tgt := 77) dX8_map_22 rfl rfl (fun h22 => absurd h22 ((nI_ge (show i < ln by omega) (by omega)))) (fun h22 => ?_)
      refine jj_aload_n (q := 26) dX8_map_25 rfl rfl rfl ?_
      refine jj_getS (q := 29) dX8_map_26 fl_X8_33 (h.1 B).t (h.1 B).sn rfl rfl rfl ?_
      refine jj_getR (q := 32) dX8_map_29 fl_X8_175 (h.1 B).hs.t0 (h.1 B).hs.r0_10 rfl rfl rfl ?_
      refine jj_iload_n (q := 33) dX8_map_32 rfl rfl rfl ?_
      refine jj_cS2i (q := 36) dX8_map_33 yk_X8_at ml_X8_120 (ex_atv (h.1 B).hs.t14 (blk_k (by decide)) rfl) rfl rfl rfl ⟨Nat.zero_le _, Nat.zero_le _⟩ ?_
      rw [atV_nI (show i < 40 by omega) (by omega), e1]
      refine jj_istore_n (q := 37) dX8_map_36 rfl (by decide) rfl ?_
      refine jj_aload_n (q := 38) dX8_map_37 rfl rfl rfl ?_
      refine jj_getS (q := 41) dX8_map_38 fl_X8_68 (h.1 B).t h.2.2.2.1 rfl rfl rfl ?_
      refine jj_iload_n (q := 42) dX8_map_41 rfl rfl rfl ?_
      refine jj_iconst (v := -1) (q := 43) dX8_map_42 rfl rfl ?_
      refine jj_icmp_ne (q := 46) (tgt := 51) dX8_map_43 rfl rfl (fun h43 => by exfalso; exact h43 rfl) (fun h43 => ?_)
      refine jj_bipush (v := 46) (q := 48) dX8_map_46 rfl rfl ?_
      refine jj_goto (tgt := 68) dX8_map_48 rfl ?_
      rw [show (46 : Int32) = nI (g i) by rw [e2]; rfl]
      refine jj_cV1v (q := 71) dX8_map_68 yk_X6_putByte ml_X8_267 h.2.1.1 (tx_putByte (b := g i) h hs hb (by rw [List.length_singleton]; omega)) rfl rfl rfl ⟨Nat.zero_le _, Nat.zero_le _⟩ ?_
      refine jj_iinc (v := nI (i + 1)) (q := 74) dX8_map_71 rfl (nI_incn i 1 rfl) (by decide) rfl ?_
      refine jj_goto (tgt := 14) dX8_map_74 rfl ?_
      exact ih (i + 1) _ _ B' _ (by omega) s1 (by omega) he
    · have hb : g i < 128 := by omega
      have hne : ¬ nI b = -1 := fun w => absurd (show nI b < 0 by rw [w]; decide) (nI_ltz (by omega))
      refine jj_iload_n (q := 15) dX8_map_14 rfl rfl rfl ?_
      refine jj_aload_n (q := 16) dX8_map_15 rfl rfl rfl ?_
      refine jj_getS (q := 19) dX8_map_16 fl_X8_23 (h.1 B).t (h.1 B).sp rfl rfl rfl ?_
      refine jj_getIw (v := nI ln) (q := 22) dX8_map_19 fl_X8_146 (h.1 B).hp.t0 (by rw [(h.1 _).r0]; exact hq) rfl rfl ?_
      refine jj_icmp_ge (q := 25) (tgt := 77) dX8_map_22 rfl rfl (fun h22 => absurd h22 ((nI_ge (show i < ln by omega) (by omega)))) (fun h22 => ?_)
      refine jj_aload_n (q := 26) dX8_map_25 rfl rfl rfl ?_
      refine jj_getS (q := 29) dX8_map_26 fl_X8_33 (h.1 B).t (h.1 B).sn rfl rfl rfl ?_
      refine jj_getR (q := 32) dX8_map_29 fl_X8_175 (h.1 B).hs.t0 (h.1 B).hs.r0_10 rfl rfl rfl ?_
      refine jj_iload_n (q := 33) dX8_map_32 rfl rfl rfl ?_
      refine jj_cS2i (q := 36) dX8_map_33 yk_X8_at ml_X8_120 (ex_atv (h.1 B).hs.t14 (blk_k (by decide)) rfl) rfl rfl rfl ⟨Nat.zero_le _, Nat.zero_le _⟩ ?_
      rw [atV_nI (show i < 40 by omega) (by omega), e1]
      refine jj_istore_n (q := 37) dX8_map_36 rfl (by decide) rfl ?_
      refine jj_aload_n (q := 38) dX8_map_37 rfl rfl rfl ?_
      refine jj_getS (q := 41) dX8_map_38 fl_X8_68 (h.1 B).t h.2.2.2.1 rfl rfl rfl ?_
      refine jj_iload_n (q := 42) dX8_map_41 rfl rfl rfl ?_
      refine jj_iconst (v := -1) (q := 43) dX8_map_42 rfl rfl ?_
      refine jj_icmp_ne (q := 46) (tgt := 51) dX8_map_43 rfl rfl (fun h43 => ?_) (fun h43 => by exfalso; exact hne h43)
      refine jj_bipush (v := 65) (q := 53) dX8_map_51 rfl rfl ?_
      refine jj_aload_n (q := 54) dX8_map_53 rfl rfl rfl ?_
      refine jj_getS (q := 57) dX8_map_54 fl_X8_33 (h.1 B).t (h.1 B).sn rfl rfl rfl ?_
      refine jj_getR (q := 60) dX8_map_57 fl_X8_95 (h.1 B).hs.t0 (h.1 B).hs.r0_4 rfl rfl rfl ?_
      refine jj_getR (q := 63) dX8_map_60 fl_X8_124 (h.1 B).hs.t1 (h.1 B).hs.r1_2 rfl rfl rfl ?_
      refine jj_iload_n (q := 64) dX8_map_63 rfl rfl rfl ?_
      refine jj_cS2i (q := 67) dX8_map_64 yk_X8_at ml_X8_120 (ex_atv (h.1 B).hs.t3 (blk_k (by decide)) rfl) rfl rfl rfl ⟨Nat.zero_le _, Nat.zero_le _⟩ ?_
      rw [atV_nI (show b < 100 by omega) (by omega), e3]
      refine jj_iadd (q := 68) dX8_map_67 rfl ?_
      rw [show (65 : Int32) + nI f = nI (g i) by rw [e5, ← nI_add]; rfl]
      refine jj_cV1v (q := 71) dX8_map_68 yk_X6_putByte ml_X8_267 h.2.1.1 (tx_putByte (b := g i) h hs hb (by rw [List.length_singleton]; omega)) rfl rfl rfl ⟨Nat.zero_le _, Nat.zero_le _⟩ ?_
      refine jj_iinc (v := nI (i + 1)) (q := 74) dX8_map_71 rfl (nI_incn i 1 rfl) (by decide) rfl ?_
      refine jj_goto (tgt := 14) dX8_map_74 rfl ?_
      exact ih (i + 1) _ _ B' _ (by omega) s1 (by omega) he
theorem ex_map (h : cT T R S I xo a p t n 12 O P) (hn : 40 ≤ n) {ln : Nat} (hq : P 0 0 = nI ln) (hl : ln ≤ 40) {g : Nat → Nat} (hg : gM K g ln) : Ex Γ (d + 8) Y_X8_map [.ref xo] (T, R, S, blk 19 (blk 2 I t B) a K, L, D, none) (ec (orE (eAir O) 0)) (es (orE (eAir O) 0)) (cA (orE (eAir O) 0) (some (.int (nI ln))) (T, R, S, blk 19 (blk 2 I t B) a K, L, D, none) (T, R, S, blk 19 (blk 2 I t (wL (u2 B 0 0 0) (rM g 0 ln))) a K, L, D, none)) := by
  have hn30 := h.2.2.2.2
  have hs0 : u2 B 0 0 0 0 0 = nI 0 := rfl
  have hsz := wL_0 (l := rM g 0 ln) hs0 (by rw [rM_len]; omega)
  rw [Nat.zero_add, rM_len] at hsz
  rw [← hsz]
  refine Ex.of (by decide) (by simp [Value.category]) (Nat.le_of_ble_eq_true rfl) rfl ?_
  refine jj_aload_n (q := 1) dX8_map_0 rfl rfl rfl ?_
  refine jj_nV0 (q := 4) dX8_map_1 yk_X8_needAirport ml_X8_168 (h.1 B).t (ex_needAirport (h.1 _)) rfl rfl rfl rfl (fun g1 => ?_)
  refine jj_aload_n (q := 5) dX8_map_4 rfl rfl rfl ?_
  refine jj_getS (q := 8) dX8_map_5 fl_X8_68 (h.1 B).t h.2.2.2.1 rfl rfl rfl ?_
  refine jj_iconst (v := 0) (q := 9) dX8_map_8 rfl rfl ?_
  refine jj_putIv (q := 12) dX8_map_9 fl_X8_260 h.2.1.1 h.u2 rfl rfl rfl rfl rfl ?_
  refine jj_iconst (v := 0) (q := 13) dX8_map_12 rfl rfl ?_
  refine jj_istore_n (q := 14) dX8_map_13 rfl (by decide) rfl ?_
  exact lp_map h hq hl hg ln 0 0 _ _ _ (by omega) hs0 (by omega) rfl
theorem tx_byteAt (h : cT T R S I xo a p t n kk O P) (hsz : B 0 0 = nI s) (hsn : s ≤ n) {l : List Nat} (hv : s = l.length ∧ ∀ j, j < s → B 1 j = nI (l.getD j 0) ∧ l.getD j 0 < 128) {i : Int32} (hi : eIdx i (nI s) = 0) : Ex Γ (d) Y_X6_byteAt [.ref t, .int i] (T, R, S, blk 19 (blk 2 I t B) a K, L, D, z) 0 0 (rI (nI (l.getD (nN i) 0)) (T, R, S, blk 19 (blk 2 I t B) a K, L, D, z)) := by
  have hn30 := h.2.2.2.2
  rcases in_n (c := s) (by omega) i with ⟨j, h1, rfl, h2, h3⟩ | ⟨h2, h3⟩
  · rw [blk_comm h.2.2.1, nN_nI (by omega)]
    exact ex_byteAt h.2.1 hn30 hsz hsn h1 (hv.2 j h1).2 (hv.2 j h1).1
  · rw [h3] at hi; cases hi
theorem ex_reportByte (h : cT T R S I xo a p t n 11 O P) (hsz : B 0 0 = nI s) (hsn : s ≤ n) {l : List Nat} (hv : s = l.length ∧ ∀ j, j < s → B 1 j = nI (l.getD j 0) ∧ l.getD j 0 < 128) {i : Int32} : Ex Γ (d + 8) Y_X8_reportByte [.ref xo, .int i] (T, R, S, blk 19 (blk 2 I t B) a K, L, D, none) (ec (orE (eIdx i (nI s)) 0)) (es (orE (eIdx i (nI s)) 0)) (cA (orE (eIdx i (nI s)) 0) (some (.int (nI (l.getD (nN i) 0)))) (T, R, S, blk 19 (blk 2 I t B) a K, L, D, none) (T, R, S, blk 19 (blk 2 I t B) a K, L, D, none)) := by
  refine Ex.of (by decide) (by simp [Value.category]) (Nat.le_of_ble_eq_true rfl) rfl ?_
  refine jj_iload_n (q := 1) dX8_reportByte_0 rfl rfl rfl ?_
  refine jj_aload_n (q := 2) dX8_reportByte_1 rfl rfl rfl ?_
  refine jj_getS (q := 5) dX8_reportByte_2 fl_X8_64 (h.1 B).t h.2.2.2.1 rfl rfl rfl ?_
  refine jj_getIw (v := nI s) (q := 8) dX8_reportByte_5 fl_X8_260 h.2.1.1 (by rw [h.sz]; exact hsz) rfl rfl ?_
  refine jj_nS2 (q := 11) dX8_reportByte_8 yk_X8_needIndex ml_X8_171 ex_needIndex rfl rfl rfl rfl (fun g8 => ?_)
  refine jj_aload_n (q := 12) dX8_reportByte_11 rfl rfl rfl ?_
  refine jj_getS (q := 15) dX8_reportByte_12 fl_X8_64 (h.1 B).t h.2.2.2.1 rfl rfl rfl ?_
  refine jj_iload_n (q := 16) dX8_reportByte_15 rfl rfl rfl ?_
  refine jj_cV1i (q := 19) dX8_reportByte_16 yk_X6_byteAt ml_X8_273 h.2.1.1 (tx_byteAt h hsz hsn hv g8) rfl rfl rfl ⟨Nat.zero_le _, Nat.zero_le _⟩ ?_
  refine jj_iret dX8_reportByte_19 rfl (Nat.zero_le _) (Nat.zero_le _) ?_
  exact cA_i rfl
theorem ex_mapByte (h : cT T R S I xo a p t n 12 O P) (hsz : B 0 0 = nI s) (hsn : s ≤ n) {l : List Nat} (hv : s = l.length ∧ ∀ j, j < s → B 1 j = nI (l.getD j 0) ∧ l.getD j 0 < 128) {i : Int32} : Ex Γ (d + 8) Y_X8_mapByte [.ref xo, .int i] (T, R, S, blk 19 (blk 2 I t B) a K, L, D, none) (ec (orE (eIdx i (nI s)) 0)) (es (orE (eIdx i (nI s)) 0)) (cA (orE (eIdx i (nI s)) 0) (some (.int (nI (l.getD (nN i) 0)))) (T, R, S, blk 19 (blk 2 I t B) a K, L, D, none) (T, R, S, blk 19 (blk 2 I t B) a K, L, D, none)) := by
  refine Ex.of (by decide) (by simp [Value.category]) (Nat.le_of_ble_eq_true rfl) rfl ?_
  refine jj_iload_n (q := 1) dX8_mapByte_0 rfl rfl rfl ?_
  refine jj_aload_n (q := 2) dX8_mapByte_1 rfl rfl rfl ?_
  refine jj_getS (q := 5) dX8_mapByte_2 fl_X8_68 (h.1 B).t h.2.2.2.1 rfl rfl rfl ?_
  refine jj_getIw (v := nI s) (q := 8) dX8_mapByte_5 fl_X8_260 h.2.1.1 (by rw [h.sz]; exact hsz) rfl rfl ?_
  refine jj_nS2 (q := 11) dX8_mapByte_8 yk_X8_needIndex ml_X8_171 ex_needIndex rfl rfl rfl rfl (fun g8 => ?_)
  refine jj_aload_n (q := 12) dX8_mapByte_11 rfl rfl rfl ?_
  refine jj_getS (q := 15) dX8_mapByte_12 fl_X8_68 (h.1 B).t h.2.2.2.1 rfl rfl rfl ?_
  refine jj_iload_n (q := 16) dX8_mapByte_15 rfl rfl rfl ?_
  refine jj_cV1i (q := 19) dX8_mapByte_16 yk_X6_byteAt ml_X8_273 h.2.1.1 (tx_byteAt h hsz hsn hv g8) rfl rfl rfl ⟨Nat.zero_le _, Nat.zero_le _⟩ ?_
  refine jj_iret dX8_mapByte_19 rfl (Nat.zero_le _) (Nat.zero_le _) ?_
  exact cA_i rfl
theorem ex_timetableByte (h : cT T R S I xo a p t n 13 O P) (hsz : B 0 0 = nI s) (hsn : s ≤ n) {l : List Nat} (hv : s = l.length ∧ ∀ j, j < s → B 1 j = nI (l.getD j 0) ∧ l.getD j 0 < 128) {i : Int32} : Ex Γ (d + 8) Y_X8_timetableByte [.ref xo, .int i] (T, R, S, blk 19 (blk 2 I t B) a K, L, D, none) (ec (orE (eIdx i (nI s)) 0)) (es (orE (eIdx i (nI s)) 0)) (cA (orE (eIdx i (nI s)) 0) (some (.int (nI (l.getD (nN i) 0)))) (T, R, S, blk 19 (blk 2 I t B) a K, L, D, none) (T, R, S, blk 19 (blk 2 I t B) a K, L, D, none)) := by
  refine Ex.of (by decide) (by simp [Value.category]) (Nat.le_of_ble_eq_true rfl) rfl ?_
  refine jj_iload_n (q := 1) dX8_timetableByte_0 rfl rfl rfl ?_
  refine jj_aload_n (q := 2) dX8_timetableByte_1 rfl rfl rfl ?_
  refine jj_getS (q := 5) dX8_timetableByte_2 fl_X8_71 (h.1 B).t h.2.2.2.1 rfl rfl rfl ?_
  refine jj_getIw (v := nI s) (q := 8) dX8_timetableByte_5 fl_X8_260 h.2.1.1 (by rw [h.sz]; exact hsz) rfl rfl ?_
  refine jj_nS2 (q := 11) dX8_timetableByte_8 yk_X8_needIndex ml_X8_171 ex_needIndex rfl rfl rfl rfl (fun g8 => ?_)
  refine jj_aload_n (q := 12) dX8_timetableByte_11 rfl rfl rfl ?_
  refine jj_getS (q := 15) dX8_timetableByte_12 fl_X8_71 (h.1 B).t h.2.2.2.1 rfl rfl rfl ?_
  refine jj_iload_n (q := 16) dX8_timetableByte_15 rfl rfl rfl ?_
  refine jj_cV1i (q := 19) dX8_timetableByte_16 yk_X6_byteAt ml_X8_273 h.2.1.1 (tx_byteAt h hsz hsn hv g8) rfl rfl rfl ⟨Nat.zero_le _, Nat.zero_le _⟩ ?_
  refine jj_iret dX8_timetableByte_19 rfl (Nat.zero_le _) (Nat.zero_le _) ?_
  exact cA_i rfl
end M55
