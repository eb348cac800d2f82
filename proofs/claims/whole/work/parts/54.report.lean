/-! REPORT AND MAP of the component -/
theorem blk_comm {I B K : JI} {t a : Nat} (h : t + 2 ≤ a ∨ a + 19 ≤ t) : blk 19 (blk 2 I t B) a K = blk 2 (blk 19 I a K) t B := by
  funext b j
  unfold blk
  by_cases h1 : a ≤ b ∧ b < a + 19
  · rw [if_pos h1, if_neg (by omega), if_pos h1]
  · rw [if_neg h1]
    by_cases h2 : t ≤ b ∧ b < t + 2
    · rw [if_pos h2, if_pos h2]
    · rw [if_neg h2, if_neg h2, if_neg h1]
def sgR (f l a s : Nat) : List Nat := (if f = 0 then [] else [59]) ++ (dg l ++ ([47] ++ (dg a ++ (if s = 0 then [] else ([45] ++ dg s)))))
def rR (l a s : Nat → Nat) : Nat → Nat → List Nat
  | _, 0 => []
  | f, k + 1 => sgR f (l f) (a f) (s f) ++ rR l a s (f + 1) k
theorem dg3 {v : Nat} (h : v ≤ 100) : (dg v).length ≤ 3 := dj_small (k := 2) (by omega) (by omega)
theorem sgR_len {f l a s : Nat} (hl : l ≤ 100) (ha : a ≤ 100) (hs : s ≤ 100) : (sgR f l a s).length ≤ 12 := by
  have h1 := dg3 hl
  have h2 := dg3 ha
  have h3 := dg3 hs
  unfold sgR
  simp only [List.length_append, List.length_cons, List.length_nil]
  split <;> split <;> simp only [List.length_append, List.length_cons, List.length_nil] <;> omega
theorem rR_len {l a s : Nat → Nat} (h : ∀ f, l f ≤ 100 ∧ a f ≤ 100 ∧ s f ≤ 100) : ∀ (k f : Nat), (rR l a s f k).length ≤ 12 * k
  | 0, _ => by unfold rR; simp
  | k + 1, f => by
    have := rR_len h k (f + 1)
    have := sgR_len (f := f) (h f).1 (h f).2.1 (h f).2.2
    unfold rR
    rw [List.length_append]
    omega
/-- the object's text at t, which the field k names -/
def cT (T : JT) (R S : JR) (I : JI) (xo a p t n k : Nat) (O : Nat → Int32) (P : JI) : Prop := (∀ B, cX T R S (blk 2 I t B) xo a p O P) ∧ hTx T R t n ∧ (t + 2 ≤ a ∨ a + 19 ≤ t) ∧ S xo k = some t ∧ n < 2 ^ 30
section M54
variable {Γ : Gam} {d : Nat} {T : JT} {R S : JR} {I K P B : JI} {L : JL} {D : JD} {z : Option Nat} {xo a p t n kk s c : Nat} {O : Nat → Int32}
theorem cT.u2 (h : cT T R S I xo a p t n kk O P) {v : Int32} : u2 (blk 19 (blk 2 I t B) a K) t 0 v = blk 19 (blk 2 I t (u2 B 0 0 v)) a K := by
  rw [blk_comm h.2.2.1, blk_comm h.2.2.1, u2_blk0 (by decide)]
theorem cT.sz (h : cT T R S I xo a p t n kk O P) : blk 19 (blk 2 I t B) a K t = B 0 := by rw [blk_comm h.2.2.1, blk_0 (by decide)]
theorem tx_putByte (h : cT T R S I xo a p t n kk O P) (hs : B 0 0 = nI s) {b : Nat} (hb : b < 128) (hsn : s + ([b] : List Nat).length ≤ n) : Ex Γ (d) Y_X6_putByte [.ref t, .int (nI b)] (T, R, S, blk 19 (blk 2 I t B) a K, L, D, z) 0 0 (rV (T, R, S, blk 19 (blk 2 I t (wL B [b])) a K, L, D, z)) := by
  rw [blk_comm h.2.2.1, blk_comm h.2.2.1]
  exact ex_putByte h.2.1 h.2.2.2.2 hs hsn hb
theorem tx_separate (h : cT T R S I xo a p t n kk O P) (hs : B 0 0 = nI s) (hsn : s < n) {f : Nat} (hf : f < 2 ^ 30) : Ex Γ (d + 1) Y_X6_separate [.ref t, .int (nI f)] (T, R, S, blk 19 (blk 2 I t B) a K, L, D, z) 0 0 (rV (T, R, S, blk 19 (blk 2 I t (wL B (if f = 0 then [] else [59]))) a K, L, D, z)) := by
  rw [blk_comm h.2.2.1, blk_comm h.2.2.1]
  exact ex_separate h.2.1 h.2.2.2.2 hs hsn hf
theorem tx_putNumber (h : cT T R S I xo a p t n kk O P) (hs : B 0 0 = nI s) {v : Nat} (hv : v < 2 ^ 31) (hl : s + (dg v).length ≤ n) : Ex Γ (d + 1) Y_X6_putNumber [.ref t, .int (nI v)] (T, R, S, blk 19 (blk 2 I t B) a K, L, D, z) 0 0 (rV (T, R, S, blk 19 (blk 2 I t (wL B (dg v))) a K, L, D, z)) := by
  rw [blk_comm h.2.2.1, blk_comm h.2.2.1]
  exact ex_putNumber h.2.1 h.2.2.2.2 hs hv hl
def kL (K : JI) (c : Nat) (f : Nat) : Nat := fb_ct (pOf K (nI f) 10 10) c
def kA (K : JI) (c : Nat) (f : Nat) : Nat := fb_ct (pOf K (nI f) 0 13) c
def kS (K : JI) (c : Nat) (f : Nat) : Nat := fb_ct (pOf K (nI f) 11 11) c
theorem kLAS (hc1 : c ≤ 100) (f : Nat) : kL K c f ≤ 100 ∧ kA K c f ≤ 100 ∧ kS K c f ≤ 100 := ⟨Nat.le_trans (fb_ct_le _ _) hc1, Nat.le_trans (fb_ct_le _ _) hc1, Nat.le_trans (fb_ct_le _ _) hc1⟩
theorem lp_report (h : cT T R S I xo a p t n 11 O P) (hc : K 1 0 = nI c) (hc1 : c ≤ 100) {nf : Nat} (hf : P 0 6 = nI nf) (hf8 : nf ≤ 8) {B0 : JI} : ∀ (k i s : Nat) (B B' : JI), i + k = nf → B 0 0 = nI s → s + (rR (kL K c) (kA K c) (kS K c) i k).length ≤ n → wL B (rR (kL K c) (kA K c) (kS K c) i k) = B' → JJ Γ (jj_E Y_X8_report) (jj_Z Γ (cA 0 (some (.int (B' 0 0))) (T, R, S, blk 19 (blk 2 I t B0) a K, L, D, none) (T, R, S, blk 19 (blk 2 I t B') a K, L, D, none)) 0 0) (jj_rm (d + 8) 0 0) 0 0 14 [some (.ref xo), some (.int (nI i))] [] (T, R, S, blk 19 (blk 2 I t B) a K, L, D, none) := by
  intro k
  induction k with
  | zero =>
    intro i s B B' hi hs hl he
    subst he
    refine jj_iload_n (q := 15) dX8_report_14 rfl rfl rfl ?_
    refine jj_aload_n (q := 16) dX8_report_15 rfl rfl rfl ?_
    refine jj_getS (q := 19) dX8_report_16 fl_X8_23 (h.1 B).t (h.1 B).sp rfl rfl rfl ?_
    refine jj_getIw (v := nI nf) (q := 22) dX8_report_19 fl_X8_226 (h.1 B).hp.t0 (by rw [(h.1 _).r0]; exact hf) rfl rfl ?_
    refine jj_icmp_ge (q := 25) (tgt := 110) dX8_report_22 rfl rfl (fun h22 => ?_) (fun h22 => absurd (nI_le (show nf ≤ i by omega) (by omega)) h22)
    refine jj_aload_n (q := 111) dX8_report_110 rfl rfl rfl ?_
    refine jj_getS (q := 114) dX8_report_111 fl_X8_64 (h.1 B).t h.2.2.2.1 rfl rfl rfl ?_
    refine jj_getIv (q := 117) dX8_report_114 fl_X8_260 h.2.1.1 h.sz rfl rfl ?_
    refine jj_iret dX8_report_117 rfl (Nat.zero_le _) (Nat.zero_le _) ?_
    exact cA_i rfl
  | succ k ih =>
    intro i s B B' hi hs hl he
    have hK := kLAS (K := K) hc1 i
    have g1 := dg3 hK.1
    have g2 := dg3 hK.2.1
    have g3 := dg3 hK.2.2
    have hn30 := h.2.2.2.2
    have gl : (if i = 0 then ([] : List Nat) else [59]).length ≤ 1 := by split <;> simp
    rw [rR, wL_app] at he
    rw [rR, List.length_append] at hl
    have hsg : (sgR i (kL K c i) (kA K c i) (kS K c i)).length = (if i = 0 then ([] : List Nat) else [59]).length + ((dg (kL K c i)).length + (1 + ((dg (kA K c i)).length + (if kS K c i = 0 then ([] : List Nat) else ([45] ++ dg (kS K c i))).length))) := by
      unfold sgR
      rw [List.length_append, List.length_append, List.length_append, List.length_append, List.length_singleton]
    have s1 := wL_0 (l := if i = 0 then ([] : List Nat) else [59]) hs (by omega)
    have s2 := wL_0 (l := dg (kL K c i)) s1 (by omega)
    have s3 := wL_0 (l := [47]) s2 (by rw [List.length_singleton]; omega)
    have s4 := wL_0 (l := dg (kA K c i)) s3 (by rw [List.length_singleton]; omega)
    rw [List.length_singleton] at s3 s4
    have hB : ∀ B6, wL (wL (wL (wL (wL B (if i = 0 then [] else [59])) (dg (kL K c i))) [47]) (dg (kA K c i))) (if kS K c i = 0 then [] else ([45] ++ dg (kS K c i))) = B6 → wL B (sgR i (kL K c i) (kA K c i) (kS K c i)) = B6 := fun B6 hb => by
      unfold sgR
      rw [wL_app, wL_app, wL_app, wL_app]
      exact hb
    by_cases h0 : kS K c i = 0
    · rw [if_pos h0] at hsg hB
      rw [List.length_nil] at hsg
      have hz : ¬ 0 < nI (fb_ct (pOf K (nI i) 11 11) c) := by
        rw [show fb_ct (pOf K (nI i) 11 11) c = 0 from h0]; decide
      refine jj_iload_n (q := 15) dX8_report_14 rfl rfl rfl ?_
      refine jj_aload_n (q := 16) dX8_report_15 rfl rfl rfl ?_
      refine jj_getS (q := 19) dX8_report_16 fl_X8_23 (h.1 B).t (h.1 B).sp rfl rfl rfl ?_
      refine jj_getIw (v := nI nf) (q := 22) dX8_report_19 fl_X8_226 (h.1 B).hp.t0 (by rw [(h.1 _).r0]; exact hf) rfl rfl ?_
      refine jj_icmp_ge (q := 25) (tgt := 110) dX8_report_22 rfl rfl (fun h22 => absurd h22 ((nI_ge (show i < nf by omega) (by omega)))) (fun h22 => ?_)
      refine jj_aload_n (q := 26) dX8_report_25 rfl rfl rfl ?_
      refine jj_getS (q := 29) dX8_report_26 fl_X8_64 (h.1 B).t h.2.2.2.1 rfl rfl rfl ?_
      refine jj_iload_n (q := 30) dX8_report_29 rfl rfl rfl ?_
      refine jj_cV1v (q := 33) dX8_report_30 yk_X6_separate ml_X8_261 h.2.1.1 (tx_separate h hs (by omega) (by omega)) rfl rfl rfl ⟨Nat.zero_le _, Nat.zero_le _⟩ ?_
      refine jj_aload_n (q := 34) dX8_report_33 rfl rfl rfl ?_
      refine jj_getS (q := 37) dX8_report_34 fl_X8_64 (h.1 B).t h.2.2.2.1 rfl rfl rfl ?_
      refine jj_aload_n (q := 38) dX8_report_37 rfl rfl rfl ?_
      refine jj_iload_n (q := 39) dX8_report_38 rfl rfl rfl ?_
      refine jj_cV1i (q := 42) dX8_report_39 yk_X8_loadedOf ml_X8_245 (h.1 B).t (ex_loadedOf (h.1 _) hc hc1) rfl rfl rfl ⟨Nat.zero_le _, Nat.zero_le _⟩ ?_
      refine jj_cV1v (q := 45) dX8_report_42 yk_X6_putNumber ml_X8_264 h.2.1.1 (tx_putNumber (v := kL K c i) h s1 (by omega) (by omega)) rfl rfl rfl ⟨Nat.zero_le _, Nat.zero_le _⟩ ?_
      refine jj_aload_n (q := 46) dX8_report_45 rfl rfl rfl ?_
      refine jj_getS (q := 49) dX8_report_46 fl_X8_64 (h.1 B).t h.2.2.2.1 rfl rfl rfl ?_
      refine jj_bipush (v := 47) (q := 51) dX8_report_49 rfl rfl ?_
      refine jj_cV1v (q := 54) dX8_report_51 yk_X6_putByte ml_X8_267 h.2.1.1 (tx_putByte (b := 47) h s2 (by omega) (by rw [List.length_singleton]; omega)) rfl rfl rfl ⟨Nat.zero_le _, Nat.zero_le _⟩ ?_
      refine jj_aload_n (q := 55) dX8_report_54 rfl rfl rfl ?_
      refine jj_getS (q := 58) dX8_report_55 fl_X8_64 (h.1 B).t h.2.2.2.1 rfl rfl rfl ?_
      refine jj_aload_n (q := 59) dX8_report_58 rfl rfl rfl ?_
      refine jj_getS (q := 62) dX8_report_59 fl_X8_33 (h.1 B).t (h.1 B).sn rfl rfl rfl ?_
      refine jj_getR (q := 65) dX8_report_62 fl_X8_95 (h.1 B).hs.t0 (h.1 B).hs.r0_4 rfl rfl rfl ?_
      refine jj_iload_n (q := 66) dX8_report_65 rfl rfl rfl ?_
      refine jj_iconst (v := 0) (q := 67) dX8_report_66 rfl rfl ?_
      refine jj_bipush (v := 13) (q := 69) dX8_report_67 rfl rfl ?_
      refine jj_cV3i (q := 72) dX8_report_69 yk_X0_ofFlight ml_X8_238 (h.1 B).hs.t1 (ex_ofFlight (h.1 B).hs hc hc1) rfl rfl rfl ⟨Nat.zero_le _, Nat.zero_le _⟩ ?_
      refine jj_cV1v (q := 75) dX8_report_72 yk_X6_putNumber ml_X8_264 h.2.1.1 (tx_putNumber (v := kA K c i) h s3 (by omega) (by omega)) rfl rfl rfl ⟨Nat.zero_le _, Nat.zero_le _⟩ ?_
      refine jj_aload_n (q := 76) dX8_report_75 rfl rfl rfl ?_
      refine jj_iload_n (q := 77) dX8_report_76 rfl rfl rfl ?_
      refine jj_cV1i (q := 80) dX8_report_77 yk_X8_shortOf ml_X8_270 (h.1 B).t (ex_shortOf (h.1 _) hc hc1) rfl rfl rfl ⟨Nat.zero_le _, Nat.zero_le _⟩ ?_
      refine jj_if_le (q := 83) (tgt := 104) dX8_report_80 rfl rfl (fun h80 => ?_) (fun h80 => absurd (by rw [show fb_ct (pOf K (nI i) 11 11) c = 0 from h0]; decide) h80)
      refine jj_iinc (v := nI (i + 1)) (q := 107) dX8_report_104 rfl (nI_incn i 1 rfl) (by decide) rfl ?_
      refine jj_goto (tgt := 14) dX8_report_107 rfl ?_
      exact ih (i + 1) _ _ B' (by omega) s4 (by omega) (by rw [hB _ rfl, wL_nil] at he; exact he)
    · rw [if_neg h0] at hsg hB
      rw [List.length_append, List.length_singleton] at hsg
      have s5 := wL_0 (l := [45]) s4 (by rw [List.length_singleton]; omega)
      rw [List.length_singleton] at s5
      have s6 := wL_0 (l := dg (kS K c i)) s5 (by omega)
      refine jj_iload_n (q := 15) dX8_report_14 rfl rfl rfl ?_
      refine jj_aload_n (q := 16) dX8_report_15 rfl rfl rfl ?_
      refine jj_getS (q := 19) dX8_report_16 fl_X8_23 (h.1 B).t (h.1 B).sp rfl rfl rfl ?_
      refine jj_getIw (v := nI nf) (q := 22) dX8_report_19 fl_X8_226 (h.1 B).hp.t0 (by rw [(h.1 _).r0]; exact hf) rfl rfl ?_
      refine jj_icmp_ge (q := 25) (tgt := 110) dX8_report_22 rfl rfl (fun h22 => absurd h22 ((nI_ge (show i < nf by omega) (by omega)))) (fun h22 => ?_)
      refine jj_aload_n (q := 26) dX8_report_25 rfl rfl rfl ?_
      refine jj_getS (q := 29) dX8_report_26 fl_X8_64 (h.1 B).t h.2.2.2.1 rfl rfl rfl ?_
      refine jj_iload_n (q := 30) dX8_report_29 rfl rfl rfl ?_
      refine jj_cV1v (q := 33) dX8_report_30 yk_X6_separate ml_X8_261 h.2.1.1 (tx_separate h hs (by omega) (by omega)) rfl rfl rfl ⟨Nat.zero_le _, Nat.zero_le _⟩ ?_
      refine jj_aload_n (q := 34) dX8_report_33 rfl rfl rfl ?_
      refine jj_getS (q := 37) dX8_report_34 fl_X8_64 (h.1 B).t h.2.2.2.1 rfl rfl rfl ?_
      refine jj_aload_n (q := 38) dX8_report_37 rfl rfl rfl ?_
      refine jj_iload_n (q := 39) dX8_report_38 rfl rfl rfl ?_
      refine jj_cV1i (q := 42) dX8_report_39 yk_X8_loadedOf ml_X8_245 (h.1 B).t (ex_loadedOf (h.1 _) hc hc1) rfl rfl rfl ⟨Nat.zero_le _, Nat.zero_le _⟩ ?_
      refine jj_cV1v (q := 45) dX8_report_42 yk_X6_putNumber ml_X8_264 h.2.1.1 (tx_putNumber (v := kL K c i) h s1 (by omega) (by omega)) rfl rfl rfl ⟨Nat.zero_le _, Nat.zero_le _⟩ ?_
      refine jj_aload_n (q := 46) dX8_report_45 rfl rfl rfl ?_
      refine jj_getS (q := 49) dX8_report_46 fl_X8_64 (h.1 B).t h.2.2.2.1 rfl rfl rfl ?_
      refine jj_bipush (v := 47) (q := 51) dX8_report_49 rfl rfl ?_
      refine jj_cV1v (q := 54) dX8_report_51 yk_X6_putByte ml_X8_267 h.2.1.1 (tx_putByte (b := 47) h s2 (by omega) (by rw [List.length_singleton]; omega)) rfl rfl rfl ⟨Nat.zero_le _, Nat.zero_le _⟩ ?_
      refine jj_aload_n (q := 55) dX8_report_54 rfl rfl rfl ?_
      refine jj_getS (q := 58) dX8_report_55 fl_X8_64 (h.1 B).t h.2.2.2.1 rfl rfl rfl ?_
      refine jj_aload_n (q := 59) dX8_report_58 rfl rfl rfl ?_
      refine jj_getS (q := 62) dX8_report_59 fl_X8_33 (h.1 B).t (h.1 B).sn rfl rfl rfl ?_
      refine jj_getR (q := 65) dX8_report_62 fl_X8_95 (h.1 B).hs.t0 (h.1 B).hs.r0_4 rfl rfl rfl ?_
      refine jj_iload_n (q := 66) dX8_report_65 rfl rfl rfl ?_
      refine jj_iconst (v := 0) (q := 67) dX8_report_66 rfl rfl ?_
      refine jj_bipush (v := 13) (q := 69) dX8_report_67 rfl rfl ?_
      refine jj_cV3i (q := 72) dX8_report_69 yk_X0_ofFlight ml_X8_238 (h.1 B).hs.t1 (ex_ofFlight (h.1 B).hs hc hc1) rfl rfl rfl ⟨Nat.zero_le _, Nat.zero_le _⟩ ?_
      refine jj_cV1v (q := 75) dX8_report_72 yk_X6_putNumber ml_X8_264 h.2.1.1 (tx_putNumber (v := kA K c i) h s3 (by omega) (by omega)) rfl rfl rfl ⟨Nat.zero_le _, Nat.zero_le _⟩ ?_
      refine jj_aload_n (q := 76) dX8_report_75 rfl rfl rfl ?_
      refine jj_iload_n (q := 77) dX8_report_76 rfl rfl rfl ?_
      refine jj_cV1i (q := 80) dX8_report_77 yk_X8_shortOf ml_X8_270 (h.1 B).t (ex_shortOf (h.1 _) hc hc1) rfl rfl rfl ⟨Nat.zero_le _, Nat.zero_le _⟩ ?_
      refine jj_if_le (q := 83) (tgt := 104) dX8_report_80 rfl rfl (fun h80 => absurd h80 (nI_ge (a := 0) (b := fb_ct (pOf K (nI i) 11 11) c) (show 0 < kS K c i by omega) (by have := (kLAS (K := K) hc1 i).2.2; unfold kS at this; omega))) (fun h80 => ?_)
      refine jj_aload_n (q := 84) dX8_report_83 rfl rfl rfl ?_
      refine jj_getS (q := 87) dX8_report_84 fl_X8_64 (h.1 B).t h.2.2.2.1 rfl rfl rfl ?_
      refine jj_bipush (v := 45) (q := 89) dX8_report_87 rfl rfl ?_
      refine jj_cV1v (q := 92) dX8_report_89 yk_X6_putByte ml_X8_267 h.2.1.1 (tx_putByte (b := 45) h s4 (by omega) (by rw [List.length_singleton]; omega)) rfl rfl rfl ⟨Nat.zero_le _, Nat.zero_le _⟩ ?_
      refine jj_aload_n (q := 93) dX8_report_92 rfl rfl rfl ?_
      refine jj_getS (q := 96) dX8_report_93 fl_X8_64 (h.1 B).t h.2.2.2.1 rfl rfl rfl ?_
      refine jj_aload_n (q := 97) dX8_report_96 rfl rfl rfl ?_
      refine jj_iload_n (q := 98) dX8_report_97 rfl rfl rfl ?_
      refine jj_cV1i (q := 101) dX8_report_98 yk_X8_shortOf ml_X8_270 (h.1 B).t (ex_shortOf (h.1 _) hc hc1) rfl rfl rfl ⟨Nat.zero_le _, Nat.zero_le _⟩ ?_
      refine jj_cV1v (q := 104) dX8_report_101 yk_X6_putNumber ml_X8_264 h.2.1.1 (tx_putNumber (v := kS K c i) h s5 (by omega) (by omega)) rfl rfl rfl ⟨Nat.zero_le _, Nat.zero_le _⟩ ?_
      refine jj_iinc (v := nI (i + 1)) (q := 107) dX8_report_104 rfl (nI_incn i 1 rfl) (by decide) rfl ?_
      refine jj_goto (tgt := 14) dX8_report_107 rfl ?_
      exact ih (i + 1) _ _ B' (by omega) s6 (by omega) (by rw [hB _ (wL_app _ _ _)] at he; exact he)
theorem ex_report (h : cT T R S I xo a p t n 11 O P) (hn : 200 ≤ n) (hc : K 1 0 = nI c) (hc1 : c ≤ 100) {nf : Nat} (hf : P 0 6 = nI nf) (hf8 : nf ≤ 8) : Ex Γ (d + 8) Y_X8_report [.ref xo] (T, R, S, blk 19 (blk 2 I t B) a K, L, D, none) (ec (orE (eAir O) 0)) (es (orE (eAir O) 0)) (cA (orE (eAir O) 0) (some (.int (nI (rR (kL K c) (kA K c) (kS K c) 0 nf).length))) (T, R, S, blk 19 (blk 2 I t B) a K, L, D, none) (T, R, S, blk 19 (blk 2 I t (wL (u2 B 0 0 0) (rR (kL K c) (kA K c) (kS K c) 0 nf))) a K, L, D, none)) := by
  have hlen := rR_len (fun f => kLAS (K := K) hc1 f) nf 0
  have hn30 := h.2.2.2.2
  have hs0 : u2 B 0 0 0 0 0 = nI 0 := rfl
  have hsz := wL_0 (l := rR (kL K c) (kA K c) (kS K c) 0 nf) hs0 (by omega)
  rw [Nat.zero_add] at hsz
  rw [← hsz]
  refine Ex.of (by decide) (by simp [Value.category]) (Nat.le_of_ble_eq_true rfl) rfl ?_
  refine jj_aload_n (q := 1) dX8_report_0 rfl rfl rfl ?_
  refine jj_nV0 (q := 4) dX8_report_1 yk_X8_needAirport ml_X8_168 (h.1 B).t (ex_needAirport (h.1 _)) rfl rfl rfl rfl (fun g1 => ?_)
  refine jj_aload_n (q := 5) dX8_report_4 rfl rfl rfl ?_
  refine jj_getS (q := 8) dX8_report_5 fl_X8_64 (h.1 B).t h.2.2.2.1 rfl rfl rfl ?_
  refine jj_iconst (v := 0) (q := 9) dX8_report_8 rfl rfl ?_
  refine jj_putIv (q := 12) dX8_report_9 fl_X8_260 h.2.1.1 h.u2 rfl rfl rfl rfl rfl ?_
  refine jj_iconst (v := 0) (q := 13) dX8_report_12 rfl rfl ?_
  refine jj_istore_n (q := 14) dX8_report_13 rfl (by decide) rfl ?_
  exact lp_report h hc hc1 hf hf8 nf 0 0 _ _ (by omega) hs0 (by omega) rfl
end M54
