/-! REPORT, MAP AND TIMETABLE of the model -/
def xL (X : JV) (c f : Nat) : Nat := fb_ct (pB X (nI f) 10 10) c
def xA (X : JV) (c f : Nat) : Nat := fb_ct (pB X (nI f) 0 13) c
def xS (X : JV) (c f : Nat) : Nat := fb_ct (pB X (nI f) 11 11) c
theorem xLAS {X : JV} {c : Nat} (hc1 : c ≤ 100) (f : Nat) : xL X c f ≤ 100 ∧ xA X c f ≤ 100 ∧ xS X c f ≤ 100 := ⟨Nat.le_trans (fb_ct_le _ _) hc1, Nat.le_trans (fb_ct_le _ _) hc1, Nat.le_trans (fb_ct_le _ _) hc1⟩
def aW (X : JV) (o f : Nat) : Int32 := if X (13 + o) < X (13 + f) then 1 else if X (13 + o) = X (13 + f) then (if nI f ≤ nI o then 0 else 1) else 0
def pFa (X : JV) (f : Nat) : Nat → Bool := fun o => decide (aW X o f = 1)
def pHe (X : JV) (l : Nat) (f : Int32) : Nat → Bool := fun j => decide (X (173 + mLb X (20 * l + j)) = f)
def xM (X : JV) (l f : Nat) : Nat := if l < 4 then fb_ct (pHe X l (nI f)) (mHe X l) else 0
theorem xM20 {X : JV} (hX : mI X) (l f : Nat) : xM X l f ≤ 20 := by
  unfold xM
  split
  · rename_i h
    have := (hX.he h).2
    have := fb_ct_le (pHe X l (nI f)) (mHe X l)
    omega
  · omega
/-- the flights whose place is r, from i on -/
def rIn (tw : Nat → List Nat) (p : Nat) : Nat → Nat → List Nat
  | _, 0 => []
  | i, k + 1 => (if i = p then tw i else []) ++ rIn tw p (i + 1) k
theorem rIn_out (tw : Nat → List Nat) {p : Nat} : ∀ (k i : Nat), (p < i ∨ i + k ≤ p) → rIn tw p i k = []
  | 0, _, _ => rfl
  | k + 1, i, h => by rw [rIn, if_neg (by omega), rIn_out tw k (i + 1) (by omega)]; rfl
theorem rIn_in (tw : Nat → List Nat) {p : Nat} : ∀ (k i : Nat), i ≤ p → p < i + k → rIn tw p i k = tw p
  | 0, i, h1, h2 => by omega
  | k + 1, i, h1, h2 => by
    rw [rIn]
    by_cases e : i = p
    · subst e
      rw [if_pos rfl, rIn_out tw k (i + 1) (by omega), List.append_nil]
    · rw [if_neg e, rIn_in tw k (i + 1) (by omega) (by omega)]; rfl
def fM (g : Nat → Nat) : Nat → Nat → JI → JI
  | _, 0, A => A
  | i, k + 1, A => fM g (i + 1) k (u2 A 17 i (nI (g i)))
def gX (X : JV) (g : Nat → Nat) (ln : Nat) : Prop := ∀ i, i < ln → (X (133 + i) = -1 ∧ g i = 46) ∨ ∃ b f, X (133 + i) = nI b ∧ b < 100 ∧ X (173 + b) = nI f ∧ f < 8 ∧ g i = 65 + f
section M58
variable {Γ : Gam} {d : Nat} {T : JT} {R S : JR} {I A : JI} {L : JL} {D : JD} {z : Option Nat} {mo k n s c : Nat} {X : JV}
theorem lp_mreport (hm : hMo T S mo) (ho : oW T S mo 15 n) (hX : mI X) (hc : mC X = c) {nf : Nat} (hf8 : nf ≤ 8) : ∀ (q i s : Nat) (A A' : JI) (x2 : Option Value), i + q = nf → A 2 12 = nI nf → A 0 34 = nI s → s + (rR (xL X c) (xA X c) (xS X c) i q).length ≤ n → wAL 15 A (rR (xL X c) (xA X c) (xS X c) i q) = A' → JJ Γ (jj_E Y_X9_report) (jj_Z Γ (rI (A' 0 34) (T, R, S, blk 18 I mo (st (u2 A' 0 32 (A' 0 34)) 4 X), L, D, z)) 0 0) (jj_rm (d + 2) 0 0) 0 0 25 [some (.ref mo), some (.int (nI i)), x2] [] (T, R, S, blk 18 I mo (st A 4 X), L, D, z) := by
  intro q
  induction q with
  | zero =>
    intro i s A A' x2 hi hq hs hl he
    subst he
    refine jj_iload_n (q := 26) dX9_report_25 rfl rfl rfl ?_
    refine jj_aload_n (q := 27) dX9_report_26 rfl rfl rfl ?_
    refine jj_getS (q := 30) dX9_report_27 fl_X9_17 hm.t0 hm.r0_10 rfl rfl rfl ?_
    refine jj_bipush (v := 12) (q := 32) dX9_report_30 rfl rfl ?_
    refine jj_ialdW (q := 33) (j := 12) (v := nI nf) dX9_report_32 hm.t2 (blk_sn (by decide) (by decide)) rfl (by omega) hq rfl ?_
    refine jj_icmp_ge (q := 36) (tgt := 111) dX9_report_33 rfl rfl (fun h33 => ?_) (fun h33 => absurd (nI_le (show nf ≤ i by omega) (by omega)) h33)
    refine jj_aload_n (q := 112) dX9_report_111 rfl rfl rfl ?_
    refine jj_aload_n (q := 113) dX9_report_112 rfl rfl rfl ?_
    refine jj_getIv (q := 116) dX9_report_113 fl_X9_388 hm.t0 (blk_s0 (by decide) (by decide)) rfl rfl ?_
    refine jj_putIv (q := 119) dX9_report_116 fl_X9_397 hm.t0 (u2_bs0 (by decide) (by decide)) rfl rfl rfl rfl rfl ?_
    refine jj_aload_n (q := 120) dX9_report_119 rfl rfl rfl ?_
    refine jj_getIv (q := 123) dX9_report_120 fl_X9_397 hm.t0 (blk_s0 (by decide) (by decide)) rfl rfl ?_
    refine jj_iret dX9_report_123 rfl (Nat.zero_le _) (Nat.zero_le _) ?_
    exact ⟨rfl, rfl⟩
  | succ q ih =>
    intro i s A A' x2 hi hq hs hl he
    have hc1 : c ≤ 100 := by have := hX.c.2; omega
    have hK := xLAS (X := X) hc1 i
    have g1 := dg3 hK.1
    have g2 := dg3 hK.2.1
    have g3 := dg3 hK.2.2
    have hn30 := ho.2.2.2
    rw [rR, wAL_app] at he
    rw [rR, List.length_append] at hl
    have hsg : (sgR i (xL X c i) (xA X c i) (xS X c i)).length = (if i = 0 then ([] : List Nat) else [59]).length + ((dg (xL X c i)).length + (1 + ((dg (xA X c i)).length + (if xS X c i = 0 then ([] : List Nat) else ([45] ++ dg (xS X c i))).length))) := by
      unfold sgR
      rw [List.length_append, List.length_append, List.length_append, List.length_append, List.length_singleton]
    have s1 := wAL_0 (k := 15) (l := if i = 0 then ([] : List Nat) else [59]) hs (by omega)
    have s2 := wAL_0 (k := 15) (l := dg (xL X c i)) s1 (by omega)
    have s3 := wAL_0 (k := 15) (l := [47]) s2 (by rw [List.length_singleton]; omega)
    have s4 := wAL_0 (k := 15) (l := dg (xA X c i)) s3 (by rw [List.length_singleton]; omega)
    rw [List.length_singleton] at s3 s4
    have hB : ∀ B6, wAL 15 (wAL 15 (wAL 15 (wAL 15 (wAL 15 A (if i = 0 then [] else [59])) (dg (xL X c i))) [47]) (dg (xA X c i))) (if xS X c i = 0 then [] else ([45] ++ dg (xS X c i))) = B6 → wAL 15 A (sgR i (xL X c i) (xA X c i) (xS X c i)) = B6 := fun B6 hb => by
      unfold sgR
      rw [wAL_app, wAL_app, wAL_app, wAL_app]
      exact hb
    by_cases hi0 : i = 0
    · rw [if_pos hi0] at s1 s2 s3 s4 hB hsg
      rw [List.length_nil] at hsg s1 s2 s3 s4
      rw [wAL_nil] at s1 s2 s3 s4 hB
      by_cases h0 : xS X c i = 0
      · rw [if_pos h0] at hsg hB
        rw [List.length_nil] at hsg
        refine jj_iload_n (q := 26) dX9_report_25 rfl rfl rfl ?_
        refine jj_aload_n (q := 27) dX9_report_26 rfl rfl rfl ?_
        refine jj_getS (q := 30) dX9_report_27 fl_X9_17 hm.t0 hm.r0_10 rfl rfl rfl ?_
        refine jj_bipush (v := 12) (q := 32) dX9_report_30 rfl rfl ?_
        refine jj_ialdW (q := 33) (j := 12) (v := nI nf) dX9_report_32 hm.t2 (blk_sn (by decide) (by decide)) rfl (by omega) hq rfl ?_
        refine jj_icmp_ge (q := 36) (tgt := 111) dX9_report_33 rfl rfl (fun h33 => absurd h33 ((nI_ge (show i < nf by omega) (by omega)))) (fun h33 => ?_)
        refine jj_iload_n (q := 37) dX9_report_36 rfl rfl rfl ?_
        refine jj_if_le (q := 40) (tgt := 46) dX9_report_37 rfl rfl (fun h37 => ?_) (fun h37 => absurd (by rw [hi0]; decide) h37)
        refine jj_aload_n (q := 47) dX9_report_46 rfl rfl rfl ?_
        refine jj_aload_n (q := 48) dX9_report_47 rfl rfl rfl ?_
        refine jj_iload_n (q := 49) dX9_report_48 rfl rfl rfl ?_
        refine jj_bipush (v := 10) (q := 51) dX9_report_49 rfl rfl ?_
        refine jj_bipush (v := 10) (q := 53) dX9_report_51 rfl rfl ?_
        refine jj_cV3i (q := 56) dX9_report_53 yk_X9_bagsOf ml_X9_376 hm.t0 (ex_bagsOf hm hX hc) rfl rfl rfl ⟨Nat.zero_le _, Nat.zero_le _⟩ ?_
        refine jj_cV1v (q := 59) dX9_report_56 yk_X9_writesNumber ml_X9_394 hm.t0 (ex_writesNumber (v := xL X c i) hm ho s1 (by omega) (by omega)) rfl rfl rfl ⟨Nat.zero_le _, Nat.zero_le _⟩ ?_
        refine jj_aload_n (q := 60) dX9_report_59 rfl rfl rfl ?_
        refine jj_bipush (v := 47) (q := 62) dX9_report_60 rfl rfl ?_
        refine jj_cV1v (q := 65) dX9_report_62 yk_X9_writes ml_X9_391 hm.t0 (ex_writes (b := 47) hm ho s2 (by rw [List.length_singleton]; omega)) rfl rfl rfl ⟨Nat.zero_le _, Nat.zero_le _⟩ ?_
        refine jj_aload_n (q := 66) dX9_report_65 rfl rfl rfl ?_
        refine jj_aload_n (q := 67) dX9_report_66 rfl rfl rfl ?_
        refine jj_iload_n (q := 68) dX9_report_67 rfl rfl rfl ?_
        refine jj_iconst (v := 0) (q := 69) dX9_report_68 rfl rfl ?_
        refine jj_bipush (v := 13) (q := 71) dX9_report_69 rfl rfl ?_
        refine jj_cV3i (q := 74) dX9_report_71 yk_X9_bagsOf ml_X9_376 hm.t0 (ex_bagsOf hm hX hc) rfl rfl rfl ⟨Nat.zero_le _, Nat.zero_le _⟩ ?_
        refine jj_cV1v (q := 77) dX9_report_74 yk_X9_writesNumber ml_X9_394 hm.t0 (ex_writesNumber (v := xA X c i) hm ho s3 (by omega) (by omega)) rfl rfl rfl ⟨Nat.zero_le _, Nat.zero_le _⟩ ?_
        refine jj_aload_n (q := 78) dX9_report_77 rfl rfl rfl ?_
        refine jj_iload_n (q := 79) dX9_report_78 rfl rfl rfl ?_
        refine jj_bipush (v := 11) (q := 81) dX9_report_79 rfl rfl ?_
        refine jj_bipush (v := 11) (q := 83) dX9_report_81 rfl rfl ?_
        refine jj_cV3i (q := 86) dX9_report_83 yk_X9_bagsOf ml_X9_376 hm.t0 (ex_bagsOf hm hX hc) rfl rfl rfl ⟨Nat.zero_le _, Nat.zero_le _⟩ ?_
        refine jj_istore_n (q := 87) dX9_report_86 rfl (by decide) rfl ?_
        refine jj_iload_n (q := 88) dX9_report_87 rfl rfl rfl ?_
        refine jj_if_ne (q := 91) (tgt := 94) dX9_report_88 rfl rfl (fun h88 => by exfalso; exact h88 (by rw [show fb_ct (pB X (nI i) 11 11) c = 0 from h0]; rfl)) (fun h88 => ?_)
        refine jj_goto (tgt := 105) dX9_report_91 rfl ?_
        refine jj_iinc (v := nI (i + 1)) (q := 108) dX9_report_105 rfl (nI_incn i 1 rfl) (by decide) rfl ?_
        refine jj_goto (tgt := 25) dX9_report_108 rfl ?_
        exact ih (i + 1) _ _ A' _ (by omega) (by (repeat rw [wAL_c (c := 2) (by omega) (by omega)]); exact hq) s4 (by omega) (by rw [hB _ rfl, wAL_nil] at he; exact he)
      · rw [if_neg h0] at hsg hB
        rw [List.length_append, List.length_singleton] at hsg
        have s5 := wAL_0 (k := 15) (l := [45]) s4 (by rw [List.length_singleton]; omega)
        rw [List.length_singleton] at s5
        have s6 := wAL_0 (k := 15) (l := dg (xS X c i)) s5 (by omega)
        refine jj_iload_n (q := 26) dX9_report_25 rfl rfl rfl ?_
        refine jj_aload_n (q := 27) dX9_report_26 rfl rfl rfl ?_
        refine jj_getS (q := 30) dX9_report_27 fl_X9_17 hm.t0 hm.r0_10 rfl rfl rfl ?_
        refine jj_bipush (v := 12) (q := 32) dX9_report_30 rfl rfl ?_
        refine jj_ialdW (q := 33) (j := 12) (v := nI nf) dX9_report_32 hm.t2 (blk_sn (by decide) (by decide)) rfl (by omega) hq rfl ?_
        refine jj_icmp_ge (q := 36) (tgt := 111) dX9_report_33 rfl rfl (fun h33 => absurd h33 ((nI_ge (show i < nf by omega) (by omega)))) (fun h33 => ?_)
        refine jj_iload_n (q := 37) dX9_report_36 rfl rfl rfl ?_
        refine jj_if_le (q := 40) (tgt := 46) dX9_report_37 rfl rfl (fun h37 => ?_) (fun h37 => absurd (by rw [hi0]; decide) h37)
        refine jj_aload_n (q := 47) dX9_report_46 rfl rfl rfl ?_
        refine jj_aload_n (q := 48) dX9_report_47 rfl rfl rfl ?_
        refine jj_iload_n (q := 49) dX9_report_48 rfl rfl rfl ?_
        refine jj_bipush (v := 10) (q := 51) dX9_report_49 rfl rfl ?_
        refine jj_bipush (v := 10) (q := 53) dX9_report_51 rfl rfl ?_
        refine jj_cV3i (q := 56) dX9_report_53 yk_X9_bagsOf ml_X9_376 hm.t0 (ex_bagsOf hm hX hc) rfl rfl rfl ⟨Nat.zero_le _, Nat.zero_le _⟩ ?_
        refine jj_cV1v (q := 59) dX9_report_56 yk_X9_writesNumber ml_X9_394 hm.t0 (ex_writesNumber (v := xL X c i) hm ho s1 (by omega) (by omega)) rfl rfl rfl ⟨Nat.zero_le _, Nat.zero_le _⟩ ?_
        refine jj_aload_n (q := 60) dX9_report_59 rfl rfl rfl ?_
        refine jj_bipush (v := 47) (q := 62) dX9_report_60 rfl rfl ?_
        refine jj_cV1v (q := 65) dX9_report_62 yk_X9_writes ml_X9_391 hm.t0 (ex_writes (b := 47) hm ho s2 (by rw [List.length_singleton]; omega)) rfl rfl rfl ⟨Nat.zero_le _, Nat.zero_le _⟩ ?_
        refine jj_aload_n (q := 66) dX9_report_65 rfl rfl rfl ?_
        refine jj_aload_n (q := 67) dX9_report_66 rfl rfl rfl ?_
        refine jj_iload_n (q := 68) dX9_report_67 rfl rfl rfl ?_
        refine jj_iconst (v := 0) (q := 69) dX9_report_68 rfl rfl ?_
        refine jj_bipush (v := 13) (q := 71) dX9_report_69 rfl rfl ?_
        refine jj_cV3i (q := 74) dX9_report_71 yk_X9_bagsOf ml_X9_376 hm.t0 (ex_bagsOf hm hX hc) rfl rfl rfl ⟨Nat.zero_le _, Nat.zero_le _⟩ ?_
        refine jj_cV1v (q := 77) dX9_report_74 yk_X9_writesNumber ml_X9_394 hm.t0 (ex_writesNumber (v := xA X c i) hm ho s3 (by omega) (by omega)) rfl rfl rfl ⟨Nat.zero_le _, Nat.zero_le _⟩ ?_
        refine jj_aload_n (q := 78) dX9_report_77 rfl rfl rfl ?_
        refine jj_iload_n (q := 79) dX9_report_78 rfl rfl rfl ?_
        refine jj_bipush (v := 11) (q := 81) dX9_report_79 rfl rfl ?_
        refine jj_bipush (v := 11) (q := 83) dX9_report_81 rfl rfl ?_
        refine jj_cV3i (q := 86) dX9_report_83 yk_X9_bagsOf ml_X9_376 hm.t0 (ex_bagsOf hm hX hc) rfl rfl rfl ⟨Nat.zero_le _, Nat.zero_le _⟩ ?_
        refine jj_istore_n (q := 87) dX9_report_86 rfl (by decide) rfl ?_
        refine jj_iload_n (q := 88) dX9_report_87 rfl rfl rfl ?_
        refine jj_if_ne (q := 91) (tgt := 94) dX9_report_88 rfl rfl (fun h88 => ?_) (fun h88 => by exfalso; exact absurd h88 (nI_ne0 (n := xS X c i) (by omega) (by omega)))
        refine jj_aload_n (q := 95) dX9_report_94 rfl rfl rfl ?_
        refine jj_bipush (v := 45) (q := 97) dX9_report_95 rfl rfl ?_
        refine jj_cV1v (q := 100) dX9_report_97 yk_X9_writes ml_X9_391 hm.t0 (ex_writes (b := 45) hm ho s4 (by rw [List.length_singleton]; omega)) rfl rfl rfl ⟨Nat.zero_le _, Nat.zero_le _⟩ ?_
        refine jj_aload_n (q := 101) dX9_report_100 rfl rfl rfl ?_
        refine jj_iload_n (q := 102) dX9_report_101 rfl rfl rfl ?_
        refine jj_cV1v (q := 105) dX9_report_102 yk_X9_writesNumber ml_X9_394 hm.t0 (ex_writesNumber (v := xS X c i) hm ho s5 (by omega) (by omega)) rfl rfl rfl ⟨Nat.zero_le _, Nat.zero_le _⟩ ?_
        refine jj_iinc (v := nI (i + 1)) (q := 108) dX9_report_105 rfl (nI_incn i 1 rfl) (by decide) rfl ?_
        refine jj_goto (tgt := 25) dX9_report_108 rfl ?_
        exact ih (i + 1) _ _ A' _ (by omega) (by (repeat rw [wAL_c (c := 2) (by omega) (by omega)]); exact hq) s6 (by omega) (by rw [hB _ (wAL_app _ _ _ _)] at he; exact he)
    · rw [if_neg hi0] at s1 s2 s3 s4 hB hsg
      rw [List.length_singleton] at hsg s1 s2 s3 s4
      by_cases h0 : xS X c i = 0
      · rw [if_pos h0] at hsg hB
        rw [List.length_nil] at hsg
        refine jj_iload_n (q := 26) dX9_report_25 rfl rfl rfl ?_
        refine jj_aload_n (q := 27) dX9_report_26 rfl rfl rfl ?_
        refine jj_getS (q := 30) dX9_report_27 fl_X9_17 hm.t0 hm.r0_10 rfl rfl rfl ?_
        refine jj_bipush (v := 12) (q := 32) dX9_report_30 rfl rfl ?_
        refine jj_ialdW (q := 33) (j := 12) (v := nI nf) dX9_report_32 hm.t2 (blk_sn (by decide) (by decide)) rfl (by omega) hq rfl ?_
        refine jj_icmp_ge (q := 36) (tgt := 111) dX9_report_33 rfl rfl (fun h33 => absurd h33 ((nI_ge (show i < nf by omega) (by omega)))) (fun h33 => ?_)
        refine jj_iload_n (q := 37) dX9_report_36 rfl rfl rfl ?_
        refine jj_if_le (q := 40) (tgt := 46) dX9_report_37 rfl rfl (fun h37 => absurd h37 (nI_ge (a := 0) (b := i) (by omega) (by omega))) (fun h37 => ?_)
        refine jj_aload_n (q := 41) dX9_report_40 rfl rfl rfl ?_
        refine jj_bipush (v := 59) (q := 43) dX9_report_41 rfl rfl ?_
        refine jj_cV1v (q := 46) dX9_report_43 yk_X9_writes ml_X9_391 hm.t0 (ex_writes (b := 59) hm ho hs (by rw [List.length_singleton]; omega)) rfl rfl rfl ⟨Nat.zero_le _, Nat.zero_le _⟩ ?_
        refine jj_aload_n (q := 47) dX9_report_46 rfl rfl rfl ?_
        refine jj_aload_n (q := 48) dX9_report_47 rfl rfl rfl ?_
        refine jj_iload_n (q := 49) dX9_report_48 rfl rfl rfl ?_
        refine jj_bipush (v := 10) (q := 51) dX9_report_49 rfl rfl ?_
        refine jj_bipush (v := 10) (q := 53) dX9_report_51 rfl rfl ?_
        refine jj_cV3i (q := 56) dX9_report_53 yk_X9_bagsOf ml_X9_376 hm.t0 (ex_bagsOf hm hX hc) rfl rfl rfl ⟨Nat.zero_le _, Nat.zero_le _⟩ ?_
        refine jj_cV1v (q := 59) dX9_report_56 yk_X9_writesNumber ml_X9_394 hm.t0 (ex_writesNumber (v := xL X c i) hm ho s1 (by omega) (by omega)) rfl rfl rfl ⟨Nat.zero_le _, Nat.zero_le _⟩ ?_
        refine jj_aload_n (q := 60) dX9_report_59 rfl rfl rfl ?_
        refine jj_bipush (v := 47) (q := 62) dX9_report_60 rfl rfl ?_
        refine jj_cV1v (q := 65) dX9_report_62 yk_X9_writes ml_X9_391 hm.t0 (ex_writes (b := 47) hm ho s2 (by rw [List.length_singleton]; omega)) rfl rfl rfl ⟨Nat.zero_le _, Nat.zero_le _⟩ ?_
        refine jj_aload_n (q := 66) dX9_report_65 rfl rfl rfl ?_
        refine jj_aload_n (q := 67) dX9_report_66 rfl rfl rfl ?_
        refine jj_iload_n (q := 68) dX9_report_67 rfl rfl rfl ?_
        refine jj_iconst (v := 0) (q := 69) dX9_report_68 rfl rfl ?_
        refine jj_bipush (v := 13) (q := 71) dX9_report_69 rfl rfl ?_
        refine jj_cV3i (q := 74) dX9_report_71 yk_X9_bagsOf ml_X9_376 hm.t0 (ex_bagsOf hm hX hc) rfl rfl rfl ⟨Nat.zero_le _, Nat.zero_le _⟩ ?_
        refine jj_cV1v (q := 77) dX9_report_74 yk_X9_writesNumber ml_X9_394 hm.t0 (ex_writesNumber (v := xA X c i) hm ho s3 (by omega) (by omega)) rfl rfl rfl ⟨Nat.zero_le _, Nat.zero_le _⟩ ?_
        refine jj_aload_n (q := 78) dX9_report_77 rfl rfl rfl ?_
        refine jj_iload_n (q := 79) dX9_report_78 rfl rfl rfl ?_
        refine jj_bipush (v := 11) (q := 81) dX9_report_79 rfl rfl ?_
        refine jj_bipush (v := 11) (q := 83) dX9_report_81 rfl rfl ?_
        refine jj_cV3i (q := 86) dX9_report_83 yk_X9_bagsOf ml_X9_376 hm.t0 (ex_bagsOf hm hX hc) rfl rfl rfl ⟨Nat.zero_le _, Nat.zero_le _⟩ ?_
        refine jj_istore_n (q := 87) dX9_report_86 rfl (by decide) rfl ?_
        refine jj_iload_n (q := 88) dX9_report_87 rfl rfl rfl ?_
        refine jj_if_ne (q := 91) (tgt := 94) dX9_report_88 rfl rfl (fun h88 => by exfalso; exact h88 (by rw [show fb_ct (pB X (nI i) 11 11) c = 0 from h0]; rfl)) (fun h88 => ?_)
        refine jj_goto (tgt := 105) dX9_report_91 rfl ?_
        refine jj_iinc (v := nI (i + 1)) (q := 108) dX9_report_105 rfl (nI_incn i 1 rfl) (by decide) rfl ?_
        refine jj_goto (tgt := 25) dX9_report_108 rfl ?_
        exact ih (i + 1) _ _ A' _ (by omega) (by (repeat rw [wAL_c (c := 2) (by omega) (by omega)]); exact hq) s4 (by omega) (by rw [hB _ rfl, wAL_nil] at he; exact he)
      · rw [if_neg h0] at hsg hB
        rw [List.length_append, List.length_singleton] at hsg
        have s5 := wAL_0 (k := 15) (l := [45]) s4 (by rw [List.length_singleton]; omega)
        rw [List.length_singleton] at s5
        have s6 := wAL_0 (k := 15) (l := dg (xS X c i)) s5 (by omega)
        refine jj_iload_n (q := 26) dX9_report_25 rfl rfl rfl ?_
        refine jj_aload_n (q := 27) dX9_report_26 rfl rfl rfl ?_
        refine jj_getS (q := 30) dX9_report_27 fl_X9_17 hm.t0 hm.r0_10 rfl rfl rfl ?_
        refine jj_bipush (v := 12) (q := 32) dX9_report_30 rfl rfl ?_
        refine jj_ialdW (q := 33) (j := 12) (v := nI nf) dX9_report_32 hm.t2 (blk_sn (by decide) (by decide)) rfl (by omega) hq rfl ?_
        refine jj_icmp_ge (q := 36) (tgt := 111) dX9_report_33 rfl rfl (fun h33 => absurd h33 ((nI_ge (show i < nf by omega) (by omega)))) (fun h33 => ?_)
        refine jj_iload_n (q := 37) dX9_report_36 rfl rfl rfl ?_
        refine jj_if_le (q := 40) (tgt := 46) dX9_report_37 rfl rfl (fun h37 => absurd h37 (nI_ge (a := 0) (b := i) (by omega) (by omega))) (fun h37 => ?_)
        refine jj_aload_n (q := 41) dX9_report_40 rfl rfl rfl ?_
        refine jj_bipush (v := 59) (q := 43) dX9_report_41 rfl rfl ?_
        refine jj_cV1v (q := 46) dX9_report_43 yk_X9_writes ml_X9_391 hm.t0 (ex_writes (b := 59) hm ho hs (by rw [List.length_singleton]; omega)) rfl rfl rfl ⟨Nat.zero_le _, Nat.zero_le _⟩ ?_
        refine jj_aload_n (q := 47) dX9_report_46 rfl rfl rfl ?_
        refine jj_aload_n (q := 48) dX9_report_47 rfl rfl rfl ?_
        refine jj_iload_n (q := 49) dX9_report_48 rfl rfl rfl ?_
        refine jj_bipush (v := 10) (q := 51) dX9_report_49 rfl rfl ?_
        refine jj_bipush (v := 10) (q := 53) dX9_report_51 rfl rfl ?_
        refine jj_cV3i (q := 56) dX9_report_53 yk_X9_bagsOf ml_X9_376 hm.t0 (ex_bagsOf hm hX hc) rfl rfl rfl ⟨Nat.zero_le _, Nat.zero_le _⟩ ?_
        refine jj_cV1v (q := 59) dX9_report_56 yk_X9_writesNumber ml_X9_394 hm.t0 (ex_writesNumber (v := xL X c i) hm ho s1 (by omega) (by omega)) rfl rfl rfl ⟨Nat.zero_le _, Nat.zero_le _⟩ ?_
        refine jj_aload_n (q := 60) dX9_report_59 rfl rfl rfl ?_
        refine jj_bipush (v := 47) (q := 62) dX9_report_60 rfl rfl ?_
        refine jj_cV1v (q := 65) dX9_report_62 yk_X9_writes ml_X9_391 hm.t0 (ex_writes (b := 47) hm ho s2 (by rw [List.length_singleton]; omega)) rfl rfl rfl ⟨Nat.zero_le _, Nat.zero_le _⟩ ?_
        refine jj_aload_n (q := 66) dX9_report_65 rfl rfl rfl ?_
        refine jj_aload_n (q := 67) dX9_report_66 rfl rfl rfl ?_
        refine jj_iload_n (q := 68) dX9_report_67 rfl rfl rfl ?_
        refine jj_iconst (v := 0) (q := 69) dX9_report_68 rfl rfl ?_
        refine jj_bipush (v := 13) (q := 71) dX9_report_69 rfl rfl ?_
        refine jj_cV3i (q := 74) dX9_report_71 yk_X9_bagsOf ml_X9_376 hm.t0 (ex_bagsOf hm hX hc) rfl rfl rfl ⟨Nat.zero_le _, Nat.zero_le _⟩ ?_
        refine jj_cV1v (q := 77) dX9_report_74 yk_X9_writesNumber ml_X9_394 hm.t0 (ex_writesNumber (v := xA X c i) hm ho s3 (by omega) (by omega)) rfl rfl rfl ⟨Nat.zero_le _, Nat.zero_le _⟩ ?_
        refine jj_aload_n (q := 78) dX9_report_77 rfl rfl rfl ?_
        refine jj_iload_n (q := 79) dX9_report_78 rfl rfl rfl ?_
        refine jj_bipush (v := 11) (q := 81) dX9_report_79 rfl rfl ?_
        refine jj_bipush (v := 11) (q := 83) dX9_report_81 rfl rfl ?_
        refine jj_cV3i (q := 86) dX9_report_83 yk_X9_bagsOf ml_X9_376 hm.t0 (ex_bagsOf hm hX hc) rfl rfl rfl ⟨Nat.zero_le _, Nat.zero_le _⟩ ?_
        refine jj_istore_n (q := 87) dX9_report_86 rfl (by decide) rfl ?_
        refine jj_iload_n (q := 88) dX9_report_87 rfl rfl rfl ?_
        refine jj_if_ne (q := 91) (tgt := 94) dX9_report_88 rfl rfl (fun h88 => ?_) (fun h88 => by exfalso; exact absurd h88 (nI_ne0 (n := xS X c i) (by omega) (by omega)))
        refine jj_aload_n (q := 95) dX9_report_94 rfl rfl rfl ?_
        refine jj_bipush (v := 45) (q := 97) dX9_report_95 rfl rfl ?_
        refine jj_cV1v (q := 100) dX9_report_97 yk_X9_writes ml_X9_391 hm.t0 (ex_writes (b := 45) hm ho s4 (by rw [List.length_singleton]; omega)) rfl rfl rfl ⟨Nat.zero_le _, Nat.zero_le _⟩ ?_
        refine jj_aload_n (q := 101) dX9_report_100 rfl rfl rfl ?_
        refine jj_iload_n (q := 102) dX9_report_101 rfl rfl rfl ?_
        refine jj_cV1v (q := 105) dX9_report_102 yk_X9_writesNumber ml_X9_394 hm.t0 (ex_writesNumber (v := xS X c i) hm ho s5 (by omega) (by omega)) rfl rfl rfl ⟨Nat.zero_le _, Nat.zero_le _⟩ ?_
        refine jj_iinc (v := nI (i + 1)) (q := 108) dX9_report_105 rfl (nI_incn i 1 rfl) (by decide) rfl ?_
        refine jj_goto (tgt := 25) dX9_report_108 rfl ?_
        exact ih (i + 1) _ _ A' _ (by omega) (by (repeat rw [wAL_c (c := 2) (by omega) (by omega)]); exact hq) s6 (by omega) (by rw [hB _ (wAL_app _ _ _ _)] at he; exact he)
theorem ex_mreport (hm : hMo T S mo) (hX : mI X) (hc : mC X = c) {nf : Nat} (hf : A 2 12 = nI nf) (hf8 : nf ≤ 8) (hok : ¬ mOk A 1 = 0) : Ex Γ (d + 2) Y_X9_report [.ref mo] (T, R, S, blk 18 I mo (st A 4 X), L, D, z) 0 0 (rI (nI (rR (xL X c) (xA X c) (xS X c) 0 nf).length) (T, R, u2 S mo 31 (some (mo + 15)), blk 18 I mo (st (u2 (wAL 15 (u2 (tA A (tI A 1)) 0 34 0) (rR (xL X c) (xA X c) (xS X c) 0 nf)) 0 32 (nI (rR (xL X c) (xA X c) (xS X c) 0 nf).length)) 4 X), L, D, z)) := by
  have hc1 : c ≤ 100 := by have := hX.c.2; omega
  have hlen := rR_len (fun f => xLAS (X := X) hc1 f) nf 0
  have hs0 : u2 (tA A (tI A 1)) 0 34 0 0 34 = nI 0 := rfl
  have hsz := wAL_0 (k := 15) (l := rR (xL X c) (xA X c) (xS X c) 0 nf) hs0 (by omega)
  rw [Nat.zero_add] at hsz
  rw [← hsz]
  have ho : oW T (u2 S mo 31 (some (mo + 15))) mo 15 200 := ⟨Or.inl rfl, hm.t15, by rw [u2_ap, if_pos rfl, if_pos rfl], by omega⟩
  refine Ex.of (by decide) (by simp [Value.category]) (Nat.le_of_ble_eq_true rfl) rfl ?_
  refine jj_aload_n (q := 1) dX9_report_0 rfl rfl rfl ?_
  refine jj_iconst (v := 1) (q := 2) dX9_report_1 rfl rfl ?_
  refine jj_cV1i (q := 5) dX9_report_2 yk_X9_mayAsk ml_X9_353 hm.t0 (ex_mayAsk hm) rfl rfl rfl ⟨Nat.zero_le _, Nat.zero_le _⟩ ?_
  refine jj_if_ne (q := 8) (tgt := 10) dX9_report_5 rfl rfl (fun h5 => ?_) (fun h5 => by exfalso; exact hok h5)
  refine jj_aload_n (q := 11) dX9_report_10 rfl rfl rfl ?_
  refine jj_aload_n (q := 12) dX9_report_11 rfl rfl rfl ?_
  refine jj_getS (q := 15) dX9_report_12 fl_X9_70 hm.t0 hm.r0_29 rfl rfl rfl ?_
  refine jj_putS (q := 18) dX9_report_15 fl_X9_76 (by decide) hm.t0 rfl rfl rfl rfl rfl ?_
  refine jj_aload_n (q := 19) dX9_report_18 rfl rfl rfl ?_
  refine jj_iconst (v := 0) (q := 20) dX9_report_19 rfl rfl ?_
  refine jj_putIv (q := 23) dX9_report_20 fl_X9_388 hm.t0 (u2_bs0 (by decide) (by decide)) rfl rfl rfl rfl rfl ?_
  refine jj_iconst (v := 0) (q := 24) dX9_report_23 rfl rfl ?_
  refine jj_istore_n (q := 25) dX9_report_24 rfl (by decide) rfl ?_
  exact lp_mreport hm.out ho hX hc hf8 nf 0 0 _ _ _ (by omega) hf hs0 (by omega) rfl
theorem ex_mreport_no (hm : hMo T S mo) (hok : mOk A 1 = 0) : Ex Γ (d + 2) Y_X9_report [.ref mo] (T, R, S, blk 18 I mo (st A 4 X), L, D, z) 0 0 (rI 0 (T, R, S, blk 18 I mo (st (tA A (tI A 1)) 4 X), L, D, z)) := by
  refine Ex.of (by decide) (by simp [Value.category]) (Nat.le_of_ble_eq_true rfl) rfl ?_
  refine jj_aload_n (q := 1) dX9_report_0 rfl rfl rfl ?_
  refine jj_iconst (v := 1) (q := 2) dX9_report_1 rfl rfl ?_
  refine jj_cV1i (q := 5) dX9_report_2 yk_X9_mayAsk ml_X9_353 hm.t0 (ex_mayAsk hm) rfl rfl rfl ⟨Nat.zero_le _, Nat.zero_le _⟩ ?_
  refine jj_if_ne (q := 8) (tgt := 10) dX9_report_5 rfl rfl (fun h5 => by exfalso; exact h5 hok) (fun h5 => ?_)
  refine jj_iconst (v := 0) (q := 9) dX9_report_8 rfl rfl ?_
  refine jj_iret dX9_report_9 rfl (Nat.zero_le _) (Nat.zero_le _) ?_
  exact ⟨rfl, rfl⟩
theorem ex_mtimetable_no (hm : hMo T S mo) (hok : mOk A 1 = 0) : Ex Γ (d + 2) Y_X9_timetable [.ref mo] (T, R, S, blk 18 I mo (st A 4 X), L, D, z) 0 0 (rI 0 (T, R, S, blk 18 I mo (st (tA A (tI A 1)) 4 X), L, D, z)) := by
  refine Ex.of (by decide) (by simp [Value.category]) (Nat.le_of_ble_eq_true rfl) rfl ?_
  refine jj_aload_n (q := 1) dX9_timetable_0 rfl rfl rfl ?_
  refine jj_iconst (v := 1) (q := 2) dX9_timetable_1 rfl rfl ?_
  refine jj_cV1i (q := 5) dX9_timetable_2 yk_X9_mayAsk ml_X9_353 hm.t0 (ex_mayAsk hm) rfl rfl rfl ⟨Nat.zero_le _, Nat.zero_le _⟩ ?_
  refine jj_if_ne (q := 8) (tgt := 10) dX9_timetable_5 rfl rfl (fun h5 => by exfalso; exact h5 hok) (fun h5 => ?_)
  refine jj_iconst (v := 0) (q := 9) dX9_timetable_8 rfl rfl ?_
  refine jj_iret dX9_timetable_9 rfl (Nat.zero_le _) (Nat.zero_le _) ?_
  exact ⟨rfl, rfl⟩
theorem ex_mmap_no (hm : hMo T S mo) (hok : mOk A 1 = 0) : Ex Γ (d + 2) Y_X9_map [.ref mo] (T, R, S, blk 18 I mo (st A 4 X), L, D, z) 0 0 (rI 0 (T, R, S, blk 18 I mo (st (tA A (tI A 1)) 4 X), L, D, z)) := by
  refine Ex.of (by decide) (by simp [Value.category]) (Nat.le_of_ble_eq_true rfl) rfl ?_
  refine jj_aload_n (q := 1) dX9_map_0 rfl rfl rfl ?_
  refine jj_iconst (v := 1) (q := 2) dX9_map_1 rfl rfl ?_
  refine jj_cV1i (q := 5) dX9_map_2 yk_X9_mayAsk ml_X9_353 hm.t0 (ex_mayAsk hm) rfl rfl rfl ⟨Nat.zero_le _, Nat.zero_le _⟩ ?_
  refine jj_if_ne (q := 8) (tgt := 10) dX9_map_5 rfl rfl (fun h5 => by exfalso; exact h5 hok) (fun h5 => ?_)
  refine jj_iconst (v := 0) (q := 9) dX9_map_8 rfl rfl ?_
  refine jj_iret dX9_map_9 rfl (Nat.zero_le _) (Nat.zero_le _) ?_
  exact ⟨rfl, rfl⟩
end M58
