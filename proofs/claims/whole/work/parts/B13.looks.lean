/-! LOOKS AHEAD, BOTH SIDES -/
def mA (A A' : JI) : Prop := (∀ j, j = 2 ∨ j = 5 ∨ j = 6 ∨ j = 18 ∨ j = 19 ∨ j = 25 ∨ j = 32 ∨ j = 33 ∨ j = 36 → A' 0 j = A 0 j) ∧ ∀ c, 0 < c → c < 18 → c ≠ 3 → c ≠ 5 → c ≠ 6 → A' c = A c
theorem gd_t {K : JI} {X : JV} {t ms : Nat} {vm : Int32} (em : vm = nI ms) (hK : K 0 0 = nI t) (hX : X 0 = nI t) (ht : t ≤ 9999) (h1 : 1 ≤ ms) (hms : ms ≤ 1000) (n : Int32) : (∃ N, 1 ≤ N ∧ N ≤ ms ∧ n = nI N ∧ t + N ≤ 9999 ∧ eTik K n vm = 0 ∧ cG X n vm = 1) ∨ (eTik K n vm = 3 ∧ cG X n vm = 0) := by
  subst em
  unfold eTik cG
  rw [hK, hX]
  rcases in_lh (lo := 1) (hi := ms) h1 (by omega) n with ⟨N, m1, m2, rfl, m4, m5⟩ | ⟨m4, m5⟩
  · rw [show eRng (nI N) 1 (nI ms) = 0 from m5, show inI (nI N) 1 (nI ms) = 1 from m4, nI_add, if_neg (show ¬ (1 : Int32) = 0 by decide)]
    by_cases g : t + N ≤ 9999
    · rw [if_pos (show nI (t + N) ≤ 9999 from nI_le (b := 9999) g (by omega)), if_neg (show ¬ (9999 : Int32) < nI (t + N) from nI_nltN (b := 9999) g (by omega))]
      exact Or.inl ⟨N, m1, m2, rfl, g, rfl, rfl⟩
    · rw [if_neg (show ¬ nI (t + N) ≤ 9999 from nI_ge (a := 9999) (by omega) (by omega)), if_pos (show (9999 : Int32) < nI (t + N) from nI_ltN (a := 9999) (by omega) (by omega))]
      exact Or.inr ⟨rfl, rfl⟩
  · rw [show eRng n 1 (nI ms) = 3 from m5, show inI n 1 (nI ms) = 0 from m4, if_pos rfl]
    exact Or.inr ⟨rfl, rfl⟩
section Q13
variable {Γ : Gam} {k xo mo ol : Nat} {T : JT} {R S : JR} {I : JI} {L : JL} {dc dm p p2 a a2 u nx n : Nat} {yc ym : JY} {args : List Value} {al : List (Nat × Int32)} {t v w : Int32}
theorem BSt.la (hl : WL Γ xo mo T R S p p2 a a2) (hb : WB I xo mo p p2 u nx) (ha : WN I xo mo p a u ∨ WA k I L xo mo p a u nx) (hol : mo + 18 ≤ ol) (hC : ∀ D, Ex Γ dc yc (.ref xo :: args) (T, R, S, I, L, D, none) (ec n) (es n) (fun o M1 => o = eO n (.int v) ∧ ∃ I1 L1, M1 = (T, R, S, I1, L1, D, none) ∧ cSm I I1 xo p a2 ∧ lSm L L1 xo a2 ∧ ∀ b, xo + 233 ≤ b → I1 b = I b)) (hM : ∀ I1 L' D', sK I1 mo = sK I mo → Ex Γ dm ym (.ref mo :: args) (T, R, S, I1, L', D', none) 0 0 (fun o M2 => ∃ A', o = .inl (some (.int w)) ∧ M2 = (T, R, S, blk 18 I1 mo A', L', D', none) ∧ mA (sK I mo) A' ∧ A' 0 0 = t)) (hn : (n, t) ∈ al) (hv : n = 0 → w = v) : BSt Γ k xo mo ol dc dm yc ym args al T R S I L := by
  intro D
  have hlt := hl.2.2.2
  refine ⟨n, t, v, fun S1 I1 L1 => S1 = S ∧ cSm I I1 xo p a2 ∧ lSm L L1 xo a2 ∧ ∀ b, xo + 233 ≤ b → I1 b = I b, hn, (hC D).mono fun o M1 h => ?_, fun S1 I1 L1 L' D' h hL => ?_⟩
  · obtain ⟨h1, I1, L1, h2, h3⟩ := h
    exact ⟨h1, S, I1, L1, h2, rfl, h3⟩
  · obtain ⟨rfl, h1, h2, h3⟩ := h
    refine (hM I1 L' D' (funext fun c => h3 _ (by omega))).mono fun o M2 h4 => ?_
    obtain ⟨A', g1, g2, g3, g4⟩ := h4
    refine ⟨_, _, w, ⟨g1, hv⟩, g2, Wd.cg hl hb ha (fun b q1 q2 q3 q4 => ?_) ⟨fun j hj => ?_, fun c q1 q2 q3 q4 q5 => ?_⟩ (fun b q1 q2 q3 => (hL b (by omega)).trans (h2 b q1 q2 q3)) (Nat.le_succ k), ?_⟩
    · rw [blk_out (by omega)]
      exact h1 b q1 q2 q3 q4
    · rw [blk_0 (by decide)]
      exact g3.1 j hj
    · rw [blk_k (by omega)]
      exact g3.2 c q1 q2 q3 q4 q5
    · rw [blk_0 (by decide)]
      exact g4
theorem la_mem (hl : WL Γ xo mo T R S p p2 a a2) {V : Nat → Int32} {K : JI} {r : Int64} : cSm I (blk 19 (vv I p V) a2 K) xo p a2 ∧ lSm L (u2 L a2 1 r) xo a2 ∧ ∀ b, xo + 233 ≤ b → blk 19 (vv I p V) a2 K b = I b := by
  have hps := hl.ps
  refine ⟨fun b h1 h2 h3 h4 => ?_, fun b h1 h2 h3 => u2_ne (by omega), fun b hb => ?_⟩
  · rw [blk_out h3]
    funext j
    exact if_neg h4
  · rw [blk_out (by omega)]
    funext j
    exact if_neg (by omega)
theorem mA_av {A : JI} {V X : JV} {t : Int32} (h : A 4 = X) : mA A (st (av (tA A t) V) 4 X) ∧ (st (av (tA A t) V) 4 X) 0 0 = t := by
  refine ⟨⟨fun j hj => ?_, fun c h0 h1 h3 h5 h6 => ?_⟩, ?_⟩
  · rw [st_ne (by omega)]
    unfold av
    rw [st_eq, w1_ne (by omega)]
    show u2 A 0 0 t 0 j = _
    rw [u2_ap, if_pos rfl, if_neg (by omega)]
  · by_cases e : c = 4
    · subst e
      rw [st_eq, h]
    · rw [st_ne e]
      unfold av
      rw [st_ne (by omega)]
      exact u2_ne (by omega)
  · rw [st_ne (by omega)]
    unfold av
    rw [st_eq, w1_ne (by omega)]
    show u2 A 0 0 t 0 0 = _
    rw [u2_ap, if_pos rfl, if_pos rfl]
theorem mA_s46 {A : JI} {V X Y : JV} {t : Int32} (h : A 4 = X) : mA A (s46 (av (tA A t) V) X Y) ∧ s46 (av (tA A t) V) X Y 0 0 = t := by
  unfold s46
  obtain ⟨⟨h1, h2⟩, h3⟩ := mA_av (A := A) (V := V) (X := X) (t := t) h
  refine ⟨⟨fun j hj => ?_, fun c g0 g1 g3 g5 g6 => ?_⟩, ?_⟩
  · rw [st_ne (by omega)]
    exact h1 j hj
  · rw [st_ne g6]
    exact h2 c g0 g1 g3 g5 g6
  · rw [st_ne (by omega)]
    exact h3
end Q13
section Q13b
variable {Γ : Gam} {k xo mo ol : Nat} {T : JT} {R S : JR} {I : JI} {L : JL}
theorem st_loadedIn (hw : Wd Γ k xo mo T R S I L) (hk : k ≤ 600) (hol : mo + 18 ≤ ol) {n : Int32} : BSt Γ k xo mo ol 100 100 Y_X8_loadedIn Y_X9_loadedIn [.int n] [(0, 0), (1, 1), (3, 2)] T R S I L := by
  have hw0 := hw
  obtain ⟨p, p2, a, a2, u, nx, hl, hb, ha⟩ := hw
  obtain ⟨c, nf, nl, ln, hc⟩ := Wc ha
  obtain ⟨hair, hX, ⟨c1, c2, c3, c4⟩, ⟨f1, f2, f3⟩, ⟨l1, l2, l3⟩, ⟨n1, n2, n3⟩, mm, lw⟩ := hc
  have htk : ∀ (h5 : I xo 1 = 1), ∃ t H, t ≤ 9999 ∧ sK I a 0 0 = nI t ∧ I (mo + 4) 0 = nI t ∧ AirP nf H (sK I p) (sK I mo) ∧ SR k nf (I (mo + 2)) (sK I a) (L a 1) (I (mo + 4)) := fun h5 => by
    obtain ⟨H, hP, hS⟩ := (WA.of ha h5).n f1 f3
    obtain ⟨t, t0, t1⟩ := hS.2.2.1
    exact ⟨t, H, t1, hS.1.clk.trans t0, t0, hP, hS⟩
  rcases gd_a hair with ⟨g1, g2⟩ | ⟨g1, g5, g2⟩
  · refine BSt.q (n := 1) (t := 1) (v := 0) (w := 0) hw0 hol (fun D => by
      have h := ex_loadedIn_no (Γ := Γ) (d := 92) (K := sK I a) (L := L) (D := D) (hl.1.cx I) (by
        unfold eAir at g1
        exact Decidable.byContradiction fun g => by rw [if_neg g] at g1; cases g1) (n := n)
      rw [blk_sK] at h
      exact h) (fun L' D' => by
      have h := ex_mloadedIn_no (Γ := Γ) (d := 70) (R := R) (I := I) (A := sK I mo) (X := sK I mo 4) (L := L') (D := D') (z := none) hl.2.1 (n := n) (g2 1).2
      rw [mB_self, mB_t, (g2 1).1] at h
      exact h) (by decide) (fun h => by cases h)
  · obtain ⟨t, H, t1, t2, t3, hP, hS⟩ := htk g5
    have hC : ∀ D, _ := fun D => ex_loadedIn (Γ := Γ) (d := 92) (T := T) (R := R) (S := S) (I := I) (K := sK I a) (L := L) (D := D) hl.1 hP.2.2.2.1 c2 c1 hS.lw (n := n)
    have e1 : mOk (sK I mo) 1 = 1 := (g2 1).2
    rcases gd_t (vm := 500) (ms := 500) rfl (K := sK I a) (X := sK I mo 4) t2 t3 t1 (by omega) (by omega) n with ⟨N, m1, m2, rfl, m3, m4, m5⟩ | ⟨m4, m5⟩
    · refine BSt.la (n := 0) (t := 0) hl hb ha hol (fun D => by
        have h := hC D
        rw [g1, m4, blk_sK, nN_nI (show N < 2 ^ 31 by omega)] at h
        refine h.mono fun o M1 h9 => ?_
        obtain ⟨w, h1, V, h2, h3⟩ := h9
        exact ⟨by rw [h1, h2]; rfl, _, _, h3, la_mem hl⟩) (fun I1 L' D' eA => by
        have hr := fun G => SR.run (c := c) hk hP rfl N (sK I a, L a 1) (cpw G 0 2086 (sK I mo 4)) t (hS.ag (cpw_ag _ _) f1) ((cpw_ag G (sK I mo 4)).c.trans c4) ((cpw_ag G (sK I mo 4) 0 (by omega)).trans t3) m3
        have h := ex_mloadedIn_ok (Γ := Γ) (d := 70) (T := T) (R := R) (S := S) (I := I1) (A := sK I1 mo) (X := sK I1 mo 4) (L := L') (D := D') (z := none) (H := H) (Q := sK I mo 2) (c := c) hl.2.1 (N := N) (by omega) hP.2.1 (by rw [eA]) (by rw [eA]; exact hP.2.2.2.2.2.1) (by rw [eA]; exact hS.2.1.1) (by rw [eA]; exact c4) (by rw [eA]; exact fun G => ⟨(hr G).1.i, (hr G).2.1⟩) (by rw [eA, e1]; decide) (by rw [eA, m5]; decide)
        rw [mB_self, eA] at h
        refine h.mono fun o M2 h9 => ?_
        obtain ⟨V, h1, h2⟩ := h9
        exact ⟨_, h1, h2, mA_s46 rfl⟩) (by decide) (fun _ => by
        have hr := SR.run (c := c) hk hP rfl N (kCp (sK I a2) (sK I a), L a 1) (cpw (sK I mo 6) 0 2086 (sK I mo 4)) t ((hS.kag (kCp_kag _ _)).ag (cpw_ag _ _) f1) ((cpw_ag (sK I mo 6) (sK I mo 4)).c.trans c4) ((cpw_ag (sK I mo 6) (sK I mo 4) 0 (by omega)).trans t3) m3
        have v1 := vl_cnt hr.1 (s := 10) (by omega)
        have v2 := vl_cnt (hS.kag (kCp_kag (sK I a2) _)) (s := 10) (by omega)
        rw [hr.2.1] at v1
        rw [c4] at v2
        exact (show nI _ - nI _ = atV 14 _ (nI 10) - atV 14 _ (nI 10) by rw [v1, v2]; rfl))
    · refine BSt.q (n := 3) (t := 2) (v := 0) (w := 0) hw0 hol (fun D => by
        have h := hC D
        rw [g1, m4, blk_sK] at h
        exact h) (fun L' D' => by
        have h := ex_mloadedIn_bad (Γ := Γ) (d := 70) (R := R) (I := I) (A := sK I mo) (X := sK I mo 4) (L := L') (D := D') (z := none) hl.2.1 (n := n) (by rw [e1]; decide) m5
        rw [mB_self, mB_t] at h
        exact h) (by decide) (fun h => by cases h)
theorem st_shortIn (hw : Wd Γ k xo mo T R S I L) (hk : k ≤ 600) (hol : mo + 18 ≤ ol) {n : Int32} : BSt Γ k xo mo ol 100 100 Y_X8_shortIn Y_X9_shortIn [.int n] [(0, 0), (1, 1), (3, 2)] T R S I L := by
  have hw0 := hw
  obtain ⟨p, p2, a, a2, u, nx, hl, hb, ha⟩ := hw
  obtain ⟨c, nf, nl, ln, hc⟩ := Wc ha
  obtain ⟨hair, hX, ⟨c1, c2, c3, c4⟩, ⟨f1, f2, f3⟩, ⟨l1, l2, l3⟩, ⟨n1, n2, n3⟩, mm, lw⟩ := hc
  have htk : ∀ (h5 : I xo 1 = 1), ∃ t H, t ≤ 9999 ∧ sK I a 0 0 = nI t ∧ I (mo + 4) 0 = nI t ∧ AirP nf H (sK I p) (sK I mo) ∧ SR k nf (I (mo + 2)) (sK I a) (L a 1) (I (mo + 4)) := fun h5 => by
    obtain ⟨H, hP, hS⟩ := (WA.of ha h5).n f1 f3
    obtain ⟨t, t0, t1⟩ := hS.2.2.1
    exact ⟨t, H, t1, hS.1.clk.trans t0, t0, hP, hS⟩
  rcases gd_a hair with ⟨g1, g2⟩ | ⟨g1, g5, g2⟩
  · refine BSt.q (n := 1) (t := 1) (v := 0) (w := 0) hw0 hol (fun D => by
      have h := ex_shortIn_no (Γ := Γ) (d := 92) (K := sK I a) (L := L) (D := D) (hl.1.cx I) (by
        unfold eAir at g1
        exact Decidable.byContradiction fun g => by rw [if_neg g] at g1; cases g1) (n := n)
      rw [blk_sK] at h
      exact h) (fun L' D' => by
      have h := ex_mshortIn_no (Γ := Γ) (d := 70) (R := R) (I := I) (A := sK I mo) (X := sK I mo 4) (L := L') (D := D') (z := none) hl.2.1 (n := n) (g2 1).2
      rw [mB_self, mB_t, (g2 1).1] at h
      exact h) (by decide) (fun h => by cases h)
  · obtain ⟨t, H, t1, t2, t3, hP, hS⟩ := htk g5
    have hC : ∀ D, _ := fun D => ex_shortIn (Γ := Γ) (d := 92) (T := T) (R := R) (S := S) (I := I) (K := sK I a) (L := L) (D := D) hl.1 hP.2.2.2.1 c2 c1 hS.lw (n := n)
    have e1 : mOk (sK I mo) 1 = 1 := (g2 1).2
    rcases gd_t (vm := 500) (ms := 500) rfl (K := sK I a) (X := sK I mo 4) t2 t3 t1 (by omega) (by omega) n with ⟨N, m1, m2, rfl, m3, m4, m5⟩ | ⟨m4, m5⟩
    · refine BSt.la (n := 0) (t := 0) hl hb ha hol (fun D => by
        have h := hC D
        rw [g1, m4, blk_sK, nN_nI (show N < 2 ^ 31 by omega)] at h
        refine h.mono fun o M1 h9 => ?_
        obtain ⟨w, h1, V, h2, h3⟩ := h9
        exact ⟨by rw [h1, h2]; rfl, _, _, h3, la_mem hl⟩) (fun I1 L' D' eA => by
        have hr := fun G => SR.run (c := c) hk hP rfl N (sK I a, L a 1) (cpw G 0 2086 (sK I mo 4)) t (hS.ag (cpw_ag _ _) f1) ((cpw_ag G (sK I mo 4)).c.trans c4) ((cpw_ag G (sK I mo 4) 0 (by omega)).trans t3) m3
        have h := ex_mshortIn_ok (Γ := Γ) (d := 70) (T := T) (R := R) (S := S) (I := I1) (A := sK I1 mo) (X := sK I1 mo 4) (L := L') (D := D') (z := none) (H := H) (Q := sK I mo 2) (c := c) hl.2.1 (N := N) (by omega) hP.2.1 (by rw [eA]) (by rw [eA]; exact hP.2.2.2.2.2.1) (by rw [eA]; exact hS.2.1.1) (by rw [eA]; exact c4) (by rw [eA]; exact fun G => ⟨(hr G).1.i, (hr G).2.1⟩) (by rw [eA, e1]; decide) (by rw [eA, m5]; decide)
        rw [mB_self, eA] at h
        refine h.mono fun o M2 h9 => ?_
        obtain ⟨V, h1, h2⟩ := h9
        exact ⟨_, h1, h2, mA_s46 rfl⟩) (by decide) (fun _ => by
        have hr := SR.run (c := c) hk hP rfl N (kCp (sK I a2) (sK I a), L a 1) (cpw (sK I mo 6) 0 2086 (sK I mo 4)) t ((hS.kag (kCp_kag _ _)).ag (cpw_ag _ _) f1) ((cpw_ag (sK I mo 6) (sK I mo 4)).c.trans c4) ((cpw_ag (sK I mo 6) (sK I mo 4) 0 (by omega)).trans t3) m3
        have v1 := vl_cnt hr.1 (s := 11) (by omega)
        have v2 := vl_cnt (hS.kag (kCp_kag (sK I a2) _)) (s := 11) (by omega)
        rw [hr.2.1] at v1
        rw [c4] at v2
        exact (show nI _ - nI _ = atV 14 _ (nI 11) - atV 14 _ (nI 11) by rw [v1, v2]; rfl))
    · refine BSt.q (n := 3) (t := 2) (v := 0) (w := 0) hw0 hol (fun D => by
        have h := hC D
        rw [g1, m4, blk_sK] at h
        exact h) (fun L' D' => by
        have h := ex_mshortIn_bad (Γ := Γ) (d := 70) (R := R) (I := I) (A := sK I mo) (X := sK I mo 4) (L := L') (D := D') (z := none) hl.2.1 (n := n) (by rw [e1]; decide) m5
        rw [mB_self, mB_t] at h
        exact h) (by decide) (fun h => by cases h)
end Q13b
