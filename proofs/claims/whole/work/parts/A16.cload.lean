/-! LOAD of the component -/
def swS (S : JR) (xo p p2 a a2 : Nat) : JR := u2 (u2 (u2 (u2 S xo 2 (some p2)) xo 3 (some p)) xo 4 (some a2)) xo 5 (some a)
def swI (I : JI) (xo : Nat) : JI := u2 (u2 (u2 (u2 I (xo + 73) 0 0) xo 9 0) xo 10 0) xo 1 1
/-- how load ends -/
def rLd (T : JT) (R S : JR) (I : JI) (L : JL) (D : JD) (xo p p2 a a2 : Nat) (RES : Res PSt) : JO → JM → Prop := match RES with
  | .inl e => fun o M' => o = .inr xIAE ∧ ∃ F P K tk dr, (F 0 = nI e.1 ∧ F 1 = nI e.2 ∧ F 2 = 0 ∧ cP6 P) ∧ M' = cM T R S I L D (sK I (xo + 1)) (xo + 1) p2 a2 F P K tk dr
  | .inr x => fun o M' => ∃ F P K tk dr, cEnd x.1 x.2 F P K tk dr ∧ o = .inl (some (.int (K 1 0))) ∧ M' = (T, R, swS S xo p p2 a a2, swI (cI I (sK I (xo + 1)) (xo + 1) p2 a2 F P K) xo, cL L (xo + 1) a2 tk dr, D, none)
theorem cI_self {I : JI} {pa pl sa : Nat} {v : Int32} (hd : hDj pa pl sa) : cI I (sK I pa) pa pl sa (w1 (I pa) 2 v) (sK I pl) (sK I sa) = u2 I pa 2 v := by
  obtain ⟨h1, h2, h3⟩ := hd
  funext b j
  unfold cI blk sK
  by_cases hb : pa ≤ b ∧ b < pa + 2
  · rw [if_pos hb]
    by_cases e : b = pa
    · subst e
      rw [Nat.sub_self, st_eq, u2_eq]
      rfl
    · rw [st_ne (by omega), u2_ne e, show pa + (b - pa) = b by omega]
  · rw [if_neg hb, u2_ne (by omega)]
    by_cases hc : pl ≤ b ∧ b < pl + 16
    · rw [if_pos hc, show pl + (b - pl) = b by omega]
    · rw [if_neg hc]
      by_cases he : sa ≤ b ∧ b < sa + 19
      · rw [if_pos he, show sa + (b - sa) = b by omega]
      · rw [if_neg he]
theorem cL_self {L : JL} {pa sa : Nat} : cL L pa sa (L pa 9) (L sa 1) = L := by
  unfold cL
  rw [u2_self, u2_self]
section B6
variable {Γ : Gam} {d : Nat} {T : JT} {R S : JR} {I : JI} {L : JL} {D : JD} {z : Option Nat} {xo p p2 a a2 : Nat} {b : Nat → Nat} {N X : JV} {H : Nat → Tst}
theorem hXo.dj (hX : hXo T R S xo p p2 a a2) : hDj (xo + 1) p2 a2 := by
  have h := hX.ps
  unfold hDj
  omega
theorem ex_use (hX : hXo T R S xo p p2 a a2) : Ex Γ d Y_X8_useWhatWasParsed [.ref xo] (T, R, S, I, L, D, z) 0 0 (rV (T, R, swS S xo p p2 a a2, swI I xo, L, D, z)) := by
  refine Ex.of (by decide) (by simp [Value.category]) (Nat.le_of_ble_eq_true rfl) rfl ?_
  refine jj_aload_n (q := 1) dX8_useWhatWasParsed_0 rfl rfl rfl ?_
  refine jj_getS (q := 4) dX8_useWhatWasParsed_1 fl_X8_23 hX.1 hX.2.2.2.1.2.1 rfl rfl rfl ?_
  refine jj_astore_n (q := 5) dX8_useWhatWasParsed_4 rfl (by decide) rfl ?_
  refine jj_aload_n (q := 6) dX8_useWhatWasParsed_5 rfl rfl rfl ?_
  refine jj_aload_n (q := 7) dX8_useWhatWasParsed_6 rfl rfl rfl ?_
  refine jj_getS (q := 10) dX8_useWhatWasParsed_7 fl_X8_27 hX.1 hX.2.2.2.1.2.2.1 rfl rfl rfl ?_
  refine jj_putS (q := 13) dX8_useWhatWasParsed_10 fl_X8_23 (by decide) hX.1 rfl rfl rfl rfl rfl ?_
  refine jj_aload_n (q := 14) dX8_useWhatWasParsed_13 rfl rfl rfl ?_
  refine jj_aload_n (q := 15) dX8_useWhatWasParsed_14 rfl rfl rfl ?_
  refine jj_putS (q := 18) dX8_useWhatWasParsed_15 fl_X8_27 (by decide) hX.1 rfl rfl rfl rfl rfl ?_
  refine jj_aload_n (q := 19) dX8_useWhatWasParsed_18 rfl rfl rfl ?_
  refine jj_getS (q := 22) dX8_useWhatWasParsed_19 fl_X8_33 hX.1 (show _ = some a by simp [u2_ap, hX.2.2.2.1.2.2.2.1]) rfl rfl rfl ?_
  refine jj_astore_n (q := 23) dX8_useWhatWasParsed_22 rfl (by decide) rfl ?_
  refine jj_aload_n (q := 24) dX8_useWhatWasParsed_23 rfl rfl rfl ?_
  refine jj_aload_n (q := 25) dX8_useWhatWasParsed_24 rfl rfl rfl ?_
  refine jj_getS (q := 28) dX8_useWhatWasParsed_25 fl_X8_37 hX.1 (show _ = some a2 by simp [u2_ap, hX.2.2.2.1.2.2.2.2.1]) rfl rfl rfl ?_
  refine jj_putS (q := 31) dX8_useWhatWasParsed_28 fl_X8_33 (by decide) hX.1 rfl rfl rfl rfl rfl ?_
  refine jj_aload_n (q := 32) dX8_useWhatWasParsed_31 rfl rfl rfl ?_
  refine jj_aload_n (q := 33) dX8_useWhatWasParsed_32 rfl rfl rfl ?_
  refine jj_putS (q := 36) dX8_useWhatWasParsed_33 fl_X8_37 (by decide) hX.1 rfl rfl rfl rfl rfl ?_
  refine jj_aload_n (q := 37) dX8_useWhatWasParsed_36 rfl rfl rfl ?_
  refine jj_getS (q := 40) dX8_useWhatWasParsed_37 fl_X8_43 hX.1 (show _ = some (xo + 73) by simp [u2_ap, hX.2.2.2.1.2.2.2.2.2.1]) rfl rfl rfl ?_
  refine jj_iconst (v := 0) (q := 41) dX8_useWhatWasParsed_40 rfl rfl ?_
  refine jj_putIv (q := 44) dX8_useWhatWasParsed_41 fl_X8_330 hX.hi.1.1 rfl rfl rfl rfl rfl rfl ?_
  refine jj_aload_n (q := 45) dX8_useWhatWasParsed_44 rfl rfl rfl ?_
  refine jj_iconst (v := 0) (q := 46) dX8_useWhatWasParsed_45 rfl rfl ?_
  refine jj_putIv (q := 49) dX8_useWhatWasParsed_46 fl_X8_53 hX.1 rfl rfl rfl (by first | rfl | assumption) (by first | rfl | assumption) rfl ?_
  refine jj_aload_n (q := 50) dX8_useWhatWasParsed_49 rfl rfl rfl ?_
  refine jj_iconst (v := 0) (q := 51) dX8_useWhatWasParsed_50 rfl rfl ?_
  refine jj_putIv (q := 54) dX8_useWhatWasParsed_51 fl_X8_56 hX.1 rfl rfl rfl (by first | rfl | assumption) (by first | rfl | assumption) rfl ?_
  refine jj_aload_n (q := 55) dX8_useWhatWasParsed_54 rfl rfl rfl ?_
  refine jj_iconst (v := 1) (q := 56) dX8_useWhatWasParsed_55 rfl rfl ?_
  refine jj_putIv (q := 59) dX8_useWhatWasParsed_56 fl_X8_16 hX.1 rfl rfl rfl (by first | rfl | assumption) (by first | rfl | assumption) rfl ?_
  refine jj_vret dX8_useWhatWasParsed_59 rfl (Nat.zero_le _) (Nat.zero_le _) ?_
  exact ⟨rfl, rfl⟩
theorem ex_load_bad (hX : hXo T R S xo p p2 a a2) {n : Int32} {q : Nat} (h2 : I (xo + 1) 2 = nI q) (hn : n < 0 ∨ nI q < n) : Ex Γ (d + 8) Y_X8_load [.ref xo, .int n] (T, R, S, I, L, D, none) 1 6 (rX xIOB (T, R, S, I, L, D, none)) := by
  by_cases h0 : n < 0
  · refine Ex.of (by decide) (by simp [Value.category]) (Nat.le_of_ble_eq_true rfl) rfl ?_
    refine jj_iload_n (q := 1) dX8_load_0 rfl rfl rfl ?_
    refine jj_if_lt (q := 4) (tgt := 15) dX8_load_1 rfl rfl (fun h1 => ?_) (fun h1 => absurd (h0) h1)
    refine jj_throw xok_1 ks_X8_83 rfl dX8_load_15 dX8_load_18 dX8_load_19 dX8_load_21 dX8_load_24 (by show 5 < _ + _; omega) (by show 90 ≤ 40 * (_ + _); omega) (by decide) ⟨Nat.le_refl _, Nat.le_refl _⟩ (Nat.le_refl _) (Nat.le_refl _) ?_
    exact ⟨rfl, rfl⟩
  · refine Ex.of (by decide) (by simp [Value.category]) (Nat.le_of_ble_eq_true rfl) rfl ?_
    refine jj_iload_n (q := 1) dX8_load_0 rfl rfl rfl ?_
    refine jj_if_lt (q := 4) (tgt := 15) dX8_load_1 rfl rfl (fun h1 => absurd h1 (h0)) (fun h1 => ?_)
    refine jj_iload_n (q := 5) dX8_load_4 rfl rfl rfl ?_
    refine jj_aload_n (q := 6) dX8_load_5 rfl rfl rfl ?_
    refine jj_getS (q := 9) dX8_load_6 fl_X8_10 hX.1 hX.2.2.2.1.1 rfl rfl rfl ?_
    refine jj_getIw (v := nI q) (q := 12) dX8_load_9 fl_X8_74 hX.2.2.2.2.1.t0 h2 rfl rfl ?_
    refine jj_icmp_le (q := 15) (tgt := 25) dX8_load_12 rfl rfl (fun h12 => by exfalso; exact absurd (hn.resolve_left h0) (Int32.not_lt.mpr h12)) (fun h12 => ?_)
    refine jj_throw xok_1 ks_X8_83 rfl dX8_load_15 dX8_load_18 dX8_load_19 dX8_load_21 dX8_load_24 (by show 5 < _ + _; omega) (by show 90 ≤ 40 * (_ + _); omega) (by decide) ⟨Nat.le_refl _, Nat.le_refl _⟩ (Nat.le_refl _) (Nat.le_refl _) ?_
    exact ⟨rfl, rfl⟩
theorem ex_load (hX : hXo T R S xo p p2 a a2) {n q : Nat} (h2 : I (xo + 1) 2 = nI q) (hn : n ≤ q) (hq : q ≤ 1200) (hb : pB_ (sK I (xo + 1)) b n) (hcp : cP6 (sK I p2)) : Ex Γ (d + 33) Y_X8_load [.ref xo, .int (nI n)] (T, R, S, I, L, D, none) (ec (eN (pTxt b n (rgX N 0 51 0) (clX0 X) H))) (es (eN (pTxt b n (rgX N 0 51 0) (clX0 X) H))) (rLd T R S I L D xo p p2 a a2 (pTxt b n (rgX N 0 51 0) (clX0 X) H)) := by
  have hps := hX.ps
  have hpr := ct_parse (Γ := Γ) (d := d) (T := T) (R := R) (S := S) (I := I) (C := sK I (xo + 1)) (L := L) (D := D) (F := w1 (I (xo + 1)) 2 0) (P := sK I p2) (K := sK I a2) (tk := L (xo + 1) 9) (dr := L a2 1) (N := N) (X := X) (H := H) hX.2.2.2.2.1 hb hX.dj hX.hp2 hX.ha2 rfl hcp
  unfold cM at hpr
  rw [cI_self hX.dj, cL_self] at hpr
  generalize pTxt b n (rgX N 0 51 0) (clX0 X) H = RES at hpr ⊢
  cases RES with
  | inl e =>
    refine Ex.of (by decide) (by simp [Value.category]) (Nat.le_of_ble_eq_true rfl) rfl ?_
    refine jj_iload_n (q := 1) dX8_load_0 rfl rfl rfl ?_
    refine jj_if_lt (q := 4) (tgt := 15) dX8_load_1 rfl rfl (fun h1 => absurd h1 (nI_ltz (by omega))) (fun h1 => ?_)
    refine jj_iload_n (q := 5) dX8_load_4 rfl rfl rfl ?_
    refine jj_aload_n (q := 6) dX8_load_5 rfl rfl rfl ?_
    refine jj_getS (q := 9) dX8_load_6 fl_X8_10 hX.1 hX.2.2.2.1.1 rfl rfl rfl ?_
    refine jj_getIw (v := nI q) (q := 12) dX8_load_9 fl_X8_74 hX.2.2.2.2.1.t0 h2 rfl rfl ?_
    refine jj_icmp_le (q := 15) (tgt := 25) dX8_load_12 rfl rfl (fun h12 => ?_) (fun h12 => absurd (nI_le hn (by omega)) h12)
    refine jj_aload_n (q := 26) dX8_load_25 rfl rfl rfl ?_
    refine jj_getS (q := 29) dX8_load_26 fl_X8_10 hX.1 hX.2.2.2.1.1 rfl rfl rfl ?_
    refine jj_iconst (v := 0) (q := 30) dX8_load_29 rfl rfl ?_
    refine jj_putIv (q := 33) dX8_load_30 fl_X8_74 hX.2.2.2.2.1.t0 rfl rfl rfl rfl rfl rfl ?_
    refine jj_aload_n (q := 34) dX8_load_33 rfl rfl rfl ?_
    refine jj_getS (q := 37) dX8_load_34 fl_X8_10 hX.1 hX.2.2.2.1.1 rfl rfl rfl ?_
    refine jj_iload_n (q := 38) dX8_load_37 rfl rfl rfl ?_
    refine jj_aload_n (q := 39) dX8_load_38 rfl rfl rfl ?_
    refine jj_getS (q := 42) dX8_load_39 fl_X8_27 hX.1 hX.2.2.2.1.2.2.1 rfl rfl rfl ?_
    refine jj_aload_n (q := 43) dX8_load_42 rfl rfl rfl ?_
    refine jj_getS (q := 46) dX8_load_43 fl_X8_37 hX.1 hX.2.2.2.1.2.2.2.2.1 rfl rfl rfl ?_
    refine jj_gV3 (q := 49) dX8_load_46 yk_X2_parse ml_X8_88 hX.2.2.2.2.1.t0 hpr rfl rfl rfl ⟨Nat.le_of_eq (Nat.zero_add _), Nat.le_of_eq (Nat.zero_add _)⟩ (fun w M' h => by obtain ⟨h1, h2⟩ := h; cases h1) (fun X M' h => by obtain ⟨h1, F, P, K, tk, dr, h3, h4⟩ := h; cases h1; exact jj_out rfl (Nat.le_of_eq (Nat.zero_add _)) (Nat.le_of_eq (Nat.zero_add _)) ⟨rfl, F, P, K, tk, dr, h3, h4⟩)
  | inr x =>
    refine Ex.of (by decide) (by simp [Value.category]) (Nat.le_of_ble_eq_true rfl) rfl ?_
    refine jj_iload_n (q := 1) dX8_load_0 rfl rfl rfl ?_
    refine jj_if_lt (q := 4) (tgt := 15) dX8_load_1 rfl rfl (fun h1 => absurd h1 (nI_ltz (by omega))) (fun h1 => ?_)
    refine jj_iload_n (q := 5) dX8_load_4 rfl rfl rfl ?_
    refine jj_aload_n (q := 6) dX8_load_5 rfl rfl rfl ?_
    refine jj_getS (q := 9) dX8_load_6 fl_X8_10 hX.1 hX.2.2.2.1.1 rfl rfl rfl ?_
    refine jj_getIw (v := nI q) (q := 12) dX8_load_9 fl_X8_74 hX.2.2.2.2.1.t0 h2 rfl rfl ?_
    refine jj_icmp_le (q := 15) (tgt := 25) dX8_load_12 rfl rfl (fun h12 => ?_) (fun h12 => absurd (nI_le hn (by omega)) h12)
    refine jj_aload_n (q := 26) dX8_load_25 rfl rfl rfl ?_
    refine jj_getS (q := 29) dX8_load_26 fl_X8_10 hX.1 hX.2.2.2.1.1 rfl rfl rfl ?_
    refine jj_iconst (v := 0) (q := 30) dX8_load_29 rfl rfl ?_
    refine jj_putIv (q := 33) dX8_load_30 fl_X8_74 hX.2.2.2.2.1.t0 rfl rfl rfl rfl rfl rfl ?_
    refine jj_aload_n (q := 34) dX8_load_33 rfl rfl rfl ?_
    refine jj_getS (q := 37) dX8_load_34 fl_X8_10 hX.1 hX.2.2.2.1.1 rfl rfl rfl ?_
    refine jj_iload_n (q := 38) dX8_load_37 rfl rfl rfl ?_
    refine jj_aload_n (q := 39) dX8_load_38 rfl rfl rfl ?_
    refine jj_getS (q := 42) dX8_load_39 fl_X8_27 hX.1 hX.2.2.2.1.2.2.1 rfl rfl rfl ?_
    refine jj_aload_n (q := 43) dX8_load_42 rfl rfl rfl ?_
    refine jj_getS (q := 46) dX8_load_43 fl_X8_37 hX.1 hX.2.2.2.1.2.2.2.2.1 rfl rfl rfl ?_
    refine jj_gV3 (q := 49) dX8_load_46 yk_X2_parse ml_X8_88 hX.2.2.2.2.1.t0 hpr rfl rfl rfl ⟨Nat.zero_le _, Nat.zero_le _⟩ (fun w M' h => ?_) (fun X M' h => by obtain ⟨h1, h2⟩ := h; cases h1)
    obtain ⟨h1, F, P, K, tk, dr, h3, h4⟩ := h
    cases h1
    subst h4
    refine jj_aload_n (q := 50) dX8_load_49 rfl rfl rfl ?_
    refine jj_cV0v (q := 53) dX8_load_50 yk_X8_useWhatWasParsed ml_X8_92 hX.1 (ex_use (d := d + 32) hX) rfl rfl rfl ⟨Nat.zero_le _, Nat.zero_le _⟩ ?_
    refine jj_aload_n (q := 54) dX8_load_53 rfl rfl rfl ?_
    refine jj_getS (q := 57) dX8_load_54 fl_X8_33 hX.1 (show _ = some a2 by unfold swS; simp [u2_ap]) rfl rfl rfl ?_
    refine jj_getR (q := 60) dX8_load_57 fl_X8_95 hX.ha2.t0 hX.ha2.r0_4 rfl rfl rfl ?_
    refine jj_getIw (v := K 1 0) (q := 63) dX8_load_60 fl_X8_99 hX.ha2.t1 (by unfold swI; rw [u2_ne (by omega), u2_ne (by omega), u2_ne (by omega), u2_ne (by omega)]; unfold cI; rw [blk_out (by omega), blk_out (by omega), blk_k (by omega)]) rfl rfl ?_
    refine jj_iret dX8_load_63 rfl (Nat.zero_le _) (Nat.zero_le _) ?_
    exact ⟨F, P, K, tk, dr, h3, rfl, rfl⟩
end B6
