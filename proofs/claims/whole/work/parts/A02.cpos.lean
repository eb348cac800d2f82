/-! A POSITION of the component; the head of a line -/
theorem lcmp0 {x y : Int64} (h : lg_cmp x y = 0) : x = y := by
  unfold lg_cmp at h
  split at h
  · exact absurd h (by decide)
  · split at h
    · assumption
    · exact absurd h (by decide)
section A2
variable {Γ : Gam} {d : Nat} {T : JT} {R S : JR} {I C P K : JI} {L : JL} {D : JD} {tk dr : Int64} {pa pl sa E p : Nat} {F : JV} {b : Nat → Nat}
theorem ct_pos40 (hp : hPa T R pa) (hb : pB_ C b E) (hs : cSt b E p F) (hcp : cP6 P) (hd : hDj pa pl sa) (hpl : hPl T R pl) {hx : Nat} (h0 : P 0 0 = nI hx) (hx1 : hx ≤ 40) {t : Nat → Bool} {RES : Res Nat} (hR : pPos b E t hx p = RES) (hno : tK b E p = 2 → tV b E p < hx → t (tV b E p) = false) : JJ Γ (jj_E Y_X2_takePosition) (jj_Z Γ (rC (cM T R S I L D C pa pl sa) RES (fun v => some (.int (nI v))) (fun v q Fq Pq Kq tq_ dq => cSt b E q Fq ∧ P = Pq ∧ K = Kq ∧ tkP tk v = tq_ ∧ dr = dq ∧ v < hx ∧ t v = false)) (ec (eN RES)) (es (eN RES))) (jj_rm (d + 8) (ec (eN RES)) (es (eN RES))) 0 0 40 [some (.ref pa), some (.ref pl), none] [] (cM T R S I L D C pa pl sa F P K tk dr) := by
  unfold pPos at hR
  refine jj_aload_n (q := 41) dX2_takePosition_40 rfl rfl rfl ?_
  refine jj_iconst (v := 0) (q := 42) dX2_takePosition_41 rfl rfl ?_
  refine jj_aload_n (q := 43) dX2_takePosition_42 rfl rfl rfl ?_
  refine jj_getIw (v := nI hx) (q := 46) dX2_takePosition_43 fl_X2_94 hpl.t0 (by rw [c_p0 hd]; exact h0) rfl rfl ?_
  refine jj_iconst (v := 1) (q := 47) dX2_takePosition_46 rfl rfl ?_
  refine jj_isub (q := 48) dX2_takePosition_47 rfl ?_
  refine jj_tV2i (q := 51) dX2_takePosition_48 yk_X2_takeNumber ml_X2_91 hp.t0 (ct_num hp hb hs hcp (lo := 0) (hx := hx) rfl (by omega) (by omega)) rfl rfl rfl rfl ((fun e h => by rw [← hR, h]; rfl)) (fun x48 pp48 F48 P48 K48 t48 r48 h48 R48 => ?_)
  have o48 := pNum_o h48
  obtain ⟨s48, rfl, rfl, rfl, rfl⟩ := R48
  rw [h48, Res.bd_r] at hR
  dsimp only at hR o48
  have e48 : t x48 = false := by
    unfold pNum at h48
    split at h48
    · rename_i hk
      split at h48
      · cases h48
      · split at h48
        · rename_i hv; cases h48; exact hno hk hv
        · cases h48
    · cases h48
  rw [if_neg (by rw [e48]; decide)] at hR
  subst hR
  refine jj_istore_n (q := 52) dX2_takePosition_51 rfl (by decide) rfl ?_
  refine jj_aload_n (q := 53) dX2_takePosition_52 rfl rfl rfl ?_
  refine jj_aload_n (q := 54) dX2_takePosition_53 rfl rfl rfl ?_
  refine jj_getLv (q := 57) dX2_takePosition_54 fl_X2_40 hp.t0 cL_r rfl rfl ?_
  refine jj_lconst (v := 1) (q := 58) dX2_takePosition_57 rfl rfl ?_
  refine jj_iload_n (q := 59) dX2_takePosition_58 rfl rfl rfl ?_
  refine jj_lshl (q := 60) dX2_takePosition_59 rfl ?_
  refine jj_lor (q := 61) dX2_takePosition_60 rfl ?_
  refine jj_putLv (q := 64) dX2_takePosition_61 fl_X2_40 hp.t0 cL_w rfl rfl rfl ?_
  refine jj_iload_n (q := 65) dX2_takePosition_64 rfl rfl rfl ?_
  refine jj_iret dX2_takePosition_65 rfl (Nat.zero_le _) (Nat.zero_le _) ?_
  exact ⟨rfl, _, _, _, _, _, ⟨s48, rfl, rfl, rfl, rfl, by omega, e48⟩, rfl⟩
theorem ct_pos (hp : hPa T R pa) (hb : pB_ C b E) (hs : cSt b E p F) (hcp : cP6 P) (hd : hDj pa pl sa) (hpl : hPl T R pl) {hx : Nat} (h0 : P 0 0 = nI hx) (hx1 : hx ≤ 40) {t : Nat → Bool} (ht : ∀ v, v < hx → (t v = true ↔ tkB tk v)) : Ex Γ (d + 8) Y_X2_takePosition [.ref pa, .ref pl] (cM T R S I L D C pa pl sa F P K tk dr) (ec (eN (pPos b E t hx p))) (es (eN (pPos b E t hx p))) (rC (cM T R S I L D C pa pl sa) (pPos b E t hx p) (fun v => some (.int (nI v))) (fun v q Fq Pq Kq tq_ dq => cSt b E q Fq ∧ P = Pq ∧ K = Kq ∧ tkP tk v = tq_ ∧ dr = dq ∧ v < hx ∧ t v = false)) := by
  generalize hR : pPos b E t hx p = RES
  have hk4 := tK_le b E p
  have ha := hs.1
  by_cases hk : tK b E p = 2
  · have h8 := ha.2.2.2.2.1 hk
    have hv9 := tV_lt hs.2.1 hk
    by_cases hv : tV b E p < hx
    · by_cases htv : t (tV b E p) = true
      · have e1 : pPos b E t hx p = .inl (3, tS b E p) := by
          unfold pPos pNum
          rw [if_pos hk, if_neg (by omega), if_pos hv, Res.bd_r]
          exact if_pos htv
        rw [e1] at hR
        subst hR
        have hbt : (tk >>> ((nI (tV b E p)).toInt64 &&& 63)) &&& 1 = 1 := (ht _ hv).mp htv
        refine Ex.of (by decide) (by simp [Value.category]) (Nat.le_of_ble_eq_true rfl) rfl ?_
        refine jj_aload_n (q := 1) dX2_takePosition_0 rfl rfl rfl ?_
        refine jj_getIw (v := nI (tK b E p)) (q := 4) dX2_takePosition_1 fl_X2_31 hp.t0 (by rw [c_f]; exact hs.1.2.2.1) rfl rfl ?_
        refine jj_iconst (v := 2) (q := 5) dX2_takePosition_4 rfl rfl ?_
        refine jj_icmp_ne (q := 8) (tgt := 40) dX2_takePosition_5 rfl rfl (fun h5 => by exfalso; exact h5 (by rw [hk]; rfl)) (fun h5 => ?_)
        refine jj_aload_n (q := 9) dX2_takePosition_8 rfl rfl rfl ?_
        refine jj_getIw (v := nI (tV b E p)) (q := 12) dX2_takePosition_9 fl_X2_37 hp.t0 (by rw [c_f]; exact h8) rfl rfl ?_
        refine jj_aload_n (q := 13) dX2_takePosition_12 rfl rfl rfl ?_
        refine jj_getIw (v := nI hx) (q := 16) dX2_takePosition_13 fl_X2_94 hpl.t0 (by rw [c_p0 hd]; exact h0) rfl rfl ?_
        refine jj_icmp_ge (q := 19) (tgt := 40) dX2_takePosition_16 rfl rfl (fun h16 => absurd h16 (nI_ge hv (by omega))) (fun h16 => ?_)
        refine jj_aload_n (q := 20) dX2_takePosition_19 rfl rfl rfl ?_
        refine jj_getLv (q := 23) dX2_takePosition_20 fl_X2_40 hp.t0 cL_r rfl rfl ?_
        refine jj_aload_n (q := 24) dX2_takePosition_23 rfl rfl rfl ?_
        refine jj_getIw (v := nI (tV b E p)) (q := 27) dX2_takePosition_24 fl_X2_37 hp.t0 (by rw [c_f]; exact h8) rfl rfl ?_
        refine jj_lshr (q := 28) dX2_takePosition_27 rfl ?_
        refine jj_lconst (v := 1) (q := 29) dX2_takePosition_28 rfl rfl ?_
        refine jj_land (q := 30) dX2_takePosition_29 rfl ?_
        refine jj_lconst (v := 1) (q := 31) dX2_takePosition_30 rfl rfl ?_
        refine jj_lcmp (q := 32) dX2_takePosition_31 rfl ?_
        refine jj_if_ne (q := 35) (tgt := 40) dX2_takePosition_32 rfl rfl (fun h32 => by exfalso; exact h32 (by rw [hbt]; rfl)) (fun h32 => ?_)
        refine jj_aload_n (q := 36) dX2_takePosition_35 rfl rfl rfl ?_
        refine jj_iconst (v := 3) (q := 37) dX2_takePosition_36 rfl rfl ?_
        refine jj_xV1 (q := 40) dX2_takePosition_37 yk_X2_fail ml_X2_72 hp.t0 (ct_fail (d := d + 1) hp hb hs hcp (c := 3)) rfl rfl rfl ⟨Nat.le_refl _, Nat.le_refl _⟩ rfl (Nat.le_refl _) (Nat.le_refl _) ?_
        exact rC_x hs hcp
      · have hbt : ¬ ((tk >>> ((nI (tV b E p)).toInt64 &&& 63)) &&& 1 = 1) := fun w => htv ((ht _ hv).mpr w)
        refine Ex.of (by decide) (by simp [Value.category]) (Nat.le_of_ble_eq_true rfl) rfl ?_
        refine jj_aload_n (q := 1) dX2_takePosition_0 rfl rfl rfl ?_
        refine jj_getIw (v := nI (tK b E p)) (q := 4) dX2_takePosition_1 fl_X2_31 hp.t0 (by rw [c_f]; exact hs.1.2.2.1) rfl rfl ?_
        refine jj_iconst (v := 2) (q := 5) dX2_takePosition_4 rfl rfl ?_
        refine jj_icmp_ne (q := 8) (tgt := 40) dX2_takePosition_5 rfl rfl (fun h5 => by exfalso; exact h5 (by rw [hk]; rfl)) (fun h5 => ?_)
        refine jj_aload_n (q := 9) dX2_takePosition_8 rfl rfl rfl ?_
        refine jj_getIw (v := nI (tV b E p)) (q := 12) dX2_takePosition_9 fl_X2_37 hp.t0 (by rw [c_f]; exact h8) rfl rfl ?_
        refine jj_aload_n (q := 13) dX2_takePosition_12 rfl rfl rfl ?_
        refine jj_getIw (v := nI hx) (q := 16) dX2_takePosition_13 fl_X2_94 hpl.t0 (by rw [c_p0 hd]; exact h0) rfl rfl ?_
        refine jj_icmp_ge (q := 19) (tgt := 40) dX2_takePosition_16 rfl rfl (fun h16 => absurd h16 (nI_ge hv (by omega))) (fun h16 => ?_)
        refine jj_aload_n (q := 20) dX2_takePosition_19 rfl rfl rfl ?_
        refine jj_getLv (q := 23) dX2_takePosition_20 fl_X2_40 hp.t0 cL_r rfl rfl ?_
        refine jj_aload_n (q := 24) dX2_takePosition_23 rfl rfl rfl ?_
        refine jj_getIw (v := nI (tV b E p)) (q := 27) dX2_takePosition_24 fl_X2_37 hp.t0 (by rw [c_f]; exact h8) rfl rfl ?_
        refine jj_lshr (q := 28) dX2_takePosition_27 rfl ?_
        refine jj_lconst (v := 1) (q := 29) dX2_takePosition_28 rfl rfl ?_
        refine jj_land (q := 30) dX2_takePosition_29 rfl ?_
        refine jj_lconst (v := 1) (q := 31) dX2_takePosition_30 rfl rfl ?_
        refine jj_lcmp (q := 32) dX2_takePosition_31 rfl ?_
        refine jj_if_ne (q := 35) (tgt := 40) dX2_takePosition_32 rfl rfl (fun h32 => ?_) (fun h32 => by exfalso; exact hbt (lcmp0 h32))
        exact ct_pos40 hp hb hs hcp hd hpl h0 hx1 hR (fun _ _ => by simpa using htv)
    · skip
      refine Ex.of (by decide) (by simp [Value.category]) (Nat.le_of_ble_eq_true rfl) rfl ?_
      refine jj_aload_n (q := 1) dX2_takePosition_0 rfl rfl rfl ?_
      refine jj_getIw (v := nI (tK b E p)) (q := 4) dX2_takePosition_1 fl_X2_31 hp.t0 (by rw [c_f]; exact hs.1.2.2.1) rfl rfl ?_
      refine jj_iconst (v := 2) (q := 5) dX2_takePosition_4 rfl rfl ?_
      refine jj_icmp_ne (q := 8) (tgt := 40) dX2_takePosition_5 rfl rfl (fun h5 => by exfalso; exact h5 (by rw [hk]; rfl)) (fun h5 => ?_)
      refine jj_aload_n (q := 9) dX2_takePosition_8 rfl rfl rfl ?_
      refine jj_getIw (v := nI (tV b E p)) (q := 12) dX2_takePosition_9 fl_X2_37 hp.t0 (by rw [c_f]; exact h8) rfl rfl ?_
      refine jj_aload_n (q := 13) dX2_takePosition_12 rfl rfl rfl ?_
      refine jj_getIw (v := nI hx) (q := 16) dX2_takePosition_13 fl_X2_94 hpl.t0 (by rw [c_p0 hd]; exact h0) rfl rfl ?_
      refine jj_icmp_ge (q := 19) (tgt := 40) dX2_takePosition_16 rfl rfl (fun h16 => ?_) (fun h16 => absurd (nI_le (show hx ≤ tV b E p by omega) (by omega)) h16)
      exact ct_pos40 hp hb hs hcp hd hpl h0 hx1 hR (fun _ h => absurd h hv)
  · skip
    refine Ex.of (by decide) (by simp [Value.category]) (Nat.le_of_ble_eq_true rfl) rfl ?_
    refine jj_aload_n (q := 1) dX2_takePosition_0 rfl rfl rfl ?_
    refine jj_getIw (v := nI (tK b E p)) (q := 4) dX2_takePosition_1 fl_X2_31 hp.t0 (by rw [c_f]; exact hs.1.2.2.1) rfl rfl ?_
    refine jj_iconst (v := 2) (q := 5) dX2_takePosition_4 rfl rfl ?_
    refine jj_icmp_ne (q := 8) (tgt := 40) dX2_takePosition_5 rfl rfl (fun h5 => ?_) (fun h5 => by exfalso; exact hk (nI_inj' (by omega) (by omega) h5))
    exact ct_pos40 hp hb hs hcp hd hpl h0 hx1 hR (fun h => absurd h hk)
theorem ct_begin (hp : hPa T R pa) (hb : pB_ C b E) (hs : cSt b E p F) (hcp : cP6 P) {n most : Nat} (hn : n ≤ most) (hm : most < 100) : Ex Γ (d + 7) Y_X2_beginLine [.ref pa, .int (nI n), .int (nI most)] (cM T R S I L D C pa pl sa F P K tk dr) (ec (eN ((if n = most then .inl (4, tS b E p) else .inr ((), tN b E p) : Res Unit)))) (es (eN ((if n = most then .inl (4, tS b E p) else .inr ((), tN b E p) : Res Unit)))) (rC (cM T R S I L D C pa pl sa) (if n = most then .inl (4, tS b E p) else .inr ((), tN b E p) : Res Unit) (fun _ => none) (cR0 b E P K tk dr)) := by
  by_cases h : n = most
  · rw [if_pos h]
    refine Ex.of (by decide) (by simp [Value.category]) (Nat.le_of_ble_eq_true rfl) rfl ?_
    refine jj_iload_n (q := 1) dX2_beginLine_0 rfl rfl rfl ?_
    refine jj_iload_n (q := 2) dX2_beginLine_1 rfl rfl rfl ?_
    refine jj_icmp_lt (q := 5) (tgt := 10) dX2_beginLine_2 rfl rfl (fun h2 => absurd h2 (nI_nlt (by omega) (by omega))) (fun h2 => ?_)
    refine jj_aload_n (q := 6) dX2_beginLine_5 rfl rfl rfl ?_
    refine jj_iconst (v := 4) (q := 7) dX2_beginLine_6 rfl rfl ?_
    refine jj_xV1 (q := 10) dX2_beginLine_7 yk_X2_fail ml_X2_72 hp.t0 (ct_fail hp hb hs hcp (c := 4)) rfl rfl rfl ⟨Nat.le_refl _, Nat.le_refl _⟩ rfl (Nat.le_refl _) (Nat.le_refl _) ?_
    exact rC_x hs hcp
  · rw [if_neg h]
    refine Ex.of (by decide) (by simp [Value.category]) (Nat.le_of_ble_eq_true rfl) rfl ?_
    refine jj_iload_n (q := 1) dX2_beginLine_0 rfl rfl rfl ?_
    refine jj_iload_n (q := 2) dX2_beginLine_1 rfl rfl rfl ?_
    refine jj_icmp_lt (q := 5) (tgt := 10) dX2_beginLine_2 rfl rfl (fun h2 => ?_) (fun h2 => absurd (nI_lt (by omega) (by omega)) h2)
    refine jj_aload_n (q := 11) dX2_beginLine_10 rfl rfl rfl ?_
    refine jj_cV0v (q := 14) dX2_beginLine_11 yk_X2_step ml_X2_58 hp.t0 (ct_step (d := d + 2) hp hb hs) rfl rfl rfl ⟨Nat.zero_le _, Nat.zero_le _⟩ ?_
    refine jj_vret dX2_beginLine_14 rfl (Nat.zero_le _) (Nat.zero_le _) ?_
    exact ⟨rfl, _, P, K, tk, dr, ⟨hs.st, rfl, rfl, rfl, rfl⟩, rfl⟩
end A2
