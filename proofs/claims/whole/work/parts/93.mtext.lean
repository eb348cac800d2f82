/-! readText of the model: the lines and the end -/
theorem lnP.t {b : Nat → Nat} {E bq k1 p n1 n2 : Nat} {s : PSt} {res2 : Res PSt} {B A1 A2 : JI} {G Ga Gb : JV} (hbq : bq ≤ 1) (h : lnP b E bq 0 0 (.inr (s, p)) B G n1 A1 Ga) (hk : Ga 26 = nI k1) (hk1 : k1 < 2 ^ 31) (h2 : lnP b E bq k1 (tN b E p) res2 A1 (gN b E (.inr ((), p)) Ga) n2 A2 Gb) : lnP b E bq 0 0 res2 B G n2 A2 Gb := by
  obtain ⟨k1', hc1, hc2, hc3, hc4, hc5, hc6, hc7, hc8⟩ := h
  obtain ⟨k2, hg1, hg2, hg3, hg4, hg5, hg6, hg7, hg8⟩ := h2
  have ek : k1' = k1 := nI_inj' (by omega) (by omega) (hc3.symm.trans hk)
  subst ek
  have e0 : nIx bq 0 = (1 - bq) * 700 + 0 := rfl
  have e1 : nIx bq k1' = (1 - bq) * 700 + k1' := rfl
  refine ⟨k2, by omega, hg2, hg3, fun j hj h1 h2 => (hg4 j hj h1 h2).trans ((gN_o (by omega)).trans (hc4 j hj h1 h2)), hg5, fun c h3 h5 hc => (hg6 c h3 h5 hc).trans (hc6 c h3 h5 hc), fun c j h3 h5 hj => (hg7 c j h3 h5 (by omega)).trans (hc7 c j h3 h5 hj), fun x hx => ?_⟩
  obtain ⟨a1, a2, a3, a4, a5⟩ := hg8 x hx
  exact ⟨Nat.zero_le _, a2, a3, a4, a5⟩
section M93
variable {Γ : Gam} {d : Nat} {T : JT} {R S : JR} {I A B : JI} {L : JL} {D : JD} {z : Option Nat} {mo E : Nat} {G N X : JV} {b : Nat → Nat}
theorem tx_145x (hm : hMo T S mo) (hb : mB_ A b E) {e : Nat × Nat} (hs : mSt b E (.inl e) G) {n : Nat} {v1 : Int32} {Pq : Nat → JI → JV → Prop} (hP : Pq n A G) : JJ Γ (jj_E Y_X9_readText) (jj_Z Γ (rPv Pq (fun A' G' => (T, R, S, blk 18 I mo (st A' 0 G'), L, D, z))) 0 0) (jj_rm (d + 42) 0 0) 0 0 145 [some (.ref mo), some (.int v1)] [] (T, R, S, blk 18 I mo (st A 0 G), L, D, z) := by
  refine jj_aload_n (q := 146) dX9_readText_145 rfl rfl rfl ?_
  refine jj_getS (q := 149) dX9_readText_146 fl_X9_20 hm.t0 hm.r0_11 rfl rfl rfl ?_
  refine jj_bipush (v := 12) (q := 151) dX9_readText_149 rfl rfl ?_
  refine jj_ialdN (q := 152) (j := 12) dX9_readText_151 hm.t3 (blk_sn (by decide) (by decide)) rfl (by omega) rfl ?_
  refine jj_if_ne (q := 155) (tgt := 160) dX9_readText_152 rfl rfl (fun h152 => ?_) (fun h152 => ?_)
  · refine jj_vret dX9_readText_160 rfl (Nat.zero_le _) (Nat.zero_le _) ?_
    exact ⟨n, A, G, hP, rfl, rfl⟩
  · refine jj_aload_n (q := 156) dX9_readText_155 rfl rfl rfl ?_
    refine jj_iconst (v := 5) (q := 157) dX9_readText_156 rfl rfl ?_
    refine jj_cV1v (q := 160) dX9_readText_157 yk_X9_faults ml_X9_140 hm.t0 (exM_faults (c := 5) hm hb hs) rfl rfl rfl ⟨Nat.zero_le _, Nat.zero_le _⟩ ?_
    refine jj_vret dX9_readText_160 rfl (Nat.zero_le _) (Nat.zero_le _) ?_
    exact ⟨n, A, G, hP, rfl, rfl⟩
theorem tx_105x (hm : hMo T S mo) (hb : mB_ A b E) {e : Nat × Nat} (hs : mSt b E (.inl e) G) {n : Nat} {v1 : Int32} {Pq : Nat → JI → JV → Prop} (hP : Pq n A G) : JJ Γ (jj_E Y_X9_readText) (jj_Z Γ (rPv Pq (fun A' G' => (T, R, S, blk 18 I mo (st A' 0 G'), L, D, z))) 0 0) (jj_rm (d + 42) 0 0) 0 0 105 [some (.ref mo), some (.int v1)] [] (T, R, S, blk 18 I mo (st A 0 G), L, D, z) := by
  have hne : ¬ nI e.1 = 0 := nI_ne0 (by have := hs.2.2.2; omega) (by have := hs.2.2.2; omega)
  refine jj_aload_n (q := 106) dX9_readText_105 rfl rfl rfl ?_
  refine jj_bipush (v := 59) (q := 108) dX9_readText_106 rfl rfl ?_
  refine jj_cV1i (q := 111) dX9_readText_108 yk_X9_isSignHere ml_X9_194 hm.t0 (exM_sign (c := 59) hm hb hs (by decide)) rfl rfl rfl ⟨Nat.zero_le _, Nat.zero_le _⟩ ?_
  refine jj_if_eq (q := 114) (tgt := 125) dX9_readText_111 rfl rfl (fun h111 => ?_) (fun h111 => absurd (rfl) h111)
  refine jj_aload_n (q := 126) dX9_readText_125 rfl rfl rfl ?_
  refine jj_getIw (v := nI e.1) (q := 129) dX9_readText_126 fl_X9_92 hm.t0 (by rw [g_rd]; exact hs.2.1) rfl rfl ?_
  refine jj_if_ne (q := 132) (tgt := 145) dX9_readText_129 rfl rfl (fun h129 => ?_) (fun h129 => by exfalso; exact hne h129)
  exact tx_145x hm hb hs hP
theorem tx_end (hm : hMo T S mo) (hb : mB_ B b E) {bq p n1 : Nat} {s : PSt} {A1 : JI} {Ga : JV} {v1 : Int32} {RES : Res PSt} (h : lnP b E bq 0 0 (.inr (s, p)) B G n1 A1 Ga) (hn : ¬ isS b E p 59 = true) (hR : pEn b E s p = RES) : JJ Γ (jj_E Y_X9_readText) (jj_Z Γ (rPv (lnP b E bq 0 0 RES B G) (fun A' G' => (T, R, S, blk 18 I mo (st A' 0 G'), L, D, z))) 0 0) (jj_rm (d + 42) 0 0) 0 0 105 [some (.ref mo), some (.int v1)] [] (T, R, S, blk 18 I mo (st A1 0 Ga), L, D, z) := by
  have h0 := h
  obtain ⟨k1, hc1, hc2, hc3, hc4, hc5, hc6, hc7, hc8⟩ := h
  have hs1 : mSt b E (.inr ((), p)) Ga := hc5
  have hbb : mB_ A1 b E := ⟨hb.1, fun j hj => by rw [hc6 1 (by omega) (by omega) (by omega)]; exact hb.2 j hj⟩
  have ha := hs1.2.2
  have hk4 := tK_le b E p
  obtain ⟨_, b2, b3, b4, b5⟩ := hc8 (s, p) rfl
  have e12 : A1 3 12 = s.1 12 := b4 12 (by omega)
  have hF : ∀ c, 1 ≤ c ∧ c < 8 → RES = .inl (c, tS b E p) → lnP b E bq 0 0 RES B G n1 A1 (gF b E c (.inr ((), p)) Ga) := fun c hc he => by
    rw [he]
    exact ⟨k1, hc1, hc2, (gF_o (by omega)).trans hc3, fun j hj h1 h2 => (gF_o (by omega)).trans (hc4 j hj h1 h2), hs1.f hc, hc6, hc7, fun x hx => by cases hx⟩
  by_cases hk : tK b E p = 0
  · have hkk : mKd (tK b E p) = 1 := by rw [hk]; rfl
    by_cases h12 : s.1 12 = 0
    · have he : RES = .inl (5, tS b E p) := by rw [← hR]; unfold pEn; rw [if_pos hk, if_pos h12]
      refine jj_aload_n (q := 106) dX9_readText_105 rfl rfl rfl ?_
      refine jj_bipush (v := 59) (q := 108) dX9_readText_106 rfl rfl ?_
      refine jj_cV1i (q := 111) dX9_readText_108 yk_X9_isSignHere ml_X9_194 hm.t0 (exM_sign (c := 59) hm hbb hs1 (by decide)) rfl rfl rfl ⟨Nat.zero_le _, Nat.zero_le _⟩ ?_
      refine jj_if_eq (q := 114) (tgt := 125) dX9_readText_111 rfl rfl (fun h111 => ?_) (fun h111 => absurd (if_neg hn) h111)
      refine jj_aload_n (q := 126) dX9_readText_125 rfl rfl rfl ?_
      refine jj_getIw (v := 0) (q := 129) dX9_readText_126 fl_X9_92 hm.t0 (by rw [g_rd]; exact ha.2.1) rfl rfl ?_
      refine jj_if_ne (q := 132) (tgt := 145) dX9_readText_129 rfl rfl (fun h129 => by exfalso; exact h129 rfl) (fun h129 => ?_)
      refine jj_aload_n (q := 133) dX9_readText_132 rfl rfl rfl ?_
      refine jj_getIw (v := nI (mKd (tK b E p))) (q := 136) dX9_readText_133 fl_X9_108 hm.t0 (by rw [g_rd]; exact ha.2.2.1) rfl rfl ?_
      refine jj_iconst (v := 1) (q := 137) dX9_readText_136 rfl rfl ?_
      refine jj_icmp_eq (q := 140) (tgt := 145) dX9_readText_137 rfl rfl (fun h137 => ?_) (fun h137 => absurd (by rw [hkk]; rfl) h137)
      refine jj_aload_n (q := 146) dX9_readText_145 rfl rfl rfl ?_
      refine jj_getS (q := 149) dX9_readText_146 fl_X9_20 hm.t0 hm.r0_11 rfl rfl rfl ?_
      refine jj_bipush (v := 12) (q := 151) dX9_readText_149 rfl rfl ?_
      refine jj_ialdN (q := 152) (j := 12) dX9_readText_151 hm.t3 (blk_sn (by decide) (by decide)) rfl (by omega) rfl ?_
      refine jj_if_ne (q := 155) (tgt := 160) dX9_readText_152 rfl rfl (fun h152 => by exfalso; exact h152 (e12.trans h12)) (fun h152 => ?_)
      refine jj_aload_n (q := 156) dX9_readText_155 rfl rfl rfl ?_
      refine jj_iconst (v := 5) (q := 157) dX9_readText_156 rfl rfl ?_
      refine jj_cV1v (q := 160) dX9_readText_157 yk_X9_faults ml_X9_140 hm.t0 (exM_faults (c := 5) hm hbb hs1) rfl rfl rfl ⟨Nat.zero_le _, Nat.zero_le _⟩ ?_
      refine jj_vret dX9_readText_160 rfl (Nat.zero_le _) (Nat.zero_le _) ?_
      exact ⟨n1, A1, _, hF 5 (by omega) he, rfl, rfl⟩
    · have he : RES = .inr (s, p) := by rw [← hR]; unfold pEn; rw [if_pos hk, if_neg h12]
      refine jj_aload_n (q := 106) dX9_readText_105 rfl rfl rfl ?_
      refine jj_bipush (v := 59) (q := 108) dX9_readText_106 rfl rfl ?_
      refine jj_cV1i (q := 111) dX9_readText_108 yk_X9_isSignHere ml_X9_194 hm.t0 (exM_sign (c := 59) hm hbb hs1 (by decide)) rfl rfl rfl ⟨Nat.zero_le _, Nat.zero_le _⟩ ?_
      refine jj_if_eq (q := 114) (tgt := 125) dX9_readText_111 rfl rfl (fun h111 => ?_) (fun h111 => absurd (if_neg hn) h111)
      refine jj_aload_n (q := 126) dX9_readText_125 rfl rfl rfl ?_
      refine jj_getIw (v := 0) (q := 129) dX9_readText_126 fl_X9_92 hm.t0 (by rw [g_rd]; exact ha.2.1) rfl rfl ?_
      refine jj_if_ne (q := 132) (tgt := 145) dX9_readText_129 rfl rfl (fun h129 => by exfalso; exact h129 rfl) (fun h129 => ?_)
      refine jj_aload_n (q := 133) dX9_readText_132 rfl rfl rfl ?_
      refine jj_getIw (v := nI (mKd (tK b E p))) (q := 136) dX9_readText_133 fl_X9_108 hm.t0 (by rw [g_rd]; exact ha.2.2.1) rfl rfl ?_
      refine jj_iconst (v := 1) (q := 137) dX9_readText_136 rfl rfl ?_
      refine jj_icmp_eq (q := 140) (tgt := 145) dX9_readText_137 rfl rfl (fun h137 => ?_) (fun h137 => absurd (by rw [hkk]; rfl) h137)
      refine jj_aload_n (q := 146) dX9_readText_145 rfl rfl rfl ?_
      refine jj_getS (q := 149) dX9_readText_146 fl_X9_20 hm.t0 hm.r0_11 rfl rfl rfl ?_
      refine jj_bipush (v := 12) (q := 151) dX9_readText_149 rfl rfl ?_
      refine jj_ialdN (q := 152) (j := 12) dX9_readText_151 hm.t3 (blk_sn (by decide) (by decide)) rfl (by omega) rfl ?_
      refine jj_if_ne (q := 155) (tgt := 160) dX9_readText_152 rfl rfl (fun h152 => ?_) (fun h152 => by exfalso; exact h12 (e12.symm.trans h152))
      refine jj_vret dX9_readText_160 rfl (Nat.zero_le _) (Nat.zero_le _) ?_
      exact ⟨n1, A1, Ga, by rw [he]; exact h0, rfl, rfl⟩
  · have hkk : mKd (tK b E p) ≠ 1 ∧ mKd (tK b E p) ≤ 5 := by unfold mKd; split <;> omega
    have he : RES = .inl (1, tS b E p) := by rw [← hR]; unfold pEn; rw [if_neg hk]
    refine jj_aload_n (q := 106) dX9_readText_105 rfl rfl rfl ?_
    refine jj_bipush (v := 59) (q := 108) dX9_readText_106 rfl rfl ?_
    refine jj_cV1i (q := 111) dX9_readText_108 yk_X9_isSignHere ml_X9_194 hm.t0 (exM_sign (c := 59) hm hbb hs1 (by decide)) rfl rfl rfl ⟨Nat.zero_le _, Nat.zero_le _⟩ ?_
    refine jj_if_eq (q := 114) (tgt := 125) dX9_readText_111 rfl rfl (fun h111 => ?_) (fun h111 => absurd (if_neg hn) h111)
    refine jj_aload_n (q := 126) dX9_readText_125 rfl rfl rfl ?_
    refine jj_getIw (v := 0) (q := 129) dX9_readText_126 fl_X9_92 hm.t0 (by rw [g_rd]; exact ha.2.1) rfl rfl ?_
    refine jj_if_ne (q := 132) (tgt := 145) dX9_readText_129 rfl rfl (fun h129 => by exfalso; exact h129 rfl) (fun h129 => ?_)
    refine jj_aload_n (q := 133) dX9_readText_132 rfl rfl rfl ?_
    refine jj_getIw (v := nI (mKd (tK b E p))) (q := 136) dX9_readText_133 fl_X9_108 hm.t0 (by rw [g_rd]; exact ha.2.2.1) rfl rfl ?_
    refine jj_iconst (v := 1) (q := 137) dX9_readText_136 rfl rfl ?_
    refine jj_icmp_eq (q := 140) (tgt := 145) dX9_readText_137 rfl rfl (fun h137 => by exfalso; exact hkk.1 (nI_inj' (by omega) (by omega) h137)) (fun h137 => ?_)
    refine jj_aload_n (q := 141) dX9_readText_140 rfl rfl rfl ?_
    refine jj_iconst (v := 1) (q := 142) dX9_readText_141 rfl rfl ?_
    refine jj_cV1v (q := 145) dX9_readText_142 yk_X9_faults ml_X9_140 hm.t0 (exM_faults (c := 1) hm hbb hs1) rfl rfl rfl ⟨Nat.zero_le _, Nat.zero_le _⟩ ?_
    exact tx_145x hm hbb (e := (1, tS b E p)) (hs1.f (by omega)) (hF 1 (by omega) he)
end M93
