/-! readText of the model: the loop of the lines -/
section M94
variable {Γ : Gam} {d : Nat} {T : JT} {R S : JR} {I A B : JI} {L : JL} {D : JD} {z : Option Nat} {mo E : Nat} {G N X : JV} {b : Nat → Nat}
theorem lp_tx (hm : hMo T S mo) (hE : E ≤ 1200) (hv : hVs Γ R mo) (hb : mB_ B b E) {bq : Nat} {RES : Res PSt} (h25 : G 25 = nI bq) (hbq : bq ≤ 1) : ∀ (fu : Nat) (s : PSt) (p n1 : Nat) (A1 : JI) (Ga : JV) (v1 : Int32), E - p ≤ fu → lnP b E bq 0 0 (.inr (s, p)) B G n1 A1 Ga → (pLs b E fu s p).bd (fun s q => pEn b E s q) = RES → JJ Γ (jj_E Y_X9_readText) (jj_Z Γ (rPv (lnP b E bq 0 0 RES B G) (fun A' G' => (T, R, S, blk 18 I mo (st A' 0 G'), L, D, z))) 0 0) (jj_rm (d + 42) 0 0) 0 0 105 [some (.ref mo), some (.int v1)] [] (T, R, S, blk 18 I mo (st A1 0 Ga), L, D, z) := by
  intro fu
  induction fu with
  | zero =>
    intro s p n1 A1 Ga v1 hfu h hR
    have hpE : p ≤ E := by
      obtain ⟨k1, hc1, hc2, hc3, hc4, hc5, hc6⟩ := h
      exact hc5.2.1
    refine tx_end hm hb h (fun hi => ?_) hR
    have h3 := (of_decide_eq_true hi).1
    have := (tN_bd (b := b) hpE).2.2.2 (by omega)
    have := (tN_bd (b := b) hpE).2.1
    omega
  | succ fu ih =>
    intro s p n1 A1 Ga v1 hfu h hR
    by_cases hi : isS b E p 59 = true
    · have h0 := h
      obtain ⟨k1, hc1, hc2, hc3, hc4, hc5, hc6, hc7, hc8⟩ := h
      have hs1 : mSt b E (.inr ((), p)) Ga := hc5
      have hpE : p ≤ E := hs1.2.1
      have hnb := tN_bd (b := b) hpE
      have h3 := (of_decide_eq_true hi).1
      have hlt := hnb.2.2.2 (by omega)
      have hbb : mB_ A1 b E := ⟨hb.1, fun j hj => by rw [hc6 1 (by omega) (by omega) (by omega)]; exact hb.2 j hj⟩
      obtain ⟨_, b2, b3, b4, kf, kl, ksq, kk, kcq, sz, b5, b6⟩ := hc8 (s, p) rfl
      have hqs : qA A1 (A1 3) s.2.1 = A1 := qA_self rfl b3
      have hsn : mSt b E (.inr ((), tN b E p)) (gN b E (.inr ((), p)) Ga) := hs1.n
      have hRE : ((pLin b E s.1 s.2.1 s.2.2 (tN b E p)).bd (fun s2 q => pLs b E fu s2 q)).bd (fun s q => pEn b E s q) = RES := by
        rw [← hR]
        show _ = (if isS b E p 59 = true then _ else _ : Res PSt).bd _
        rw [if_pos hi]
      have hL := exM_line (Γ := Γ) (d := d) (T := T) (R := R) (S := S) (I := I) (A := A1) (L := L) (D := D) (z := z) (M := A1 3) (N := s.1) (X := s.2.1) (H := s.2.2) hm hv hbb (bq := bq) ((gN_o (by omega)).trans ((hc4 25 (by omega) (by omega) (by omega)).trans h25)) hbq hE hsn ((gN_o (by omega)).trans hc3) (by dsimp only at b2; omega) b4 b5 (by rw [hqs]; exact b6)
      rw [hqs] at hL
      refine jj_aload_n (q := 106) dX9_readText_105 rfl rfl rfl ?_
      refine jj_bipush (v := 59) (q := 108) dX9_readText_106 rfl rfl ?_
      refine jj_cV1i (q := 111) dX9_readText_108 yk_X9_isSignHere ml_X9_194 hm.t0 (exM_sign (c := 59) hm hbb hs1 (by decide)) rfl rfl rfl ⟨Nat.zero_le _, Nat.zero_le _⟩ ?_
      refine jj_if_eq (q := 114) (tgt := 125) dX9_readText_111 rfl rfl (fun h111 => by exfalso; exact absurd ((if_pos hi).symm.trans h111) (by decide)) (fun h111 => ?_)
      refine jj_aload_n (q := 115) dX9_readText_114 rfl rfl rfl ?_
      refine jj_cV0v (q := 118) dX9_readText_115 yk_X9_nextToken ml_X9_134 hm.t0 (exM_next hm hbb hs1) rfl rfl rfl ⟨Nat.zero_le _, Nat.zero_le _⟩ ?_
      refine jj_aload_n (q := 119) dX9_readText_118 rfl rfl rfl ?_
      refine jj_pV0v (q := 122) dX9_readText_119 yk_X9_readLine ml_X9_237 hm.t0 hL rfl rfl rfl ⟨Nat.zero_le _, Nat.zero_le _⟩ (fun n2 A2 Gb hu2 => ?_)
      refine jj_goto (tgt := 105) dX9_readText_122 rfl ?_
      have hnew := lnP.t hbq h0 hc3 (by omega) hu2
      have hb2 : mB_ A2 b E := by
        obtain ⟨k3, g1, g2, g3, g4, hg5, g6, g7, g8⟩ := hnew
        exact ⟨hb.1, fun j hj => by rw [g6 1 (by omega) (by omega) (by omega)]; exact hb.2 j hj⟩
      cases hr : pLin b E s.1 s.2.1 s.2.2 (tN b E p) with
      | inl e =>
        rw [hr] at hnew hRE
        have hse : mSt b E (.inl e) Gb := by
          obtain ⟨k3, g1, g2, g3, g4, hg5, g6⟩ := hnew
          exact hg5
        exact tx_105x (n := n2) hm hb2 hse (by rw [← hRE]; exact hnew)
      | inr x =>
        rw [hr] at hnew hRE hu2
        have hge : tN b E p ≤ x.2 := by
          obtain ⟨k3, g1, g2, g3, g4, hg5, g6, g7, g8⟩ := hu2
          exact (g8 x rfl).1
        exact ih x.1 x.2 n2 A2 Gb _ (by omega) hnew hRE
    · refine tx_end hm hb h hi ?_
      rw [← hR]
      show _ = (if isS b E p 59 = true then _ else _ : Res PSt).bd _
      rw [if_neg hi]
      rfl
end M94
