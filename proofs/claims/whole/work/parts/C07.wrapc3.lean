/-! THE WRAPPERS' CONTRACTS, 3 (by program) -/
section C052
variable {Γ : Gam} {d xo ol n : Nat} {T : JT} {R S : JR} {I : JI} {L : JL} {D : JD} {t v a1 a2 a3 : Int32} {G : JR → JI → JL → Prop}
theorem wr_loadedIn (hX : T xo = some (.inl 7)) (hO : T ol = some (.inr (.long, 1))) (hal : (n, t) ∈ ([(0, 0), (1, 1), (3, 2)] : List (Nat × Int32))) (hx : Ex Γ d Y_X8_loadedIn [.ref xo, .int a1] (T, R, S, I, L, D, none) (ec n) (es n) (cPo n (.int v) G T R D)) : ExH Γ (d + 1) Y_L_loadedIn hh_loadedIn [.ref xo, .int a1, .ref ol] (T, R, S, I, L, D, none) (ec n) (es n) (wPo n t v.toInt64 G ol T R D) := by
  refine ExH.of (by decide) (by simp [Value.category]) (Nat.le_of_ble_eq_true rfl) rfl ?_
  refine jj_aload_n (q := 1) dL_loadedIn_0 rfl rfl rfl ?_
  refine jj_iconst (v := 0) (q := 2) dL_loadedIn_1 rfl rfl ?_
  refine jj_aload_n (q := 3) dL_loadedIn_2 rfl rfl rfl ?_
  refine jj_iload_n (q := 4) dL_loadedIn_3 rfl rfl rfl ?_
  refine jj_gV1 (q := 7) dL_loadedIn_4 yk_X8_loadedIn ml_L_122 hX hx rfl rfl rfl ⟨Nat.le_of_eq (Nat.zero_add _), Nat.le_of_eq (Nat.zero_add _)⟩ (fun w M' h => ?_) (fun X M' h => ?_)
  · obtain ⟨h1, S1, I1, L1, rfl, hG⟩ := h
    simp only [List.mem_cons, List.mem_nil_iff, Prod.mk.injEq, or_false] at hal
    rcases hal with ⟨rfl, rfl⟩ | ⟨rfl, rfl⟩ | ⟨rfl, rfl⟩
    · cases h1
      show JJ _ _ _ _ _ _ _ _ [.int v, .int 0, .ref ol] _
      refine jj_i2l (q := 8) dL_loadedIn_7 rfl ?_
      refine jj_last (q := 9) dL_loadedIn_8 hO vp_01 rfl ?_
      refine jj_goto (tgt := 18) dL_loadedIn_9 rfl ?_
      refine jj_iconst (v := 0) (q := 19) dL_loadedIn_18 rfl rfl ?_
      refine jj_iret dL_loadedIn_19 rfl (Nat.le_refl _) (Nat.le_refl _) ?_
      exact ⟨rfl, S1, I1, L1, rfl, hG⟩
    · cases h1
    · cases h1
  · obtain ⟨h1, S1, I1, L1, rfl, hG⟩ := h
    simp only [List.mem_cons, List.mem_nil_iff, Prod.mk.injEq, or_false] at hal
    rcases hal with ⟨rfl, rfl⟩ | ⟨rfl, rfl⟩ | ⟨rfl, rfl⟩
    · cases h1
    · cases h1
      refine jj_catch [] ⟨0, 9, 12, 20⟩ [⟨0, 9, 15, 15⟩] rfl np0 (by decide) (by decide) cl_L_20 ca_xISE (fun q => ?_)
      refine jj_astore_n (q := 13) dL_loadedIn_12 rfl (by decide) rfl ?_
      refine jj_iconst (v := 1) (q := 14) dL_loadedIn_13 rfl rfl ?_
      refine jj_iret dL_loadedIn_14 rfl (Nat.le_refl _) (Nat.le_refl _) ?_
      exact ⟨rfl, S1, I1, L1, rfl, hG⟩
    · cases h1
      refine jj_catch [⟨0, 9, 12, 20⟩] ⟨0, 9, 15, 15⟩ [] rfl (np1 (by decide) cl_L_20 nc_IAE_ISE) (by decide) (by decide) cl_L_15 ca_xIAE (fun q => ?_)
      refine jj_astore_n (q := 16) dL_loadedIn_15 rfl (by decide) rfl ?_
      refine jj_iconst (v := 2) (q := 17) dL_loadedIn_16 rfl rfl ?_
      refine jj_iret dL_loadedIn_17 rfl (Nat.le_refl _) (Nat.le_refl _) ?_
      exact ⟨rfl, S1, I1, L1, rfl, hG⟩
theorem wr_shortIn (hX : T xo = some (.inl 7)) (hO : T ol = some (.inr (.long, 1))) (hal : (n, t) ∈ ([(0, 0), (1, 1), (3, 2)] : List (Nat × Int32))) (hx : Ex Γ d Y_X8_shortIn [.ref xo, .int a1] (T, R, S, I, L, D, none) (ec n) (es n) (cPo n (.int v) G T R D)) : ExH Γ (d + 1) Y_L_shortIn hh_shortIn [.ref xo, .int a1, .ref ol] (T, R, S, I, L, D, none) (ec n) (es n) (wPo n t v.toInt64 G ol T R D) := by
  refine ExH.of (by decide) (by simp [Value.category]) (Nat.le_of_ble_eq_true rfl) rfl ?_
  refine jj_aload_n (q := 1) dL_shortIn_0 rfl rfl rfl ?_
  refine jj_iconst (v := 0) (q := 2) dL_shortIn_1 rfl rfl ?_
  refine jj_aload_n (q := 3) dL_shortIn_2 rfl rfl rfl ?_
  refine jj_iload_n (q := 4) dL_shortIn_3 rfl rfl rfl ?_
  refine jj_gV1 (q := 7) dL_shortIn_4 yk_X8_shortIn ml_L_125 hX hx rfl rfl rfl ⟨Nat.le_of_eq (Nat.zero_add _), Nat.le_of_eq (Nat.zero_add _)⟩ (fun w M' h => ?_) (fun X M' h => ?_)
  · obtain ⟨h1, S1, I1, L1, rfl, hG⟩ := h
    simp only [List.mem_cons, List.mem_nil_iff, Prod.mk.injEq, or_false] at hal
    rcases hal with ⟨rfl, rfl⟩ | ⟨rfl, rfl⟩ | ⟨rfl, rfl⟩
    · cases h1
      show JJ _ _ _ _ _ _ _ _ [.int v, .int 0, .ref ol] _
      refine jj_i2l (q := 8) dL_shortIn_7 rfl ?_
      refine jj_last (q := 9) dL_shortIn_8 hO vp_01 rfl ?_
      refine jj_goto (tgt := 18) dL_shortIn_9 rfl ?_
      refine jj_iconst (v := 0) (q := 19) dL_shortIn_18 rfl rfl ?_
      refine jj_iret dL_shortIn_19 rfl (Nat.le_refl _) (Nat.le_refl _) ?_
      exact ⟨rfl, S1, I1, L1, rfl, hG⟩
    · cases h1
    · cases h1
  · obtain ⟨h1, S1, I1, L1, rfl, hG⟩ := h
    simp only [List.mem_cons, List.mem_nil_iff, Prod.mk.injEq, or_false] at hal
    rcases hal with ⟨rfl, rfl⟩ | ⟨rfl, rfl⟩ | ⟨rfl, rfl⟩
    · cases h1
    · cases h1
      refine jj_catch [] ⟨0, 9, 12, 20⟩ [⟨0, 9, 15, 15⟩] rfl np0 (by decide) (by decide) cl_L_20 ca_xISE (fun q => ?_)
      refine jj_astore_n (q := 13) dL_shortIn_12 rfl (by decide) rfl ?_
      refine jj_iconst (v := 1) (q := 14) dL_shortIn_13 rfl rfl ?_
      refine jj_iret dL_shortIn_14 rfl (Nat.le_refl _) (Nat.le_refl _) ?_
      exact ⟨rfl, S1, I1, L1, rfl, hG⟩
    · cases h1
      refine jj_catch [⟨0, 9, 12, 20⟩] ⟨0, 9, 15, 15⟩ [] rfl (np1 (by decide) cl_L_20 nc_IAE_ISE) (by decide) (by decide) cl_L_15 ca_xIAE (fun q => ?_)
      refine jj_astore_n (q := 16) dL_shortIn_15 rfl (by decide) rfl ?_
      refine jj_iconst (v := 2) (q := 17) dL_shortIn_16 rfl rfl ?_
      refine jj_iret dL_shortIn_17 rfl (Nat.le_refl _) (Nat.le_refl _) ?_
      exact ⟨rfl, S1, I1, L1, rfl, hG⟩
theorem wr_timeToClear (hX : T xo = some (.inl 7)) (hO : T ol = some (.inr (.long, 1))) (hal : (n, t) ∈ ([(0, 0), (1, 1), (3, 2)] : List (Nat × Int32))) (hx : Ex Γ d Y_X8_timeToClear [.ref xo, .int a1] (T, R, S, I, L, D, none) (ec n) (es n) (cPo n (.int v) G T R D)) : ExH Γ (d + 1) Y_L_timeToClear hh_timeToClear [.ref xo, .int a1, .ref ol] (T, R, S, I, L, D, none) (ec n) (es n) (wPo n t v.toInt64 G ol T R D) := by
  refine ExH.of (by decide) (by simp [Value.category]) (Nat.le_of_ble_eq_true rfl) rfl ?_
  refine jj_aload_n (q := 1) dL_timeToClear_0 rfl rfl rfl ?_
  refine jj_iconst (v := 0) (q := 2) dL_timeToClear_1 rfl rfl ?_
  refine jj_aload_n (q := 3) dL_timeToClear_2 rfl rfl rfl ?_
  refine jj_iload_n (q := 4) dL_timeToClear_3 rfl rfl rfl ?_
  refine jj_gV1 (q := 7) dL_timeToClear_4 yk_X8_timeToClear ml_L_128 hX hx rfl rfl rfl ⟨Nat.le_of_eq (Nat.zero_add _), Nat.le_of_eq (Nat.zero_add _)⟩ (fun w M' h => ?_) (fun X M' h => ?_)
  · obtain ⟨h1, S1, I1, L1, rfl, hG⟩ := h
    simp only [List.mem_cons, List.mem_nil_iff, Prod.mk.injEq, or_false] at hal
    rcases hal with ⟨rfl, rfl⟩ | ⟨rfl, rfl⟩ | ⟨rfl, rfl⟩
    · cases h1
      show JJ _ _ _ _ _ _ _ _ [.int v, .int 0, .ref ol] _
      refine jj_i2l (q := 8) dL_timeToClear_7 rfl ?_
      refine jj_last (q := 9) dL_timeToClear_8 hO vp_01 rfl ?_
      refine jj_goto (tgt := 18) dL_timeToClear_9 rfl ?_
      refine jj_iconst (v := 0) (q := 19) dL_timeToClear_18 rfl rfl ?_
      refine jj_iret dL_timeToClear_19 rfl (Nat.le_refl _) (Nat.le_refl _) ?_
      exact ⟨rfl, S1, I1, L1, rfl, hG⟩
    · cases h1
    · cases h1
  · obtain ⟨h1, S1, I1, L1, rfl, hG⟩ := h
    simp only [List.mem_cons, List.mem_nil_iff, Prod.mk.injEq, or_false] at hal
    rcases hal with ⟨rfl, rfl⟩ | ⟨rfl, rfl⟩ | ⟨rfl, rfl⟩
    · cases h1
    · cases h1
      refine jj_catch [] ⟨0, 9, 12, 20⟩ [⟨0, 9, 15, 15⟩] rfl np0 (by decide) (by decide) cl_L_20 ca_xISE (fun q => ?_)
      refine jj_astore_n (q := 13) dL_timeToClear_12 rfl (by decide) rfl ?_
      refine jj_iconst (v := 1) (q := 14) dL_timeToClear_13 rfl rfl ?_
      refine jj_iret dL_timeToClear_14 rfl (Nat.le_refl _) (Nat.le_refl _) ?_
      exact ⟨rfl, S1, I1, L1, rfl, hG⟩
    · cases h1
      refine jj_catch [⟨0, 9, 12, 20⟩] ⟨0, 9, 15, 15⟩ [] rfl (np1 (by decide) cl_L_20 nc_IAE_ISE) (by decide) (by decide) cl_L_15 ca_xIAE (fun q => ?_)
      refine jj_astore_n (q := 16) dL_timeToClear_15 rfl (by decide) rfl ?_
      refine jj_iconst (v := 2) (q := 17) dL_timeToClear_16 rfl rfl ?_
      refine jj_iret dL_timeToClear_17 rfl (Nat.le_refl _) (Nat.le_refl _) ?_
      exact ⟨rfl, S1, I1, L1, rfl, hG⟩
theorem wr_bestDelay (hX : T xo = some (.inl 7)) (hO : T ol = some (.inr (.long, 1))) (hal : (n, t) ∈ ([(0, 0), (1, 1), (2, 2), (3, 3)] : List (Nat × Int32))) (hx : Ex Γ d Y_X8_bestDelay [.ref xo, .int a1, .int a2] (T, R, S, I, L, D, none) (ec n) (es n) (cPo n (.int v) G T R D)) : ExH Γ (d + 1) Y_L_bestDelay hh_bestDelay [.ref xo, .int a1, .int a2, .ref ol] (T, R, S, I, L, D, none) (ec n) (es n) (wPo n t v.toInt64 G ol T R D) := by
  refine ExH.of (by decide) (by simp [Value.category]) (Nat.le_of_ble_eq_true rfl) rfl ?_
  refine jj_aload_n (q := 1) dL_bestDelay_0 rfl rfl rfl ?_
  refine jj_iconst (v := 0) (q := 2) dL_bestDelay_1 rfl rfl ?_
  refine jj_aload_n (q := 3) dL_bestDelay_2 rfl rfl rfl ?_
  refine jj_iload_n (q := 4) dL_bestDelay_3 rfl rfl rfl ?_
  refine jj_iload_n (q := 5) dL_bestDelay_4 rfl rfl rfl ?_
  refine jj_gV2 (q := 8) dL_bestDelay_5 yk_X8_bestDelay ml_L_131 hX hx rfl rfl rfl ⟨Nat.le_of_eq (Nat.zero_add _), Nat.le_of_eq (Nat.zero_add _)⟩ (fun w M' h => ?_) (fun X M' h => ?_)
  · obtain ⟨h1, S1, I1, L1, rfl, hG⟩ := h
    simp only [List.mem_cons, List.mem_nil_iff, Prod.mk.injEq, or_false] at hal
    rcases hal with ⟨rfl, rfl⟩ | ⟨rfl, rfl⟩ | ⟨rfl, rfl⟩ | ⟨rfl, rfl⟩
    · cases h1
      show JJ _ _ _ _ _ _ _ _ [.int v, .int 0, .ref ol] _
      refine jj_i2l (q := 9) dL_bestDelay_8 rfl ?_
      refine jj_last (q := 10) dL_bestDelay_9 hO vp_01 rfl ?_
      refine jj_goto (tgt := 25) dL_bestDelay_10 rfl ?_
      refine jj_iconst (v := 0) (q := 26) dL_bestDelay_25 rfl rfl ?_
      refine jj_iret dL_bestDelay_26 rfl (Nat.le_refl _) (Nat.le_refl _) ?_
      exact ⟨rfl, S1, I1, L1, rfl, hG⟩
    · cases h1
    · cases h1
    · cases h1
  · obtain ⟨h1, S1, I1, L1, rfl, hG⟩ := h
    simp only [List.mem_cons, List.mem_nil_iff, Prod.mk.injEq, or_false] at hal
    rcases hal with ⟨rfl, rfl⟩ | ⟨rfl, rfl⟩ | ⟨rfl, rfl⟩ | ⟨rfl, rfl⟩
    · cases h1
    · cases h1
      refine jj_catch [] ⟨0, 10, 13, 20⟩ [⟨0, 10, 17, 13⟩, ⟨0, 10, 21, 15⟩] rfl np0 (by decide) (by decide) cl_L_20 ca_xISE (fun q => ?_)
      refine jj_astore (q := 15) dL_bestDelay_13 (by decide) rfl ?_
      refine jj_iconst (v := 1) (q := 16) dL_bestDelay_15 rfl rfl ?_
      refine jj_iret dL_bestDelay_16 rfl (Nat.le_refl _) (Nat.le_refl _) ?_
      exact ⟨rfl, S1, I1, L1, rfl, hG⟩
    · cases h1
      refine jj_catch [⟨0, 10, 13, 20⟩] ⟨0, 10, 17, 13⟩ [⟨0, 10, 21, 15⟩] rfl (np1 (by decide) cl_L_20 nc_IOB_ISE) (by decide) (by decide) cl_L_13 ca_xIOB (fun q => ?_)
      refine jj_astore (q := 19) dL_bestDelay_17 (by decide) rfl ?_
      refine jj_iconst (v := 2) (q := 20) dL_bestDelay_19 rfl rfl ?_
      refine jj_iret dL_bestDelay_20 rfl (Nat.le_refl _) (Nat.le_refl _) ?_
      exact ⟨rfl, S1, I1, L1, rfl, hG⟩
    · cases h1
      refine jj_catch [⟨0, 10, 13, 20⟩, ⟨0, 10, 17, 13⟩] ⟨0, 10, 21, 15⟩ [] rfl (np2 (by decide) cl_L_20 nc_IAE_ISE (by decide) cl_L_13 nc_IAE_IOB) (by decide) (by decide) cl_L_15 ca_xIAE (fun q => ?_)
      refine jj_astore (q := 23) dL_bestDelay_21 (by decide) rfl ?_
      refine jj_iconst (v := 3) (q := 24) dL_bestDelay_23 rfl rfl ?_
      refine jj_iret dL_bestDelay_24 rfl (Nat.le_refl _) (Nat.le_refl _) ?_
      exact ⟨rfl, S1, I1, L1, rfl, hG⟩
theorem wr_withoutLane (hX : T xo = some (.inl 7)) (hO : T ol = some (.inr (.long, 1))) (hal : (n, t) ∈ ([(0, 0), (1, 1), (2, 2), (3, 3)] : List (Nat × Int32))) (hx : Ex Γ d Y_X8_withoutLane [.ref xo, .int a1, .int a2] (T, R, S, I, L, D, none) (ec n) (es n) (cPo n (.int v) G T R D)) : ExH Γ (d + 1) Y_L_withoutLane hh_withoutLane [.ref xo, .int a1, .int a2, .ref ol] (T, R, S, I, L, D, none) (ec n) (es n) (wPo n t v.toInt64 G ol T R D) := by
  refine ExH.of (by decide) (by simp [Value.category]) (Nat.le_of_ble_eq_true rfl) rfl ?_
  refine jj_aload_n (q := 1) dL_withoutLane_0 rfl rfl rfl ?_
  refine jj_iconst (v := 0) (q := 2) dL_withoutLane_1 rfl rfl ?_
  refine jj_aload_n (q := 3) dL_withoutLane_2 rfl rfl rfl ?_
  refine jj_iload_n (q := 4) dL_withoutLane_3 rfl rfl rfl ?_
  refine jj_iload_n (q := 5) dL_withoutLane_4 rfl rfl rfl ?_
  refine jj_gV2 (q := 8) dL_withoutLane_5 yk_X8_withoutLane ml_L_134 hX hx rfl rfl rfl ⟨Nat.le_of_eq (Nat.zero_add _), Nat.le_of_eq (Nat.zero_add _)⟩ (fun w M' h => ?_) (fun X M' h => ?_)
  · obtain ⟨h1, S1, I1, L1, rfl, hG⟩ := h
    simp only [List.mem_cons, List.mem_nil_iff, Prod.mk.injEq, or_false] at hal
    rcases hal with ⟨rfl, rfl⟩ | ⟨rfl, rfl⟩ | ⟨rfl, rfl⟩ | ⟨rfl, rfl⟩
    · cases h1
      show JJ _ _ _ _ _ _ _ _ [.int v, .int 0, .ref ol] _
      refine jj_i2l (q := 9) dL_withoutLane_8 rfl ?_
      refine jj_last (q := 10) dL_withoutLane_9 hO vp_01 rfl ?_
      refine jj_goto (tgt := 25) dL_withoutLane_10 rfl ?_
      refine jj_iconst (v := 0) (q := 26) dL_withoutLane_25 rfl rfl ?_
      refine jj_iret dL_withoutLane_26 rfl (Nat.le_refl _) (Nat.le_refl _) ?_
      exact ⟨rfl, S1, I1, L1, rfl, hG⟩
    · cases h1
    · cases h1
    · cases h1
  · obtain ⟨h1, S1, I1, L1, rfl, hG⟩ := h
    simp only [List.mem_cons, List.mem_nil_iff, Prod.mk.injEq, or_false] at hal
    rcases hal with ⟨rfl, rfl⟩ | ⟨rfl, rfl⟩ | ⟨rfl, rfl⟩ | ⟨rfl, rfl⟩
    · cases h1
    · cases h1
      refine jj_catch [] ⟨0, 10, 13, 20⟩ [⟨0, 10, 17, 13⟩, ⟨0, 10, 21, 15⟩] rfl np0 (by decide) (by decide) cl_L_20 ca_xISE (fun q => ?_)
      refine jj_astore (q := 15) dL_withoutLane_13 (by decide) rfl ?_
      refine jj_iconst (v := 1) (q := 16) dL_withoutLane_15 rfl rfl ?_
      refine jj_iret dL_withoutLane_16 rfl (Nat.le_refl _) (Nat.le_refl _) ?_
      exact ⟨rfl, S1, I1, L1, rfl, hG⟩
    · cases h1
      refine jj_catch [⟨0, 10, 13, 20⟩] ⟨0, 10, 17, 13⟩ [⟨0, 10, 21, 15⟩] rfl (np1 (by decide) cl_L_20 nc_IOB_ISE) (by decide) (by decide) cl_L_13 ca_xIOB (fun q => ?_)
      refine jj_astore (q := 19) dL_withoutLane_17 (by decide) rfl ?_
      refine jj_iconst (v := 2) (q := 20) dL_withoutLane_19 rfl rfl ?_
      refine jj_iret dL_withoutLane_20 rfl (Nat.le_refl _) (Nat.le_refl _) ?_
      exact ⟨rfl, S1, I1, L1, rfl, hG⟩
    · cases h1
      refine jj_catch [⟨0, 10, 13, 20⟩, ⟨0, 10, 17, 13⟩] ⟨0, 10, 21, 15⟩ [] rfl (np2 (by decide) cl_L_20 nc_IAE_ISE (by decide) cl_L_13 nc_IAE_IOB) (by decide) (by decide) cl_L_15 ca_xIAE (fun q => ?_)
      refine jj_astore (q := 23) dL_withoutLane_21 (by decide) rfl ?_
      refine jj_iconst (v := 3) (q := 24) dL_withoutLane_23 rfl rfl ?_
      refine jj_iret dL_withoutLane_24 rfl (Nat.le_refl _) (Nat.le_refl _) ?_
      exact ⟨rfl, S1, I1, L1, rfl, hG⟩
theorem wr_advance (hX : T xo = some (.inl 7)) (hO : T ol = some (.inr (.long, 1))) (hal : (n, t) ∈ ([(0, 0), (1, 1), (3, 2)] : List (Nat × Int32))) (hx : Ex Γ d Y_X8_advance [.ref xo, .int a1] (T, R, S, I, L, D, none) (ec n) (es n) (cPo n (.int v) G T R D)) : ExH Γ (d + 1) Y_L_advance hh_advance [.ref xo, .int a1, .ref ol] (T, R, S, I, L, D, none) (ec n) (es n) (wPo n t v.toInt64 G ol T R D) := by
  refine ExH.of (by decide) (by simp [Value.category]) (Nat.le_of_ble_eq_true rfl) rfl ?_
  refine jj_aload_n (q := 1) dL_advance_0 rfl rfl rfl ?_
  refine jj_iconst (v := 0) (q := 2) dL_advance_1 rfl rfl ?_
  refine jj_aload_n (q := 3) dL_advance_2 rfl rfl rfl ?_
  refine jj_iload_n (q := 4) dL_advance_3 rfl rfl rfl ?_
  refine jj_gV1 (q := 7) dL_advance_4 yk_X8_advance ml_L_137 hX hx rfl rfl rfl ⟨Nat.le_of_eq (Nat.zero_add _), Nat.le_of_eq (Nat.zero_add _)⟩ (fun w M' h => ?_) (fun X M' h => ?_)
  · obtain ⟨h1, S1, I1, L1, rfl, hG⟩ := h
    simp only [List.mem_cons, List.mem_nil_iff, Prod.mk.injEq, or_false] at hal
    rcases hal with ⟨rfl, rfl⟩ | ⟨rfl, rfl⟩ | ⟨rfl, rfl⟩
    · cases h1
      show JJ _ _ _ _ _ _ _ _ [.int v, .int 0, .ref ol] _
      refine jj_i2l (q := 8) dL_advance_7 rfl ?_
      refine jj_last (q := 9) dL_advance_8 hO vp_01 rfl ?_
      refine jj_goto (tgt := 18) dL_advance_9 rfl ?_
      refine jj_iconst (v := 0) (q := 19) dL_advance_18 rfl rfl ?_
      refine jj_iret dL_advance_19 rfl (Nat.le_refl _) (Nat.le_refl _) ?_
      exact ⟨rfl, S1, I1, L1, rfl, hG⟩
    · cases h1
    · cases h1
  · obtain ⟨h1, S1, I1, L1, rfl, hG⟩ := h
    simp only [List.mem_cons, List.mem_nil_iff, Prod.mk.injEq, or_false] at hal
    rcases hal with ⟨rfl, rfl⟩ | ⟨rfl, rfl⟩ | ⟨rfl, rfl⟩
    · cases h1
    · cases h1
      refine jj_catch [] ⟨0, 9, 12, 20⟩ [⟨0, 9, 15, 15⟩] rfl np0 (by decide) (by decide) cl_L_20 ca_xISE (fun q => ?_)
      refine jj_astore_n (q := 13) dL_advance_12 rfl (by decide) rfl ?_
      refine jj_iconst (v := 1) (q := 14) dL_advance_13 rfl rfl ?_
      refine jj_iret dL_advance_14 rfl (Nat.le_refl _) (Nat.le_refl _) ?_
      exact ⟨rfl, S1, I1, L1, rfl, hG⟩
    · cases h1
      refine jj_catch [⟨0, 9, 12, 20⟩] ⟨0, 9, 15, 15⟩ [] rfl (np1 (by decide) cl_L_20 nc_IAE_ISE) (by decide) (by decide) cl_L_15 ca_xIAE (fun q => ?_)
      refine jj_astore_n (q := 16) dL_advance_15 rfl (by decide) rfl ?_
      refine jj_iconst (v := 2) (q := 17) dL_advance_16 rfl rfl ?_
      refine jj_iret dL_advance_17 rfl (Nat.le_refl _) (Nat.le_refl _) ?_
      exact ⟨rfl, S1, I1, L1, rfl, hG⟩
theorem wr_addBags (hX : T xo = some (.inl 7)) (hO : T ol = some (.inr (.long, 1))) (hal : (n, t) ∈ ([(0, 0), (1, 1), (2, 2), (3, 3)] : List (Nat × Int32))) (hx : Ex Γ d Y_X8_addBags [.ref xo, .int a1, .int a2, .int a3] (T, R, S, I, L, D, none) (ec n) (es n) (cPo n (.int v) G T R D)) : ExH Γ (d + 1) Y_L_addBags hh_addBags [.ref xo, .int a1, .int a2, .int a3, .ref ol] (T, R, S, I, L, D, none) (ec n) (es n) (wPo n t v.toInt64 G ol T R D) := by
  refine ExH.of (by decide) (by simp [Value.category]) (Nat.le_of_ble_eq_true rfl) rfl ?_
  refine jj_aload (q := 2) dL_addBags_0 rfl rfl ?_
  refine jj_iconst (v := 0) (q := 3) dL_addBags_2 rfl rfl ?_
  refine jj_aload_n (q := 4) dL_addBags_3 rfl rfl rfl ?_
  refine jj_iload_n (q := 5) dL_addBags_4 rfl rfl rfl ?_
  refine jj_iload_n (q := 6) dL_addBags_5 rfl rfl rfl ?_
  refine jj_iload_n (q := 7) dL_addBags_6 rfl rfl rfl ?_
  refine jj_gV3 (q := 10) dL_addBags_7 yk_X8_addBags ml_L_140 hX hx rfl rfl rfl ⟨Nat.le_of_eq (Nat.zero_add _), Nat.le_of_eq (Nat.zero_add _)⟩ (fun w M' h => ?_) (fun X M' h => ?_)
  · obtain ⟨h1, S1, I1, L1, rfl, hG⟩ := h
    simp only [List.mem_cons, List.mem_nil_iff, Prod.mk.injEq, or_false] at hal
    rcases hal with ⟨rfl, rfl⟩ | ⟨rfl, rfl⟩ | ⟨rfl, rfl⟩ | ⟨rfl, rfl⟩
    · cases h1
      show JJ _ _ _ _ _ _ _ _ [.int v, .int 0, .ref ol] _
      refine jj_i2l (q := 11) dL_addBags_10 rfl ?_
      refine jj_last (q := 12) dL_addBags_11 hO vp_01 rfl ?_
      refine jj_goto (tgt := 27) dL_addBags_12 rfl ?_
      refine jj_iconst (v := 0) (q := 28) dL_addBags_27 rfl rfl ?_
      refine jj_iret dL_addBags_28 rfl (Nat.le_refl _) (Nat.le_refl _) ?_
      exact ⟨rfl, S1, I1, L1, rfl, hG⟩
    · cases h1
    · cases h1
    · cases h1
  · obtain ⟨h1, S1, I1, L1, rfl, hG⟩ := h
    simp only [List.mem_cons, List.mem_nil_iff, Prod.mk.injEq, or_false] at hal
    rcases hal with ⟨rfl, rfl⟩ | ⟨rfl, rfl⟩ | ⟨rfl, rfl⟩ | ⟨rfl, rfl⟩
    · cases h1
    · cases h1
      refine jj_catch [] ⟨0, 12, 15, 20⟩ [⟨0, 12, 19, 13⟩, ⟨0, 12, 23, 15⟩] rfl np0 (by decide) (by decide) cl_L_20 ca_xISE (fun q => ?_)
      refine jj_astore (q := 17) dL_addBags_15 (by decide) rfl ?_
      refine jj_iconst (v := 1) (q := 18) dL_addBags_17 rfl rfl ?_
      refine jj_iret dL_addBags_18 rfl (Nat.le_refl _) (Nat.le_refl _) ?_
      exact ⟨rfl, S1, I1, L1, rfl, hG⟩
    · cases h1
      refine jj_catch [⟨0, 12, 15, 20⟩] ⟨0, 12, 19, 13⟩ [⟨0, 12, 23, 15⟩] rfl (np1 (by decide) cl_L_20 nc_IOB_ISE) (by decide) (by decide) cl_L_13 ca_xIOB (fun q => ?_)
      refine jj_astore (q := 21) dL_addBags_19 (by decide) rfl ?_
      refine jj_iconst (v := 2) (q := 22) dL_addBags_21 rfl rfl ?_
      refine jj_iret dL_addBags_22 rfl (Nat.le_refl _) (Nat.le_refl _) ?_
      exact ⟨rfl, S1, I1, L1, rfl, hG⟩
    · cases h1
      refine jj_catch [⟨0, 12, 15, 20⟩, ⟨0, 12, 19, 13⟩] ⟨0, 12, 23, 15⟩ [] rfl (np2 (by decide) cl_L_20 nc_IAE_ISE (by decide) cl_L_13 nc_IAE_IOB) (by decide) (by decide) cl_L_15 ca_xIAE (fun q => ?_)
      refine jj_astore (q := 25) dL_addBags_23 (by decide) rfl ?_
      refine jj_iconst (v := 3) (q := 26) dL_addBags_25 rfl rfl ?_
      refine jj_iret dL_addBags_26 rfl (Nat.le_refl _) (Nat.le_refl _) ?_
      exact ⟨rfl, S1, I1, L1, rfl, hG⟩
theorem wr_delay (hX : T xo = some (.inl 7)) (hO : T ol = some (.inr (.long, 1))) (hal : (n, t) ∈ ([(0, 0), (1, 1), (2, 2), (3, 3)] : List (Nat × Int32))) (hx : Ex Γ d Y_X8_delay [.ref xo, .int a1, .int a2] (T, R, S, I, L, D, none) (ec n) (es n) (cPo n (.int v) G T R D)) : ExH Γ (d + 1) Y_L_delay hh_delay [.ref xo, .int a1, .int a2, .ref ol] (T, R, S, I, L, D, none) (ec n) (es n) (wPo n t v.toInt64 G ol T R D) := by
  refine ExH.of (by decide) (by simp [Value.category]) (Nat.le_of_ble_eq_true rfl) rfl ?_
  refine jj_aload_n (q := 1) dL_delay_0 rfl rfl rfl ?_
  refine jj_iconst (v := 0) (q := 2) dL_delay_1 rfl rfl ?_
  refine jj_aload_n (q := 3) dL_delay_2 rfl rfl rfl ?_
  refine jj_iload_n (q := 4) dL_delay_3 rfl rfl rfl ?_
  refine jj_iload_n (q := 5) dL_delay_4 rfl rfl rfl ?_
  refine jj_gV2 (q := 8) dL_delay_5 yk_X8_delay ml_L_144 hX hx rfl rfl rfl ⟨Nat.le_of_eq (Nat.zero_add _), Nat.le_of_eq (Nat.zero_add _)⟩ (fun w M' h => ?_) (fun X M' h => ?_)
  · obtain ⟨h1, S1, I1, L1, rfl, hG⟩ := h
    simp only [List.mem_cons, List.mem_nil_iff, Prod.mk.injEq, or_false] at hal
    rcases hal with ⟨rfl, rfl⟩ | ⟨rfl, rfl⟩ | ⟨rfl, rfl⟩ | ⟨rfl, rfl⟩
    · cases h1
      show JJ _ _ _ _ _ _ _ _ [.int v, .int 0, .ref ol] _
      refine jj_i2l (q := 9) dL_delay_8 rfl ?_
      refine jj_last (q := 10) dL_delay_9 hO vp_01 rfl ?_
      refine jj_goto (tgt := 25) dL_delay_10 rfl ?_
      refine jj_iconst (v := 0) (q := 26) dL_delay_25 rfl rfl ?_
      refine jj_iret dL_delay_26 rfl (Nat.le_refl _) (Nat.le_refl _) ?_
      exact ⟨rfl, S1, I1, L1, rfl, hG⟩
    · cases h1
    · cases h1
    · cases h1
  · obtain ⟨h1, S1, I1, L1, rfl, hG⟩ := h
    simp only [List.mem_cons, List.mem_nil_iff, Prod.mk.injEq, or_false] at hal
    rcases hal with ⟨rfl, rfl⟩ | ⟨rfl, rfl⟩ | ⟨rfl, rfl⟩ | ⟨rfl, rfl⟩
    · cases h1
    · cases h1
      refine jj_catch [] ⟨0, 10, 13, 20⟩ [⟨0, 10, 17, 13⟩, ⟨0, 10, 21, 15⟩] rfl np0 (by decide) (by decide) cl_L_20 ca_xISE (fun q => ?_)
      refine jj_astore (q := 15) dL_delay_13 (by decide) rfl ?_
      refine jj_iconst (v := 1) (q := 16) dL_delay_15 rfl rfl ?_
      refine jj_iret dL_delay_16 rfl (Nat.le_refl _) (Nat.le_refl _) ?_
      exact ⟨rfl, S1, I1, L1, rfl, hG⟩
    · cases h1
      refine jj_catch [⟨0, 10, 13, 20⟩] ⟨0, 10, 17, 13⟩ [⟨0, 10, 21, 15⟩] rfl (np1 (by decide) cl_L_20 nc_IOB_ISE) (by decide) (by decide) cl_L_13 ca_xIOB (fun q => ?_)
      refine jj_astore (q := 19) dL_delay_17 (by decide) rfl ?_
      refine jj_iconst (v := 2) (q := 20) dL_delay_19 rfl rfl ?_
      refine jj_iret dL_delay_20 rfl (Nat.le_refl _) (Nat.le_refl _) ?_
      exact ⟨rfl, S1, I1, L1, rfl, hG⟩
    · cases h1
      refine jj_catch [⟨0, 10, 13, 20⟩, ⟨0, 10, 17, 13⟩] ⟨0, 10, 21, 15⟩ [] rfl (np2 (by decide) cl_L_20 nc_IAE_ISE (by decide) cl_L_13 nc_IAE_IOB) (by decide) (by decide) cl_L_15 ca_xIAE (fun q => ?_)
      refine jj_astore (q := 23) dL_delay_21 (by decide) rfl ?_
      refine jj_iconst (v := 3) (q := 24) dL_delay_23 rfl rfl ?_
      refine jj_iret dL_delay_24 rfl (Nat.le_refl _) (Nat.le_refl _) ?_
      exact ⟨rfl, S1, I1, L1, rfl, hG⟩
theorem wr_offload (hX : T xo = some (.inl 7)) (hO : T ol = some (.inr (.long, 1))) (hal : (n, t) ∈ ([(0, 0), (1, 1), (2, 2), (3, 3)] : List (Nat × Int32))) (hx : Ex Γ d Y_X8_offload [.ref xo, .int a1] (T, R, S, I, L, D, none) (ec n) (es n) (cPo n (.int v) G T R D)) : ExH Γ (d + 1) Y_L_offload hh_offload [.ref xo, .int a1, .ref ol] (T, R, S, I, L, D, none) (ec n) (es n) (wPo n t v.toInt64 G ol T R D) := by
  refine ExH.of (by decide) (by simp [Value.category]) (Nat.le_of_ble_eq_true rfl) rfl ?_
  refine jj_aload_n (q := 1) dL_offload_0 rfl rfl rfl ?_
  refine jj_iconst (v := 0) (q := 2) dL_offload_1 rfl rfl ?_
  refine jj_aload_n (q := 3) dL_offload_2 rfl rfl rfl ?_
  refine jj_iload_n (q := 4) dL_offload_3 rfl rfl rfl ?_
  refine jj_gV1 (q := 7) dL_offload_4 yk_X8_offload ml_L_147 hX hx rfl rfl rfl ⟨Nat.le_of_eq (Nat.zero_add _), Nat.le_of_eq (Nat.zero_add _)⟩ (fun w M' h => ?_) (fun X M' h => ?_)
  · obtain ⟨h1, S1, I1, L1, rfl, hG⟩ := h
    simp only [List.mem_cons, List.mem_nil_iff, Prod.mk.injEq, or_false] at hal
    rcases hal with ⟨rfl, rfl⟩ | ⟨rfl, rfl⟩ | ⟨rfl, rfl⟩ | ⟨rfl, rfl⟩
    · cases h1
      show JJ _ _ _ _ _ _ _ _ [.int v, .int 0, .ref ol] _
      refine jj_i2l (q := 8) dL_offload_7 rfl ?_
      refine jj_last (q := 9) dL_offload_8 hO vp_01 rfl ?_
      refine jj_goto (tgt := 21) dL_offload_9 rfl ?_
      refine jj_iconst (v := 0) (q := 22) dL_offload_21 rfl rfl ?_
      refine jj_iret dL_offload_22 rfl (Nat.le_refl _) (Nat.le_refl _) ?_
      exact ⟨rfl, S1, I1, L1, rfl, hG⟩
    · cases h1
    · cases h1
    · cases h1
  · obtain ⟨h1, S1, I1, L1, rfl, hG⟩ := h
    simp only [List.mem_cons, List.mem_nil_iff, Prod.mk.injEq, or_false] at hal
    rcases hal with ⟨rfl, rfl⟩ | ⟨rfl, rfl⟩ | ⟨rfl, rfl⟩ | ⟨rfl, rfl⟩
    · cases h1
    · cases h1
      refine jj_catch [] ⟨0, 9, 12, 20⟩ [⟨0, 9, 15, 13⟩, ⟨0, 9, 18, 15⟩] rfl np0 (by decide) (by decide) cl_L_20 ca_xISE (fun q => ?_)
      refine jj_astore_n (q := 13) dL_offload_12 rfl (by decide) rfl ?_
      refine jj_iconst (v := 1) (q := 14) dL_offload_13 rfl rfl ?_
      refine jj_iret dL_offload_14 rfl (Nat.le_refl _) (Nat.le_refl _) ?_
      exact ⟨rfl, S1, I1, L1, rfl, hG⟩
    · cases h1
      refine jj_catch [⟨0, 9, 12, 20⟩] ⟨0, 9, 15, 13⟩ [⟨0, 9, 18, 15⟩] rfl (np1 (by decide) cl_L_20 nc_IOB_ISE) (by decide) (by decide) cl_L_13 ca_xIOB (fun q => ?_)
      refine jj_astore_n (q := 16) dL_offload_15 rfl (by decide) rfl ?_
      refine jj_iconst (v := 2) (q := 17) dL_offload_16 rfl rfl ?_
      refine jj_iret dL_offload_17 rfl (Nat.le_refl _) (Nat.le_refl _) ?_
      exact ⟨rfl, S1, I1, L1, rfl, hG⟩
    · cases h1
      refine jj_catch [⟨0, 9, 12, 20⟩, ⟨0, 9, 15, 13⟩] ⟨0, 9, 18, 15⟩ [] rfl (np2 (by decide) cl_L_20 nc_IAE_ISE (by decide) cl_L_13 nc_IAE_IOB) (by decide) (by decide) cl_L_15 ca_xIAE (fun q => ?_)
      refine jj_astore_n (q := 19) dL_offload_18 rfl (by decide) rfl ?_
      refine jj_iconst (v := 3) (q := 20) dL_offload_19 rfl rfl ?_
      refine jj_iret dL_offload_20 rfl (Nat.le_refl _) (Nat.le_refl _) ?_
      exact ⟨rfl, S1, I1, L1, rfl, hG⟩
theorem wr_block (hX : T xo = some (.inl 7)) (hO : T ol = some (.inr (.long, 1))) (hal : (n, t) ∈ ([(0, 0), (1, 1), (2, 2)] : List (Nat × Int32))) (hx : Ex Γ d Y_X8_block [.ref xo, .int a1, .int a2] (T, R, S, I, L, D, none) (ec n) (es n) (cPo n (.int v) G T R D)) : ExH Γ (d + 1) Y_L_block hh_block [.ref xo, .int a1, .int a2, .ref ol] (T, R, S, I, L, D, none) (ec n) (es n) (wPo n t (zb v) G ol T R D) := by
  refine ExH.of (by decide) (by simp [Value.category]) (Nat.le_of_ble_eq_true rfl) rfl ?_
  refine jj_aload_n (q := 1) dL_block_0 rfl rfl rfl ?_
  refine jj_iconst (v := 0) (q := 2) dL_block_1 rfl rfl ?_
  refine jj_aload_n (q := 3) dL_block_2 rfl rfl rfl ?_
  refine jj_iload_n (q := 4) dL_block_3 rfl rfl rfl ?_
  refine jj_iload_n (q := 5) dL_block_4 rfl rfl rfl ?_
  refine jj_gV2 (q := 8) dL_block_5 yk_X8_block ml_L_150 hX hx rfl rfl rfl ⟨Nat.le_of_eq (Nat.zero_add _), Nat.le_of_eq (Nat.zero_add _)⟩ (fun w M' h => ?_) (fun X M' h => ?_)
  · obtain ⟨h1, S1, I1, L1, rfl, hG⟩ := h
    simp only [List.mem_cons, List.mem_nil_iff, Prod.mk.injEq, or_false] at hal
    rcases hal with ⟨rfl, rfl⟩ | ⟨rfl, rfl⟩ | ⟨rfl, rfl⟩
    · cases h1
      show JJ _ _ _ _ _ _ _ _ [.int v, .int 0, .ref ol] _
      refine jj_if_eq (q := 11) (tgt := 15) dL_block_8 rfl rfl (fun h8 => ?_) (fun h8 => ?_)
      · refine jj_lconst (v := 0) (q := 16) dL_block_15 rfl rfl ?_
        refine jj_last (q := 17) dL_block_16 hO vp_01 rfl ?_
        refine jj_goto (tgt := 28) dL_block_17 rfl ?_
        refine jj_iconst (v := 0) (q := 29) dL_block_28 rfl rfl ?_
        refine jj_iret dL_block_29 rfl (Nat.le_refl _) (Nat.le_refl _) ?_
        exact ⟨rfl, S1, I1, L1, by rw [zb_0 h8]; rfl, hG⟩
      · refine jj_lconst (v := 1) (q := 12) dL_block_11 rfl rfl ?_
        refine jj_goto (tgt := 16) dL_block_12 rfl ?_
        refine jj_last (q := 17) dL_block_16 hO vp_01 rfl ?_
        refine jj_goto (tgt := 28) dL_block_17 rfl ?_
        refine jj_iconst (v := 0) (q := 29) dL_block_28 rfl rfl ?_
        refine jj_iret dL_block_29 rfl (Nat.le_refl _) (Nat.le_refl _) ?_
        exact ⟨rfl, S1, I1, L1, by rw [zb_1 h8]; rfl, hG⟩
    · cases h1
    · cases h1
  · obtain ⟨h1, S1, I1, L1, rfl, hG⟩ := h
    simp only [List.mem_cons, List.mem_nil_iff, Prod.mk.injEq, or_false] at hal
    rcases hal with ⟨rfl, rfl⟩ | ⟨rfl, rfl⟩ | ⟨rfl, rfl⟩
    · cases h1
    · cases h1
      refine jj_catch [] ⟨0, 17, 20, 20⟩ [⟨0, 17, 24, 13⟩] rfl np0 (by decide) (by decide) cl_L_20 ca_xISE (fun q => ?_)
      refine jj_astore (q := 22) dL_block_20 (by decide) rfl ?_
      refine jj_iconst (v := 1) (q := 23) dL_block_22 rfl rfl ?_
      refine jj_iret dL_block_23 rfl (Nat.le_refl _) (Nat.le_refl _) ?_
      exact ⟨rfl, S1, I1, L1, rfl, hG⟩
    · cases h1
      refine jj_catch [⟨0, 17, 20, 20⟩] ⟨0, 17, 24, 13⟩ [] rfl (np1 (by decide) cl_L_20 nc_IOB_ISE) (by decide) (by decide) cl_L_13 ca_xIOB (fun q => ?_)
      refine jj_astore (q := 26) dL_block_24 (by decide) rfl ?_
      refine jj_iconst (v := 2) (q := 27) dL_block_26 rfl rfl ?_
      refine jj_iret dL_block_27 rfl (Nat.le_refl _) (Nat.le_refl _) ?_
      exact ⟨rfl, S1, I1, L1, rfl, hG⟩
theorem wr_setHot (hX : T xo = some (.inl 7)) (hO : T ol = some (.inr (.long, 1))) (hal : (n, t) ∈ ([(0, 0), (1, 1), (3, 2)] : List (Nat × Int32))) (hx : Ex Γ d Y_X8_setHot [.ref xo, .int a1] (T, R, S, I, L, D, none) (ec n) (es n) (cPo n (.int v) G T R D)) : ExH Γ (d + 1) Y_L_setHot hh_setHot [.ref xo, .int a1, .ref ol] (T, R, S, I, L, D, none) (ec n) (es n) (wPo n t v.toInt64 G ol T R D) := by
  refine ExH.of (by decide) (by simp [Value.category]) (Nat.le_of_ble_eq_true rfl) rfl ?_
  refine jj_aload_n (q := 1) dL_setHot_0 rfl rfl rfl ?_
  refine jj_iconst (v := 0) (q := 2) dL_setHot_1 rfl rfl ?_
  refine jj_aload_n (q := 3) dL_setHot_2 rfl rfl rfl ?_
  refine jj_iload_n (q := 4) dL_setHot_3 rfl rfl rfl ?_
  refine jj_gV1 (q := 7) dL_setHot_4 yk_X8_setHot ml_L_154 hX hx rfl rfl rfl ⟨Nat.le_of_eq (Nat.zero_add _), Nat.le_of_eq (Nat.zero_add _)⟩ (fun w M' h => ?_) (fun X M' h => ?_)
  · obtain ⟨h1, S1, I1, L1, rfl, hG⟩ := h
    simp only [List.mem_cons, List.mem_nil_iff, Prod.mk.injEq, or_false] at hal
    rcases hal with ⟨rfl, rfl⟩ | ⟨rfl, rfl⟩ | ⟨rfl, rfl⟩
    · cases h1
      show JJ _ _ _ _ _ _ _ _ [.int v, .int 0, .ref ol] _
      refine jj_i2l (q := 8) dL_setHot_7 rfl ?_
      refine jj_last (q := 9) dL_setHot_8 hO vp_01 rfl ?_
      refine jj_goto (tgt := 18) dL_setHot_9 rfl ?_
      refine jj_iconst (v := 0) (q := 19) dL_setHot_18 rfl rfl ?_
      refine jj_iret dL_setHot_19 rfl (Nat.le_refl _) (Nat.le_refl _) ?_
      exact ⟨rfl, S1, I1, L1, rfl, hG⟩
    · cases h1
    · cases h1
  · obtain ⟨h1, S1, I1, L1, rfl, hG⟩ := h
    simp only [List.mem_cons, List.mem_nil_iff, Prod.mk.injEq, or_false] at hal
    rcases hal with ⟨rfl, rfl⟩ | ⟨rfl, rfl⟩ | ⟨rfl, rfl⟩
    · cases h1
    · cases h1
      refine jj_catch [] ⟨0, 9, 12, 20⟩ [⟨0, 9, 15, 15⟩] rfl np0 (by decide) (by decide) cl_L_20 ca_xISE (fun q => ?_)
      refine jj_astore_n (q := 13) dL_setHot_12 rfl (by decide) rfl ?_
      refine jj_iconst (v := 1) (q := 14) dL_setHot_13 rfl rfl ?_
      refine jj_iret dL_setHot_14 rfl (Nat.le_refl _) (Nat.le_refl _) ?_
      exact ⟨rfl, S1, I1, L1, rfl, hG⟩
    · cases h1
      refine jj_catch [⟨0, 9, 12, 20⟩] ⟨0, 9, 15, 15⟩ [] rfl (np1 (by decide) cl_L_20 nc_IAE_ISE) (by decide) (by decide) cl_L_15 ca_xIAE (fun q => ?_)
      refine jj_astore_n (q := 16) dL_setHot_15 rfl (by decide) rfl ?_
      refine jj_iconst (v := 2) (q := 17) dL_setHot_16 rfl rfl ?_
      refine jj_iret dL_setHot_17 rfl (Nat.le_refl _) (Nat.le_refl _) ?_
      exact ⟨rfl, S1, I1, L1, rfl, hG⟩
theorem wr_breakMachine (hX : T xo = some (.inl 7)) (hO : T ol = some (.inr (.long, 1))) (hal : (n, t) ∈ ([(0, 0), (1, 1), (2, 2), (3, 3)] : List (Nat × Int32))) (hx : Ex Γ d Y_X8_breakMachine [.ref xo, .int a1, .int a2, .int a3] (T, R, S, I, L, D, none) (ec n) (es n) (cPo n (.int v) G T R D)) : ExH Γ (d + 1) Y_L_breakMachine hh_breakMachine [.ref xo, .int a1, .int a2, .int a3, .ref ol] (T, R, S, I, L, D, none) (ec n) (es n) (wPo n t (zb v) G ol T R D) := by
  refine ExH.of (by decide) (by simp [Value.category]) (Nat.le_of_ble_eq_true rfl) rfl ?_
  refine jj_aload (q := 2) dL_breakMachine_0 rfl rfl ?_
  refine jj_iconst (v := 0) (q := 3) dL_breakMachine_2 rfl rfl ?_
  refine jj_aload_n (q := 4) dL_breakMachine_3 rfl rfl rfl ?_
  refine jj_iload_n (q := 5) dL_breakMachine_4 rfl rfl rfl ?_
  refine jj_iload_n (q := 6) dL_breakMachine_5 rfl rfl rfl ?_
  refine jj_iload_n (q := 7) dL_breakMachine_6 rfl rfl rfl ?_
  refine jj_gV3 (q := 10) dL_breakMachine_7 yk_X8_breakMachine ml_L_157 hX hx rfl rfl rfl ⟨Nat.le_of_eq (Nat.zero_add _), Nat.le_of_eq (Nat.zero_add _)⟩ (fun w M' h => ?_) (fun X M' h => ?_)
  · obtain ⟨h1, S1, I1, L1, rfl, hG⟩ := h
    simp only [List.mem_cons, List.mem_nil_iff, Prod.mk.injEq, or_false] at hal
    rcases hal with ⟨rfl, rfl⟩ | ⟨rfl, rfl⟩ | ⟨rfl, rfl⟩ | ⟨rfl, rfl⟩
    · cases h1
      show JJ _ _ _ _ _ _ _ _ [.int v, .int 0, .ref ol] _
      refine jj_if_eq (q := 13) (tgt := 17) dL_breakMachine_10 rfl rfl (fun h10 => ?_) (fun h10 => ?_)
      · refine jj_lconst (v := 0) (q := 18) dL_breakMachine_17 rfl rfl ?_
        refine jj_last (q := 19) dL_breakMachine_18 hO vp_01 rfl ?_
        refine jj_goto (tgt := 34) dL_breakMachine_19 rfl ?_
        refine jj_iconst (v := 0) (q := 35) dL_breakMachine_34 rfl rfl ?_
        refine jj_iret dL_breakMachine_35 rfl (Nat.le_refl _) (Nat.le_refl _) ?_
        exact ⟨rfl, S1, I1, L1, by rw [zb_0 h10]; rfl, hG⟩
      · refine jj_lconst (v := 1) (q := 14) dL_breakMachine_13 rfl rfl ?_
        refine jj_goto (tgt := 18) dL_breakMachine_14 rfl ?_
        refine jj_last (q := 19) dL_breakMachine_18 hO vp_01 rfl ?_
        refine jj_goto (tgt := 34) dL_breakMachine_19 rfl ?_
        refine jj_iconst (v := 0) (q := 35) dL_breakMachine_34 rfl rfl ?_
        refine jj_iret dL_breakMachine_35 rfl (Nat.le_refl _) (Nat.le_refl _) ?_
        exact ⟨rfl, S1, I1, L1, by rw [zb_1 h10]; rfl, hG⟩
    · cases h1
    · cases h1
    · cases h1
  · obtain ⟨h1, S1, I1, L1, rfl, hG⟩ := h
    simp only [List.mem_cons, List.mem_nil_iff, Prod.mk.injEq, or_false] at hal
    rcases hal with ⟨rfl, rfl⟩ | ⟨rfl, rfl⟩ | ⟨rfl, rfl⟩ | ⟨rfl, rfl⟩
    · cases h1
    · cases h1
      refine jj_catch [] ⟨0, 19, 22, 20⟩ [⟨0, 19, 26, 13⟩, ⟨0, 19, 30, 15⟩] rfl np0 (by decide) (by decide) cl_L_20 ca_xISE (fun q => ?_)
      refine jj_astore (q := 24) dL_breakMachine_22 (by decide) rfl ?_
      refine jj_iconst (v := 1) (q := 25) dL_breakMachine_24 rfl rfl ?_
      refine jj_iret dL_breakMachine_25 rfl (Nat.le_refl _) (Nat.le_refl _) ?_
      exact ⟨rfl, S1, I1, L1, rfl, hG⟩
    · cases h1
      refine jj_catch [⟨0, 19, 22, 20⟩] ⟨0, 19, 26, 13⟩ [⟨0, 19, 30, 15⟩] rfl (np1 (by decide) cl_L_20 nc_IOB_ISE) (by decide) (by decide) cl_L_13 ca_xIOB (fun q => ?_)
      refine jj_astore (q := 28) dL_breakMachine_26 (by decide) rfl ?_
      refine jj_iconst (v := 2) (q := 29) dL_breakMachine_28 rfl rfl ?_
      refine jj_iret dL_breakMachine_29 rfl (Nat.le_refl _) (Nat.le_refl _) ?_
      exact ⟨rfl, S1, I1, L1, rfl, hG⟩
    · cases h1
      refine jj_catch [⟨0, 19, 22, 20⟩, ⟨0, 19, 26, 13⟩] ⟨0, 19, 30, 15⟩ [] rfl (np2 (by decide) cl_L_20 nc_IAE_ISE (by decide) cl_L_13 nc_IAE_IOB) (by decide) (by decide) cl_L_15 ca_xIAE (fun q => ?_)
      refine jj_astore (q := 32) dL_breakMachine_30 (by decide) rfl ?_
      refine jj_iconst (v := 3) (q := 33) dL_breakMachine_32 rfl rfl ?_
      refine jj_iret dL_breakMachine_33 rfl (Nat.le_refl _) (Nat.le_refl _) ?_
      exact ⟨rfl, S1, I1, L1, rfl, hG⟩
theorem wr_stopLoop (hX : T xo = some (.inl 7)) (hO : T ol = some (.inr (.long, 1))) (hal : (n, t) ∈ ([(0, 0), (1, 1), (3, 2)] : List (Nat × Int32))) (hx : Ex Γ d Y_X8_stopLoop [.ref xo, .int a1] (T, R, S, I, L, D, none) (ec n) (es n) (cPo n (.int v) G T R D)) : ExH Γ (d + 1) Y_L_stopLoop hh_stopLoop [.ref xo, .int a1, .ref ol] (T, R, S, I, L, D, none) (ec n) (es n) (wPo n t v.toInt64 G ol T R D) := by
  refine ExH.of (by decide) (by simp [Value.category]) (Nat.le_of_ble_eq_true rfl) rfl ?_
  refine jj_aload_n (q := 1) dL_stopLoop_0 rfl rfl rfl ?_
  refine jj_iconst (v := 0) (q := 2) dL_stopLoop_1 rfl rfl ?_
  refine jj_aload_n (q := 3) dL_stopLoop_2 rfl rfl rfl ?_
  refine jj_iload_n (q := 4) dL_stopLoop_3 rfl rfl rfl ?_
  refine jj_gV1 (q := 7) dL_stopLoop_4 yk_X8_stopLoop ml_L_161 hX hx rfl rfl rfl ⟨Nat.le_of_eq (Nat.zero_add _), Nat.le_of_eq (Nat.zero_add _)⟩ (fun w M' h => ?_) (fun X M' h => ?_)
  · obtain ⟨h1, S1, I1, L1, rfl, hG⟩ := h
    simp only [List.mem_cons, List.mem_nil_iff, Prod.mk.injEq, or_false] at hal
    rcases hal with ⟨rfl, rfl⟩ | ⟨rfl, rfl⟩ | ⟨rfl, rfl⟩
    · cases h1
      show JJ _ _ _ _ _ _ _ _ [.int v, .int 0, .ref ol] _
      refine jj_i2l (q := 8) dL_stopLoop_7 rfl ?_
      refine jj_last (q := 9) dL_stopLoop_8 hO vp_01 rfl ?_
      refine jj_goto (tgt := 18) dL_stopLoop_9 rfl ?_
      refine jj_iconst (v := 0) (q := 19) dL_stopLoop_18 rfl rfl ?_
      refine jj_iret dL_stopLoop_19 rfl (Nat.le_refl _) (Nat.le_refl _) ?_
      exact ⟨rfl, S1, I1, L1, rfl, hG⟩
    · cases h1
    · cases h1
  · obtain ⟨h1, S1, I1, L1, rfl, hG⟩ := h
    simp only [List.mem_cons, List.mem_nil_iff, Prod.mk.injEq, or_false] at hal
    rcases hal with ⟨rfl, rfl⟩ | ⟨rfl, rfl⟩ | ⟨rfl, rfl⟩
    · cases h1
    · cases h1
      refine jj_catch [] ⟨0, 9, 12, 20⟩ [⟨0, 9, 15, 15⟩] rfl np0 (by decide) (by decide) cl_L_20 ca_xISE (fun q => ?_)
      refine jj_astore_n (q := 13) dL_stopLoop_12 rfl (by decide) rfl ?_
      refine jj_iconst (v := 1) (q := 14) dL_stopLoop_13 rfl rfl ?_
      refine jj_iret dL_stopLoop_14 rfl (Nat.le_refl _) (Nat.le_refl _) ?_
      exact ⟨rfl, S1, I1, L1, rfl, hG⟩
    · cases h1
      refine jj_catch [⟨0, 9, 12, 20⟩] ⟨0, 9, 15, 15⟩ [] rfl (np1 (by decide) cl_L_20 nc_IAE_ISE) (by decide) (by decide) cl_L_15 ca_xIAE (fun q => ?_)
      refine jj_astore_n (q := 16) dL_stopLoop_15 rfl (by decide) rfl ?_
      refine jj_iconst (v := 2) (q := 17) dL_stopLoop_16 rfl rfl ?_
      refine jj_iret dL_stopLoop_17 rfl (Nat.le_refl _) (Nat.le_refl _) ?_
      exact ⟨rfl, S1, I1, L1, rfl, hG⟩
theorem wr_reroute (hX : T xo = some (.inl 7)) (hO : T ol = some (.inr (.long, 1))) (hal : (n, t) ∈ ([(0, 0), (1, 1), (2, 2), (3, 3)] : List (Nat × Int32))) (hx : Ex Γ d Y_X8_reroute [.ref xo, .int a1, .int a2] (T, R, S, I, L, D, none) (ec n) (es n) (cPo n (.int v) G T R D)) : ExH Γ (d + 1) Y_L_reroute hh_reroute [.ref xo, .int a1, .int a2, .ref ol] (T, R, S, I, L, D, none) (ec n) (es n) (wPo n t v.toInt64 G ol T R D) := by
  refine ExH.of (by decide) (by simp [Value.category]) (Nat.le_of_ble_eq_true rfl) rfl ?_
  refine jj_aload_n (q := 1) dL_reroute_0 rfl rfl rfl ?_
  refine jj_iconst (v := 0) (q := 2) dL_reroute_1 rfl rfl ?_
  refine jj_aload_n (q := 3) dL_reroute_2 rfl rfl rfl ?_
  refine jj_iload_n (q := 4) dL_reroute_3 rfl rfl rfl ?_
  refine jj_iload_n (q := 5) dL_reroute_4 rfl rfl rfl ?_
  refine jj_gV2 (q := 8) dL_reroute_5 yk_X8_reroute ml_L_164 hX hx rfl rfl rfl ⟨Nat.le_of_eq (Nat.zero_add _), Nat.le_of_eq (Nat.zero_add _)⟩ (fun w M' h => ?_) (fun X M' h => ?_)
  · obtain ⟨h1, S1, I1, L1, rfl, hG⟩ := h
    simp only [List.mem_cons, List.mem_nil_iff, Prod.mk.injEq, or_false] at hal
    rcases hal with ⟨rfl, rfl⟩ | ⟨rfl, rfl⟩ | ⟨rfl, rfl⟩ | ⟨rfl, rfl⟩
    · cases h1
      show JJ _ _ _ _ _ _ _ _ [.int v, .int 0, .ref ol] _
      refine jj_i2l (q := 9) dL_reroute_8 rfl ?_
      refine jj_last (q := 10) dL_reroute_9 hO vp_01 rfl ?_
      refine jj_goto (tgt := 25) dL_reroute_10 rfl ?_
      refine jj_iconst (v := 0) (q := 26) dL_reroute_25 rfl rfl ?_
      refine jj_iret dL_reroute_26 rfl (Nat.le_refl _) (Nat.le_refl _) ?_
      exact ⟨rfl, S1, I1, L1, rfl, hG⟩
    · cases h1
    · cases h1
    · cases h1
  · obtain ⟨h1, S1, I1, L1, rfl, hG⟩ := h
    simp only [List.mem_cons, List.mem_nil_iff, Prod.mk.injEq, or_false] at hal
    rcases hal with ⟨rfl, rfl⟩ | ⟨rfl, rfl⟩ | ⟨rfl, rfl⟩ | ⟨rfl, rfl⟩
    · cases h1
    · cases h1
      refine jj_catch [] ⟨0, 10, 13, 20⟩ [⟨0, 10, 17, 13⟩, ⟨0, 10, 21, 15⟩] rfl np0 (by decide) (by decide) cl_L_20 ca_xISE (fun q => ?_)
      refine jj_astore (q := 15) dL_reroute_13 (by decide) rfl ?_
      refine jj_iconst (v := 1) (q := 16) dL_reroute_15 rfl rfl ?_
      refine jj_iret dL_reroute_16 rfl (Nat.le_refl _) (Nat.le_refl _) ?_
      exact ⟨rfl, S1, I1, L1, rfl, hG⟩
    · cases h1
      refine jj_catch [⟨0, 10, 13, 20⟩] ⟨0, 10, 17, 13⟩ [⟨0, 10, 21, 15⟩] rfl (np1 (by decide) cl_L_20 nc_IOB_ISE) (by decide) (by decide) cl_L_13 ca_xIOB (fun q => ?_)
      refine jj_astore (q := 19) dL_reroute_17 (by decide) rfl ?_
      refine jj_iconst (v := 2) (q := 20) dL_reroute_19 rfl rfl ?_
      refine jj_iret dL_reroute_20 rfl (Nat.le_refl _) (Nat.le_refl _) ?_
      exact ⟨rfl, S1, I1, L1, rfl, hG⟩
    · cases h1
      refine jj_catch [⟨0, 10, 13, 20⟩, ⟨0, 10, 17, 13⟩] ⟨0, 10, 21, 15⟩ [] rfl (np2 (by decide) cl_L_20 nc_IAE_ISE (by decide) cl_L_13 nc_IAE_IOB) (by decide) (by decide) cl_L_15 ca_xIAE (fun q => ?_)
      refine jj_astore (q := 23) dL_reroute_21 (by decide) rfl ?_
      refine jj_iconst (v := 3) (q := 24) dL_reroute_23 rfl rfl ?_
      refine jj_iret dL_reroute_24 rfl (Nat.le_refl _) (Nat.le_refl _) ?_
      exact ⟨rfl, S1, I1, L1, rfl, hG⟩
theorem wr_undo (hX : T xo = some (.inl 7)) (hO : T ol = some (.inr (.long, 1))) (hal : (n, t) ∈ ([(0, 0), (1, 1)] : List (Nat × Int32))) (hx : Ex Γ d Y_X8_undo [.ref xo] (T, R, S, I, L, D, none) (ec n) (es n) (cPo n (.int v) G T R D)) : ExH Γ (d + 1) Y_L_undo hh_undo [.ref xo, .ref ol] (T, R, S, I, L, D, none) (ec n) (es n) (wPo n t v.toInt64 G ol T R D) := by
  refine ExH.of (by decide) (by simp [Value.category]) (Nat.le_of_ble_eq_true rfl) rfl ?_
  refine jj_aload_n (q := 1) dL_undo_0 rfl rfl rfl ?_
  refine jj_iconst (v := 0) (q := 2) dL_undo_1 rfl rfl ?_
  refine jj_aload_n (q := 3) dL_undo_2 rfl rfl rfl ?_
  refine jj_gV0 (q := 6) dL_undo_3 yk_X8_undo ml_L_167 hX hx rfl rfl rfl ⟨Nat.le_of_eq (Nat.zero_add _), Nat.le_of_eq (Nat.zero_add _)⟩ (fun w M' h => ?_) (fun X M' h => ?_)
  · obtain ⟨h1, S1, I1, L1, rfl, hG⟩ := h
    simp only [List.mem_cons, List.mem_nil_iff, Prod.mk.injEq, or_false] at hal
    rcases hal with ⟨rfl, rfl⟩ | ⟨rfl, rfl⟩
    · cases h1
      show JJ _ _ _ _ _ _ _ _ [.int v, .int 0, .ref ol] _
      refine jj_i2l (q := 7) dL_undo_6 rfl ?_
      refine jj_last (q := 8) dL_undo_7 hO vp_01 rfl ?_
      refine jj_goto (tgt := 14) dL_undo_8 rfl ?_
      refine jj_iconst (v := 0) (q := 15) dL_undo_14 rfl rfl ?_
      refine jj_iret dL_undo_15 rfl (Nat.le_refl _) (Nat.le_refl _) ?_
      exact ⟨rfl, S1, I1, L1, rfl, hG⟩
    · cases h1
  · obtain ⟨h1, S1, I1, L1, rfl, hG⟩ := h
    simp only [List.mem_cons, List.mem_nil_iff, Prod.mk.injEq, or_false] at hal
    rcases hal with ⟨rfl, rfl⟩ | ⟨rfl, rfl⟩
    · cases h1
    · cases h1
      refine jj_catch [] ⟨0, 8, 11, 20⟩ [] rfl np0 (by decide) (by decide) cl_L_20 ca_xISE (fun q => ?_)
      refine jj_astore_n (q := 12) dL_undo_11 rfl (by decide) rfl ?_
      refine jj_iconst (v := 1) (q := 13) dL_undo_12 rfl rfl ?_
      refine jj_iret dL_undo_13 rfl (Nat.le_refl _) (Nat.le_refl _) ?_
      exact ⟨rfl, S1, I1, L1, rfl, hG⟩
theorem wr_save (hX : T xo = some (.inl 7)) (hO : T ol = some (.inr (.long, 1))) (hal : (n, t) ∈ ([(0, 0), (1, 1), (2, 2)] : List (Nat × Int32))) (hx : Ex Γ d Y_X8_save [.ref xo, .int a1] (T, R, S, I, L, D, none) (ec n) (es n) (cPo n (.int v) G T R D)) : ExH Γ (d + 1) Y_L_save hh_save [.ref xo, .int a1, .ref ol] (T, R, S, I, L, D, none) (ec n) (es n) (wPo n t v.toInt64 G ol T R D) := by
  refine ExH.of (by decide) (by simp [Value.category]) (Nat.le_of_ble_eq_true rfl) rfl ?_
  refine jj_aload_n (q := 1) dL_save_0 rfl rfl rfl ?_
  refine jj_iconst (v := 0) (q := 2) dL_save_1 rfl rfl ?_
  refine jj_aload_n (q := 3) dL_save_2 rfl rfl rfl ?_
  refine jj_iload_n (q := 4) dL_save_3 rfl rfl rfl ?_
  refine jj_gV1 (q := 7) dL_save_4 yk_X8_save ml_L_170 hX hx rfl rfl rfl ⟨Nat.le_of_eq (Nat.zero_add _), Nat.le_of_eq (Nat.zero_add _)⟩ (fun w M' h => ?_) (fun X M' h => ?_)
  · obtain ⟨h1, S1, I1, L1, rfl, hG⟩ := h
    simp only [List.mem_cons, List.mem_nil_iff, Prod.mk.injEq, or_false] at hal
    rcases hal with ⟨rfl, rfl⟩ | ⟨rfl, rfl⟩ | ⟨rfl, rfl⟩
    · cases h1
      show JJ _ _ _ _ _ _ _ _ [.int v, .int 0, .ref ol] _
      refine jj_i2l (q := 8) dL_save_7 rfl ?_
      refine jj_last (q := 9) dL_save_8 hO vp_01 rfl ?_
      refine jj_goto (tgt := 18) dL_save_9 rfl ?_
      refine jj_iconst (v := 0) (q := 19) dL_save_18 rfl rfl ?_
      refine jj_iret dL_save_19 rfl (Nat.le_refl _) (Nat.le_refl _) ?_
      exact ⟨rfl, S1, I1, L1, rfl, hG⟩
    · cases h1
    · cases h1
  · obtain ⟨h1, S1, I1, L1, rfl, hG⟩ := h
    simp only [List.mem_cons, List.mem_nil_iff, Prod.mk.injEq, or_false] at hal
    rcases hal with ⟨rfl, rfl⟩ | ⟨rfl, rfl⟩ | ⟨rfl, rfl⟩
    · cases h1
    · cases h1
      refine jj_catch [] ⟨0, 9, 12, 20⟩ [⟨0, 9, 15, 13⟩] rfl np0 (by decide) (by decide) cl_L_20 ca_xISE (fun q => ?_)
      refine jj_astore_n (q := 13) dL_save_12 rfl (by decide) rfl ?_
      refine jj_iconst (v := 1) (q := 14) dL_save_13 rfl rfl ?_
      refine jj_iret dL_save_14 rfl (Nat.le_refl _) (Nat.le_refl _) ?_
      exact ⟨rfl, S1, I1, L1, rfl, hG⟩
    · cases h1
      refine jj_catch [⟨0, 9, 12, 20⟩] ⟨0, 9, 15, 13⟩ [] rfl (np1 (by decide) cl_L_20 nc_IOB_ISE) (by decide) (by decide) cl_L_13 ca_xIOB (fun q => ?_)
      refine jj_astore_n (q := 16) dL_save_15 rfl (by decide) rfl ?_
      refine jj_iconst (v := 2) (q := 17) dL_save_16 rfl rfl ?_
      refine jj_iret dL_save_17 rfl (Nat.le_refl _) (Nat.le_refl _) ?_
      exact ⟨rfl, S1, I1, L1, rfl, hG⟩
theorem wr_restore (hX : T xo = some (.inl 7)) (hO : T ol = some (.inr (.long, 1))) (hal : (n, t) ∈ ([(0, 0), (2, 1), (1, 2)] : List (Nat × Int32))) (hx : Ex Γ d Y_X8_restore [.ref xo, .int a1] (T, R, S, I, L, D, none) (ec n) (es n) (cPo n (.int v) G T R D)) : ExH Γ (d + 1) Y_L_restore hh_restore [.ref xo, .int a1, .ref ol] (T, R, S, I, L, D, none) (ec n) (es n) (wPo n t v.toInt64 G ol T R D) := by
  refine ExH.of (by decide) (by simp [Value.category]) (Nat.le_of_ble_eq_true rfl) rfl ?_
  refine jj_aload_n (q := 1) dL_restore_0 rfl rfl rfl ?_
  refine jj_iconst (v := 0) (q := 2) dL_restore_1 rfl rfl ?_
  refine jj_aload_n (q := 3) dL_restore_2 rfl rfl rfl ?_
  refine jj_iload_n (q := 4) dL_restore_3 rfl rfl rfl ?_
  refine jj_gV1 (q := 7) dL_restore_4 yk_X8_restore ml_L_173 hX hx rfl rfl rfl ⟨Nat.le_of_eq (Nat.zero_add _), Nat.le_of_eq (Nat.zero_add _)⟩ (fun w M' h => ?_) (fun X M' h => ?_)
  · obtain ⟨h1, S1, I1, L1, rfl, hG⟩ := h
    simp only [List.mem_cons, List.mem_nil_iff, Prod.mk.injEq, or_false] at hal
    rcases hal with ⟨rfl, rfl⟩ | ⟨rfl, rfl⟩ | ⟨rfl, rfl⟩
    · cases h1
      show JJ _ _ _ _ _ _ _ _ [.int v, .int 0, .ref ol] _
      refine jj_i2l (q := 8) dL_restore_7 rfl ?_
      refine jj_last (q := 9) dL_restore_8 hO vp_01 rfl ?_
      refine jj_goto (tgt := 18) dL_restore_9 rfl ?_
      refine jj_iconst (v := 0) (q := 19) dL_restore_18 rfl rfl ?_
      refine jj_iret dL_restore_19 rfl (Nat.le_refl _) (Nat.le_refl _) ?_
      exact ⟨rfl, S1, I1, L1, rfl, hG⟩
    · cases h1
    · cases h1
  · obtain ⟨h1, S1, I1, L1, rfl, hG⟩ := h
    simp only [List.mem_cons, List.mem_nil_iff, Prod.mk.injEq, or_false] at hal
    rcases hal with ⟨rfl, rfl⟩ | ⟨rfl, rfl⟩ | ⟨rfl, rfl⟩
    · cases h1
    · cases h1
      refine jj_catch [] ⟨0, 9, 12, 13⟩ [⟨0, 9, 15, 20⟩] rfl np0 (by decide) (by decide) cl_L_13 ca_xIOB (fun q => ?_)
      refine jj_astore_n (q := 13) dL_restore_12 rfl (by decide) rfl ?_
      refine jj_iconst (v := 1) (q := 14) dL_restore_13 rfl rfl ?_
      refine jj_iret dL_restore_14 rfl (Nat.le_refl _) (Nat.le_refl _) ?_
      exact ⟨rfl, S1, I1, L1, rfl, hG⟩
    · cases h1
      refine jj_catch [⟨0, 9, 12, 13⟩] ⟨0, 9, 15, 20⟩ [] rfl (np1 (by decide) cl_L_13 nc_ISE_IOB) (by decide) (by decide) cl_L_20 ca_xISE (fun q => ?_)
      refine jj_astore_n (q := 16) dL_restore_15 rfl (by decide) rfl ?_
      refine jj_iconst (v := 2) (q := 17) dL_restore_16 rfl rfl ?_
      refine jj_iret dL_restore_17 rfl (Nat.le_refl _) (Nat.le_refl _) ?_
      exact ⟨rfl, S1, I1, L1, rfl, hG⟩
end C052
