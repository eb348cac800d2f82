/-! THE WRAPPERS' CONTRACTS, 2 (by program) -/
section C051
variable {Γ : Gam} {d xo ol n : Nat} {T : JT} {R S : JR} {I : JI} {L : JL} {D : JD} {t v a1 a2 a3 : Int32} {G : JR → JI → JL → Prop}
theorem wr_laneSize (hX : T xo = some (.inl 7)) (hO : T ol = some (.inr (.long, 1))) (hal : (n, t) ∈ ([(0, 0), (1, 1), (2, 2)] : List (Nat × Int32))) (hx : Ex Γ d Y_X8_laneSize [.ref xo, .int a1] (T, R, S, I, L, D, none) (ec n) (es n) (cPo n (.int v) G T R D)) : ExH Γ (d + 1) Y_L_laneSize hh_laneSize [.ref xo, .int a1, .ref ol] (T, R, S, I, L, D, none) (ec n) (es n) (wPo n t v.toInt64 G ol T R D) := by
  refine ExH.of (by decide) (by simp [Value.category]) (Nat.le_of_ble_eq_true rfl) rfl ?_
  refine jj_aload_n (q := 1) dL_laneSize_0 rfl rfl rfl ?_
  refine jj_iconst (v := 0) (q := 2) dL_laneSize_1 rfl rfl ?_
  refine jj_aload_n (q := 3) dL_laneSize_2 rfl rfl rfl ?_
  refine jj_iload_n (q := 4) dL_laneSize_3 rfl rfl rfl ?_
  refine jj_gV1 (q := 7) dL_laneSize_4 yk_X8_laneSize ml_L_69 hX hx rfl rfl rfl ⟨Nat.le_of_eq (Nat.zero_add _), Nat.le_of_eq (Nat.zero_add _)⟩ (fun w M' h => ?_) (fun X M' h => ?_)
  · obtain ⟨h1, S1, I1, L1, rfl, hG⟩ := h
    simp only [List.mem_cons, List.mem_nil_iff, Prod.mk.injEq, or_false] at hal
    rcases hal with ⟨rfl, rfl⟩ | ⟨rfl, rfl⟩ | ⟨rfl, rfl⟩
    · cases h1
      show JJ _ _ _ _ _ _ _ _ [.int v, .int 0, .ref ol] _
      refine jj_i2l (q := 8) dL_laneSize_7 rfl ?_
      refine jj_last (q := 9) dL_laneSize_8 hO vp_01 rfl ?_
      refine jj_goto (tgt := 18) dL_laneSize_9 rfl ?_
      refine jj_iconst (v := 0) (q := 19) dL_laneSize_18 rfl rfl ?_
      refine jj_iret dL_laneSize_19 rfl (Nat.le_refl _) (Nat.le_refl _) ?_
      exact ⟨rfl, S1, I1, L1, rfl, hG⟩
    · cases h1
    · cases h1
  · obtain ⟨h1, S1, I1, L1, rfl, hG⟩ := h
    simp only [List.mem_cons, List.mem_nil_iff, Prod.mk.injEq, or_false] at hal
    rcases hal with ⟨rfl, rfl⟩ | ⟨rfl, rfl⟩ | ⟨rfl, rfl⟩
    · cases h1
    · cases h1
      refine jj_catch [] ⟨0, 9, 12, 20⟩ [⟨0, 9, 15, 13⟩] rfl np0 (by decide) (by decide) cl_L_20 ca_xISE (fun q => ?_)
      refine jj_astore_n (q := 13) dL_laneSize_12 rfl (by decide) rfl ?_
      refine jj_iconst (v := 1) (q := 14) dL_laneSize_13 rfl rfl ?_
      refine jj_iret dL_laneSize_14 rfl (Nat.le_refl _) (Nat.le_refl _) ?_
      exact ⟨rfl, S1, I1, L1, rfl, hG⟩
    · cases h1
      refine jj_catch [⟨0, 9, 12, 20⟩] ⟨0, 9, 15, 13⟩ [] rfl (np1 (by decide) cl_L_20 nc_IOB_ISE) (by decide) (by decide) cl_L_13 ca_xIOB (fun q => ?_)
      refine jj_astore_n (q := 16) dL_laneSize_15 rfl (by decide) rfl ?_
      refine jj_iconst (v := 2) (q := 17) dL_laneSize_16 rfl rfl ?_
      refine jj_iret dL_laneSize_17 rfl (Nat.le_refl _) (Nat.le_refl _) ?_
      exact ⟨rfl, S1, I1, L1, rfl, hG⟩
theorem wr_laneAt (hX : T xo = some (.inl 7)) (hO : T ol = some (.inr (.long, 1))) (hal : (n, t) ∈ ([(0, 0), (1, 1), (2, 2)] : List (Nat × Int32))) (hx : Ex Γ d Y_X8_laneAt [.ref xo, .int a1, .int a2] (T, R, S, I, L, D, none) (ec n) (es n) (cPo n (.int v) G T R D)) : ExH Γ (d + 1) Y_L_laneAt hh_laneAt [.ref xo, .int a1, .int a2, .ref ol] (T, R, S, I, L, D, none) (ec n) (es n) (wPo n t v.toInt64 G ol T R D) := by
  refine ExH.of (by decide) (by simp [Value.category]) (Nat.le_of_ble_eq_true rfl) rfl ?_
  refine jj_aload_n (q := 1) dL_laneAt_0 rfl rfl rfl ?_
  refine jj_iconst (v := 0) (q := 2) dL_laneAt_1 rfl rfl ?_
  refine jj_aload_n (q := 3) dL_laneAt_2 rfl rfl rfl ?_
  refine jj_iload_n (q := 4) dL_laneAt_3 rfl rfl rfl ?_
  refine jj_iload_n (q := 5) dL_laneAt_4 rfl rfl rfl ?_
  refine jj_gV2 (q := 8) dL_laneAt_5 yk_X8_laneAt ml_L_72 hX hx rfl rfl rfl ⟨Nat.le_of_eq (Nat.zero_add _), Nat.le_of_eq (Nat.zero_add _)⟩ (fun w M' h => ?_) (fun X M' h => ?_)
  · obtain ⟨h1, S1, I1, L1, rfl, hG⟩ := h
    simp only [List.mem_cons, List.mem_nil_iff, Prod.mk.injEq, or_false] at hal
    rcases hal with ⟨rfl, rfl⟩ | ⟨rfl, rfl⟩ | ⟨rfl, rfl⟩
    · cases h1
      show JJ _ _ _ _ _ _ _ _ [.int v, .int 0, .ref ol] _
      refine jj_i2l (q := 9) dL_laneAt_8 rfl ?_
      refine jj_last (q := 10) dL_laneAt_9 hO vp_01 rfl ?_
      refine jj_goto (tgt := 21) dL_laneAt_10 rfl ?_
      refine jj_iconst (v := 0) (q := 22) dL_laneAt_21 rfl rfl ?_
      refine jj_iret dL_laneAt_22 rfl (Nat.le_refl _) (Nat.le_refl _) ?_
      exact ⟨rfl, S1, I1, L1, rfl, hG⟩
    · cases h1
    · cases h1
  · obtain ⟨h1, S1, I1, L1, rfl, hG⟩ := h
    simp only [List.mem_cons, List.mem_nil_iff, Prod.mk.injEq, or_false] at hal
    rcases hal with ⟨rfl, rfl⟩ | ⟨rfl, rfl⟩ | ⟨rfl, rfl⟩
    · cases h1
    · cases h1
      refine jj_catch [] ⟨0, 10, 13, 20⟩ [⟨0, 10, 17, 13⟩] rfl np0 (by decide) (by decide) cl_L_20 ca_xISE (fun q => ?_)
      refine jj_astore (q := 15) dL_laneAt_13 (by decide) rfl ?_
      refine jj_iconst (v := 1) (q := 16) dL_laneAt_15 rfl rfl ?_
      refine jj_iret dL_laneAt_16 rfl (Nat.le_refl _) (Nat.le_refl _) ?_
      exact ⟨rfl, S1, I1, L1, rfl, hG⟩
    · cases h1
      refine jj_catch [⟨0, 10, 13, 20⟩] ⟨0, 10, 17, 13⟩ [] rfl (np1 (by decide) cl_L_20 nc_IOB_ISE) (by decide) (by decide) cl_L_13 ca_xIOB (fun q => ?_)
      refine jj_astore (q := 19) dL_laneAt_17 (by decide) rfl ?_
      refine jj_iconst (v := 2) (q := 20) dL_laneAt_19 rfl rfl ?_
      refine jj_iret dL_laneAt_20 rfl (Nat.le_refl _) (Nat.le_refl _) ?_
      exact ⟨rfl, S1, I1, L1, rfl, hG⟩
theorem wr_flightState (hX : T xo = some (.inl 7)) (hO : T ol = some (.inr (.long, 1))) (hal : (n, t) ∈ ([(0, 0), (1, 1), (2, 2)] : List (Nat × Int32))) (hx : Ex Γ d Y_X8_flightState [.ref xo, .int a1] (T, R, S, I, L, D, none) (ec n) (es n) (cPo n (.int v) G T R D)) : ExH Γ (d + 1) Y_L_flightState hh_flightState [.ref xo, .int a1, .ref ol] (T, R, S, I, L, D, none) (ec n) (es n) (wPo n t v.toInt64 G ol T R D) := by
  refine ExH.of (by decide) (by simp [Value.category]) (Nat.le_of_ble_eq_true rfl) rfl ?_
  refine jj_aload_n (q := 1) dL_flightState_0 rfl rfl rfl ?_
  refine jj_iconst (v := 0) (q := 2) dL_flightState_1 rfl rfl ?_
  refine jj_aload_n (q := 3) dL_flightState_2 rfl rfl rfl ?_
  refine jj_iload_n (q := 4) dL_flightState_3 rfl rfl rfl ?_
  refine jj_gV1 (q := 7) dL_flightState_4 yk_X8_flightState ml_L_75 hX hx rfl rfl rfl ⟨Nat.le_of_eq (Nat.zero_add _), Nat.le_of_eq (Nat.zero_add _)⟩ (fun w M' h => ?_) (fun X M' h => ?_)
  · obtain ⟨h1, S1, I1, L1, rfl, hG⟩ := h
    simp only [List.mem_cons, List.mem_nil_iff, Prod.mk.injEq, or_false] at hal
    rcases hal with ⟨rfl, rfl⟩ | ⟨rfl, rfl⟩ | ⟨rfl, rfl⟩
    · cases h1
      show JJ _ _ _ _ _ _ _ _ [.int v, .int 0, .ref ol] _
      refine jj_i2l (q := 8) dL_flightState_7 rfl ?_
      refine jj_last (q := 9) dL_flightState_8 hO vp_01 rfl ?_
      refine jj_goto (tgt := 18) dL_flightState_9 rfl ?_
      refine jj_iconst (v := 0) (q := 19) dL_flightState_18 rfl rfl ?_
      refine jj_iret dL_flightState_19 rfl (Nat.le_refl _) (Nat.le_refl _) ?_
      exact ⟨rfl, S1, I1, L1, rfl, hG⟩
    · cases h1
    · cases h1
  · obtain ⟨h1, S1, I1, L1, rfl, hG⟩ := h
    simp only [List.mem_cons, List.mem_nil_iff, Prod.mk.injEq, or_false] at hal
    rcases hal with ⟨rfl, rfl⟩ | ⟨rfl, rfl⟩ | ⟨rfl, rfl⟩
    · cases h1
    · cases h1
      refine jj_catch [] ⟨0, 9, 12, 20⟩ [⟨0, 9, 15, 13⟩] rfl np0 (by decide) (by decide) cl_L_20 ca_xISE (fun q => ?_)
      refine jj_astore_n (q := 13) dL_flightState_12 rfl (by decide) rfl ?_
      refine jj_iconst (v := 1) (q := 14) dL_flightState_13 rfl rfl ?_
      refine jj_iret dL_flightState_14 rfl (Nat.le_refl _) (Nat.le_refl _) ?_
      exact ⟨rfl, S1, I1, L1, rfl, hG⟩
    · cases h1
      refine jj_catch [⟨0, 9, 12, 20⟩] ⟨0, 9, 15, 13⟩ [] rfl (np1 (by decide) cl_L_20 nc_IOB_ISE) (by decide) (by decide) cl_L_13 ca_xIOB (fun q => ?_)
      refine jj_astore_n (q := 16) dL_flightState_15 rfl (by decide) rfl ?_
      refine jj_iconst (v := 2) (q := 17) dL_flightState_16 rfl rfl ?_
      refine jj_iret dL_flightState_17 rfl (Nat.le_refl _) (Nat.le_refl _) ?_
      exact ⟨rfl, S1, I1, L1, rfl, hG⟩
theorem wr_openOf (hX : T xo = some (.inl 7)) (hO : T ol = some (.inr (.long, 1))) (hal : (n, t) ∈ ([(0, 0), (1, 1), (2, 2)] : List (Nat × Int32))) (hx : Ex Γ d Y_X8_openOf [.ref xo, .int a1] (T, R, S, I, L, D, none) (ec n) (es n) (cPo n (.int v) G T R D)) : ExH Γ (d + 1) Y_L_openOf hh_openOf [.ref xo, .int a1, .ref ol] (T, R, S, I, L, D, none) (ec n) (es n) (wPo n t v.toInt64 G ol T R D) := by
  refine ExH.of (by decide) (by simp [Value.category]) (Nat.le_of_ble_eq_true rfl) rfl ?_
  refine jj_aload_n (q := 1) dL_openOf_0 rfl rfl rfl ?_
  refine jj_iconst (v := 0) (q := 2) dL_openOf_1 rfl rfl ?_
  refine jj_aload_n (q := 3) dL_openOf_2 rfl rfl rfl ?_
  refine jj_iload_n (q := 4) dL_openOf_3 rfl rfl rfl ?_
  refine jj_gV1 (q := 7) dL_openOf_4 yk_X8_openOf ml_L_78 hX hx rfl rfl rfl ⟨Nat.le_of_eq (Nat.zero_add _), Nat.le_of_eq (Nat.zero_add _)⟩ (fun w M' h => ?_) (fun X M' h => ?_)
  · obtain ⟨h1, S1, I1, L1, rfl, hG⟩ := h
    simp only [List.mem_cons, List.mem_nil_iff, Prod.mk.injEq, or_false] at hal
    rcases hal with ⟨rfl, rfl⟩ | ⟨rfl, rfl⟩ | ⟨rfl, rfl⟩
    · cases h1
      show JJ _ _ _ _ _ _ _ _ [.int v, .int 0, .ref ol] _
      refine jj_i2l (q := 8) dL_openOf_7 rfl ?_
      refine jj_last (q := 9) dL_openOf_8 hO vp_01 rfl ?_
      refine jj_goto (tgt := 18) dL_openOf_9 rfl ?_
      refine jj_iconst (v := 0) (q := 19) dL_openOf_18 rfl rfl ?_
      refine jj_iret dL_openOf_19 rfl (Nat.le_refl _) (Nat.le_refl _) ?_
      exact ⟨rfl, S1, I1, L1, rfl, hG⟩
    · cases h1
    · cases h1
  · obtain ⟨h1, S1, I1, L1, rfl, hG⟩ := h
    simp only [List.mem_cons, List.mem_nil_iff, Prod.mk.injEq, or_false] at hal
    rcases hal with ⟨rfl, rfl⟩ | ⟨rfl, rfl⟩ | ⟨rfl, rfl⟩
    · cases h1
    · cases h1
      refine jj_catch [] ⟨0, 9, 12, 20⟩ [⟨0, 9, 15, 13⟩] rfl np0 (by decide) (by decide) cl_L_20 ca_xISE (fun q => ?_)
      refine jj_astore_n (q := 13) dL_openOf_12 rfl (by decide) rfl ?_
      refine jj_iconst (v := 1) (q := 14) dL_openOf_13 rfl rfl ?_
      refine jj_iret dL_openOf_14 rfl (Nat.le_refl _) (Nat.le_refl _) ?_
      exact ⟨rfl, S1, I1, L1, rfl, hG⟩
    · cases h1
      refine jj_catch [⟨0, 9, 12, 20⟩] ⟨0, 9, 15, 13⟩ [] rfl (np1 (by decide) cl_L_20 nc_IOB_ISE) (by decide) (by decide) cl_L_13 ca_xIOB (fun q => ?_)
      refine jj_astore_n (q := 16) dL_openOf_15 rfl (by decide) rfl ?_
      refine jj_iconst (v := 2) (q := 17) dL_openOf_16 rfl rfl ?_
      refine jj_iret dL_openOf_17 rfl (Nat.le_refl _) (Nat.le_refl _) ?_
      exact ⟨rfl, S1, I1, L1, rfl, hG⟩
theorem wr_closeOf (hX : T xo = some (.inl 7)) (hO : T ol = some (.inr (.long, 1))) (hal : (n, t) ∈ ([(0, 0), (1, 1), (2, 2)] : List (Nat × Int32))) (hx : Ex Γ d Y_X8_closeOf [.ref xo, .int a1] (T, R, S, I, L, D, none) (ec n) (es n) (cPo n (.int v) G T R D)) : ExH Γ (d + 1) Y_L_closeOf hh_closeOf [.ref xo, .int a1, .ref ol] (T, R, S, I, L, D, none) (ec n) (es n) (wPo n t v.toInt64 G ol T R D) := by
  refine ExH.of (by decide) (by simp [Value.category]) (Nat.le_of_ble_eq_true rfl) rfl ?_
  refine jj_aload_n (q := 1) dL_closeOf_0 rfl rfl rfl ?_
  refine jj_iconst (v := 0) (q := 2) dL_closeOf_1 rfl rfl ?_
  refine jj_aload_n (q := 3) dL_closeOf_2 rfl rfl rfl ?_
  refine jj_iload_n (q := 4) dL_closeOf_3 rfl rfl rfl ?_
  refine jj_gV1 (q := 7) dL_closeOf_4 yk_X8_closeOf ml_L_81 hX hx rfl rfl rfl ⟨Nat.le_of_eq (Nat.zero_add _), Nat.le_of_eq (Nat.zero_add _)⟩ (fun w M' h => ?_) (fun X M' h => ?_)
  · obtain ⟨h1, S1, I1, L1, rfl, hG⟩ := h
    simp only [List.mem_cons, List.mem_nil_iff, Prod.mk.injEq, or_false] at hal
    rcases hal with ⟨rfl, rfl⟩ | ⟨rfl, rfl⟩ | ⟨rfl, rfl⟩
    · cases h1
      show JJ _ _ _ _ _ _ _ _ [.int v, .int 0, .ref ol] _
      refine jj_i2l (q := 8) dL_closeOf_7 rfl ?_
      refine jj_last (q := 9) dL_closeOf_8 hO vp_01 rfl ?_
      refine jj_goto (tgt := 18) dL_closeOf_9 rfl ?_
      refine jj_iconst (v := 0) (q := 19) dL_closeOf_18 rfl rfl ?_
      refine jj_iret dL_closeOf_19 rfl (Nat.le_refl _) (Nat.le_refl _) ?_
      exact ⟨rfl, S1, I1, L1, rfl, hG⟩
    · cases h1
    · cases h1
  · obtain ⟨h1, S1, I1, L1, rfl, hG⟩ := h
    simp only [List.mem_cons, List.mem_nil_iff, Prod.mk.injEq, or_false] at hal
    rcases hal with ⟨rfl, rfl⟩ | ⟨rfl, rfl⟩ | ⟨rfl, rfl⟩
    · cases h1
    · cases h1
      refine jj_catch [] ⟨0, 9, 12, 20⟩ [⟨0, 9, 15, 13⟩] rfl np0 (by decide) (by decide) cl_L_20 ca_xISE (fun q => ?_)
      refine jj_astore_n (q := 13) dL_closeOf_12 rfl (by decide) rfl ?_
      refine jj_iconst (v := 1) (q := 14) dL_closeOf_13 rfl rfl ?_
      refine jj_iret dL_closeOf_14 rfl (Nat.le_refl _) (Nat.le_refl _) ?_
      exact ⟨rfl, S1, I1, L1, rfl, hG⟩
    · cases h1
      refine jj_catch [⟨0, 9, 12, 20⟩] ⟨0, 9, 15, 13⟩ [] rfl (np1 (by decide) cl_L_20 nc_IOB_ISE) (by decide) (by decide) cl_L_13 ca_xIOB (fun q => ?_)
      refine jj_astore_n (q := 16) dL_closeOf_15 rfl (by decide) rfl ?_
      refine jj_iconst (v := 2) (q := 17) dL_closeOf_16 rfl rfl ?_
      refine jj_iret dL_closeOf_17 rfl (Nat.le_refl _) (Nat.le_refl _) ?_
      exact ⟨rfl, S1, I1, L1, rfl, hG⟩
theorem wr_countOf (hX : T xo = some (.inl 7)) (hO : T ol = some (.inr (.long, 1))) (hal : (n, t) ∈ ([(0, 0), (1, 1), (2, 2), (3, 3)] : List (Nat × Int32))) (hx : Ex Γ d Y_X8_countOf [.ref xo, .int a1, .int a2] (T, R, S, I, L, D, none) (ec n) (es n) (cPo n (.int v) G T R D)) : ExH Γ (d + 1) Y_L_countOf hh_countOf [.ref xo, .int a1, .int a2, .ref ol] (T, R, S, I, L, D, none) (ec n) (es n) (wPo n t v.toInt64 G ol T R D) := by
  refine ExH.of (by decide) (by simp [Value.category]) (Nat.le_of_ble_eq_true rfl) rfl ?_
  refine jj_aload_n (q := 1) dL_countOf_0 rfl rfl rfl ?_
  refine jj_iconst (v := 0) (q := 2) dL_countOf_1 rfl rfl ?_
  refine jj_aload_n (q := 3) dL_countOf_2 rfl rfl rfl ?_
  refine jj_iload_n (q := 4) dL_countOf_3 rfl rfl rfl ?_
  refine jj_iload_n (q := 5) dL_countOf_4 rfl rfl rfl ?_
  refine jj_gV2 (q := 8) dL_countOf_5 yk_X8_countOf ml_L_84 hX hx rfl rfl rfl ⟨Nat.le_of_eq (Nat.zero_add _), Nat.le_of_eq (Nat.zero_add _)⟩ (fun w M' h => ?_) (fun X M' h => ?_)
  · obtain ⟨h1, S1, I1, L1, rfl, hG⟩ := h
    simp only [List.mem_cons, List.mem_nil_iff, Prod.mk.injEq, or_false] at hal
    rcases hal with ⟨rfl, rfl⟩ | ⟨rfl, rfl⟩ | ⟨rfl, rfl⟩ | ⟨rfl, rfl⟩
    · cases h1
      show JJ _ _ _ _ _ _ _ _ [.int v, .int 0, .ref ol] _
      refine jj_i2l (q := 9) dL_countOf_8 rfl ?_
      refine jj_last (q := 10) dL_countOf_9 hO vp_01 rfl ?_
      refine jj_goto (tgt := 25) dL_countOf_10 rfl ?_
      refine jj_iconst (v := 0) (q := 26) dL_countOf_25 rfl rfl ?_
      refine jj_iret dL_countOf_26 rfl (Nat.le_refl _) (Nat.le_refl _) ?_
      exact ⟨rfl, S1, I1, L1, rfl, hG⟩
    · cases h1
    · cases h1
    · cases h1
  · obtain ⟨h1, S1, I1, L1, rfl, hG⟩ := h
    simp only [List.mem_cons, List.mem_nil_iff, Prod.mk.injEq, or_false] at hal
    rcases hal with ⟨rfl, rfl⟩ | ⟨rfl, rfl⟩ | ⟨rfl, rfl⟩ | ⟨rfl, rfl⟩
    · cases h1
    · cases h1
      refine jj_catch [] ⟨0, 10, 13, 20⟩ [⟨0, 10, 17, 13⟩, ⟨0, 10, 21, 15⟩] rfl np0 (by decide) (by decide) cl_L_20 ca_xISE (fun q => ?_)
      refine jj_astore (q := 15) dL_countOf_13 (by decide) rfl ?_
      refine jj_iconst (v := 1) (q := 16) dL_countOf_15 rfl rfl ?_
      refine jj_iret dL_countOf_16 rfl (Nat.le_refl _) (Nat.le_refl _) ?_
      exact ⟨rfl, S1, I1, L1, rfl, hG⟩
    · cases h1
      refine jj_catch [⟨0, 10, 13, 20⟩] ⟨0, 10, 17, 13⟩ [⟨0, 10, 21, 15⟩] rfl (np1 (by decide) cl_L_20 nc_IOB_ISE) (by decide) (by decide) cl_L_13 ca_xIOB (fun q => ?_)
      refine jj_astore (q := 19) dL_countOf_17 (by decide) rfl ?_
      refine jj_iconst (v := 2) (q := 20) dL_countOf_19 rfl rfl ?_
      refine jj_iret dL_countOf_20 rfl (Nat.le_refl _) (Nat.le_refl _) ?_
      exact ⟨rfl, S1, I1, L1, rfl, hG⟩
    · cases h1
      refine jj_catch [⟨0, 10, 13, 20⟩, ⟨0, 10, 17, 13⟩] ⟨0, 10, 21, 15⟩ [] rfl (np2 (by decide) cl_L_20 nc_IAE_ISE (by decide) cl_L_13 nc_IAE_IOB) (by decide) (by decide) cl_L_15 ca_xIAE (fun q => ?_)
      refine jj_astore (q := 23) dL_countOf_21 (by decide) rfl ?_
      refine jj_iconst (v := 3) (q := 24) dL_countOf_23 rfl rfl ?_
      refine jj_iret dL_countOf_24 rfl (Nat.le_refl _) (Nat.le_refl _) ?_
      exact ⟨rfl, S1, I1, L1, rfl, hG⟩
theorem wr_missing (hX : T xo = some (.inl 7)) (hO : T ol = some (.inr (.long, 1))) (hal : (n, t) ∈ ([(0, 0), (1, 1), (2, 2)] : List (Nat × Int32))) (hx : Ex Γ d Y_X8_missing [.ref xo, .int a1] (T, R, S, I, L, D, none) (ec n) (es n) (cPo n (.int v) G T R D)) : ExH Γ (d + 1) Y_L_missing hh_missing [.ref xo, .int a1, .ref ol] (T, R, S, I, L, D, none) (ec n) (es n) (wPo n t v.toInt64 G ol T R D) := by
  refine ExH.of (by decide) (by simp [Value.category]) (Nat.le_of_ble_eq_true rfl) rfl ?_
  refine jj_aload_n (q := 1) dL_missing_0 rfl rfl rfl ?_
  refine jj_iconst (v := 0) (q := 2) dL_missing_1 rfl rfl ?_
  refine jj_aload_n (q := 3) dL_missing_2 rfl rfl rfl ?_
  refine jj_iload_n (q := 4) dL_missing_3 rfl rfl rfl ?_
  refine jj_gV1 (q := 7) dL_missing_4 yk_X8_missing ml_L_87 hX hx rfl rfl rfl ⟨Nat.le_of_eq (Nat.zero_add _), Nat.le_of_eq (Nat.zero_add _)⟩ (fun w M' h => ?_) (fun X M' h => ?_)
  · obtain ⟨h1, S1, I1, L1, rfl, hG⟩ := h
    simp only [List.mem_cons, List.mem_nil_iff, Prod.mk.injEq, or_false] at hal
    rcases hal with ⟨rfl, rfl⟩ | ⟨rfl, rfl⟩ | ⟨rfl, rfl⟩
    · cases h1
      show JJ _ _ _ _ _ _ _ _ [.int v, .int 0, .ref ol] _
      refine jj_i2l (q := 8) dL_missing_7 rfl ?_
      refine jj_last (q := 9) dL_missing_8 hO vp_01 rfl ?_
      refine jj_goto (tgt := 18) dL_missing_9 rfl ?_
      refine jj_iconst (v := 0) (q := 19) dL_missing_18 rfl rfl ?_
      refine jj_iret dL_missing_19 rfl (Nat.le_refl _) (Nat.le_refl _) ?_
      exact ⟨rfl, S1, I1, L1, rfl, hG⟩
    · cases h1
    · cases h1
  · obtain ⟨h1, S1, I1, L1, rfl, hG⟩ := h
    simp only [List.mem_cons, List.mem_nil_iff, Prod.mk.injEq, or_false] at hal
    rcases hal with ⟨rfl, rfl⟩ | ⟨rfl, rfl⟩ | ⟨rfl, rfl⟩
    · cases h1
    · cases h1
      refine jj_catch [] ⟨0, 9, 12, 20⟩ [⟨0, 9, 15, 13⟩] rfl np0 (by decide) (by decide) cl_L_20 ca_xISE (fun q => ?_)
      refine jj_astore_n (q := 13) dL_missing_12 rfl (by decide) rfl ?_
      refine jj_iconst (v := 1) (q := 14) dL_missing_13 rfl rfl ?_
      refine jj_iret dL_missing_14 rfl (Nat.le_refl _) (Nat.le_refl _) ?_
      exact ⟨rfl, S1, I1, L1, rfl, hG⟩
    · cases h1
      refine jj_catch [⟨0, 9, 12, 20⟩] ⟨0, 9, 15, 13⟩ [] rfl (np1 (by decide) cl_L_20 nc_IOB_ISE) (by decide) (by decide) cl_L_13 ca_xIOB (fun q => ?_)
      refine jj_astore_n (q := 16) dL_missing_15 rfl (by decide) rfl ?_
      refine jj_iconst (v := 2) (q := 17) dL_missing_16 rfl rfl ?_
      refine jj_iret dL_missing_17 rfl (Nat.le_refl _) (Nat.le_refl _) ?_
      exact ⟨rfl, S1, I1, L1, rfl, hG⟩
theorem wr_loadedShare {vf : UInt32} (hX : T xo = some (.inl 7)) (hO : T ol = some (.inr (.double, 1))) (hal : (n, t) ∈ ([(0, 0), (1, 1), (2, 2)] : List (Nat × Int32))) (hf : n = 0 → vf_n64 (FP.f2d vf)) (hx : Ex Γ d Y_X8_loadedShare [.ref xo, .int a1] (T, R, S, I, L, D, none) (ec n) (es n) (fun o M1 => o = eO n (.float vf) ∧ M1 = (T, R, S, I, L, D, none))) : ExH Γ (d + 1) Y_L_loadedShare hh_loadedShare [.ref xo, .int a1, .ref ol] (T, R, S, I, L, D, none) (ec n) (es n) (fun o M1 => o = .inl (some (.int t)) ∧ M1 = (T, R, S, I, L, wDo n D ol (FP.f2d vf), none)) := by
  refine ExH.of (by decide) (by simp [Value.category]) (Nat.le_of_ble_eq_true rfl) rfl ?_
  refine jj_aload_n (q := 1) dL_loadedShare_0 rfl rfl rfl ?_
  refine jj_iconst (v := 0) (q := 2) dL_loadedShare_1 rfl rfl ?_
  refine jj_aload_n (q := 3) dL_loadedShare_2 rfl rfl rfl ?_
  refine jj_iload_n (q := 4) dL_loadedShare_3 rfl rfl rfl ?_
  refine jj_gV1 (q := 7) dL_loadedShare_4 yk_X8_loadedShare ml_L_90 hX hx rfl rfl rfl ⟨Nat.le_of_eq (Nat.zero_add _), Nat.le_of_eq (Nat.zero_add _)⟩ (fun w M' h => ?_) (fun X M' h => ?_)
  · obtain ⟨h1, rfl⟩ := h
    simp only [List.mem_cons, List.mem_nil_iff, Prod.mk.injEq, or_false] at hal
    rcases hal with ⟨rfl, rfl⟩ | ⟨rfl, rfl⟩ | ⟨rfl, rfl⟩
    · cases h1
      show JJ _ _ _ _ _ _ _ _ [.float vf, .int 0, .ref ol] _
      refine jj_f2d (q := 8) dL_loadedShare_7 (hf rfl) rfl ?_
      refine jj_dast (q := 9) dL_loadedShare_8 hO vp_01 rfl ?_
      refine jj_goto (tgt := 18) dL_loadedShare_9 rfl ?_
      refine jj_iconst (v := 0) (q := 19) dL_loadedShare_18 rfl rfl ?_
      refine jj_iret dL_loadedShare_19 rfl (Nat.le_refl _) (Nat.le_refl _) ?_
      exact ⟨rfl, rfl⟩
    · cases h1
    · cases h1
  · obtain ⟨h1, rfl⟩ := h
    simp only [List.mem_cons, List.mem_nil_iff, Prod.mk.injEq, or_false] at hal
    rcases hal with ⟨rfl, rfl⟩ | ⟨rfl, rfl⟩ | ⟨rfl, rfl⟩
    · cases h1
    · cases h1
      refine jj_catch [] ⟨0, 9, 12, 20⟩ [⟨0, 9, 15, 13⟩] rfl np0 (by decide) (by decide) cl_L_20 ca_xISE (fun q => ?_)
      refine jj_astore_n (q := 13) dL_loadedShare_12 rfl (by decide) rfl ?_
      refine jj_iconst (v := 1) (q := 14) dL_loadedShare_13 rfl rfl ?_
      refine jj_iret dL_loadedShare_14 rfl (Nat.le_refl _) (Nat.le_refl _) ?_
      exact ⟨rfl, rfl⟩
    · cases h1
      refine jj_catch [⟨0, 9, 12, 20⟩] ⟨0, 9, 15, 13⟩ [] rfl (np1 (by decide) cl_L_20 nc_IOB_ISE) (by decide) (by decide) cl_L_13 ca_xIOB (fun q => ?_)
      refine jj_astore_n (q := 16) dL_loadedShare_15 rfl (by decide) rfl ?_
      refine jj_iconst (v := 2) (q := 17) dL_loadedShare_16 rfl rfl ?_
      refine jj_iret dL_loadedShare_17 rfl (Nat.le_refl _) (Nat.le_refl _) ?_
      exact ⟨rfl, rfl⟩
theorem wr_percentile (hX : T xo = some (.inl 7)) (hO : T ol = some (.inr (.long, 1))) (hal : (n, t) ∈ ([(0, 0), (1, 1), (2, 2), (3, 3)] : List (Nat × Int32))) (hx : Ex Γ d Y_X8_percentile [.ref xo, .int a1, .int a2] (T, R, S, I, L, D, none) (ec n) (es n) (cPo n (.int v) G T R D)) : ExH Γ (d + 1) Y_L_percentile hh_percentile [.ref xo, .int a1, .int a2, .ref ol] (T, R, S, I, L, D, none) (ec n) (es n) (wPo n t v.toInt64 G ol T R D) := by
  refine ExH.of (by decide) (by simp [Value.category]) (Nat.le_of_ble_eq_true rfl) rfl ?_
  refine jj_aload_n (q := 1) dL_percentile_0 rfl rfl rfl ?_
  refine jj_iconst (v := 0) (q := 2) dL_percentile_1 rfl rfl ?_
  refine jj_aload_n (q := 3) dL_percentile_2 rfl rfl rfl ?_
  refine jj_iload_n (q := 4) dL_percentile_3 rfl rfl rfl ?_
  refine jj_iload_n (q := 5) dL_percentile_4 rfl rfl rfl ?_
  refine jj_gV2 (q := 8) dL_percentile_5 yk_X8_percentile ml_L_94 hX hx rfl rfl rfl ⟨Nat.le_of_eq (Nat.zero_add _), Nat.le_of_eq (Nat.zero_add _)⟩ (fun w M' h => ?_) (fun X M' h => ?_)
  · obtain ⟨h1, S1, I1, L1, rfl, hG⟩ := h
    simp only [List.mem_cons, List.mem_nil_iff, Prod.mk.injEq, or_false] at hal
    rcases hal with ⟨rfl, rfl⟩ | ⟨rfl, rfl⟩ | ⟨rfl, rfl⟩ | ⟨rfl, rfl⟩
    · cases h1
      show JJ _ _ _ _ _ _ _ _ [.int v, .int 0, .ref ol] _
      refine jj_i2l (q := 9) dL_percentile_8 rfl ?_
      refine jj_last (q := 10) dL_percentile_9 hO vp_01 rfl ?_
      refine jj_goto (tgt := 25) dL_percentile_10 rfl ?_
      refine jj_iconst (v := 0) (q := 26) dL_percentile_25 rfl rfl ?_
      refine jj_iret dL_percentile_26 rfl (Nat.le_refl _) (Nat.le_refl _) ?_
      exact ⟨rfl, S1, I1, L1, rfl, hG⟩
    · cases h1
    · cases h1
    · cases h1
  · obtain ⟨h1, S1, I1, L1, rfl, hG⟩ := h
    simp only [List.mem_cons, List.mem_nil_iff, Prod.mk.injEq, or_false] at hal
    rcases hal with ⟨rfl, rfl⟩ | ⟨rfl, rfl⟩ | ⟨rfl, rfl⟩ | ⟨rfl, rfl⟩
    · cases h1
    · cases h1
      refine jj_catch [] ⟨0, 10, 13, 20⟩ [⟨0, 10, 17, 13⟩, ⟨0, 10, 21, 15⟩] rfl np0 (by decide) (by decide) cl_L_20 ca_xISE (fun q => ?_)
      refine jj_astore (q := 15) dL_percentile_13 (by decide) rfl ?_
      refine jj_iconst (v := 1) (q := 16) dL_percentile_15 rfl rfl ?_
      refine jj_iret dL_percentile_16 rfl (Nat.le_refl _) (Nat.le_refl _) ?_
      exact ⟨rfl, S1, I1, L1, rfl, hG⟩
    · cases h1
      refine jj_catch [⟨0, 10, 13, 20⟩] ⟨0, 10, 17, 13⟩ [⟨0, 10, 21, 15⟩] rfl (np1 (by decide) cl_L_20 nc_IOB_ISE) (by decide) (by decide) cl_L_13 ca_xIOB (fun q => ?_)
      refine jj_astore (q := 19) dL_percentile_17 (by decide) rfl ?_
      refine jj_iconst (v := 2) (q := 20) dL_percentile_19 rfl rfl ?_
      refine jj_iret dL_percentile_20 rfl (Nat.le_refl _) (Nat.le_refl _) ?_
      exact ⟨rfl, S1, I1, L1, rfl, hG⟩
    · cases h1
      refine jj_catch [⟨0, 10, 13, 20⟩, ⟨0, 10, 17, 13⟩] ⟨0, 10, 21, 15⟩ [] rfl (np2 (by decide) cl_L_20 nc_IAE_ISE (by decide) cl_L_13 nc_IAE_IOB) (by decide) (by decide) cl_L_15 ca_xIAE (fun q => ?_)
      refine jj_astore (q := 23) dL_percentile_21 (by decide) rfl ?_
      refine jj_iconst (v := 3) (q := 24) dL_percentile_23 rfl rfl ?_
      refine jj_iret dL_percentile_24 rfl (Nat.le_refl _) (Nat.le_refl _) ?_
      exact ⟨rfl, S1, I1, L1, rfl, hG⟩
theorem wr_worstFlight (hX : T xo = some (.inl 7)) (hO : T ol = some (.inr (.long, 1))) (hal : (n, t) ∈ ([(0, 0), (1, 1), (2, 2)] : List (Nat × Int32))) (hx : Ex Γ d Y_X8_worstFlight [.ref xo, .int a1] (T, R, S, I, L, D, none) (ec n) (es n) (cPo n (.int v) G T R D)) : ExH Γ (d + 1) Y_L_worstFlight hh_worstFlight [.ref xo, .int a1, .ref ol] (T, R, S, I, L, D, none) (ec n) (es n) (wPo n t v.toInt64 G ol T R D) := by
  refine ExH.of (by decide) (by simp [Value.category]) (Nat.le_of_ble_eq_true rfl) rfl ?_
  refine jj_aload_n (q := 1) dL_worstFlight_0 rfl rfl rfl ?_
  refine jj_iconst (v := 0) (q := 2) dL_worstFlight_1 rfl rfl ?_
  refine jj_aload_n (q := 3) dL_worstFlight_2 rfl rfl rfl ?_
  refine jj_iload_n (q := 4) dL_worstFlight_3 rfl rfl rfl ?_
  refine jj_gV1 (q := 7) dL_worstFlight_4 yk_X8_worstFlight ml_L_97 hX hx rfl rfl rfl ⟨Nat.le_of_eq (Nat.zero_add _), Nat.le_of_eq (Nat.zero_add _)⟩ (fun w M' h => ?_) (fun X M' h => ?_)
  · obtain ⟨h1, S1, I1, L1, rfl, hG⟩ := h
    simp only [List.mem_cons, List.mem_nil_iff, Prod.mk.injEq, or_false] at hal
    rcases hal with ⟨rfl, rfl⟩ | ⟨rfl, rfl⟩ | ⟨rfl, rfl⟩
    · cases h1
      show JJ _ _ _ _ _ _ _ _ [.int v, .int 0, .ref ol] _
      refine jj_i2l (q := 8) dL_worstFlight_7 rfl ?_
      refine jj_last (q := 9) dL_worstFlight_8 hO vp_01 rfl ?_
      refine jj_goto (tgt := 18) dL_worstFlight_9 rfl ?_
      refine jj_iconst (v := 0) (q := 19) dL_worstFlight_18 rfl rfl ?_
      refine jj_iret dL_worstFlight_19 rfl (Nat.le_refl _) (Nat.le_refl _) ?_
      exact ⟨rfl, S1, I1, L1, rfl, hG⟩
    · cases h1
    · cases h1
  · obtain ⟨h1, S1, I1, L1, rfl, hG⟩ := h
    simp only [List.mem_cons, List.mem_nil_iff, Prod.mk.injEq, or_false] at hal
    rcases hal with ⟨rfl, rfl⟩ | ⟨rfl, rfl⟩ | ⟨rfl, rfl⟩
    · cases h1
    · cases h1
      refine jj_catch [] ⟨0, 9, 12, 20⟩ [⟨0, 9, 15, 13⟩] rfl np0 (by decide) (by decide) cl_L_20 ca_xISE (fun q => ?_)
      refine jj_astore_n (q := 13) dL_worstFlight_12 rfl (by decide) rfl ?_
      refine jj_iconst (v := 1) (q := 14) dL_worstFlight_13 rfl rfl ?_
      refine jj_iret dL_worstFlight_14 rfl (Nat.le_refl _) (Nat.le_refl _) ?_
      exact ⟨rfl, S1, I1, L1, rfl, hG⟩
    · cases h1
      refine jj_catch [⟨0, 9, 12, 20⟩] ⟨0, 9, 15, 13⟩ [] rfl (np1 (by decide) cl_L_20 nc_IOB_ISE) (by decide) (by decide) cl_L_13 ca_xIOB (fun q => ?_)
      refine jj_astore_n (q := 16) dL_worstFlight_15 rfl (by decide) rfl ?_
      refine jj_iconst (v := 2) (q := 17) dL_worstFlight_16 rfl rfl ?_
      refine jj_iret dL_worstFlight_17 rfl (Nat.le_refl _) (Nat.le_refl _) ?_
      exact ⟨rfl, S1, I1, L1, rfl, hG⟩
theorem wr_event (hX : T xo = some (.inl 7)) (hO : T ol = some (.inr (.long, 1))) (hal : (n, t) ∈ ([(0, 0), (1, 1), (2, 2), (3, 3)] : List (Nat × Int32))) (hx : Ex Γ d Y_X8_event [.ref xo, .int a1, .int a2] (T, R, S, I, L, D, none) (ec n) (es n) (cPo n (.int v) G T R D)) : ExH Γ (d + 1) Y_L_event hh_event [.ref xo, .int a1, .int a2, .ref ol] (T, R, S, I, L, D, none) (ec n) (es n) (wPo n t v.toInt64 G ol T R D) := by
  refine ExH.of (by decide) (by simp [Value.category]) (Nat.le_of_ble_eq_true rfl) rfl ?_
  refine jj_aload_n (q := 1) dL_event_0 rfl rfl rfl ?_
  refine jj_iconst (v := 0) (q := 2) dL_event_1 rfl rfl ?_
  refine jj_aload_n (q := 3) dL_event_2 rfl rfl rfl ?_
  refine jj_iload_n (q := 4) dL_event_3 rfl rfl rfl ?_
  refine jj_iload_n (q := 5) dL_event_4 rfl rfl rfl ?_
  refine jj_gV2 (q := 8) dL_event_5 yk_X8_event ml_L_100 hX hx rfl rfl rfl ⟨Nat.le_of_eq (Nat.zero_add _), Nat.le_of_eq (Nat.zero_add _)⟩ (fun w M' h => ?_) (fun X M' h => ?_)
  · obtain ⟨h1, S1, I1, L1, rfl, hG⟩ := h
    simp only [List.mem_cons, List.mem_nil_iff, Prod.mk.injEq, or_false] at hal
    rcases hal with ⟨rfl, rfl⟩ | ⟨rfl, rfl⟩ | ⟨rfl, rfl⟩ | ⟨rfl, rfl⟩
    · cases h1
      show JJ _ _ _ _ _ _ _ _ [.int v, .int 0, .ref ol] _
      refine jj_i2l (q := 9) dL_event_8 rfl ?_
      refine jj_last (q := 10) dL_event_9 hO vp_01 rfl ?_
      refine jj_goto (tgt := 25) dL_event_10 rfl ?_
      refine jj_iconst (v := 0) (q := 26) dL_event_25 rfl rfl ?_
      refine jj_iret dL_event_26 rfl (Nat.le_refl _) (Nat.le_refl _) ?_
      exact ⟨rfl, S1, I1, L1, rfl, hG⟩
    · cases h1
    · cases h1
    · cases h1
  · obtain ⟨h1, S1, I1, L1, rfl, hG⟩ := h
    simp only [List.mem_cons, List.mem_nil_iff, Prod.mk.injEq, or_false] at hal
    rcases hal with ⟨rfl, rfl⟩ | ⟨rfl, rfl⟩ | ⟨rfl, rfl⟩ | ⟨rfl, rfl⟩
    · cases h1
    · cases h1
      refine jj_catch [] ⟨0, 10, 13, 20⟩ [⟨0, 10, 17, 13⟩, ⟨0, 10, 21, 15⟩] rfl np0 (by decide) (by decide) cl_L_20 ca_xISE (fun q => ?_)
      refine jj_astore (q := 15) dL_event_13 (by decide) rfl ?_
      refine jj_iconst (v := 1) (q := 16) dL_event_15 rfl rfl ?_
      refine jj_iret dL_event_16 rfl (Nat.le_refl _) (Nat.le_refl _) ?_
      exact ⟨rfl, S1, I1, L1, rfl, hG⟩
    · cases h1
      refine jj_catch [⟨0, 10, 13, 20⟩] ⟨0, 10, 17, 13⟩ [⟨0, 10, 21, 15⟩] rfl (np1 (by decide) cl_L_20 nc_IOB_ISE) (by decide) (by decide) cl_L_13 ca_xIOB (fun q => ?_)
      refine jj_astore (q := 19) dL_event_17 (by decide) rfl ?_
      refine jj_iconst (v := 2) (q := 20) dL_event_19 rfl rfl ?_
      refine jj_iret dL_event_20 rfl (Nat.le_refl _) (Nat.le_refl _) ?_
      exact ⟨rfl, S1, I1, L1, rfl, hG⟩
    · cases h1
      refine jj_catch [⟨0, 10, 13, 20⟩, ⟨0, 10, 17, 13⟩] ⟨0, 10, 21, 15⟩ [] rfl (np2 (by decide) cl_L_20 nc_IAE_ISE (by decide) cl_L_13 nc_IAE_IOB) (by decide) (by decide) cl_L_15 ca_xIAE (fun q => ?_)
      refine jj_astore (q := 23) dL_event_21 (by decide) rfl ?_
      refine jj_iconst (v := 3) (q := 24) dL_event_23 rfl rfl ?_
      refine jj_iret dL_event_24 rfl (Nat.le_refl _) (Nat.le_refl _) ?_
      exact ⟨rfl, S1, I1, L1, rfl, hG⟩
theorem wr_report (hX : T xo = some (.inl 7)) (hO : T ol = some (.inr (.long, 1))) (hal : (n, t) ∈ ([(0, 0), (1, 1)] : List (Nat × Int32))) (hx : Ex Γ d Y_X8_report [.ref xo] (T, R, S, I, L, D, none) (ec n) (es n) (cPo n (.int v) G T R D)) : ExH Γ (d + 1) Y_L_report hh_report [.ref xo, .ref ol] (T, R, S, I, L, D, none) (ec n) (es n) (wPo n t v.toInt64 G ol T R D) := by
  refine ExH.of (by decide) (by simp [Value.category]) (Nat.le_of_ble_eq_true rfl) rfl ?_
  refine jj_aload_n (q := 1) dL_report_0 rfl rfl rfl ?_
  refine jj_iconst (v := 0) (q := 2) dL_report_1 rfl rfl ?_
  refine jj_aload_n (q := 3) dL_report_2 rfl rfl rfl ?_
  refine jj_gV0 (q := 6) dL_report_3 yk_X8_report ml_L_103 hX hx rfl rfl rfl ⟨Nat.le_of_eq (Nat.zero_add _), Nat.le_of_eq (Nat.zero_add _)⟩ (fun w M' h => ?_) (fun X M' h => ?_)
  · obtain ⟨h1, S1, I1, L1, rfl, hG⟩ := h
    simp only [List.mem_cons, List.mem_nil_iff, Prod.mk.injEq, or_false] at hal
    rcases hal with ⟨rfl, rfl⟩ | ⟨rfl, rfl⟩
    · cases h1
      show JJ _ _ _ _ _ _ _ _ [.int v, .int 0, .ref ol] _
      refine jj_i2l (q := 7) dL_report_6 rfl ?_
      refine jj_last (q := 8) dL_report_7 hO vp_01 rfl ?_
      refine jj_goto (tgt := 14) dL_report_8 rfl ?_
      refine jj_iconst (v := 0) (q := 15) dL_report_14 rfl rfl ?_
      refine jj_iret dL_report_15 rfl (Nat.le_refl _) (Nat.le_refl _) ?_
      exact ⟨rfl, S1, I1, L1, rfl, hG⟩
    · cases h1
  · obtain ⟨h1, S1, I1, L1, rfl, hG⟩ := h
    simp only [List.mem_cons, List.mem_nil_iff, Prod.mk.injEq, or_false] at hal
    rcases hal with ⟨rfl, rfl⟩ | ⟨rfl, rfl⟩
    · cases h1
    · cases h1
      refine jj_catch [] ⟨0, 8, 11, 20⟩ [] rfl np0 (by decide) (by decide) cl_L_20 ca_xISE (fun q => ?_)
      refine jj_astore_n (q := 12) dL_report_11 rfl (by decide) rfl ?_
      refine jj_iconst (v := 1) (q := 13) dL_report_12 rfl rfl ?_
      refine jj_iret dL_report_13 rfl (Nat.le_refl _) (Nat.le_refl _) ?_
      exact ⟨rfl, S1, I1, L1, rfl, hG⟩
theorem wr_reportByte (hX : T xo = some (.inl 7)) (hO : T ol = some (.inr (.long, 1))) (hal : (n, t) ∈ ([(0, 0), (2, 1)] : List (Nat × Int32))) (hx : Ex Γ d Y_X8_reportByte [.ref xo, .int a1] (T, R, S, I, L, D, none) (ec n) (es n) (cPo n (.int v) G T R D)) : ExH Γ (d + 1) Y_L_reportByte hh_reportByte [.ref xo, .int a1, .ref ol] (T, R, S, I, L, D, none) (ec n) (es n) (wPo n t v.toInt64 G ol T R D) := by
  refine ExH.of (by decide) (by simp [Value.category]) (Nat.le_of_ble_eq_true rfl) rfl ?_
  refine jj_aload_n (q := 1) dL_reportByte_0 rfl rfl rfl ?_
  refine jj_iconst (v := 0) (q := 2) dL_reportByte_1 rfl rfl ?_
  refine jj_aload_n (q := 3) dL_reportByte_2 rfl rfl rfl ?_
  refine jj_iload_n (q := 4) dL_reportByte_3 rfl rfl rfl ?_
  refine jj_gV1 (q := 7) dL_reportByte_4 yk_X8_reportByte ml_L_107 hX hx rfl rfl rfl ⟨Nat.le_of_eq (Nat.zero_add _), Nat.le_of_eq (Nat.zero_add _)⟩ (fun w M' h => ?_) (fun X M' h => ?_)
  · obtain ⟨h1, S1, I1, L1, rfl, hG⟩ := h
    simp only [List.mem_cons, List.mem_nil_iff, Prod.mk.injEq, or_false] at hal
    rcases hal with ⟨rfl, rfl⟩ | ⟨rfl, rfl⟩
    · cases h1
      show JJ _ _ _ _ _ _ _ _ [.int v, .int 0, .ref ol] _
      refine jj_i2l (q := 8) dL_reportByte_7 rfl ?_
      refine jj_last (q := 9) dL_reportByte_8 hO vp_01 rfl ?_
      refine jj_goto (tgt := 15) dL_reportByte_9 rfl ?_
      refine jj_iconst (v := 0) (q := 16) dL_reportByte_15 rfl rfl ?_
      refine jj_iret dL_reportByte_16 rfl (Nat.le_refl _) (Nat.le_refl _) ?_
      exact ⟨rfl, S1, I1, L1, rfl, hG⟩
    · cases h1
  · obtain ⟨h1, S1, I1, L1, rfl, hG⟩ := h
    simp only [List.mem_cons, List.mem_nil_iff, Prod.mk.injEq, or_false] at hal
    rcases hal with ⟨rfl, rfl⟩ | ⟨rfl, rfl⟩
    · cases h1
    · cases h1
      refine jj_catch [] ⟨0, 9, 12, 13⟩ [] rfl np0 (by decide) (by decide) cl_L_13 ca_xIOB (fun q => ?_)
      refine jj_astore_n (q := 13) dL_reportByte_12 rfl (by decide) rfl ?_
      refine jj_iconst (v := 1) (q := 14) dL_reportByte_13 rfl rfl ?_
      refine jj_iret dL_reportByte_14 rfl (Nat.le_refl _) (Nat.le_refl _) ?_
      exact ⟨rfl, S1, I1, L1, rfl, hG⟩
theorem wr_map (hX : T xo = some (.inl 7)) (hO : T ol = some (.inr (.long, 1))) (hal : (n, t) ∈ ([(0, 0), (1, 1)] : List (Nat × Int32))) (hx : Ex Γ d Y_X8_map [.ref xo] (T, R, S, I, L, D, none) (ec n) (es n) (cPo n (.int v) G T R D)) : ExH Γ (d + 1) Y_L_map hh_map [.ref xo, .ref ol] (T, R, S, I, L, D, none) (ec n) (es n) (wPo n t v.toInt64 G ol T R D) := by
  refine ExH.of (by decide) (by simp [Value.category]) (Nat.le_of_ble_eq_true rfl) rfl ?_
  refine jj_aload_n (q := 1) dL_map_0 rfl rfl rfl ?_
  refine jj_iconst (v := 0) (q := 2) dL_map_1 rfl rfl ?_
  refine jj_aload_n (q := 3) dL_map_2 rfl rfl rfl ?_
  refine jj_gV0 (q := 6) dL_map_3 yk_X8_map ml_L_110 hX hx rfl rfl rfl ⟨Nat.le_of_eq (Nat.zero_add _), Nat.le_of_eq (Nat.zero_add _)⟩ (fun w M' h => ?_) (fun X M' h => ?_)
  · obtain ⟨h1, S1, I1, L1, rfl, hG⟩ := h
    simp only [List.mem_cons, List.mem_nil_iff, Prod.mk.injEq, or_false] at hal
    rcases hal with ⟨rfl, rfl⟩ | ⟨rfl, rfl⟩
    · cases h1
      show JJ _ _ _ _ _ _ _ _ [.int v, .int 0, .ref ol] _
      refine jj_i2l (q := 7) dL_map_6 rfl ?_
      refine jj_last (q := 8) dL_map_7 hO vp_01 rfl ?_
      refine jj_goto (tgt := 14) dL_map_8 rfl ?_
      refine jj_iconst (v := 0) (q := 15) dL_map_14 rfl rfl ?_
      refine jj_iret dL_map_15 rfl (Nat.le_refl _) (Nat.le_refl _) ?_
      exact ⟨rfl, S1, I1, L1, rfl, hG⟩
    · cases h1
  · obtain ⟨h1, S1, I1, L1, rfl, hG⟩ := h
    simp only [List.mem_cons, List.mem_nil_iff, Prod.mk.injEq, or_false] at hal
    rcases hal with ⟨rfl, rfl⟩ | ⟨rfl, rfl⟩
    · cases h1
    · cases h1
      refine jj_catch [] ⟨0, 8, 11, 20⟩ [] rfl np0 (by decide) (by decide) cl_L_20 ca_xISE (fun q => ?_)
      refine jj_astore_n (q := 12) dL_map_11 rfl (by decide) rfl ?_
      refine jj_iconst (v := 1) (q := 13) dL_map_12 rfl rfl ?_
      refine jj_iret dL_map_13 rfl (Nat.le_refl _) (Nat.le_refl _) ?_
      exact ⟨rfl, S1, I1, L1, rfl, hG⟩
theorem wr_mapByte (hX : T xo = some (.inl 7)) (hO : T ol = some (.inr (.long, 1))) (hal : (n, t) ∈ ([(0, 0), (2, 1)] : List (Nat × Int32))) (hx : Ex Γ d Y_X8_mapByte [.ref xo, .int a1] (T, R, S, I, L, D, none) (ec n) (es n) (cPo n (.int v) G T R D)) : ExH Γ (d + 1) Y_L_mapByte hh_mapByte [.ref xo, .int a1, .ref ol] (T, R, S, I, L, D, none) (ec n) (es n) (wPo n t v.toInt64 G ol T R D) := by
  refine ExH.of (by decide) (by simp [Value.category]) (Nat.le_of_ble_eq_true rfl) rfl ?_
  refine jj_aload_n (q := 1) dL_mapByte_0 rfl rfl rfl ?_
  refine jj_iconst (v := 0) (q := 2) dL_mapByte_1 rfl rfl ?_
  refine jj_aload_n (q := 3) dL_mapByte_2 rfl rfl rfl ?_
  refine jj_iload_n (q := 4) dL_mapByte_3 rfl rfl rfl ?_
  refine jj_gV1 (q := 7) dL_mapByte_4 yk_X8_mapByte ml_L_113 hX hx rfl rfl rfl ⟨Nat.le_of_eq (Nat.zero_add _), Nat.le_of_eq (Nat.zero_add _)⟩ (fun w M' h => ?_) (fun X M' h => ?_)
  · obtain ⟨h1, S1, I1, L1, rfl, hG⟩ := h
    simp only [List.mem_cons, List.mem_nil_iff, Prod.mk.injEq, or_false] at hal
    rcases hal with ⟨rfl, rfl⟩ | ⟨rfl, rfl⟩
    · cases h1
      show JJ _ _ _ _ _ _ _ _ [.int v, .int 0, .ref ol] _
      refine jj_i2l (q := 8) dL_mapByte_7 rfl ?_
      refine jj_last (q := 9) dL_mapByte_8 hO vp_01 rfl ?_
      refine jj_goto (tgt := 15) dL_mapByte_9 rfl ?_
      refine jj_iconst (v := 0) (q := 16) dL_mapByte_15 rfl rfl ?_
      refine jj_iret dL_mapByte_16 rfl (Nat.le_refl _) (Nat.le_refl _) ?_
      exact ⟨rfl, S1, I1, L1, rfl, hG⟩
    · cases h1
  · obtain ⟨h1, S1, I1, L1, rfl, hG⟩ := h
    simp only [List.mem_cons, List.mem_nil_iff, Prod.mk.injEq, or_false] at hal
    rcases hal with ⟨rfl, rfl⟩ | ⟨rfl, rfl⟩
    · cases h1
    · cases h1
      refine jj_catch [] ⟨0, 9, 12, 13⟩ [] rfl np0 (by decide) (by decide) cl_L_13 ca_xIOB (fun q => ?_)
      refine jj_astore_n (q := 13) dL_mapByte_12 rfl (by decide) rfl ?_
      refine jj_iconst (v := 1) (q := 14) dL_mapByte_13 rfl rfl ?_
      refine jj_iret dL_mapByte_14 rfl (Nat.le_refl _) (Nat.le_refl _) ?_
      exact ⟨rfl, S1, I1, L1, rfl, hG⟩
theorem wr_timetable (hX : T xo = some (.inl 7)) (hO : T ol = some (.inr (.long, 1))) (hal : (n, t) ∈ ([(0, 0), (1, 1)] : List (Nat × Int32))) (hx : Ex Γ d Y_X8_timetable [.ref xo] (T, R, S, I, L, D, none) (ec n) (es n) (cPo n (.int v) G T R D)) : ExH Γ (d + 1) Y_L_timetable hh_timetable [.ref xo, .ref ol] (T, R, S, I, L, D, none) (ec n) (es n) (wPo n t v.toInt64 G ol T R D) := by
  refine ExH.of (by decide) (by simp [Value.category]) (Nat.le_of_ble_eq_true rfl) rfl ?_
  refine jj_aload_n (q := 1) dL_timetable_0 rfl rfl rfl ?_
  refine jj_iconst (v := 0) (q := 2) dL_timetable_1 rfl rfl ?_
  refine jj_aload_n (q := 3) dL_timetable_2 rfl rfl rfl ?_
  refine jj_gV0 (q := 6) dL_timetable_3 yk_X8_timetable ml_L_116 hX hx rfl rfl rfl ⟨Nat.le_of_eq (Nat.zero_add _), Nat.le_of_eq (Nat.zero_add _)⟩ (fun w M' h => ?_) (fun X M' h => ?_)
  · obtain ⟨h1, S1, I1, L1, rfl, hG⟩ := h
    simp only [List.mem_cons, List.mem_nil_iff, Prod.mk.injEq, or_false] at hal
    rcases hal with ⟨rfl, rfl⟩ | ⟨rfl, rfl⟩
    · cases h1
      show JJ _ _ _ _ _ _ _ _ [.int v, .int 0, .ref ol] _
      refine jj_i2l (q := 7) dL_timetable_6 rfl ?_
      refine jj_last (q := 8) dL_timetable_7 hO vp_01 rfl ?_
      refine jj_goto (tgt := 14) dL_timetable_8 rfl ?_
      refine jj_iconst (v := 0) (q := 15) dL_timetable_14 rfl rfl ?_
      refine jj_iret dL_timetable_15 rfl (Nat.le_refl _) (Nat.le_refl _) ?_
      exact ⟨rfl, S1, I1, L1, rfl, hG⟩
    · cases h1
  · obtain ⟨h1, S1, I1, L1, rfl, hG⟩ := h
    simp only [List.mem_cons, List.mem_nil_iff, Prod.mk.injEq, or_false] at hal
    rcases hal with ⟨rfl, rfl⟩ | ⟨rfl, rfl⟩
    · cases h1
    · cases h1
      refine jj_catch [] ⟨0, 8, 11, 20⟩ [] rfl np0 (by decide) (by decide) cl_L_20 ca_xISE (fun q => ?_)
      refine jj_astore_n (q := 12) dL_timetable_11 rfl (by decide) rfl ?_
      refine jj_iconst (v := 1) (q := 13) dL_timetable_12 rfl rfl ?_
      refine jj_iret dL_timetable_13 rfl (Nat.le_refl _) (Nat.le_refl _) ?_
      exact ⟨rfl, S1, I1, L1, rfl, hG⟩
theorem wr_timetableByte (hX : T xo = some (.inl 7)) (hO : T ol = some (.inr (.long, 1))) (hal : (n, t) ∈ ([(0, 0), (2, 1)] : List (Nat × Int32))) (hx : Ex Γ d Y_X8_timetableByte [.ref xo, .int a1] (T, R, S, I, L, D, none) (ec n) (es n) (cPo n (.int v) G T R D)) : ExH Γ (d + 1) Y_L_timetableByte hh_timetableByte [.ref xo, .int a1, .ref ol] (T, R, S, I, L, D, none) (ec n) (es n) (wPo n t v.toInt64 G ol T R D) := by
  refine ExH.of (by decide) (by simp [Value.category]) (Nat.le_of_ble_eq_true rfl) rfl ?_
  refine jj_aload_n (q := 1) dL_timetableByte_0 rfl rfl rfl ?_
  refine jj_iconst (v := 0) (q := 2) dL_timetableByte_1 rfl rfl ?_
  refine jj_aload_n (q := 3) dL_timetableByte_2 rfl rfl rfl ?_
  refine jj_iload_n (q := 4) dL_timetableByte_3 rfl rfl rfl ?_
  refine jj_gV1 (q := 7) dL_timetableByte_4 yk_X8_timetableByte ml_L_119 hX hx rfl rfl rfl ⟨Nat.le_of_eq (Nat.zero_add _), Nat.le_of_eq (Nat.zero_add _)⟩ (fun w M' h => ?_) (fun X M' h => ?_)
  · obtain ⟨h1, S1, I1, L1, rfl, hG⟩ := h
    simp only [List.mem_cons, List.mem_nil_iff, Prod.mk.injEq, or_false] at hal
    rcases hal with ⟨rfl, rfl⟩ | ⟨rfl, rfl⟩
    · cases h1
      show JJ _ _ _ _ _ _ _ _ [.int v, .int 0, .ref ol] _
      refine jj_i2l (q := 8) dL_timetableByte_7 rfl ?_
      refine jj_last (q := 9) dL_timetableByte_8 hO vp_01 rfl ?_
      refine jj_goto (tgt := 15) dL_timetableByte_9 rfl ?_
      refine jj_iconst (v := 0) (q := 16) dL_timetableByte_15 rfl rfl ?_
      refine jj_iret dL_timetableByte_16 rfl (Nat.le_refl _) (Nat.le_refl _) ?_
      exact ⟨rfl, S1, I1, L1, rfl, hG⟩
    · cases h1
  · obtain ⟨h1, S1, I1, L1, rfl, hG⟩ := h
    simp only [List.mem_cons, List.mem_nil_iff, Prod.mk.injEq, or_false] at hal
    rcases hal with ⟨rfl, rfl⟩ | ⟨rfl, rfl⟩
    · cases h1
    · cases h1
      refine jj_catch [] ⟨0, 9, 12, 13⟩ [] rfl np0 (by decide) (by decide) cl_L_13 ca_xIOB (fun q => ?_)
      refine jj_astore_n (q := 13) dL_timetableByte_12 rfl (by decide) rfl ?_
      refine jj_iconst (v := 1) (q := 14) dL_timetableByte_13 rfl rfl ?_
      refine jj_iret dL_timetableByte_14 rfl (Nat.le_refl _) (Nat.le_refl _) ?_
      exact ⟨rfl, S1, I1, L1, rfl, hG⟩
end C051
