/-! THE WRAPPERS' CONTRACTS (by program) -/
def wLo : Nat → JL → Nat → Int64 → JL
  | 0, L, b, x => u2 L b 0 x
  | _ + 1, L, _, _ => L
def zb (v : Int32) : Int64 := if v = 0 then 0 else 1
/-- how a wrapper ends -/
def wPo (n : Nat) (t : Int32) (x : Int64) (G : JR → JI → JL → Prop) (b : Nat) (T : JT) (R : JR) (D : JD) : JO → JM → Prop := fun o M1 => o = .inl (some (.int t)) ∧ ∃ S1 I1 L1, M1 = (T, R, S1, I1, wLo n L1 b x, D, none) ∧ G S1 I1 L1
def cPo (n : Nat) (v : Value) (G : JR → JI → JL → Prop) (T : JT) (R : JR) (D : JD) : JO → JM → Prop := fun o M1 => o = eO n v ∧ ∃ S1 I1 L1, M1 = (T, R, S1, I1, L1, D, none) ∧ G S1 I1 L1
theorem vp_01 : vp_in 0 1 := by unfold vp_in; decide
theorem zb_0 {v : Int32} (h : v = 0) : zb v = 0 := if_pos h
theorem zb_1 {v : Int32} (h : ¬ v = 0) : zb v = 1 := if_neg h
def wDo : Nat → JD → Nat → UInt64 → JD
  | 0, D, b, x => u2 D b 0 x
  | _ + 1, D, _, _ => D
section C05
variable {Γ : Gam} {E : JE} {pc : Nat} {X nm : String}
theorem np0 : ∀ s, KG Γ s → ∀ z ∈ ([] : List ExceptionTableEntry), covers z pc = false ∨ (z.catchType ≠ 0 ∧ ∃ nm : String, Cond.classLink E.1 z.catchType nm ∈ lw_good ∧ va_Nc X nm s) := fun s _ z hz => by cases hz
theorem np1 {z1 : ExceptionTableEntry} (h0 : z1.catchType ≠ 0) (h1 : Cond.classLink E.1 z1.catchType nm ∈ lw_good) (h2 : ∀ s, KG Γ s → va_Nc X nm s) : ∀ s, KG Γ s → ∀ z ∈ [z1], covers z pc = false ∨ (z.catchType ≠ 0 ∧ ∃ nm : String, Cond.classLink E.1 z.catchType nm ∈ lw_good ∧ va_Nc X nm s) := fun s hs z hz => by
  rw [List.mem_singleton] at hz
  subst hz
  exact Or.inr ⟨h0, nm, h1, h2 s hs⟩
theorem np2 {z1 z2 : ExceptionTableEntry} {nm2 : String} (h0 : z1.catchType ≠ 0) (h1 : Cond.classLink E.1 z1.catchType nm ∈ lw_good) (h2 : ∀ s, KG Γ s → va_Nc X nm s) (g0 : z2.catchType ≠ 0) (g1 : Cond.classLink E.1 z2.catchType nm2 ∈ lw_good) (g2 : ∀ s, KG Γ s → va_Nc X nm2 s) : ∀ s, KG Γ s → ∀ z ∈ [z1, z2], covers z pc = false ∨ (z.catchType ≠ 0 ∧ ∃ nm : String, Cond.classLink E.1 z.catchType nm ∈ lw_good ∧ va_Nc X nm s) := fun s hs z hz => by
  rcases List.mem_cons.mp hz with rfl | hz
  · exact Or.inr ⟨h0, nm, h1, h2 s hs⟩
  · rw [List.mem_singleton] at hz
    subst hz
    exact Or.inr ⟨g0, nm2, g1, g2 s hs⟩
theorem nc_ISE_IAE : ∀ s, KG Γ s → va_Nc xISE xIAE s := fun _ h => h.2.2.2.2.2.1.1
theorem nc_ISE_IOB : ∀ s, KG Γ s → va_Nc xISE xIOB s := fun _ h => h.2.2.2.2.2.1.2.1
theorem nc_IAE_ISE : ∀ s, KG Γ s → va_Nc xIAE xISE s := fun _ h => h.2.2.2.2.2.1.2.2.1
theorem nc_IAE_IOB : ∀ s, KG Γ s → va_Nc xIAE xIOB s := fun _ h => h.2.2.2.2.2.1.2.2.2.1
theorem nc_IOB_ISE : ∀ s, KG Γ s → va_Nc xIOB xISE s := fun _ h => h.2.2.2.2.2.1.2.2.2.2.1
theorem nc_IOB_IAE : ∀ s, KG Γ s → va_Nc xIOB xIAE s := fun _ h => h.2.2.2.2.2.1.2.2.2.2.2
variable {d xo ol n : Nat} {T : JT} {R S : JR} {I : JI} {L : JL} {D : JD} {t v a1 a2 a3 : Int32} {G : JR → JI → JL → Prop}
theorem wr_load (hX : T xo = some (.inl 7)) (hO : T ol = some (.inr (.long, 1))) (hal : (n, t) ∈ ([(0, 0), (2, 1), (3, 2)] : List (Nat × Int32))) (hx : Ex Γ d Y_X8_load [.ref xo, .int a1] (T, R, S, I, L, D, none) (ec n) (es n) (cPo n (.int v) G T R D)) : ExH Γ (d + 1) Y_L_load hh_load [.ref xo, .int a1, .ref ol] (T, R, S, I, L, D, none) (ec n) (es n) (wPo n t v.toInt64 G ol T R D) := by
  refine ExH.of (by decide) (by simp [Value.category]) (Nat.le_of_ble_eq_true rfl) rfl ?_
  refine jj_aload_n (q := 1) dL_load_0 rfl rfl rfl ?_
  refine jj_iconst (v := 0) (q := 2) dL_load_1 rfl rfl ?_
  refine jj_aload_n (q := 3) dL_load_2 rfl rfl rfl ?_
  refine jj_iload_n (q := 4) dL_load_3 rfl rfl rfl ?_
  refine jj_gV1 (q := 7) dL_load_4 yk_X8_load ml_L_7 hX hx rfl rfl rfl ⟨Nat.le_of_eq (Nat.zero_add _), Nat.le_of_eq (Nat.zero_add _)⟩ (fun w M' h => ?_) (fun X M' h => ?_)
  · obtain ⟨h1, S1, I1, L1, rfl, hG⟩ := h
    simp only [List.mem_cons, List.mem_nil_iff, Prod.mk.injEq, or_false] at hal
    rcases hal with ⟨rfl, rfl⟩ | ⟨rfl, rfl⟩ | ⟨rfl, rfl⟩
    · cases h1
      show JJ _ _ _ _ _ _ _ _ [.int v, .int 0, .ref ol] _
      refine jj_i2l (q := 8) dL_load_7 rfl ?_
      refine jj_last (q := 9) dL_load_8 hO vp_01 rfl ?_
      refine jj_goto (tgt := 18) dL_load_9 rfl ?_
      refine jj_iconst (v := 0) (q := 19) dL_load_18 rfl rfl ?_
      refine jj_iret dL_load_19 rfl (Nat.le_refl _) (Nat.le_refl _) ?_
      exact ⟨rfl, S1, I1, L1, rfl, hG⟩
    · cases h1
    · cases h1
  · obtain ⟨h1, S1, I1, L1, rfl, hG⟩ := h
    simp only [List.mem_cons, List.mem_nil_iff, Prod.mk.injEq, or_false] at hal
    rcases hal with ⟨rfl, rfl⟩ | ⟨rfl, rfl⟩ | ⟨rfl, rfl⟩
    · cases h1
    · cases h1
      refine jj_catch [] ⟨0, 9, 12, 13⟩ [⟨0, 9, 15, 15⟩] rfl np0 (by decide) (by decide) cl_L_13 ca_xIOB (fun q => ?_)
      refine jj_astore_n (q := 13) dL_load_12 rfl (by decide) rfl ?_
      refine jj_iconst (v := 1) (q := 14) dL_load_13 rfl rfl ?_
      refine jj_iret dL_load_14 rfl (Nat.le_refl _) (Nat.le_refl _) ?_
      exact ⟨rfl, S1, I1, L1, rfl, hG⟩
    · cases h1
      refine jj_catch [⟨0, 9, 12, 13⟩] ⟨0, 9, 15, 15⟩ [] rfl (np1 (by decide) cl_L_13 nc_IAE_IOB) (by decide) (by decide) cl_L_15 ca_xIAE (fun q => ?_)
      refine jj_astore_n (q := 16) dL_load_15 rfl (by decide) rfl ?_
      refine jj_iconst (v := 2) (q := 17) dL_load_16 rfl rfl ?_
      refine jj_iret dL_load_17 rfl (Nat.le_refl _) (Nat.le_refl _) ?_
      exact ⟨rfl, S1, I1, L1, rfl, hG⟩
theorem wr_stateOf (hX : T xo = some (.inl 7)) (hO : T ol = some (.inr (.long, 1))) (hal : (n, t) ∈ ([(0, 0), (1, 1), (2, 2)] : List (Nat × Int32))) (hx : Ex Γ d Y_X8_stateOf [.ref xo, .int a1] (T, R, S, I, L, D, none) (ec n) (es n) (cPo n (.int v) G T R D)) : ExH Γ (d + 1) Y_L_stateOf hh_stateOf [.ref xo, .int a1, .ref ol] (T, R, S, I, L, D, none) (ec n) (es n) (wPo n t v.toInt64 G ol T R D) := by
  refine ExH.of (by decide) (by simp [Value.category]) (Nat.le_of_ble_eq_true rfl) rfl ?_
  refine jj_aload_n (q := 1) dL_stateOf_0 rfl rfl rfl ?_
  refine jj_iconst (v := 0) (q := 2) dL_stateOf_1 rfl rfl ?_
  refine jj_aload_n (q := 3) dL_stateOf_2 rfl rfl rfl ?_
  refine jj_iload_n (q := 4) dL_stateOf_3 rfl rfl rfl ?_
  refine jj_gV1 (q := 7) dL_stateOf_4 yk_X8_stateOf ml_L_17 hX hx rfl rfl rfl ⟨Nat.le_of_eq (Nat.zero_add _), Nat.le_of_eq (Nat.zero_add _)⟩ (fun w M' h => ?_) (fun X M' h => ?_)
  · obtain ⟨h1, S1, I1, L1, rfl, hG⟩ := h
    simp only [List.mem_cons, List.mem_nil_iff, Prod.mk.injEq, or_false] at hal
    rcases hal with ⟨rfl, rfl⟩ | ⟨rfl, rfl⟩ | ⟨rfl, rfl⟩
    · cases h1
      show JJ _ _ _ _ _ _ _ _ [.int v, .int 0, .ref ol] _
      refine jj_i2l (q := 8) dL_stateOf_7 rfl ?_
      refine jj_last (q := 9) dL_stateOf_8 hO vp_01 rfl ?_
      refine jj_goto (tgt := 18) dL_stateOf_9 rfl ?_
      refine jj_iconst (v := 0) (q := 19) dL_stateOf_18 rfl rfl ?_
      refine jj_iret dL_stateOf_19 rfl (Nat.le_refl _) (Nat.le_refl _) ?_
      exact ⟨rfl, S1, I1, L1, rfl, hG⟩
    · cases h1
    · cases h1
  · obtain ⟨h1, S1, I1, L1, rfl, hG⟩ := h
    simp only [List.mem_cons, List.mem_nil_iff, Prod.mk.injEq, or_false] at hal
    rcases hal with ⟨rfl, rfl⟩ | ⟨rfl, rfl⟩ | ⟨rfl, rfl⟩
    · cases h1
    · cases h1
      refine jj_catch [] ⟨0, 9, 12, 20⟩ [⟨0, 9, 15, 13⟩] rfl np0 (by decide) (by decide) cl_L_20 ca_xISE (fun q => ?_)
      refine jj_astore_n (q := 13) dL_stateOf_12 rfl (by decide) rfl ?_
      refine jj_iconst (v := 1) (q := 14) dL_stateOf_13 rfl rfl ?_
      refine jj_iret dL_stateOf_14 rfl (Nat.le_refl _) (Nat.le_refl _) ?_
      exact ⟨rfl, S1, I1, L1, rfl, hG⟩
    · cases h1
      refine jj_catch [⟨0, 9, 12, 20⟩] ⟨0, 9, 15, 13⟩ [] rfl (np1 (by decide) cl_L_20 nc_IOB_ISE) (by decide) (by decide) cl_L_13 ca_xIOB (fun q => ?_)
      refine jj_astore_n (q := 16) dL_stateOf_15 rfl (by decide) rfl ?_
      refine jj_iconst (v := 2) (q := 17) dL_stateOf_16 rfl rfl ?_
      refine jj_iret dL_stateOf_17 rfl (Nat.le_refl _) (Nat.le_refl _) ?_
      exact ⟨rfl, S1, I1, L1, rfl, hG⟩
theorem wr_flightOf (hX : T xo = some (.inl 7)) (hO : T ol = some (.inr (.long, 1))) (hal : (n, t) ∈ ([(0, 0), (1, 1), (2, 2)] : List (Nat × Int32))) (hx : Ex Γ d Y_X8_flightOf [.ref xo, .int a1] (T, R, S, I, L, D, none) (ec n) (es n) (cPo n (.int v) G T R D)) : ExH Γ (d + 1) Y_L_flightOf hh_flightOf [.ref xo, .int a1, .ref ol] (T, R, S, I, L, D, none) (ec n) (es n) (wPo n t v.toInt64 G ol T R D) := by
  refine ExH.of (by decide) (by simp [Value.category]) (Nat.le_of_ble_eq_true rfl) rfl ?_
  refine jj_aload_n (q := 1) dL_flightOf_0 rfl rfl rfl ?_
  refine jj_iconst (v := 0) (q := 2) dL_flightOf_1 rfl rfl ?_
  refine jj_aload_n (q := 3) dL_flightOf_2 rfl rfl rfl ?_
  refine jj_iload_n (q := 4) dL_flightOf_3 rfl rfl rfl ?_
  refine jj_gV1 (q := 7) dL_flightOf_4 yk_X8_flightOf ml_L_22 hX hx rfl rfl rfl ⟨Nat.le_of_eq (Nat.zero_add _), Nat.le_of_eq (Nat.zero_add _)⟩ (fun w M' h => ?_) (fun X M' h => ?_)
  · obtain ⟨h1, S1, I1, L1, rfl, hG⟩ := h
    simp only [List.mem_cons, List.mem_nil_iff, Prod.mk.injEq, or_false] at hal
    rcases hal with ⟨rfl, rfl⟩ | ⟨rfl, rfl⟩ | ⟨rfl, rfl⟩
    · cases h1
      show JJ _ _ _ _ _ _ _ _ [.int v, .int 0, .ref ol] _
      refine jj_i2l (q := 8) dL_flightOf_7 rfl ?_
      refine jj_last (q := 9) dL_flightOf_8 hO vp_01 rfl ?_
      refine jj_goto (tgt := 18) dL_flightOf_9 rfl ?_
      refine jj_iconst (v := 0) (q := 19) dL_flightOf_18 rfl rfl ?_
      refine jj_iret dL_flightOf_19 rfl (Nat.le_refl _) (Nat.le_refl _) ?_
      exact ⟨rfl, S1, I1, L1, rfl, hG⟩
    · cases h1
    · cases h1
  · obtain ⟨h1, S1, I1, L1, rfl, hG⟩ := h
    simp only [List.mem_cons, List.mem_nil_iff, Prod.mk.injEq, or_false] at hal
    rcases hal with ⟨rfl, rfl⟩ | ⟨rfl, rfl⟩ | ⟨rfl, rfl⟩
    · cases h1
    · cases h1
      refine jj_catch [] ⟨0, 9, 12, 20⟩ [⟨0, 9, 15, 13⟩] rfl np0 (by decide) (by decide) cl_L_20 ca_xISE (fun q => ?_)
      refine jj_astore_n (q := 13) dL_flightOf_12 rfl (by decide) rfl ?_
      refine jj_iconst (v := 1) (q := 14) dL_flightOf_13 rfl rfl ?_
      refine jj_iret dL_flightOf_14 rfl (Nat.le_refl _) (Nat.le_refl _) ?_
      exact ⟨rfl, S1, I1, L1, rfl, hG⟩
    · cases h1
      refine jj_catch [⟨0, 9, 12, 20⟩] ⟨0, 9, 15, 13⟩ [] rfl (np1 (by decide) cl_L_20 nc_IOB_ISE) (by decide) (by decide) cl_L_13 ca_xIOB (fun q => ?_)
      refine jj_astore_n (q := 16) dL_flightOf_15 rfl (by decide) rfl ?_
      refine jj_iconst (v := 2) (q := 17) dL_flightOf_16 rfl rfl ?_
      refine jj_iret dL_flightOf_17 rfl (Nat.le_refl _) (Nat.le_refl _) ?_
      exact ⟨rfl, S1, I1, L1, rfl, hG⟩
theorem wr_arrivalOf (hX : T xo = some (.inl 7)) (hO : T ol = some (.inr (.long, 1))) (hal : (n, t) ∈ ([(0, 0), (1, 1), (2, 2)] : List (Nat × Int32))) (hx : Ex Γ d Y_X8_arrivalOf [.ref xo, .int a1] (T, R, S, I, L, D, none) (ec n) (es n) (cPo n (.int v) G T R D)) : ExH Γ (d + 1) Y_L_arrivalOf hh_arrivalOf [.ref xo, .int a1, .ref ol] (T, R, S, I, L, D, none) (ec n) (es n) (wPo n t v.toInt64 G ol T R D) := by
  refine ExH.of (by decide) (by simp [Value.category]) (Nat.le_of_ble_eq_true rfl) rfl ?_
  refine jj_aload_n (q := 1) dL_arrivalOf_0 rfl rfl rfl ?_
  refine jj_iconst (v := 0) (q := 2) dL_arrivalOf_1 rfl rfl ?_
  refine jj_aload_n (q := 3) dL_arrivalOf_2 rfl rfl rfl ?_
  refine jj_iload_n (q := 4) dL_arrivalOf_3 rfl rfl rfl ?_
  refine jj_gV1 (q := 7) dL_arrivalOf_4 yk_X8_arrivalOf ml_L_25 hX hx rfl rfl rfl ⟨Nat.le_of_eq (Nat.zero_add _), Nat.le_of_eq (Nat.zero_add _)⟩ (fun w M' h => ?_) (fun X M' h => ?_)
  · obtain ⟨h1, S1, I1, L1, rfl, hG⟩ := h
    simp only [List.mem_cons, List.mem_nil_iff, Prod.mk.injEq, or_false] at hal
    rcases hal with ⟨rfl, rfl⟩ | ⟨rfl, rfl⟩ | ⟨rfl, rfl⟩
    · cases h1
      show JJ _ _ _ _ _ _ _ _ [.int v, .int 0, .ref ol] _
      refine jj_i2l (q := 8) dL_arrivalOf_7 rfl ?_
      refine jj_last (q := 9) dL_arrivalOf_8 hO vp_01 rfl ?_
      refine jj_goto (tgt := 18) dL_arrivalOf_9 rfl ?_
      refine jj_iconst (v := 0) (q := 19) dL_arrivalOf_18 rfl rfl ?_
      refine jj_iret dL_arrivalOf_19 rfl (Nat.le_refl _) (Nat.le_refl _) ?_
      exact ⟨rfl, S1, I1, L1, rfl, hG⟩
    · cases h1
    · cases h1
  · obtain ⟨h1, S1, I1, L1, rfl, hG⟩ := h
    simp only [List.mem_cons, List.mem_nil_iff, Prod.mk.injEq, or_false] at hal
    rcases hal with ⟨rfl, rfl⟩ | ⟨rfl, rfl⟩ | ⟨rfl, rfl⟩
    · cases h1
    · cases h1
      refine jj_catch [] ⟨0, 9, 12, 20⟩ [⟨0, 9, 15, 13⟩] rfl np0 (by decide) (by decide) cl_L_20 ca_xISE (fun q => ?_)
      refine jj_astore_n (q := 13) dL_arrivalOf_12 rfl (by decide) rfl ?_
      refine jj_iconst (v := 1) (q := 14) dL_arrivalOf_13 rfl rfl ?_
      refine jj_iret dL_arrivalOf_14 rfl (Nat.le_refl _) (Nat.le_refl _) ?_
      exact ⟨rfl, S1, I1, L1, rfl, hG⟩
    · cases h1
      refine jj_catch [⟨0, 9, 12, 20⟩] ⟨0, 9, 15, 13⟩ [] rfl (np1 (by decide) cl_L_20 nc_IOB_ISE) (by decide) (by decide) cl_L_13 ca_xIOB (fun q => ?_)
      refine jj_astore_n (q := 16) dL_arrivalOf_15 rfl (by decide) rfl ?_
      refine jj_iconst (v := 2) (q := 17) dL_arrivalOf_16 rfl rfl ?_
      refine jj_iret dL_arrivalOf_17 rfl (Nat.le_refl _) (Nat.le_refl _) ?_
      exact ⟨rfl, S1, I1, L1, rfl, hG⟩
theorem wr_positionOf (hX : T xo = some (.inl 7)) (hO : T ol = some (.inr (.long, 1))) (hal : (n, t) ∈ ([(0, 0), (1, 1), (2, 2)] : List (Nat × Int32))) (hx : Ex Γ d Y_X8_positionOf [.ref xo, .int a1] (T, R, S, I, L, D, none) (ec n) (es n) (cPo n (.int v) G T R D)) : ExH Γ (d + 1) Y_L_positionOf hh_positionOf [.ref xo, .int a1, .ref ol] (T, R, S, I, L, D, none) (ec n) (es n) (wPo n t v.toInt64 G ol T R D) := by
  refine ExH.of (by decide) (by simp [Value.category]) (Nat.le_of_ble_eq_true rfl) rfl ?_
  refine jj_aload_n (q := 1) dL_positionOf_0 rfl rfl rfl ?_
  refine jj_iconst (v := 0) (q := 2) dL_positionOf_1 rfl rfl ?_
  refine jj_aload_n (q := 3) dL_positionOf_2 rfl rfl rfl ?_
  refine jj_iload_n (q := 4) dL_positionOf_3 rfl rfl rfl ?_
  refine jj_gV1 (q := 7) dL_positionOf_4 yk_X8_positionOf ml_L_28 hX hx rfl rfl rfl ⟨Nat.le_of_eq (Nat.zero_add _), Nat.le_of_eq (Nat.zero_add _)⟩ (fun w M' h => ?_) (fun X M' h => ?_)
  · obtain ⟨h1, S1, I1, L1, rfl, hG⟩ := h
    simp only [List.mem_cons, List.mem_nil_iff, Prod.mk.injEq, or_false] at hal
    rcases hal with ⟨rfl, rfl⟩ | ⟨rfl, rfl⟩ | ⟨rfl, rfl⟩
    · cases h1
      show JJ _ _ _ _ _ _ _ _ [.int v, .int 0, .ref ol] _
      refine jj_i2l (q := 8) dL_positionOf_7 rfl ?_
      refine jj_last (q := 9) dL_positionOf_8 hO vp_01 rfl ?_
      refine jj_goto (tgt := 18) dL_positionOf_9 rfl ?_
      refine jj_iconst (v := 0) (q := 19) dL_positionOf_18 rfl rfl ?_
      refine jj_iret dL_positionOf_19 rfl (Nat.le_refl _) (Nat.le_refl _) ?_
      exact ⟨rfl, S1, I1, L1, rfl, hG⟩
    · cases h1
    · cases h1
  · obtain ⟨h1, S1, I1, L1, rfl, hG⟩ := h
    simp only [List.mem_cons, List.mem_nil_iff, Prod.mk.injEq, or_false] at hal
    rcases hal with ⟨rfl, rfl⟩ | ⟨rfl, rfl⟩ | ⟨rfl, rfl⟩
    · cases h1
    · cases h1
      refine jj_catch [] ⟨0, 9, 12, 20⟩ [⟨0, 9, 15, 13⟩] rfl np0 (by decide) (by decide) cl_L_20 ca_xISE (fun q => ?_)
      refine jj_astore_n (q := 13) dL_positionOf_12 rfl (by decide) rfl ?_
      refine jj_iconst (v := 1) (q := 14) dL_positionOf_13 rfl rfl ?_
      refine jj_iret dL_positionOf_14 rfl (Nat.le_refl _) (Nat.le_refl _) ?_
      exact ⟨rfl, S1, I1, L1, rfl, hG⟩
    · cases h1
      refine jj_catch [⟨0, 9, 12, 20⟩] ⟨0, 9, 15, 13⟩ [] rfl (np1 (by decide) cl_L_20 nc_IOB_ISE) (by decide) (by decide) cl_L_13 ca_xIOB (fun q => ?_)
      refine jj_astore_n (q := 16) dL_positionOf_15 rfl (by decide) rfl ?_
      refine jj_iconst (v := 2) (q := 17) dL_positionOf_16 rfl rfl ?_
      refine jj_iret dL_positionOf_17 rfl (Nat.le_refl _) (Nat.le_refl _) ?_
      exact ⟨rfl, S1, I1, L1, rfl, hG⟩
theorem wr_lapsOf (hX : T xo = some (.inl 7)) (hO : T ol = some (.inr (.long, 1))) (hal : (n, t) ∈ ([(0, 0), (1, 1), (2, 2)] : List (Nat × Int32))) (hx : Ex Γ d Y_X8_lapsOf [.ref xo, .int a1] (T, R, S, I, L, D, none) (ec n) (es n) (cPo n (.int v) G T R D)) : ExH Γ (d + 1) Y_L_lapsOf hh_lapsOf [.ref xo, .int a1, .ref ol] (T, R, S, I, L, D, none) (ec n) (es n) (wPo n t v.toInt64 G ol T R D) := by
  refine ExH.of (by decide) (by simp [Value.category]) (Nat.le_of_ble_eq_true rfl) rfl ?_
  refine jj_aload_n (q := 1) dL_lapsOf_0 rfl rfl rfl ?_
  refine jj_iconst (v := 0) (q := 2) dL_lapsOf_1 rfl rfl ?_
  refine jj_aload_n (q := 3) dL_lapsOf_2 rfl rfl rfl ?_
  refine jj_iload_n (q := 4) dL_lapsOf_3 rfl rfl rfl ?_
  refine jj_gV1 (q := 7) dL_lapsOf_4 yk_X8_lapsOf ml_L_31 hX hx rfl rfl rfl ⟨Nat.le_of_eq (Nat.zero_add _), Nat.le_of_eq (Nat.zero_add _)⟩ (fun w M' h => ?_) (fun X M' h => ?_)
  · obtain ⟨h1, S1, I1, L1, rfl, hG⟩ := h
    simp only [List.mem_cons, List.mem_nil_iff, Prod.mk.injEq, or_false] at hal
    rcases hal with ⟨rfl, rfl⟩ | ⟨rfl, rfl⟩ | ⟨rfl, rfl⟩
    · cases h1
      show JJ _ _ _ _ _ _ _ _ [.int v, .int 0, .ref ol] _
      refine jj_i2l (q := 8) dL_lapsOf_7 rfl ?_
      refine jj_last (q := 9) dL_lapsOf_8 hO vp_01 rfl ?_
      refine jj_goto (tgt := 18) dL_lapsOf_9 rfl ?_
      refine jj_iconst (v := 0) (q := 19) dL_lapsOf_18 rfl rfl ?_
      refine jj_iret dL_lapsOf_19 rfl (Nat.le_refl _) (Nat.le_refl _) ?_
      exact ⟨rfl, S1, I1, L1, rfl, hG⟩
    · cases h1
    · cases h1
  · obtain ⟨h1, S1, I1, L1, rfl, hG⟩ := h
    simp only [List.mem_cons, List.mem_nil_iff, Prod.mk.injEq, or_false] at hal
    rcases hal with ⟨rfl, rfl⟩ | ⟨rfl, rfl⟩ | ⟨rfl, rfl⟩
    · cases h1
    · cases h1
      refine jj_catch [] ⟨0, 9, 12, 20⟩ [⟨0, 9, 15, 13⟩] rfl np0 (by decide) (by decide) cl_L_20 ca_xISE (fun q => ?_)
      refine jj_astore_n (q := 13) dL_lapsOf_12 rfl (by decide) rfl ?_
      refine jj_iconst (v := 1) (q := 14) dL_lapsOf_13 rfl rfl ?_
      refine jj_iret dL_lapsOf_14 rfl (Nat.le_refl _) (Nat.le_refl _) ?_
      exact ⟨rfl, S1, I1, L1, rfl, hG⟩
    · cases h1
      refine jj_catch [⟨0, 9, 12, 20⟩] ⟨0, 9, 15, 13⟩ [] rfl (np1 (by decide) cl_L_20 nc_IOB_ISE) (by decide) (by decide) cl_L_13 ca_xIOB (fun q => ?_)
      refine jj_astore_n (q := 16) dL_lapsOf_15 rfl (by decide) rfl ?_
      refine jj_iconst (v := 2) (q := 17) dL_lapsOf_16 rfl rfl ?_
      refine jj_iret dL_lapsOf_17 rfl (Nat.le_refl _) (Nat.le_refl _) ?_
      exact ⟨rfl, S1, I1, L1, rfl, hG⟩
theorem wr_levelOf (hX : T xo = some (.inl 7)) (hO : T ol = some (.inr (.long, 1))) (hal : (n, t) ∈ ([(0, 0), (1, 1), (2, 2)] : List (Nat × Int32))) (hx : Ex Γ d Y_X8_levelOf [.ref xo, .int a1] (T, R, S, I, L, D, none) (ec n) (es n) (cPo n (.int v) G T R D)) : ExH Γ (d + 1) Y_L_levelOf hh_levelOf [.ref xo, .int a1, .ref ol] (T, R, S, I, L, D, none) (ec n) (es n) (wPo n t v.toInt64 G ol T R D) := by
  refine ExH.of (by decide) (by simp [Value.category]) (Nat.le_of_ble_eq_true rfl) rfl ?_
  refine jj_aload_n (q := 1) dL_levelOf_0 rfl rfl rfl ?_
  refine jj_iconst (v := 0) (q := 2) dL_levelOf_1 rfl rfl ?_
  refine jj_aload_n (q := 3) dL_levelOf_2 rfl rfl rfl ?_
  refine jj_iload_n (q := 4) dL_levelOf_3 rfl rfl rfl ?_
  refine jj_gV1 (q := 7) dL_levelOf_4 yk_X8_levelOf ml_L_34 hX hx rfl rfl rfl ⟨Nat.le_of_eq (Nat.zero_add _), Nat.le_of_eq (Nat.zero_add _)⟩ (fun w M' h => ?_) (fun X M' h => ?_)
  · obtain ⟨h1, S1, I1, L1, rfl, hG⟩ := h
    simp only [List.mem_cons, List.mem_nil_iff, Prod.mk.injEq, or_false] at hal
    rcases hal with ⟨rfl, rfl⟩ | ⟨rfl, rfl⟩ | ⟨rfl, rfl⟩
    · cases h1
      show JJ _ _ _ _ _ _ _ _ [.int v, .int 0, .ref ol] _
      refine jj_i2l (q := 8) dL_levelOf_7 rfl ?_
      refine jj_last (q := 9) dL_levelOf_8 hO vp_01 rfl ?_
      refine jj_goto (tgt := 18) dL_levelOf_9 rfl ?_
      refine jj_iconst (v := 0) (q := 19) dL_levelOf_18 rfl rfl ?_
      refine jj_iret dL_levelOf_19 rfl (Nat.le_refl _) (Nat.le_refl _) ?_
      exact ⟨rfl, S1, I1, L1, rfl, hG⟩
    · cases h1
    · cases h1
  · obtain ⟨h1, S1, I1, L1, rfl, hG⟩ := h
    simp only [List.mem_cons, List.mem_nil_iff, Prod.mk.injEq, or_false] at hal
    rcases hal with ⟨rfl, rfl⟩ | ⟨rfl, rfl⟩ | ⟨rfl, rfl⟩
    · cases h1
    · cases h1
      refine jj_catch [] ⟨0, 9, 12, 20⟩ [⟨0, 9, 15, 13⟩] rfl np0 (by decide) (by decide) cl_L_20 ca_xISE (fun q => ?_)
      refine jj_astore_n (q := 13) dL_levelOf_12 rfl (by decide) rfl ?_
      refine jj_iconst (v := 1) (q := 14) dL_levelOf_13 rfl rfl ?_
      refine jj_iret dL_levelOf_14 rfl (Nat.le_refl _) (Nat.le_refl _) ?_
      exact ⟨rfl, S1, I1, L1, rfl, hG⟩
    · cases h1
      refine jj_catch [⟨0, 9, 12, 20⟩] ⟨0, 9, 15, 13⟩ [] rfl (np1 (by decide) cl_L_20 nc_IOB_ISE) (by decide) (by decide) cl_L_13 ca_xIOB (fun q => ?_)
      refine jj_astore_n (q := 16) dL_levelOf_15 rfl (by decide) rfl ?_
      refine jj_iconst (v := 2) (q := 17) dL_levelOf_16 rfl rfl ?_
      refine jj_iret dL_levelOf_17 rfl (Nat.le_refl _) (Nat.le_refl _) ?_
      exact ⟨rfl, S1, I1, L1, rfl, hG⟩
theorem wr_laneOf (hX : T xo = some (.inl 7)) (hO : T ol = some (.inr (.long, 1))) (hal : (n, t) ∈ ([(0, 0), (1, 1), (2, 2)] : List (Nat × Int32))) (hx : Ex Γ d Y_X8_laneOf [.ref xo, .int a1] (T, R, S, I, L, D, none) (ec n) (es n) (cPo n (.int v) G T R D)) : ExH Γ (d + 1) Y_L_laneOf hh_laneOf [.ref xo, .int a1, .ref ol] (T, R, S, I, L, D, none) (ec n) (es n) (wPo n t v.toInt64 G ol T R D) := by
  refine ExH.of (by decide) (by simp [Value.category]) (Nat.le_of_ble_eq_true rfl) rfl ?_
  refine jj_aload_n (q := 1) dL_laneOf_0 rfl rfl rfl ?_
  refine jj_iconst (v := 0) (q := 2) dL_laneOf_1 rfl rfl ?_
  refine jj_aload_n (q := 3) dL_laneOf_2 rfl rfl rfl ?_
  refine jj_iload_n (q := 4) dL_laneOf_3 rfl rfl rfl ?_
  refine jj_gV1 (q := 7) dL_laneOf_4 yk_X8_laneOf ml_L_37 hX hx rfl rfl rfl ⟨Nat.le_of_eq (Nat.zero_add _), Nat.le_of_eq (Nat.zero_add _)⟩ (fun w M' h => ?_) (fun X M' h => ?_)
  · obtain ⟨h1, S1, I1, L1, rfl, hG⟩ := h
    simp only [List.mem_cons, List.mem_nil_iff, Prod.mk.injEq, or_false] at hal
    rcases hal with ⟨rfl, rfl⟩ | ⟨rfl, rfl⟩ | ⟨rfl, rfl⟩
    · cases h1
      show JJ _ _ _ _ _ _ _ _ [.int v, .int 0, .ref ol] _
      refine jj_i2l (q := 8) dL_laneOf_7 rfl ?_
      refine jj_last (q := 9) dL_laneOf_8 hO vp_01 rfl ?_
      refine jj_goto (tgt := 18) dL_laneOf_9 rfl ?_
      refine jj_iconst (v := 0) (q := 19) dL_laneOf_18 rfl rfl ?_
      refine jj_iret dL_laneOf_19 rfl (Nat.le_refl _) (Nat.le_refl _) ?_
      exact ⟨rfl, S1, I1, L1, rfl, hG⟩
    · cases h1
    · cases h1
  · obtain ⟨h1, S1, I1, L1, rfl, hG⟩ := h
    simp only [List.mem_cons, List.mem_nil_iff, Prod.mk.injEq, or_false] at hal
    rcases hal with ⟨rfl, rfl⟩ | ⟨rfl, rfl⟩ | ⟨rfl, rfl⟩
    · cases h1
    · cases h1
      refine jj_catch [] ⟨0, 9, 12, 20⟩ [⟨0, 9, 15, 13⟩] rfl np0 (by decide) (by decide) cl_L_20 ca_xISE (fun q => ?_)
      refine jj_astore_n (q := 13) dL_laneOf_12 rfl (by decide) rfl ?_
      refine jj_iconst (v := 1) (q := 14) dL_laneOf_13 rfl rfl ?_
      refine jj_iret dL_laneOf_14 rfl (Nat.le_refl _) (Nat.le_refl _) ?_
      exact ⟨rfl, S1, I1, L1, rfl, hG⟩
    · cases h1
      refine jj_catch [⟨0, 9, 12, 20⟩] ⟨0, 9, 15, 13⟩ [] rfl (np1 (by decide) cl_L_20 nc_IOB_ISE) (by decide) (by decide) cl_L_13 ca_xIOB (fun q => ?_)
      refine jj_astore_n (q := 16) dL_laneOf_15 rfl (by decide) rfl ?_
      refine jj_iconst (v := 2) (q := 17) dL_laneOf_16 rfl rfl ?_
      refine jj_iret dL_laneOf_17 rfl (Nat.le_refl _) (Nat.le_refl _) ?_
      exact ⟨rfl, S1, I1, L1, rfl, hG⟩
theorem wr_ticksTo (hX : T xo = some (.inl 7)) (hO : T ol = some (.inr (.long, 1))) (hal : (n, t) ∈ ([(0, 0), (1, 1), (2, 2)] : List (Nat × Int32))) (hx : Ex Γ d Y_X8_ticksTo [.ref xo, .int a1] (T, R, S, I, L, D, none) (ec n) (es n) (cPo n (.int v) G T R D)) : ExH Γ (d + 1) Y_L_ticksTo hh_ticksTo [.ref xo, .int a1, .ref ol] (T, R, S, I, L, D, none) (ec n) (es n) (wPo n t v.toInt64 G ol T R D) := by
  refine ExH.of (by decide) (by simp [Value.category]) (Nat.le_of_ble_eq_true rfl) rfl ?_
  refine jj_aload_n (q := 1) dL_ticksTo_0 rfl rfl rfl ?_
  refine jj_iconst (v := 0) (q := 2) dL_ticksTo_1 rfl rfl ?_
  refine jj_aload_n (q := 3) dL_ticksTo_2 rfl rfl rfl ?_
  refine jj_iload_n (q := 4) dL_ticksTo_3 rfl rfl rfl ?_
  refine jj_gV1 (q := 7) dL_ticksTo_4 yk_X8_ticksTo ml_L_40 hX hx rfl rfl rfl ⟨Nat.le_of_eq (Nat.zero_add _), Nat.le_of_eq (Nat.zero_add _)⟩ (fun w M' h => ?_) (fun X M' h => ?_)
  · obtain ⟨h1, S1, I1, L1, rfl, hG⟩ := h
    simp only [List.mem_cons, List.mem_nil_iff, Prod.mk.injEq, or_false] at hal
    rcases hal with ⟨rfl, rfl⟩ | ⟨rfl, rfl⟩ | ⟨rfl, rfl⟩
    · cases h1
      show JJ _ _ _ _ _ _ _ _ [.int v, .int 0, .ref ol] _
      refine jj_i2l (q := 8) dL_ticksTo_7 rfl ?_
      refine jj_last (q := 9) dL_ticksTo_8 hO vp_01 rfl ?_
      refine jj_goto (tgt := 18) dL_ticksTo_9 rfl ?_
      refine jj_iconst (v := 0) (q := 19) dL_ticksTo_18 rfl rfl ?_
      refine jj_iret dL_ticksTo_19 rfl (Nat.le_refl _) (Nat.le_refl _) ?_
      exact ⟨rfl, S1, I1, L1, rfl, hG⟩
    · cases h1
    · cases h1
  · obtain ⟨h1, S1, I1, L1, rfl, hG⟩ := h
    simp only [List.mem_cons, List.mem_nil_iff, Prod.mk.injEq, or_false] at hal
    rcases hal with ⟨rfl, rfl⟩ | ⟨rfl, rfl⟩ | ⟨rfl, rfl⟩
    · cases h1
    · cases h1
      refine jj_catch [] ⟨0, 9, 12, 20⟩ [⟨0, 9, 15, 13⟩] rfl np0 (by decide) (by decide) cl_L_20 ca_xISE (fun q => ?_)
      refine jj_astore_n (q := 13) dL_ticksTo_12 rfl (by decide) rfl ?_
      refine jj_iconst (v := 1) (q := 14) dL_ticksTo_13 rfl rfl ?_
      refine jj_iret dL_ticksTo_14 rfl (Nat.le_refl _) (Nat.le_refl _) ?_
      exact ⟨rfl, S1, I1, L1, rfl, hG⟩
    · cases h1
      refine jj_catch [⟨0, 9, 12, 20⟩] ⟨0, 9, 15, 13⟩ [] rfl (np1 (by decide) cl_L_20 nc_IOB_ISE) (by decide) (by decide) cl_L_13 ca_xIOB (fun q => ?_)
      refine jj_astore_n (q := 16) dL_ticksTo_15 rfl (by decide) rfl ?_
      refine jj_iconst (v := 2) (q := 17) dL_ticksTo_16 rfl rfl ?_
      refine jj_iret dL_ticksTo_17 rfl (Nat.le_refl _) (Nat.le_refl _) ?_
      exact ⟨rfl, S1, I1, L1, rfl, hG⟩
theorem wr_finishedAt (hX : T xo = some (.inl 7)) (hO : T ol = some (.inr (.long, 1))) (hal : (n, t) ∈ ([(0, 0), (1, 1), (2, 2)] : List (Nat × Int32))) (hx : Ex Γ d Y_X8_finishedAt [.ref xo, .int a1] (T, R, S, I, L, D, none) (ec n) (es n) (cPo n (.int v) G T R D)) : ExH Γ (d + 1) Y_L_finishedAt hh_finishedAt [.ref xo, .int a1, .ref ol] (T, R, S, I, L, D, none) (ec n) (es n) (wPo n t v.toInt64 G ol T R D) := by
  refine ExH.of (by decide) (by simp [Value.category]) (Nat.le_of_ble_eq_true rfl) rfl ?_
  refine jj_aload_n (q := 1) dL_finishedAt_0 rfl rfl rfl ?_
  refine jj_iconst (v := 0) (q := 2) dL_finishedAt_1 rfl rfl ?_
  refine jj_aload_n (q := 3) dL_finishedAt_2 rfl rfl rfl ?_
  refine jj_iload_n (q := 4) dL_finishedAt_3 rfl rfl rfl ?_
  refine jj_gV1 (q := 7) dL_finishedAt_4 yk_X8_finishedAt ml_L_43 hX hx rfl rfl rfl ⟨Nat.le_of_eq (Nat.zero_add _), Nat.le_of_eq (Nat.zero_add _)⟩ (fun w M' h => ?_) (fun X M' h => ?_)
  · obtain ⟨h1, S1, I1, L1, rfl, hG⟩ := h
    simp only [List.mem_cons, List.mem_nil_iff, Prod.mk.injEq, or_false] at hal
    rcases hal with ⟨rfl, rfl⟩ | ⟨rfl, rfl⟩ | ⟨rfl, rfl⟩
    · cases h1
      show JJ _ _ _ _ _ _ _ _ [.int v, .int 0, .ref ol] _
      refine jj_i2l (q := 8) dL_finishedAt_7 rfl ?_
      refine jj_last (q := 9) dL_finishedAt_8 hO vp_01 rfl ?_
      refine jj_goto (tgt := 18) dL_finishedAt_9 rfl ?_
      refine jj_iconst (v := 0) (q := 19) dL_finishedAt_18 rfl rfl ?_
      refine jj_iret dL_finishedAt_19 rfl (Nat.le_refl _) (Nat.le_refl _) ?_
      exact ⟨rfl, S1, I1, L1, rfl, hG⟩
    · cases h1
    · cases h1
  · obtain ⟨h1, S1, I1, L1, rfl, hG⟩ := h
    simp only [List.mem_cons, List.mem_nil_iff, Prod.mk.injEq, or_false] at hal
    rcases hal with ⟨rfl, rfl⟩ | ⟨rfl, rfl⟩ | ⟨rfl, rfl⟩
    · cases h1
    · cases h1
      refine jj_catch [] ⟨0, 9, 12, 20⟩ [⟨0, 9, 15, 13⟩] rfl np0 (by decide) (by decide) cl_L_20 ca_xISE (fun q => ?_)
      refine jj_astore_n (q := 13) dL_finishedAt_12 rfl (by decide) rfl ?_
      refine jj_iconst (v := 1) (q := 14) dL_finishedAt_13 rfl rfl ?_
      refine jj_iret dL_finishedAt_14 rfl (Nat.le_refl _) (Nat.le_refl _) ?_
      exact ⟨rfl, S1, I1, L1, rfl, hG⟩
    · cases h1
      refine jj_catch [⟨0, 9, 12, 20⟩] ⟨0, 9, 15, 13⟩ [] rfl (np1 (by decide) cl_L_20 nc_IOB_ISE) (by decide) (by decide) cl_L_13 ca_xIOB (fun q => ?_)
      refine jj_astore_n (q := 16) dL_finishedAt_15 rfl (by decide) rfl ?_
      refine jj_iconst (v := 2) (q := 17) dL_finishedAt_16 rfl rfl ?_
      refine jj_iret dL_finishedAt_17 rfl (Nat.le_refl _) (Nat.le_refl _) ?_
      exact ⟨rfl, S1, I1, L1, rfl, hG⟩
theorem wr_isHot (hX : T xo = some (.inl 7)) (hO : T ol = some (.inr (.long, 1))) (hal : (n, t) ∈ ([(0, 0), (1, 1), (2, 2)] : List (Nat × Int32))) (hx : Ex Γ d Y_X8_isHot [.ref xo, .int a1] (T, R, S, I, L, D, none) (ec n) (es n) (cPo n (.int v) G T R D)) : ExH Γ (d + 1) Y_L_isHot hh_isHot [.ref xo, .int a1, .ref ol] (T, R, S, I, L, D, none) (ec n) (es n) (wPo n t (zb v) G ol T R D) := by
  refine ExH.of (by decide) (by simp [Value.category]) (Nat.le_of_ble_eq_true rfl) rfl ?_
  refine jj_aload_n (q := 1) dL_isHot_0 rfl rfl rfl ?_
  refine jj_iconst (v := 0) (q := 2) dL_isHot_1 rfl rfl ?_
  refine jj_aload_n (q := 3) dL_isHot_2 rfl rfl rfl ?_
  refine jj_iload_n (q := 4) dL_isHot_3 rfl rfl rfl ?_
  refine jj_gV1 (q := 7) dL_isHot_4 yk_X8_isHot ml_L_46 hX hx rfl rfl rfl ⟨Nat.le_of_eq (Nat.zero_add _), Nat.le_of_eq (Nat.zero_add _)⟩ (fun w M' h => ?_) (fun X M' h => ?_)
  · obtain ⟨h1, S1, I1, L1, rfl, hG⟩ := h
    simp only [List.mem_cons, List.mem_nil_iff, Prod.mk.injEq, or_false] at hal
    rcases hal with ⟨rfl, rfl⟩ | ⟨rfl, rfl⟩ | ⟨rfl, rfl⟩
    · cases h1
      show JJ _ _ _ _ _ _ _ _ [.int v, .int 0, .ref ol] _
      refine jj_if_eq (q := 10) (tgt := 14) dL_isHot_7 rfl rfl (fun h7 => ?_) (fun h7 => ?_)
      · refine jj_lconst (v := 0) (q := 15) dL_isHot_14 rfl rfl ?_
        refine jj_last (q := 16) dL_isHot_15 hO vp_01 rfl ?_
        refine jj_goto (tgt := 25) dL_isHot_16 rfl ?_
        refine jj_iconst (v := 0) (q := 26) dL_isHot_25 rfl rfl ?_
        refine jj_iret dL_isHot_26 rfl (Nat.le_refl _) (Nat.le_refl _) ?_
        exact ⟨rfl, S1, I1, L1, by rw [zb_0 h7]; rfl, hG⟩
      · refine jj_lconst (v := 1) (q := 11) dL_isHot_10 rfl rfl ?_
        refine jj_goto (tgt := 15) dL_isHot_11 rfl ?_
        refine jj_last (q := 16) dL_isHot_15 hO vp_01 rfl ?_
        refine jj_goto (tgt := 25) dL_isHot_16 rfl ?_
        refine jj_iconst (v := 0) (q := 26) dL_isHot_25 rfl rfl ?_
        refine jj_iret dL_isHot_26 rfl (Nat.le_refl _) (Nat.le_refl _) ?_
        exact ⟨rfl, S1, I1, L1, by rw [zb_1 h7]; rfl, hG⟩
    · cases h1
    · cases h1
  · obtain ⟨h1, S1, I1, L1, rfl, hG⟩ := h
    simp only [List.mem_cons, List.mem_nil_iff, Prod.mk.injEq, or_false] at hal
    rcases hal with ⟨rfl, rfl⟩ | ⟨rfl, rfl⟩ | ⟨rfl, rfl⟩
    · cases h1
    · cases h1
      refine jj_catch [] ⟨0, 16, 19, 20⟩ [⟨0, 16, 22, 13⟩] rfl np0 (by decide) (by decide) cl_L_20 ca_xISE (fun q => ?_)
      refine jj_astore_n (q := 20) dL_isHot_19 rfl (by decide) rfl ?_
      refine jj_iconst (v := 1) (q := 21) dL_isHot_20 rfl rfl ?_
      refine jj_iret dL_isHot_21 rfl (Nat.le_refl _) (Nat.le_refl _) ?_
      exact ⟨rfl, S1, I1, L1, rfl, hG⟩
    · cases h1
      refine jj_catch [⟨0, 16, 19, 20⟩] ⟨0, 16, 22, 13⟩ [] rfl (np1 (by decide) cl_L_20 nc_IOB_ISE) (by decide) (by decide) cl_L_13 ca_xIOB (fun q => ?_)
      refine jj_astore_n (q := 23) dL_isHot_22 rfl (by decide) rfl ?_
      refine jj_iconst (v := 2) (q := 24) dL_isHot_23 rfl rfl ?_
      refine jj_iret dL_isHot_24 rfl (Nat.le_refl _) (Nat.le_refl _) ?_
      exact ⟨rfl, S1, I1, L1, rfl, hG⟩
theorem wr_isKept (hX : T xo = some (.inl 7)) (hO : T ol = some (.inr (.long, 1))) (hal : (n, t) ∈ ([(0, 0), (1, 1), (2, 2)] : List (Nat × Int32))) (hx : Ex Γ d Y_X8_isKept [.ref xo, .int a1] (T, R, S, I, L, D, none) (ec n) (es n) (cPo n (.int v) G T R D)) : ExH Γ (d + 1) Y_L_isKept hh_isKept [.ref xo, .int a1, .ref ol] (T, R, S, I, L, D, none) (ec n) (es n) (wPo n t (zb v) G ol T R D) := by
  refine ExH.of (by decide) (by simp [Value.category]) (Nat.le_of_ble_eq_true rfl) rfl ?_
  refine jj_aload_n (q := 1) dL_isKept_0 rfl rfl rfl ?_
  refine jj_iconst (v := 0) (q := 2) dL_isKept_1 rfl rfl ?_
  refine jj_aload_n (q := 3) dL_isKept_2 rfl rfl rfl ?_
  refine jj_iload_n (q := 4) dL_isKept_3 rfl rfl rfl ?_
  refine jj_gV1 (q := 7) dL_isKept_4 yk_X8_isKept ml_L_50 hX hx rfl rfl rfl ⟨Nat.le_of_eq (Nat.zero_add _), Nat.le_of_eq (Nat.zero_add _)⟩ (fun w M' h => ?_) (fun X M' h => ?_)
  · obtain ⟨h1, S1, I1, L1, rfl, hG⟩ := h
    simp only [List.mem_cons, List.mem_nil_iff, Prod.mk.injEq, or_false] at hal
    rcases hal with ⟨rfl, rfl⟩ | ⟨rfl, rfl⟩ | ⟨rfl, rfl⟩
    · cases h1
      show JJ _ _ _ _ _ _ _ _ [.int v, .int 0, .ref ol] _
      refine jj_if_eq (q := 10) (tgt := 14) dL_isKept_7 rfl rfl (fun h7 => ?_) (fun h7 => ?_)
      · refine jj_lconst (v := 0) (q := 15) dL_isKept_14 rfl rfl ?_
        refine jj_last (q := 16) dL_isKept_15 hO vp_01 rfl ?_
        refine jj_goto (tgt := 25) dL_isKept_16 rfl ?_
        refine jj_iconst (v := 0) (q := 26) dL_isKept_25 rfl rfl ?_
        refine jj_iret dL_isKept_26 rfl (Nat.le_refl _) (Nat.le_refl _) ?_
        exact ⟨rfl, S1, I1, L1, by rw [zb_0 h7]; rfl, hG⟩
      · refine jj_lconst (v := 1) (q := 11) dL_isKept_10 rfl rfl ?_
        refine jj_goto (tgt := 15) dL_isKept_11 rfl ?_
        refine jj_last (q := 16) dL_isKept_15 hO vp_01 rfl ?_
        refine jj_goto (tgt := 25) dL_isKept_16 rfl ?_
        refine jj_iconst (v := 0) (q := 26) dL_isKept_25 rfl rfl ?_
        refine jj_iret dL_isKept_26 rfl (Nat.le_refl _) (Nat.le_refl _) ?_
        exact ⟨rfl, S1, I1, L1, by rw [zb_1 h7]; rfl, hG⟩
    · cases h1
    · cases h1
  · obtain ⟨h1, S1, I1, L1, rfl, hG⟩ := h
    simp only [List.mem_cons, List.mem_nil_iff, Prod.mk.injEq, or_false] at hal
    rcases hal with ⟨rfl, rfl⟩ | ⟨rfl, rfl⟩ | ⟨rfl, rfl⟩
    · cases h1
    · cases h1
      refine jj_catch [] ⟨0, 16, 19, 20⟩ [⟨0, 16, 22, 13⟩] rfl np0 (by decide) (by decide) cl_L_20 ca_xISE (fun q => ?_)
      refine jj_astore_n (q := 20) dL_isKept_19 rfl (by decide) rfl ?_
      refine jj_iconst (v := 1) (q := 21) dL_isKept_20 rfl rfl ?_
      refine jj_iret dL_isKept_21 rfl (Nat.le_refl _) (Nat.le_refl _) ?_
      exact ⟨rfl, S1, I1, L1, rfl, hG⟩
    · cases h1
      refine jj_catch [⟨0, 16, 19, 20⟩] ⟨0, 16, 22, 13⟩ [] rfl (np1 (by decide) cl_L_20 nc_IOB_ISE) (by decide) (by decide) cl_L_13 ca_xIOB (fun q => ?_)
      refine jj_astore_n (q := 23) dL_isKept_22 rfl (by decide) rfl ?_
      refine jj_iconst (v := 2) (q := 24) dL_isKept_23 rfl rfl ?_
      refine jj_iret dL_isKept_24 rfl (Nat.le_refl _) (Nat.le_refl _) ?_
      exact ⟨rfl, S1, I1, L1, rfl, hG⟩
theorem wr_bagAt (hX : T xo = some (.inl 7)) (hO : T ol = some (.inr (.long, 1))) (hal : (n, t) ∈ ([(0, 0), (1, 1), (2, 2)] : List (Nat × Int32))) (hx : Ex Γ d Y_X8_bagAt [.ref xo, .int a1] (T, R, S, I, L, D, none) (ec n) (es n) (cPo n (.int v) G T R D)) : ExH Γ (d + 1) Y_L_bagAt hh_bagAt [.ref xo, .int a1, .ref ol] (T, R, S, I, L, D, none) (ec n) (es n) (wPo n t v.toInt64 G ol T R D) := by
  refine ExH.of (by decide) (by simp [Value.category]) (Nat.le_of_ble_eq_true rfl) rfl ?_
  refine jj_aload_n (q := 1) dL_bagAt_0 rfl rfl rfl ?_
  refine jj_iconst (v := 0) (q := 2) dL_bagAt_1 rfl rfl ?_
  refine jj_aload_n (q := 3) dL_bagAt_2 rfl rfl rfl ?_
  refine jj_iload_n (q := 4) dL_bagAt_3 rfl rfl rfl ?_
  refine jj_gV1 (q := 7) dL_bagAt_4 yk_X8_bagAt ml_L_53 hX hx rfl rfl rfl ⟨Nat.le_of_eq (Nat.zero_add _), Nat.le_of_eq (Nat.zero_add _)⟩ (fun w M' h => ?_) (fun X M' h => ?_)
  · obtain ⟨h1, S1, I1, L1, rfl, hG⟩ := h
    simp only [List.mem_cons, List.mem_nil_iff, Prod.mk.injEq, or_false] at hal
    rcases hal with ⟨rfl, rfl⟩ | ⟨rfl, rfl⟩ | ⟨rfl, rfl⟩
    · cases h1
      show JJ _ _ _ _ _ _ _ _ [.int v, .int 0, .ref ol] _
      refine jj_i2l (q := 8) dL_bagAt_7 rfl ?_
      refine jj_last (q := 9) dL_bagAt_8 hO vp_01 rfl ?_
      refine jj_goto (tgt := 18) dL_bagAt_9 rfl ?_
      refine jj_iconst (v := 0) (q := 19) dL_bagAt_18 rfl rfl ?_
      refine jj_iret dL_bagAt_19 rfl (Nat.le_refl _) (Nat.le_refl _) ?_
      exact ⟨rfl, S1, I1, L1, rfl, hG⟩
    · cases h1
    · cases h1
  · obtain ⟨h1, S1, I1, L1, rfl, hG⟩ := h
    simp only [List.mem_cons, List.mem_nil_iff, Prod.mk.injEq, or_false] at hal
    rcases hal with ⟨rfl, rfl⟩ | ⟨rfl, rfl⟩ | ⟨rfl, rfl⟩
    · cases h1
    · cases h1
      refine jj_catch [] ⟨0, 9, 12, 20⟩ [⟨0, 9, 15, 13⟩] rfl np0 (by decide) (by decide) cl_L_20 ca_xISE (fun q => ?_)
      refine jj_astore_n (q := 13) dL_bagAt_12 rfl (by decide) rfl ?_
      refine jj_iconst (v := 1) (q := 14) dL_bagAt_13 rfl rfl ?_
      refine jj_iret dL_bagAt_14 rfl (Nat.le_refl _) (Nat.le_refl _) ?_
      exact ⟨rfl, S1, I1, L1, rfl, hG⟩
    · cases h1
      refine jj_catch [⟨0, 9, 12, 20⟩] ⟨0, 9, 15, 13⟩ [] rfl (np1 (by decide) cl_L_20 nc_IOB_ISE) (by decide) (by decide) cl_L_13 ca_xIOB (fun q => ?_)
      refine jj_astore_n (q := 16) dL_bagAt_15 rfl (by decide) rfl ?_
      refine jj_iconst (v := 2) (q := 17) dL_bagAt_16 rfl rfl ?_
      refine jj_iret dL_bagAt_17 rfl (Nat.le_refl _) (Nat.le_refl _) ?_
      exact ⟨rfl, S1, I1, L1, rfl, hG⟩
theorem wr_waiting (hX : T xo = some (.inl 7)) (hO : T ol = some (.inr (.long, 1))) (hal : (n, t) ∈ ([(0, 0), (1, 1), (3, 2)] : List (Nat × Int32))) (hx : Ex Γ d Y_X8_waiting [.ref xo, .int a1] (T, R, S, I, L, D, none) (ec n) (es n) (cPo n (.int v) G T R D)) : ExH Γ (d + 1) Y_L_waiting hh_waiting [.ref xo, .int a1, .ref ol] (T, R, S, I, L, D, none) (ec n) (es n) (wPo n t v.toInt64 G ol T R D) := by
  refine ExH.of (by decide) (by simp [Value.category]) (Nat.le_of_ble_eq_true rfl) rfl ?_
  refine jj_aload_n (q := 1) dL_waiting_0 rfl rfl rfl ?_
  refine jj_iconst (v := 0) (q := 2) dL_waiting_1 rfl rfl ?_
  refine jj_aload_n (q := 3) dL_waiting_2 rfl rfl rfl ?_
  refine jj_iload_n (q := 4) dL_waiting_3 rfl rfl rfl ?_
  refine jj_gV1 (q := 7) dL_waiting_4 yk_X8_waiting ml_L_56 hX hx rfl rfl rfl ⟨Nat.le_of_eq (Nat.zero_add _), Nat.le_of_eq (Nat.zero_add _)⟩ (fun w M' h => ?_) (fun X M' h => ?_)
  · obtain ⟨h1, S1, I1, L1, rfl, hG⟩ := h
    simp only [List.mem_cons, List.mem_nil_iff, Prod.mk.injEq, or_false] at hal
    rcases hal with ⟨rfl, rfl⟩ | ⟨rfl, rfl⟩ | ⟨rfl, rfl⟩
    · cases h1
      show JJ _ _ _ _ _ _ _ _ [.int v, .int 0, .ref ol] _
      refine jj_i2l (q := 8) dL_waiting_7 rfl ?_
      refine jj_last (q := 9) dL_waiting_8 hO vp_01 rfl ?_
      refine jj_goto (tgt := 18) dL_waiting_9 rfl ?_
      refine jj_iconst (v := 0) (q := 19) dL_waiting_18 rfl rfl ?_
      refine jj_iret dL_waiting_19 rfl (Nat.le_refl _) (Nat.le_refl _) ?_
      exact ⟨rfl, S1, I1, L1, rfl, hG⟩
    · cases h1
    · cases h1
  · obtain ⟨h1, S1, I1, L1, rfl, hG⟩ := h
    simp only [List.mem_cons, List.mem_nil_iff, Prod.mk.injEq, or_false] at hal
    rcases hal with ⟨rfl, rfl⟩ | ⟨rfl, rfl⟩ | ⟨rfl, rfl⟩
    · cases h1
    · cases h1
      refine jj_catch [] ⟨0, 9, 12, 20⟩ [⟨0, 9, 15, 15⟩] rfl np0 (by decide) (by decide) cl_L_20 ca_xISE (fun q => ?_)
      refine jj_astore_n (q := 13) dL_waiting_12 rfl (by decide) rfl ?_
      refine jj_iconst (v := 1) (q := 14) dL_waiting_13 rfl rfl ?_
      refine jj_iret dL_waiting_14 rfl (Nat.le_refl _) (Nat.le_refl _) ?_
      exact ⟨rfl, S1, I1, L1, rfl, hG⟩
    · cases h1
      refine jj_catch [⟨0, 9, 12, 20⟩] ⟨0, 9, 15, 15⟩ [] rfl (np1 (by decide) cl_L_20 nc_IAE_ISE) (by decide) (by decide) cl_L_15 ca_xIAE (fun q => ?_)
      refine jj_astore_n (q := 16) dL_waiting_15 rfl (by decide) rfl ?_
      refine jj_iconst (v := 2) (q := 17) dL_waiting_16 rfl rfl ?_
      refine jj_iret dL_waiting_17 rfl (Nat.le_refl _) (Nat.le_refl _) ?_
      exact ⟨rfl, S1, I1, L1, rfl, hG⟩
theorem wr_queueAt (hX : T xo = some (.inl 7)) (hO : T ol = some (.inr (.long, 1))) (hal : (n, t) ∈ ([(0, 0), (1, 1), (2, 2)] : List (Nat × Int32))) (hx : Ex Γ d Y_X8_queueAt [.ref xo, .int a1, .int a2] (T, R, S, I, L, D, none) (ec n) (es n) (cPo n (.int v) G T R D)) : ExH Γ (d + 1) Y_L_queueAt hh_queueAt [.ref xo, .int a1, .int a2, .ref ol] (T, R, S, I, L, D, none) (ec n) (es n) (wPo n t v.toInt64 G ol T R D) := by
  refine ExH.of (by decide) (by simp [Value.category]) (Nat.le_of_ble_eq_true rfl) rfl ?_
  refine jj_aload_n (q := 1) dL_queueAt_0 rfl rfl rfl ?_
  refine jj_iconst (v := 0) (q := 2) dL_queueAt_1 rfl rfl ?_
  refine jj_aload_n (q := 3) dL_queueAt_2 rfl rfl rfl ?_
  refine jj_iload_n (q := 4) dL_queueAt_3 rfl rfl rfl ?_
  refine jj_iload_n (q := 5) dL_queueAt_4 rfl rfl rfl ?_
  refine jj_gV2 (q := 8) dL_queueAt_5 yk_X8_queueAt ml_L_59 hX hx rfl rfl rfl ⟨Nat.le_of_eq (Nat.zero_add _), Nat.le_of_eq (Nat.zero_add _)⟩ (fun w M' h => ?_) (fun X M' h => ?_)
  · obtain ⟨h1, S1, I1, L1, rfl, hG⟩ := h
    simp only [List.mem_cons, List.mem_nil_iff, Prod.mk.injEq, or_false] at hal
    rcases hal with ⟨rfl, rfl⟩ | ⟨rfl, rfl⟩ | ⟨rfl, rfl⟩
    · cases h1
      show JJ _ _ _ _ _ _ _ _ [.int v, .int 0, .ref ol] _
      refine jj_i2l (q := 9) dL_queueAt_8 rfl ?_
      refine jj_last (q := 10) dL_queueAt_9 hO vp_01 rfl ?_
      refine jj_goto (tgt := 21) dL_queueAt_10 rfl ?_
      refine jj_iconst (v := 0) (q := 22) dL_queueAt_21 rfl rfl ?_
      refine jj_iret dL_queueAt_22 rfl (Nat.le_refl _) (Nat.le_refl _) ?_
      exact ⟨rfl, S1, I1, L1, rfl, hG⟩
    · cases h1
    · cases h1
  · obtain ⟨h1, S1, I1, L1, rfl, hG⟩ := h
    simp only [List.mem_cons, List.mem_nil_iff, Prod.mk.injEq, or_false] at hal
    rcases hal with ⟨rfl, rfl⟩ | ⟨rfl, rfl⟩ | ⟨rfl, rfl⟩
    · cases h1
    · cases h1
      refine jj_catch [] ⟨0, 10, 13, 20⟩ [⟨0, 10, 17, 13⟩] rfl np0 (by decide) (by decide) cl_L_20 ca_xISE (fun q => ?_)
      refine jj_astore (q := 15) dL_queueAt_13 (by decide) rfl ?_
      refine jj_iconst (v := 1) (q := 16) dL_queueAt_15 rfl rfl ?_
      refine jj_iret dL_queueAt_16 rfl (Nat.le_refl _) (Nat.le_refl _) ?_
      exact ⟨rfl, S1, I1, L1, rfl, hG⟩
    · cases h1
      refine jj_catch [⟨0, 10, 13, 20⟩] ⟨0, 10, 17, 13⟩ [] rfl (np1 (by decide) cl_L_20 nc_IOB_ISE) (by decide) (by decide) cl_L_13 ca_xIOB (fun q => ?_)
      refine jj_astore (q := 19) dL_queueAt_17 (by decide) rfl ?_
      refine jj_iconst (v := 2) (q := 20) dL_queueAt_19 rfl rfl ?_
      refine jj_iret dL_queueAt_20 rfl (Nat.le_refl _) (Nat.le_refl _) ?_
      exact ⟨rfl, S1, I1, L1, rfl, hG⟩
theorem wr_machineAt (hX : T xo = some (.inl 7)) (hO : T ol = some (.inr (.long, 1))) (hal : (n, t) ∈ ([(0, 0), (1, 1), (2, 2)] : List (Nat × Int32))) (hx : Ex Γ d Y_X8_machineAt [.ref xo, .int a1, .int a2] (T, R, S, I, L, D, none) (ec n) (es n) (cPo n (.int v) G T R D)) : ExH Γ (d + 1) Y_L_machineAt hh_machineAt [.ref xo, .int a1, .int a2, .ref ol] (T, R, S, I, L, D, none) (ec n) (es n) (wPo n t v.toInt64 G ol T R D) := by
  refine ExH.of (by decide) (by simp [Value.category]) (Nat.le_of_ble_eq_true rfl) rfl ?_
  refine jj_aload_n (q := 1) dL_machineAt_0 rfl rfl rfl ?_
  refine jj_iconst (v := 0) (q := 2) dL_machineAt_1 rfl rfl ?_
  refine jj_aload_n (q := 3) dL_machineAt_2 rfl rfl rfl ?_
  refine jj_iload_n (q := 4) dL_machineAt_3 rfl rfl rfl ?_
  refine jj_iload_n (q := 5) dL_machineAt_4 rfl rfl rfl ?_
  refine jj_gV2 (q := 8) dL_machineAt_5 yk_X8_machineAt ml_L_63 hX hx rfl rfl rfl ⟨Nat.le_of_eq (Nat.zero_add _), Nat.le_of_eq (Nat.zero_add _)⟩ (fun w M' h => ?_) (fun X M' h => ?_)
  · obtain ⟨h1, S1, I1, L1, rfl, hG⟩ := h
    simp only [List.mem_cons, List.mem_nil_iff, Prod.mk.injEq, or_false] at hal
    rcases hal with ⟨rfl, rfl⟩ | ⟨rfl, rfl⟩ | ⟨rfl, rfl⟩
    · cases h1
      show JJ _ _ _ _ _ _ _ _ [.int v, .int 0, .ref ol] _
      refine jj_i2l (q := 9) dL_machineAt_8 rfl ?_
      refine jj_last (q := 10) dL_machineAt_9 hO vp_01 rfl ?_
      refine jj_goto (tgt := 21) dL_machineAt_10 rfl ?_
      refine jj_iconst (v := 0) (q := 22) dL_machineAt_21 rfl rfl ?_
      refine jj_iret dL_machineAt_22 rfl (Nat.le_refl _) (Nat.le_refl _) ?_
      exact ⟨rfl, S1, I1, L1, rfl, hG⟩
    · cases h1
    · cases h1
  · obtain ⟨h1, S1, I1, L1, rfl, hG⟩ := h
    simp only [List.mem_cons, List.mem_nil_iff, Prod.mk.injEq, or_false] at hal
    rcases hal with ⟨rfl, rfl⟩ | ⟨rfl, rfl⟩ | ⟨rfl, rfl⟩
    · cases h1
    · cases h1
      refine jj_catch [] ⟨0, 10, 13, 20⟩ [⟨0, 10, 17, 13⟩] rfl np0 (by decide) (by decide) cl_L_20 ca_xISE (fun q => ?_)
      refine jj_astore (q := 15) dL_machineAt_13 (by decide) rfl ?_
      refine jj_iconst (v := 1) (q := 16) dL_machineAt_15 rfl rfl ?_
      refine jj_iret dL_machineAt_16 rfl (Nat.le_refl _) (Nat.le_refl _) ?_
      exact ⟨rfl, S1, I1, L1, rfl, hG⟩
    · cases h1
      refine jj_catch [⟨0, 10, 13, 20⟩] ⟨0, 10, 17, 13⟩ [] rfl (np1 (by decide) cl_L_20 nc_IOB_ISE) (by decide) (by decide) cl_L_13 ca_xIOB (fun q => ?_)
      refine jj_astore (q := 19) dL_machineAt_17 (by decide) rfl ?_
      refine jj_iconst (v := 2) (q := 20) dL_machineAt_19 rfl rfl ?_
      refine jj_iret dL_machineAt_20 rfl (Nat.le_refl _) (Nat.le_refl _) ?_
      exact ⟨rfl, S1, I1, L1, rfl, hG⟩
theorem wr_brokenUntil (hX : T xo = some (.inl 7)) (hO : T ol = some (.inr (.long, 1))) (hal : (n, t) ∈ ([(0, 0), (1, 1), (2, 2)] : List (Nat × Int32))) (hx : Ex Γ d Y_X8_brokenUntil [.ref xo, .int a1, .int a2] (T, R, S, I, L, D, none) (ec n) (es n) (cPo n (.int v) G T R D)) : ExH Γ (d + 1) Y_L_brokenUntil hh_brokenUntil [.ref xo, .int a1, .int a2, .ref ol] (T, R, S, I, L, D, none) (ec n) (es n) (wPo n t v.toInt64 G ol T R D) := by
  refine ExH.of (by decide) (by simp [Value.category]) (Nat.le_of_ble_eq_true rfl) rfl ?_
  refine jj_aload_n (q := 1) dL_brokenUntil_0 rfl rfl rfl ?_
  refine jj_iconst (v := 0) (q := 2) dL_brokenUntil_1 rfl rfl ?_
  refine jj_aload_n (q := 3) dL_brokenUntil_2 rfl rfl rfl ?_
  refine jj_iload_n (q := 4) dL_brokenUntil_3 rfl rfl rfl ?_
  refine jj_iload_n (q := 5) dL_brokenUntil_4 rfl rfl rfl ?_
  refine jj_gV2 (q := 8) dL_brokenUntil_5 yk_X8_brokenUntil ml_L_66 hX hx rfl rfl rfl ⟨Nat.le_of_eq (Nat.zero_add _), Nat.le_of_eq (Nat.zero_add _)⟩ (fun w M' h => ?_) (fun X M' h => ?_)
  · obtain ⟨h1, S1, I1, L1, rfl, hG⟩ := h
    simp only [List.mem_cons, List.mem_nil_iff, Prod.mk.injEq, or_false] at hal
    rcases hal with ⟨rfl, rfl⟩ | ⟨rfl, rfl⟩ | ⟨rfl, rfl⟩
    · cases h1
      show JJ _ _ _ _ _ _ _ _ [.int v, .int 0, .ref ol] _
      refine jj_i2l (q := 9) dL_brokenUntil_8 rfl ?_
      refine jj_last (q := 10) dL_brokenUntil_9 hO vp_01 rfl ?_
      refine jj_goto (tgt := 21) dL_brokenUntil_10 rfl ?_
      refine jj_iconst (v := 0) (q := 22) dL_brokenUntil_21 rfl rfl ?_
      refine jj_iret dL_brokenUntil_22 rfl (Nat.le_refl _) (Nat.le_refl _) ?_
      exact ⟨rfl, S1, I1, L1, rfl, hG⟩
    · cases h1
    · cases h1
  · obtain ⟨h1, S1, I1, L1, rfl, hG⟩ := h
    simp only [List.mem_cons, List.mem_nil_iff, Prod.mk.injEq, or_false] at hal
    rcases hal with ⟨rfl, rfl⟩ | ⟨rfl, rfl⟩ | ⟨rfl, rfl⟩
    · cases h1
    · cases h1
      refine jj_catch [] ⟨0, 10, 13, 20⟩ [⟨0, 10, 17, 13⟩] rfl np0 (by decide) (by decide) cl_L_20 ca_xISE (fun q => ?_)
      refine jj_astore (q := 15) dL_brokenUntil_13 (by decide) rfl ?_
      refine jj_iconst (v := 1) (q := 16) dL_brokenUntil_15 rfl rfl ?_
      refine jj_iret dL_brokenUntil_16 rfl (Nat.le_refl _) (Nat.le_refl _) ?_
      exact ⟨rfl, S1, I1, L1, rfl, hG⟩
    · cases h1
      refine jj_catch [⟨0, 10, 13, 20⟩] ⟨0, 10, 17, 13⟩ [] rfl (np1 (by decide) cl_L_20 nc_IOB_ISE) (by decide) (by decide) cl_L_13 ca_xIOB (fun q => ?_)
      refine jj_astore (q := 19) dL_brokenUntil_17 (by decide) rfl ?_
      refine jj_iconst (v := 2) (q := 20) dL_brokenUntil_19 rfl rfl ?_
      refine jj_iret dL_brokenUntil_20 rfl (Nat.le_refl _) (Nat.le_refl _) ?_
      exact ⟨rfl, S1, I1, L1, rfl, hG⟩
end C05
