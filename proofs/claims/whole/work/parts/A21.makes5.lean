/-! CONSTRUCTORS: the component's object -/
theorem u2_id {α : Type} {f : Nat → Nat → α} {a k : Nat} {v : α} (h : f a k = v) : u2 f a k v = f := by
  subst h
  exact u2_self f a k
section C1x
variable {Γ : Gam} {d : Nat} {T : JT} {R S : JR} {I : JI} {L : JL} {D : JD} {a : Nat}
theorem ex_x8_init (hT : T a = some (.inl 7)) (hF : Fre R S I L D a) : Ex Γ (d + 4) Y_X8_init [.ref a] (T, R, S, I, L, D, some (a + 1)) 232 15589 (rG (fun M' => ∃ T' R' S', M' = (T', R', S', u2 I (a + 1) 1 (-1), L, D, some (a + 233)) ∧ hXo T' R' S' a (a + 3) (a + 19) (a + 35) (a + 54) ∧ (∀ b, b < a ∨ a + 233 ≤ b → T' b = T b) ∧ (∀ b, b < a ∨ a + 233 ≤ b → R' b = R b) ∧ ∀ b, b ≠ a → S' b = S b)) := by
  have hF1 := hF.up (Nat.le_succ a)
  have hJ0 : (u2 I (a + 1) 1 (-1)) a = fun _ => 0 := (u2_ne (by omega)).trans (hF.2.2.1 a (Nat.le_refl _))
  refine Ex.of (by decide) (by simp [Value.category]) (Nat.le_of_ble_eq_true rfl) rfl ?_
  refine jj_aload_n (q := 1) dX8_init_0 rfl rfl rfl ?_
  refine jj_objInit (q := 4) dX8_init_1 ko_X8_1 ko_i ko_c (by show 1 ≤ d + 4; omega) (by show 20 ≤ 40 * (d + 4); omega) rfl rfl ?_
  refine jj_aload_n (q := 5) dX8_init_4 rfl rfl rfl ?_
  refine jj_new (ci := 2) (z0 := a + 1) (z1 := a + 2) (q := 8) dX8_init_5 (by decide) kq_X8_7 ki_2 kn_2 (hF.up (show a ≤ a + 1 by omega)) ⟨Nat.le_of_ble_eq_true rfl, Nat.le_of_ble_eq_true rfl⟩ rfl rfl ?_
  refine jj_dup (q := 9) dX8_init_8 rfl rfl ?_
  refine jj_mM0 (q := 12) dX8_init_9 yk_X2_init mm_X8_9 (ex_pa_init (d := d + 2) (a := a + 1) u1_eq (hF.up (show a ≤ a + 1 by omega))) rfl rfl rfl ⟨Nat.le_of_ble_eq_true rfl, Nat.le_of_ble_eq_true rfl⟩ (fun M9 g9 => ?_)
  obtain ⟨T0, R0, rfl, hs0, ht0, hr0⟩ := g9
  have hA0 : T0 a = some (.inl 7) := by rw [ht0 _ (by omega), u1_ne (by omega)]; exact hT
  have hO0 : ∀ b, b < a ∨ a + 3 ≤ b → T0 b = T b := fun b hb => by rw [ht0 _ (by omega), u1_ne (by omega)]
  have hP0 : ∀ b, b < a ∨ a + 3 ≤ b → R0 b = R b := fun b hb => hr0 b (by omega)
  refine jj_putFS (q := 15) dX8_init_12 fl_X8_10 (by decide) (by assumption) rfl rfl rfl rfl rfl rfl rfl ?_
  refine jj_aload_n (q := 16) dX8_init_15 rfl rfl rfl ?_
  refine jj_iconst (v := 0) (q := 17) dX8_init_16 rfl rfl ?_
  refine jj_putIv (q := 20) dX8_init_17 fl_X8_16 (by assumption) (u2_id (congrFun hJ0 _)) rfl rfl rfl rfl rfl ?_
  refine jj_aload_n (q := 21) dX8_init_20 rfl rfl rfl ?_
  refine jj_new (ci := 3) (z0 := a + 3) (z1 := a + 4) (q := 24) dX8_init_21 (by decide) kq_X8_20 ki_3 kn_3 (by (repeat (first | refine Fre.uS ?_ (by omega) | refine Fre.uI ?_ (by omega))); exact ⟨fun b hb => (hP0 b (by omega)).trans (hF.1 b (by omega)), (hF.up (by omega)).2⟩) ⟨Nat.le_of_ble_eq_true rfl, Nat.le_of_ble_eq_true rfl⟩ rfl rfl ?_
  refine jj_dup (q := 25) dX8_init_24 rfl rfl ?_
  refine jj_mM0 (q := 28) dX8_init_25 yk_X3_init mm_X8_22 (ex_pl_init (d := d + 1) (a := a + 3) u1_eq (by (repeat (first | refine Fre.uS ?_ (by omega) | refine Fre.uI ?_ (by omega))); exact ⟨fun b hb => (hP0 b (by omega)).trans (hF.1 b (by omega)), (hF.up (by omega)).2⟩)) rfl rfl rfl ⟨Nat.le_of_ble_eq_true rfl, Nat.le_of_ble_eq_true rfl⟩ (fun M25 g25 => ?_)
  obtain ⟨T1, R1, rfl, hs1, ht1, hr1⟩ := g25
  replace hs0 := hs0.cg (T' := T1) (R' := R1) (fun k hk => by rw [ht1 _ (by omega), u1_ne (by omega)]) (fun k hk => hr1 _ (by omega))
  have hA1 : T1 a = some (.inl 7) := by rw [ht1 _ (by omega), u1_ne (by omega)]; exact hA0
  have hO1 : ∀ b, b < a ∨ a + 19 ≤ b → T1 b = T b := fun b hb => by rw [ht1 _ (by omega), u1_ne (by omega)]; exact hO0 b (by omega)
  have hP1 : ∀ b, b < a ∨ a + 19 ≤ b → R1 b = R b := fun b hb => (hr1 b (by omega)).trans (hP0 b (by omega))
  refine jj_putS (q := 31) dX8_init_28 fl_X8_23 (by decide) (by assumption) rfl rfl rfl rfl rfl ?_
  refine jj_aload_n (q := 32) dX8_init_31 rfl rfl rfl ?_
  refine jj_new (ci := 3) (z0 := a + 19) (z1 := a + 20) (q := 35) dX8_init_32 (by decide) kq_X8_20 ki_3 kn_3 (by (repeat (first | refine Fre.uS ?_ (by omega) | refine Fre.uI ?_ (by omega))); exact ⟨fun b hb => (hP1 b (by omega)).trans (hF.1 b (by omega)), (hF.up (by omega)).2⟩) ⟨Nat.le_of_ble_eq_true rfl, Nat.le_of_ble_eq_true rfl⟩ rfl rfl ?_
  refine jj_dup (q := 36) dX8_init_35 rfl rfl ?_
  refine jj_mM0 (q := 39) dX8_init_36 yk_X3_init mm_X8_22 (ex_pl_init (d := d + 1) (a := a + 19) u1_eq (by (repeat (first | refine Fre.uS ?_ (by omega) | refine Fre.uI ?_ (by omega))); exact ⟨fun b hb => (hP1 b (by omega)).trans (hF.1 b (by omega)), (hF.up (by omega)).2⟩)) rfl rfl rfl ⟨Nat.le_of_ble_eq_true rfl, Nat.le_of_ble_eq_true rfl⟩ (fun M36 g36 => ?_)
  obtain ⟨T2, R2, rfl, hs2, ht2, hr2⟩ := g36
  replace hs0 := hs0.cg (T' := T2) (R' := R2) (fun k hk => by rw [ht2 _ (by omega), u1_ne (by omega)]) (fun k hk => hr2 _ (by omega))
  replace hs1 := hs1.cg (T' := T2) (R' := R2) (fun k hk => by rw [ht2 _ (by omega), u1_ne (by omega)]) (fun k hk => hr2 _ (by omega))
  have hA2 : T2 a = some (.inl 7) := by rw [ht2 _ (by omega), u1_ne (by omega)]; exact hA1
  have hO2 : ∀ b, b < a ∨ a + 35 ≤ b → T2 b = T b := fun b hb => by rw [ht2 _ (by omega), u1_ne (by omega)]; exact hO1 b (by omega)
  have hP2 : ∀ b, b < a ∨ a + 35 ≤ b → R2 b = R b := fun b hb => (hr2 b (by omega)).trans (hP1 b (by omega))
  refine jj_putS (q := 42) dX8_init_39 fl_X8_27 (by decide) (by assumption) rfl rfl rfl rfl rfl ?_
  refine jj_aload_n (q := 43) dX8_init_42 rfl rfl rfl ?_
  refine jj_new (ci := 4) (z0 := a + 35) (z1 := a + 36) (q := 46) dX8_init_43 (by decide) kq_X8_30 ki_4 kn_4 (by (repeat (first | refine Fre.uS ?_ (by omega) | refine Fre.uI ?_ (by omega))); exact ⟨fun b hb => (hP2 b (by omega)).trans (hF.1 b (by omega)), (hF.up (by omega)).2⟩) ⟨Nat.le_of_ble_eq_true rfl, Nat.le_of_ble_eq_true rfl⟩ rfl rfl ?_
  refine jj_dup (q := 47) dX8_init_46 rfl rfl ?_
  refine jj_mM0 (q := 50) dX8_init_47 yk_X4_init mm_X8_32 (ex_st_init (d := d + 1) (a := a + 35) u1_eq (by (repeat (first | refine Fre.uS ?_ (by omega) | refine Fre.uI ?_ (by omega))); exact ⟨fun b hb => (hP2 b (by omega)).trans (hF.1 b (by omega)), (hF.up (by omega)).2⟩)) rfl rfl rfl ⟨Nat.le_of_ble_eq_true rfl, Nat.le_of_ble_eq_true rfl⟩ (fun M47 g47 => ?_)
  obtain ⟨T3, R3, rfl, hs3, ht3, hr3⟩ := g47
  replace hs0 := hs0.cg (T' := T3) (R' := R3) (fun k hk => by rw [ht3 _ (by omega), u1_ne (by omega)]) (fun k hk => hr3 _ (by omega))
  replace hs1 := hs1.cg (T' := T3) (R' := R3) (fun k hk => by rw [ht3 _ (by omega), u1_ne (by omega)]) (fun k hk => hr3 _ (by omega))
  replace hs2 := hs2.cg (T' := T3) (R' := R3) (fun k hk => by rw [ht3 _ (by omega), u1_ne (by omega)]) (fun k hk => hr3 _ (by omega))
  have hA3 : T3 a = some (.inl 7) := by rw [ht3 _ (by omega), u1_ne (by omega)]; exact hA2
  have hO3 : ∀ b, b < a ∨ a + 54 ≤ b → T3 b = T b := fun b hb => by rw [ht3 _ (by omega), u1_ne (by omega)]; exact hO2 b (by omega)
  have hP3 : ∀ b, b < a ∨ a + 54 ≤ b → R3 b = R b := fun b hb => (hr3 b (by omega)).trans (hP2 b (by omega))
  refine jj_putS (q := 53) dX8_init_50 fl_X8_33 (by decide) (by assumption) rfl rfl rfl rfl rfl ?_
  refine jj_aload_n (q := 54) dX8_init_53 rfl rfl rfl ?_
  refine jj_new (ci := 4) (z0 := a + 54) (z1 := a + 55) (q := 57) dX8_init_54 (by decide) kq_X8_30 ki_4 kn_4 (by (repeat (first | refine Fre.uS ?_ (by omega) | refine Fre.uI ?_ (by omega))); exact ⟨fun b hb => (hP3 b (by omega)).trans (hF.1 b (by omega)), (hF.up (by omega)).2⟩) ⟨Nat.le_of_ble_eq_true rfl, Nat.le_of_ble_eq_true rfl⟩ rfl rfl ?_
  refine jj_dup (q := 58) dX8_init_57 rfl rfl ?_
  refine jj_mM0 (q := 61) dX8_init_58 yk_X4_init mm_X8_32 (ex_st_init (d := d + 1) (a := a + 54) u1_eq (by (repeat (first | refine Fre.uS ?_ (by omega) | refine Fre.uI ?_ (by omega))); exact ⟨fun b hb => (hP3 b (by omega)).trans (hF.1 b (by omega)), (hF.up (by omega)).2⟩)) rfl rfl rfl ⟨Nat.le_of_ble_eq_true rfl, Nat.le_of_ble_eq_true rfl⟩ (fun M58 g58 => ?_)
  obtain ⟨T4, R4, rfl, hs4, ht4, hr4⟩ := g58
  replace hs0 := hs0.cg (T' := T4) (R' := R4) (fun k hk => by rw [ht4 _ (by omega), u1_ne (by omega)]) (fun k hk => hr4 _ (by omega))
  replace hs1 := hs1.cg (T' := T4) (R' := R4) (fun k hk => by rw [ht4 _ (by omega), u1_ne (by omega)]) (fun k hk => hr4 _ (by omega))
  replace hs2 := hs2.cg (T' := T4) (R' := R4) (fun k hk => by rw [ht4 _ (by omega), u1_ne (by omega)]) (fun k hk => hr4 _ (by omega))
  replace hs3 := hs3.cg (T' := T4) (R' := R4) (fun k hk => by rw [ht4 _ (by omega), u1_ne (by omega)]) (fun k hk => hr4 _ (by omega))
  have hA4 : T4 a = some (.inl 7) := by rw [ht4 _ (by omega), u1_ne (by omega)]; exact hA3
  have hO4 : ∀ b, b < a ∨ a + 73 ≤ b → T4 b = T b := fun b hb => by rw [ht4 _ (by omega), u1_ne (by omega)]; exact hO3 b (by omega)
  have hP4 : ∀ b, b < a ∨ a + 73 ≤ b → R4 b = R b := fun b hb => (hr4 b (by omega)).trans (hP3 b (by omega))
  refine jj_putS (q := 64) dX8_init_61 fl_X8_37 (by decide) (by assumption) rfl rfl rfl rfl rfl ?_
  refine jj_aload_n (q := 65) dX8_init_64 rfl rfl rfl ?_
  refine jj_new (ci := 1) (z0 := a + 73) (z1 := a + 74) (q := 68) dX8_init_65 (by decide) kq_X8_40 ki_1 kn_1 (by (repeat (first | refine Fre.uS ?_ (by omega) | refine Fre.uI ?_ (by omega))); exact ⟨fun b hb => (hP4 b (by omega)).trans (hF.1 b (by omega)), (hF.up (by omega)).2⟩) ⟨Nat.le_of_ble_eq_true rfl, Nat.le_of_ble_eq_true rfl⟩ rfl rfl ?_
  refine jj_dup (q := 69) dX8_init_68 rfl rfl ?_
  refine jj_mI0 (q := 72) dX8_init_69 yk_X1_init ml_X8_42 (ex_hi_init (d := d) (a := a + 73) u1_eq (by (repeat (first | refine Fre.uS ?_ (by omega) | refine Fre.uI ?_ (by omega))); exact ⟨fun b hb => (hP4 b (by omega)).trans (hF.1 b (by omega)), (hF.up (by omega)).2⟩)) rfl rfl rfl ⟨Nat.le_of_ble_eq_true rfl, Nat.le_of_ble_eq_true rfl⟩ (fun M69 g69 => ?_)
  obtain ⟨T5, R5, rfl, hs5, ht5, hr5⟩ := g69
  replace hs0 := hs0.cg (T' := T5) (R' := R5) (fun k hk => by rw [ht5 _ (by omega), u1_ne (by omega)]) (fun k hk => hr5 _ (by omega))
  replace hs1 := hs1.cg (T' := T5) (R' := R5) (fun k hk => by rw [ht5 _ (by omega), u1_ne (by omega)]) (fun k hk => hr5 _ (by omega))
  replace hs2 := hs2.cg (T' := T5) (R' := R5) (fun k hk => by rw [ht5 _ (by omega), u1_ne (by omega)]) (fun k hk => hr5 _ (by omega))
  replace hs3 := hs3.cg (T' := T5) (R' := R5) (fun k hk => by rw [ht5 _ (by omega), u1_ne (by omega)]) (fun k hk => hr5 _ (by omega))
  replace hs4 := hs4.cg (T' := T5) (R' := R5) (fun k hk => by rw [ht5 _ (by omega), u1_ne (by omega)]) (fun k hk => hr5 _ (by omega))
  have hA5 : T5 a = some (.inl 7) := by rw [ht5 _ (by omega), u1_ne (by omega)]; exact hA4
  have hO5 : ∀ b, b < a ∨ a + 189 ≤ b → T5 b = T b := fun b hb => by rw [ht5 _ (by omega), u1_ne (by omega)]; exact hO4 b (by omega)
  have hP5 : ∀ b, b < a ∨ a + 189 ≤ b → R5 b = R b := fun b hb => (hr5 b (by omega)).trans (hP4 b (by omega))
  refine jj_putFS (q := 75) dX8_init_72 fl_X8_43 (by decide) (by assumption) rfl rfl rfl rfl rfl rfl rfl ?_
  refine jj_aload_n (q := 76) dX8_init_75 rfl rfl rfl ?_
  refine jj_new (ci := 4) (z0 := a + 189) (z1 := a + 190) (q := 79) dX8_init_76 (by decide) kq_X8_30 ki_4 kn_4 (by (repeat (first | refine Fre.uS ?_ (by omega) | refine Fre.uI ?_ (by omega))); exact ⟨fun b hb => (hP5 b (by omega)).trans (hF.1 b (by omega)), (hF.up (by omega)).2⟩) ⟨Nat.le_of_ble_eq_true rfl, Nat.le_of_ble_eq_true rfl⟩ rfl rfl ?_
  refine jj_dup (q := 80) dX8_init_79 rfl rfl ?_
  refine jj_mM0 (q := 83) dX8_init_80 yk_X4_init mm_X8_32 (ex_st_init (d := d + 1) (a := a + 189) u1_eq (by (repeat (first | refine Fre.uS ?_ (by omega) | refine Fre.uI ?_ (by omega))); exact ⟨fun b hb => (hP5 b (by omega)).trans (hF.1 b (by omega)), (hF.up (by omega)).2⟩)) rfl rfl rfl ⟨Nat.le_of_ble_eq_true rfl, Nat.le_of_ble_eq_true rfl⟩ (fun M80 g80 => ?_)
  obtain ⟨T6, R6, rfl, hs6, ht6, hr6⟩ := g80
  replace hs0 := hs0.cg (T' := T6) (R' := R6) (fun k hk => by rw [ht6 _ (by omega), u1_ne (by omega)]) (fun k hk => hr6 _ (by omega))
  replace hs1 := hs1.cg (T' := T6) (R' := R6) (fun k hk => by rw [ht6 _ (by omega), u1_ne (by omega)]) (fun k hk => hr6 _ (by omega))
  replace hs2 := hs2.cg (T' := T6) (R' := R6) (fun k hk => by rw [ht6 _ (by omega), u1_ne (by omega)]) (fun k hk => hr6 _ (by omega))
  replace hs3 := hs3.cg (T' := T6) (R' := R6) (fun k hk => by rw [ht6 _ (by omega), u1_ne (by omega)]) (fun k hk => hr6 _ (by omega))
  replace hs4 := hs4.cg (T' := T6) (R' := R6) (fun k hk => by rw [ht6 _ (by omega), u1_ne (by omega)]) (fun k hk => hr6 _ (by omega))
  replace hs5 := hs5.cg (T' := T6) (R' := R6) (fun k hk => by rw [ht6 _ (by omega), u1_ne (by omega)]) (fun k hk => hr6 _ (by omega))
  have hA6 : T6 a = some (.inl 7) := by rw [ht6 _ (by omega), u1_ne (by omega)]; exact hA5
  have hO6 : ∀ b, b < a ∨ a + 208 ≤ b → T6 b = T b := fun b hb => by rw [ht6 _ (by omega), u1_ne (by omega)]; exact hO5 b (by omega)
  have hP6 : ∀ b, b < a ∨ a + 208 ≤ b → R6 b = R b := fun b hb => (hr6 b (by omega)).trans (hP5 b (by omega))
  refine jj_putFS (q := 86) dX8_init_83 fl_X8_47 (by decide) (by assumption) rfl rfl rfl rfl rfl rfl rfl ?_
  refine jj_aload_n (q := 87) dX8_init_86 rfl rfl rfl ?_
  refine jj_new (ci := 4) (z0 := a + 208) (z1 := a + 209) (q := 90) dX8_init_87 (by decide) kq_X8_30 ki_4 kn_4 (by (repeat (first | refine Fre.uS ?_ (by omega) | refine Fre.uI ?_ (by omega))); exact ⟨fun b hb => (hP6 b (by omega)).trans (hF.1 b (by omega)), (hF.up (by omega)).2⟩) ⟨Nat.le_of_ble_eq_true rfl, Nat.le_of_ble_eq_true rfl⟩ rfl rfl ?_
  refine jj_dup (q := 91) dX8_init_90 rfl rfl ?_
  refine jj_mM0 (q := 94) dX8_init_91 yk_X4_init mm_X8_32 (ex_st_init (d := d + 1) (a := a + 208) u1_eq (by (repeat (first | refine Fre.uS ?_ (by omega) | refine Fre.uI ?_ (by omega))); exact ⟨fun b hb => (hP6 b (by omega)).trans (hF.1 b (by omega)), (hF.up (by omega)).2⟩)) rfl rfl rfl ⟨Nat.le_of_ble_eq_true rfl, Nat.le_of_ble_eq_true rfl⟩ (fun M91 g91 => ?_)
  obtain ⟨T7, R7, rfl, hs7, ht7, hr7⟩ := g91
  replace hs0 := hs0.cg (T' := T7) (R' := R7) (fun k hk => by rw [ht7 _ (by omega), u1_ne (by omega)]) (fun k hk => hr7 _ (by omega))
  replace hs1 := hs1.cg (T' := T7) (R' := R7) (fun k hk => by rw [ht7 _ (by omega), u1_ne (by omega)]) (fun k hk => hr7 _ (by omega))
  replace hs2 := hs2.cg (T' := T7) (R' := R7) (fun k hk => by rw [ht7 _ (by omega), u1_ne (by omega)]) (fun k hk => hr7 _ (by omega))
  replace hs3 := hs3.cg (T' := T7) (R' := R7) (fun k hk => by rw [ht7 _ (by omega), u1_ne (by omega)]) (fun k hk => hr7 _ (by omega))
  replace hs4 := hs4.cg (T' := T7) (R' := R7) (fun k hk => by rw [ht7 _ (by omega), u1_ne (by omega)]) (fun k hk => hr7 _ (by omega))
  replace hs5 := hs5.cg (T' := T7) (R' := R7) (fun k hk => by rw [ht7 _ (by omega), u1_ne (by omega)]) (fun k hk => hr7 _ (by omega))
  replace hs6 := hs6.cg (T' := T7) (R' := R7) (fun k hk => by rw [ht7 _ (by omega), u1_ne (by omega)]) (fun k hk => hr7 _ (by omega))
  have hA7 : T7 a = some (.inl 7) := by rw [ht7 _ (by omega), u1_ne (by omega)]; exact hA6
  have hO7 : ∀ b, b < a ∨ a + 227 ≤ b → T7 b = T b := fun b hb => by rw [ht7 _ (by omega), u1_ne (by omega)]; exact hO6 b (by omega)
  have hP7 : ∀ b, b < a ∨ a + 227 ≤ b → R7 b = R b := fun b hb => (hr7 b (by omega)).trans (hP6 b (by omega))
  refine jj_putFS (q := 97) dX8_init_94 fl_X8_50 (by decide) (by assumption) rfl rfl rfl rfl rfl rfl rfl ?_
  refine jj_aload_n (q := 98) dX8_init_97 rfl rfl rfl ?_
  refine jj_iconst (v := 0) (q := 99) dX8_init_98 rfl rfl ?_
  refine jj_putIv (q := 102) dX8_init_99 fl_X8_53 (by assumption) (u2_id (congrFun hJ0 _)) rfl rfl rfl rfl rfl ?_
  refine jj_aload_n (q := 103) dX8_init_102 rfl rfl rfl ?_
  refine jj_iconst (v := 0) (q := 104) dX8_init_103 rfl rfl ?_
  refine jj_putIv (q := 107) dX8_init_104 fl_X8_56 (by assumption) (u2_id (congrFun hJ0 _)) rfl rfl rfl rfl rfl ?_
  refine jj_aload_n (q := 108) dX8_init_107 rfl rfl rfl ?_
  refine jj_new (ci := 6) (z0 := a + 227) (z1 := a + 228) (q := 111) dX8_init_108 (by decide) kq_X8_59 ki_6 kn_6 (by (repeat (first | refine Fre.uS ?_ (by omega) | refine Fre.uI ?_ (by omega))); exact ⟨fun b hb => (hP7 b (by omega)).trans (hF.1 b (by omega)), (hF.up (by omega)).2⟩) ⟨Nat.le_of_ble_eq_true rfl, Nat.le_of_ble_eq_true rfl⟩ rfl rfl ?_
  refine jj_dup (q := 112) dX8_init_111 rfl rfl ?_
  refine jj_sipush (v := 200) (q := 115) dX8_init_112 rfl rfl ?_
  refine jj_mI1 (q := 118) dX8_init_115 yk_X6_init ml_X8_61 (ex_tx_init (d := d + 2) (a := a + 227) u1_eq (by (repeat (first | refine Fre.uS ?_ (by omega) | refine Fre.uI ?_ (by omega))); exact ⟨fun b hb => (hP7 b (by omega)).trans (hF.1 b (by omega)), (hF.up (by omega)).2⟩) (n := 200) (by omega)) rfl rfl rfl ⟨Nat.le_of_ble_eq_true rfl, Nat.le_of_ble_eq_true rfl⟩ (fun M115 g115 => ?_)
  obtain ⟨T8, R8, rfl, hs8, ht8, hr8⟩ := g115
  replace hs0 := hs0.cg (T' := T8) (R' := R8) (fun k hk => by rw [ht8 _ (by omega), u1_ne (by omega)]) (fun k hk => hr8 _ (by omega))
  replace hs1 := hs1.cg (T' := T8) (R' := R8) (fun k hk => by rw [ht8 _ (by omega), u1_ne (by omega)]) (fun k hk => hr8 _ (by omega))
  replace hs2 := hs2.cg (T' := T8) (R' := R8) (fun k hk => by rw [ht8 _ (by omega), u1_ne (by omega)]) (fun k hk => hr8 _ (by omega))
  replace hs3 := hs3.cg (T' := T8) (R' := R8) (fun k hk => by rw [ht8 _ (by omega), u1_ne (by omega)]) (fun k hk => hr8 _ (by omega))
  replace hs4 := hs4.cg (T' := T8) (R' := R8) (fun k hk => by rw [ht8 _ (by omega), u1_ne (by omega)]) (fun k hk => hr8 _ (by omega))
  replace hs5 := hs5.cg (T' := T8) (R' := R8) (fun k hk => by rw [ht8 _ (by omega), u1_ne (by omega)]) (fun k hk => hr8 _ (by omega))
  replace hs6 := hs6.cg (T' := T8) (R' := R8) (fun k hk => by rw [ht8 _ (by omega), u1_ne (by omega)]) (fun k hk => hr8 _ (by omega))
  replace hs7 := hs7.cg (T' := T8) (R' := R8) (fun k hk => by rw [ht8 _ (by omega), u1_ne (by omega)]) (fun k hk => hr8 _ (by omega))
  have hA8 : T8 a = some (.inl 7) := by rw [ht8 _ (by omega), u1_ne (by omega)]; exact hA7
  have hO8 : ∀ b, b < a ∨ a + 229 ≤ b → T8 b = T b := fun b hb => by rw [ht8 _ (by omega), u1_ne (by omega)]; exact hO7 b (by omega)
  have hP8 : ∀ b, b < a ∨ a + 229 ≤ b → R8 b = R b := fun b hb => (hr8 b (by omega)).trans (hP7 b (by omega))
  refine jj_putFS (q := 121) dX8_init_118 fl_X8_64 (by decide) (by assumption) rfl rfl rfl rfl rfl rfl rfl ?_
  refine jj_aload_n (q := 122) dX8_init_121 rfl rfl rfl ?_
  refine jj_new (ci := 6) (z0 := a + 229) (z1 := a + 230) (q := 125) dX8_init_122 (by decide) kq_X8_59 ki_6 kn_6 (by (repeat (first | refine Fre.uS ?_ (by omega) | refine Fre.uI ?_ (by omega))); exact ⟨fun b hb => (hP8 b (by omega)).trans (hF.1 b (by omega)), (hF.up (by omega)).2⟩) ⟨Nat.le_of_ble_eq_true rfl, Nat.le_of_ble_eq_true rfl⟩ rfl rfl ?_
  refine jj_dup (q := 126) dX8_init_125 rfl rfl ?_
  refine jj_bipush (v := 40) (q := 128) dX8_init_126 rfl rfl ?_
  refine jj_mI1 (q := 131) dX8_init_128 yk_X6_init ml_X8_61 (ex_tx_init (d := d + 2) (a := a + 229) u1_eq (by (repeat (first | refine Fre.uS ?_ (by omega) | refine Fre.uI ?_ (by omega))); exact ⟨fun b hb => (hP8 b (by omega)).trans (hF.1 b (by omega)), (hF.up (by omega)).2⟩) (n := 40) (by omega)) rfl rfl rfl ⟨Nat.le_of_ble_eq_true rfl, Nat.le_of_ble_eq_true rfl⟩ (fun M128 g128 => ?_)
  obtain ⟨T9, R9, rfl, hs9, ht9, hr9⟩ := g128
  replace hs0 := hs0.cg (T' := T9) (R' := R9) (fun k hk => by rw [ht9 _ (by omega), u1_ne (by omega)]) (fun k hk => hr9 _ (by omega))
  replace hs1 := hs1.cg (T' := T9) (R' := R9) (fun k hk => by rw [ht9 _ (by omega), u1_ne (by omega)]) (fun k hk => hr9 _ (by omega))
  replace hs2 := hs2.cg (T' := T9) (R' := R9) (fun k hk => by rw [ht9 _ (by omega), u1_ne (by omega)]) (fun k hk => hr9 _ (by omega))
  replace hs3 := hs3.cg (T' := T9) (R' := R9) (fun k hk => by rw [ht9 _ (by omega), u1_ne (by omega)]) (fun k hk => hr9 _ (by omega))
  replace hs4 := hs4.cg (T' := T9) (R' := R9) (fun k hk => by rw [ht9 _ (by omega), u1_ne (by omega)]) (fun k hk => hr9 _ (by omega))
  replace hs5 := hs5.cg (T' := T9) (R' := R9) (fun k hk => by rw [ht9 _ (by omega), u1_ne (by omega)]) (fun k hk => hr9 _ (by omega))
  replace hs6 := hs6.cg (T' := T9) (R' := R9) (fun k hk => by rw [ht9 _ (by omega), u1_ne (by omega)]) (fun k hk => hr9 _ (by omega))
  replace hs7 := hs7.cg (T' := T9) (R' := R9) (fun k hk => by rw [ht9 _ (by omega), u1_ne (by omega)]) (fun k hk => hr9 _ (by omega))
  replace hs8 := hs8.cg (T' := T9) (R' := R9) (fun k hk => by rw [ht9 _ (by omega), u1_ne (by omega)]) (fun k hk => hr9 _ (by omega))
  have hA9 : T9 a = some (.inl 7) := by rw [ht9 _ (by omega), u1_ne (by omega)]; exact hA8
  have hO9 : ∀ b, b < a ∨ a + 231 ≤ b → T9 b = T b := fun b hb => by rw [ht9 _ (by omega), u1_ne (by omega)]; exact hO8 b (by omega)
  have hP9 : ∀ b, b < a ∨ a + 231 ≤ b → R9 b = R b := fun b hb => (hr9 b (by omega)).trans (hP8 b (by omega))
  refine jj_putFS (q := 134) dX8_init_131 fl_X8_68 (by decide) (by assumption) rfl rfl rfl rfl rfl rfl rfl ?_
  refine jj_aload_n (q := 135) dX8_init_134 rfl rfl rfl ?_
  refine jj_new (ci := 6) (z0 := a + 231) (z1 := a + 232) (q := 138) dX8_init_135 (by decide) kq_X8_59 ki_6 kn_6 (by (repeat (first | refine Fre.uS ?_ (by omega) | refine Fre.uI ?_ (by omega))); exact ⟨fun b hb => (hP9 b (by omega)).trans (hF.1 b (by omega)), (hF.up (by omega)).2⟩) ⟨Nat.le_of_ble_eq_true rfl, Nat.le_of_ble_eq_true rfl⟩ rfl rfl ?_
  refine jj_dup (q := 139) dX8_init_138 rfl rfl ?_
  refine jj_sipush (v := 400) (q := 142) dX8_init_139 rfl rfl ?_
  refine jj_mI1 (q := 145) dX8_init_142 yk_X6_init ml_X8_61 (ex_tx_init (d := d + 2) (a := a + 231) u1_eq (by (repeat (first | refine Fre.uS ?_ (by omega) | refine Fre.uI ?_ (by omega))); exact ⟨fun b hb => (hP9 b (by omega)).trans (hF.1 b (by omega)), (hF.up (by omega)).2⟩) (n := 400) (by omega)) rfl rfl rfl ⟨Nat.le_of_ble_eq_true rfl, Nat.le_of_ble_eq_true rfl⟩ (fun M142 g142 => ?_)
  obtain ⟨T10, R10, rfl, hs10, ht10, hr10⟩ := g142
  replace hs0 := hs0.cg (T' := T10) (R' := R10) (fun k hk => by rw [ht10 _ (by omega), u1_ne (by omega)]) (fun k hk => hr10 _ (by omega))
  replace hs1 := hs1.cg (T' := T10) (R' := R10) (fun k hk => by rw [ht10 _ (by omega), u1_ne (by omega)]) (fun k hk => hr10 _ (by omega))
  replace hs2 := hs2.cg (T' := T10) (R' := R10) (fun k hk => by rw [ht10 _ (by omega), u1_ne (by omega)]) (fun k hk => hr10 _ (by omega))
  replace hs3 := hs3.cg (T' := T10) (R' := R10) (fun k hk => by rw [ht10 _ (by omega), u1_ne (by omega)]) (fun k hk => hr10 _ (by omega))
  replace hs4 := hs4.cg (T' := T10) (R' := R10) (fun k hk => by rw [ht10 _ (by omega), u1_ne (by omega)]) (fun k hk => hr10 _ (by omega))
  replace hs5 := hs5.cg (T' := T10) (R' := R10) (fun k hk => by rw [ht10 _ (by omega), u1_ne (by omega)]) (fun k hk => hr10 _ (by omega))
  replace hs6 := hs6.cg (T' := T10) (R' := R10) (fun k hk => by rw [ht10 _ (by omega), u1_ne (by omega)]) (fun k hk => hr10 _ (by omega))
  replace hs7 := hs7.cg (T' := T10) (R' := R10) (fun k hk => by rw [ht10 _ (by omega), u1_ne (by omega)]) (fun k hk => hr10 _ (by omega))
  replace hs8 := hs8.cg (T' := T10) (R' := R10) (fun k hk => by rw [ht10 _ (by omega), u1_ne (by omega)]) (fun k hk => hr10 _ (by omega))
  replace hs9 := hs9.cg (T' := T10) (R' := R10) (fun k hk => by rw [ht10 _ (by omega), u1_ne (by omega)]) (fun k hk => hr10 _ (by omega))
  have hA10 : T10 a = some (.inl 7) := by rw [ht10 _ (by omega), u1_ne (by omega)]; exact hA9
  have hO10 : ∀ b, b < a ∨ a + 233 ≤ b → T10 b = T b := fun b hb => by rw [ht10 _ (by omega), u1_ne (by omega)]; exact hO9 b (by omega)
  have hP10 : ∀ b, b < a ∨ a + 233 ≤ b → R10 b = R b := fun b hb => (hr10 b (by omega)).trans (hP9 b (by omega))
  refine jj_putFS (q := 148) dX8_init_145 fl_X8_71 (by decide) (by assumption) rfl rfl rfl rfl rfl rfl rfl ?_
  refine jj_vret dX8_init_148 rfl (Nat.le_of_ble_eq_true rfl) (Nat.le_of_ble_eq_true rfl) ?_
  refine ⟨rfl, _, _, _, rfl, ⟨by assumption, Or.inl ⟨rfl, rfl⟩, Or.inl ⟨rfl, rfl⟩, ?_, hs0, hs1, hs2, hs3, hs4, hs5, hs6, hs7, hs8, hs9, hs10⟩, fun b hb => hO10 b (by omega), fun b hb => hP10 b (by omega), fun b hb => by repeat (rw [u2_ne hb])⟩
  simp [u2]
end C1x
