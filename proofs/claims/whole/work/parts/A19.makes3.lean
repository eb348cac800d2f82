/-! CONSTRUCTORS: links; the leaves -/
theorem ki_0 : Cond.instantiable (kR 0) (kN 0) ∈ lw_good := (lw_g1 205 (by decide +kernel) rfl)
theorem kn_0 : Cond.initialized (kR 0) ∈ lw_good := (lw_g1 6 (by decide +kernel) rfl)
theorem ki_1 : Cond.instantiable (kR 1) (kN 1) ∈ lw_good := (lw_g2 96 (by decide +kernel) rfl)
theorem kn_1 : Cond.initialized (kR 1) ∈ lw_good := (lw_g1 7 (by decide +kernel) rfl)
theorem ki_2 : Cond.instantiable (kR 2) (kN 2) ∈ lw_good := (lw_g1 34 (by decide +kernel) rfl)
theorem kn_2 : Cond.initialized (kR 2) ∈ lw_good := (lw_g1 2 (by decide +kernel) rfl)
theorem ki_3 : Cond.instantiable (kR 3) (kN 3) ∈ lw_good := (lw_g1 75 (by decide +kernel) rfl)
theorem kn_3 : Cond.initialized (kR 3) ∈ lw_good := (lw_g1 3 (by decide +kernel) rfl)
theorem ki_4 : Cond.instantiable (kR 4) (kN 4) ∈ lw_good := (lw_g1 199 (by decide +kernel) rfl)
theorem kn_4 : Cond.initialized (kR 4) ∈ lw_good := (lw_g1 5 (by decide +kernel) rfl)
theorem ki_5 : Cond.instantiable (kR 5) (kN 5) ∈ lw_good := (lw_g1 81 (by decide +kernel) rfl)
theorem kn_5 : Cond.initialized (kR 5) ∈ lw_good := (lw_g1 4 (by decide +kernel) rfl)
theorem ki_6 : Cond.instantiable (kR 6) (kN 6) ∈ lw_good := (lw_g2 116 (by decide +kernel) rfl)
theorem kn_6 : Cond.initialized (kR 6) ∈ lw_good := (lw_g1 8 (by decide +kernel) rfl)
theorem ki_7 : Cond.instantiable (kR 7) (kN 7) ∈ lw_good := (lw_g1 26 (by decide +kernel) rfl)
theorem kn_7 : Cond.initialized (kR 7) ∈ lw_good := (lw_g1 1 (by decide +kernel) rfl)
theorem ki_8 : Cond.instantiable (kR 8) (kN 8) ∈ lw_good := (lw_g7 29 (by decide +kernel) rfl)
theorem kn_8 : Cond.initialized (kR 8) ∈ lw_good := (lw_g1 10 (by decide +kernel) rfl)
theorem ka_int : Cond.arrayClass .int ∈ lw_good := (lw_g1 111 (by decide +kernel) rfl)
theorem ka_byte : Cond.arrayClass .byte ∈ lw_good := (lw_g1 73 (by decide +kernel) rfl)
theorem ka_boolean : Cond.arrayClass .boolean ∈ lw_good := (lw_g7 153 (by decide +kernel) rfl)
theorem ka_long : Cond.arrayClass .long ∈ lw_good := (lw_g10 20 (by decide +kernel) rfl)
theorem ka_double : Cond.arrayClass .double ∈ lw_good := (lw_g10 21 (by decide +kernel) rfl)
theorem kq_L_8 : Cond.classLink RL 8 (kR 7) ∈ lw_good := (lw_g1 25 (by decide +kernel) rfl)
theorem kq_X8_7 : Cond.classLink RX8 7 (kR 2) ∈ lw_good := (lw_g1 33 (by decide +kernel) rfl)
theorem kq_X8_20 : Cond.classLink RX8 20 (kR 3) ∈ lw_good := (lw_g1 74 (by decide +kernel) rfl)
theorem kq_X3_61 : Cond.classLink RX3 61 (kR 5) ∈ lw_good := (lw_g1 80 (by decide +kernel) rfl)
theorem kq_X8_30 : Cond.classLink RX8 30 (kR 4) ∈ lw_good := (lw_g1 198 (by decide +kernel) rfl)
theorem kq_X4_25 : Cond.classLink RX4 25 (kR 0) ∈ lw_good := (lw_g1 204 (by decide +kernel) rfl)
theorem kq_X8_40 : Cond.classLink RX8 40 (kR 1) ∈ lw_good := (lw_g2 95 (by decide +kernel) rfl)
theorem kq_X1_18 : Cond.classLink RX1 18 (kR 4) ∈ lw_good := (lw_g2 101 (by decide +kernel) rfl)
theorem kq_X8_59 : Cond.classLink RX8 59 (kR 6) ∈ lw_good := (lw_g2 115 (by decide +kernel) rfl)
theorem kq_L_177 : Cond.classLink RL 177 (kR 8) ∈ lw_good := (lw_g7 28 (by decide +kernel) rfl)
theorem kq_X9_42 : Cond.classLink RX9 42 "java/lang/String" ∈ lw_good := (lw_g7 34 (by decide +kernel) rfl)
theorem ko_X8_1 : Cond.methodLink RX8 1 objectInit ∈ lw_good := (lw_g1 30 (by decide +kernel) rfl)
theorem ko_X2_3 : Cond.methodLink RX2 3 objectInit ∈ lw_good := (lw_g1 38 (by decide +kernel) rfl)
theorem ko_X3_3 : Cond.methodLink RX3 3 objectInit ∈ lw_good := (lw_g1 79 (by decide +kernel) rfl)
theorem ko_X5_3 : Cond.methodLink RX5 3 objectInit ∈ lw_good := (lw_g1 85 (by decide +kernel) rfl)
theorem ko_X4_3 : Cond.methodLink RX4 3 objectInit ∈ lw_good := (lw_g1 203 (by decide +kernel) rfl)
theorem ko_X0_3 : Cond.methodLink RX0 3 objectInit ∈ lw_good := (lw_g1 209 (by decide +kernel) rfl)
theorem ko_X1_3 : Cond.methodLink RX1 3 objectInit ∈ lw_good := (lw_g2 100 (by decide +kernel) rfl)
theorem ko_X6_3 : Cond.methodLink RX6 3 objectInit ∈ lw_good := (lw_g2 120 (by decide +kernel) rfl)
theorem ko_X9_3 : Cond.methodLink RX9 3 objectInit ∈ lw_good := (lw_g7 33 (by decide +kernel) rfl)
theorem ko_i : Cond.instanceMethod objectInit ∈ lw_good := (lw_g1 31 (by decide +kernel) rfl)
theorem ko_c : Cond.code objectInit ⟨#[0xb1]⟩ 1 none ∈ lw_good := (lw_g1 32 (by decide +kernel) rfl)
theorem mm_X8_9 : MLM RX8 9 Y_X2_init := ⟨⟨"BaggageLoop", (lw_m1 _ (List.mem_of_getElem? (i := 35) (by decide +kernel)))⟩, (lw_g1 36 (by decide +kernel) rfl), rfl, rfl⟩
theorem mm_X8_22 : MLM RX8 22 Y_X3_init := ⟨⟨"BaggageLoop", (lw_m1 _ (List.mem_of_getElem? (i := 76) (by decide +kernel)))⟩, (lw_g1 77 (by decide +kernel) rfl), rfl, rfl⟩
theorem mm_X3_63 : MLM RX3 63 Y_X5_init := ⟨⟨"BaggageLoop", (lw_m1 _ (List.mem_of_getElem? (i := 82) (by decide +kernel)))⟩, (lw_g1 83 (by decide +kernel) rfl), rfl, rfl⟩
theorem mm_X8_32 : MLM RX8 32 Y_X4_init := ⟨⟨"BaggageLoop", (lw_m1 _ (List.mem_of_getElem? (i := 200) (by decide +kernel)))⟩, (lw_g1 201 (by decide +kernel) rfl), rfl, rfl⟩
theorem mm_X4_27 : MLM RX4 27 Y_X0_init := ⟨⟨"BaggageLoop", (lw_m1 _ (List.mem_of_getElem? (i := 206) (by decide +kernel)))⟩, (lw_g1 207 (by decide +kernel) rfl), rfl, rfl⟩
theorem mm_X1_24 : MLM RX1 24 Y_X4_init := ⟨⟨"BaggageLoop", (lw_m2 _ (List.mem_of_getElem? (i := 103) (by decide +kernel)))⟩, (lw_g1 201 (by decide +kernel) rfl), rfl, rfl⟩
/-- what a constructor leaves: T and R are as h says at the object's cells, as before elsewhere -/
def mkQ (h : JT → JR → Prop) (T : JT) (R S : JR) (I : JI) (L : JL) (D : JD) (a w : Nat) : JM → Prop := fun M' => ∃ T' R', M' = (T', R', S, I, L, D, some (a + w)) ∧ h T' R' ∧ (∀ b, b < a ∨ a + w ≤ b → T' b = T b) ∧ ∀ b, b < a ∨ a + w ≤ b → R' b = R b
def hBa (T : JT) (R : JR) (a : Nat) : Prop := T a = some (.inl 0) ∧ (T (a + 1) = some (.inr (.int, 100)) ∧ T (a + 2) = some (.inr (.int, 100)) ∧ T (a + 3) = some (.inr (.int, 100)) ∧ T (a + 4) = some (.inr (.int, 100)) ∧ T (a + 5) = some (.inr (.int, 100)) ∧ T (a + 6) = some (.inr (.int, 100)) ∧ T (a + 7) = some (.inr (.int, 14))) ∧ R a 1 = some (a + 1) ∧ R a 2 = some (a + 2) ∧ R a 3 = some (a + 3) ∧ R a 4 = some (a + 4) ∧ R a 5 = some (a + 5) ∧ R a 6 = some (a + 6) ∧ R a 7 = some (a + 7)
def hTs (T : JT) (R : JR) (a : Nat) : Prop := T a = some (.inl 5) ∧ (T (a + 1) = some (.inr (.int, 3)) ∧ T (a + 2) = some (.inr (.int, 600)) ∧ T (a + 3) = some (.inr (.int, 600)) ∧ T (a + 4) = some (.inr (.int, 5))) ∧ R a 2 = some (a + 1) ∧ R a 3 = some (a + 2) ∧ R a 4 = some (a + 3) ∧ R a 5 = some (a + 4)
theorem mk_hSt {T : JT} {R : JR} {a : Nat} (t0 : T a = some (.inl 4)) (t1 : T (a + 1) = some (.inl 0)) (t2 : T (a + 2) = some (.inr (.int, 100))) (t3 : T (a + 3) = some (.inr (.int, 100))) (t4 : T (a + 4) = some (.inr (.int, 100))) (t5 : T (a + 5) = some (.inr (.int, 100))) (t6 : T (a + 6) = some (.inr (.int, 100))) (t7 : T (a + 7) = some (.inr (.int, 100))) (t8 : T (a + 8) = some (.inr (.int, 14))) (t9 : T (a + 9) = some (.inr (.int, 8))) (t10 : T (a + 10) = some (.inr (.int, 8))) (t11 : T (a + 11) = some (.inr (.int, 4))) (t12 : T (a + 12) = some (.inr (.int, 4))) (t13 : T (a + 13) = some (.inr (.int, 80))) (t14 : T (a + 14) = some (.inr (.int, 40))) (t15 : T (a + 15) = some (.inr (.int, 12))) (t16 : T (a + 16) = some (.inr (.int, 12))) (t17 : T (a + 17) = some (.inr (.int, 12))) (t18 : T (a + 18) = some (.inr (.int, 300))) (r0_4 : R a 4 = some (a + 1)) (r1_1 : R (a + 1) 1 = some (a + 2)) (r1_2 : R (a + 1) 2 = some (a + 3)) (r1_3 : R (a + 1) 3 = some (a + 4)) (r1_4 : R (a + 1) 4 = some (a + 5)) (r1_5 : R (a + 1) 5 = some (a + 6)) (r1_6 : R (a + 1) 6 = some (a + 7)) (r1_7 : R (a + 1) 7 = some (a + 8)) (r0_5 : R a 5 = some (a + 9)) (r0_6 : R a 6 = some (a + 10)) (r0_7 : R a 7 = some (a + 11)) (r0_8 : R a 8 = some (a + 12)) (r0_9 : R a 9 = some (a + 13)) (r0_10 : R a 10 = some (a + 14)) (r0_11 : R a 11 = some (a + 15)) (r0_12 : R a 12 = some (a + 16)) (r0_13 : R a 13 = some (a + 17)) (r0_15 : R a 15 = some (a + 18)) : hSt T R a := by
  refine ⟨fun k q hk => ?_, fun q hq => ?_⟩
  · match k, hk with
    | 0, hk => cases hk; exact t0
    | 1, hk => cases hk; exact t1
    | 2, hk => cases hk; exact t2
    | 3, hk => cases hk; exact t3
    | 4, hk => cases hk; exact t4
    | 5, hk => cases hk; exact t5
    | 6, hk => cases hk; exact t6
    | 7, hk => cases hk; exact t7
    | 8, hk => cases hk; exact t8
    | 9, hk => cases hk; exact t9
    | 10, hk => cases hk; exact t10
    | 11, hk => cases hk; exact t11
    | 12, hk => cases hk; exact t12
    | 13, hk => cases hk; exact t13
    | 14, hk => cases hk; exact t14
    | 15, hk => cases hk; exact t15
    | 16, hk => cases hk; exact t16
    | 17, hk => cases hk; exact t17
    | 18, hk => cases hk; exact t18
    | (k + 19), hk => cases hk
  · simp only [rSt, List.mem_cons, List.not_mem_nil, or_false] at hq
    rcases hq with rfl | rfl | rfl | rfl | rfl | rfl | rfl | rfl | rfl | rfl | rfl | rfl | rfl | rfl | rfl | rfl | rfl | rfl
    · exact r0_4
    · exact r1_1
    · exact r1_2
    · exact r1_3
    · exact r1_4
    · exact r1_5
    · exact r1_6
    · exact r1_7
    · exact r0_5
    · exact r0_6
    · exact r0_7
    · exact r0_8
    · exact r0_9
    · exact r0_10
    · exact r0_11
    · exact r0_12
    · exact r0_13
    · exact r0_15
theorem mk_hPl {T : JT} {R : JR} {a : Nat} (t0 : T a = some (.inl 3)) (t1 : T (a + 1) = some (.inr (.int, 3))) (t2 : T (a + 2) = some (.inr (.int, 3))) (t3 : T (a + 3) = some (.inr (.int, 3))) (t4 : T (a + 4) = some (.inr (.int, 8))) (t5 : T (a + 5) = some (.inr (.int, 4))) (t6 : T (a + 6) = some (.inr (.int, 4))) (t7 : T (a + 7) = some (.inr (.int, 4))) (t8 : T (a + 8) = some (.inr (.int, 4))) (t9 : T (a + 9) = some (.inr (.int, 4))) (t10 : T (a + 10) = some (.inr (.int, 4))) (t11 : T (a + 11) = some (.inl 5)) (t12 : T (a + 12) = some (.inr (.int, 3))) (t13 : T (a + 13) = some (.inr (.int, 600))) (t14 : T (a + 14) = some (.inr (.int, 600))) (t15 : T (a + 15) = some (.inr (.int, 5))) (r0_3 : R a 3 = some (a + 1)) (r0_4 : R a 4 = some (a + 2)) (r0_5 : R a 5 = some (a + 3)) (r0_7 : R a 7 = some (a + 4)) (r0_9 : R a 9 = some (a + 5)) (r0_10 : R a 10 = some (a + 6)) (r0_12 : R a 12 = some (a + 7)) (r0_13 : R a 13 = some (a + 8)) (r0_14 : R a 14 = some (a + 9)) (r0_15 : R a 15 = some (a + 10)) (r0_16 : R a 16 = some (a + 11)) (r11_2 : R (a + 11) 2 = some (a + 12)) (r11_3 : R (a + 11) 3 = some (a + 13)) (r11_4 : R (a + 11) 4 = some (a + 14)) (r11_5 : R (a + 11) 5 = some (a + 15)) : hPl T R a := by
  refine ⟨fun k q hk => ?_, fun q hq => ?_⟩
  · match k, hk with
    | 0, hk => cases hk; exact t0
    | 1, hk => cases hk; exact t1
    | 2, hk => cases hk; exact t2
    | 3, hk => cases hk; exact t3
    | 4, hk => cases hk; exact t4
    | 5, hk => cases hk; exact t5
    | 6, hk => cases hk; exact t6
    | 7, hk => cases hk; exact t7
    | 8, hk => cases hk; exact t8
    | 9, hk => cases hk; exact t9
    | 10, hk => cases hk; exact t10
    | 11, hk => cases hk; exact t11
    | 12, hk => cases hk; exact t12
    | 13, hk => cases hk; exact t13
    | 14, hk => cases hk; exact t14
    | 15, hk => cases hk; exact t15
    | (k + 16), hk => cases hk
  · simp only [rPl, List.mem_cons, List.not_mem_nil, or_false] at hq
    rcases hq with rfl | rfl | rfl | rfl | rfl | rfl | rfl | rfl | rfl | rfl | rfl | rfl | rfl | rfl | rfl
    · exact r0_3
    · exact r0_4
    · exact r0_5
    · exact r0_7
    · exact r0_9
    · exact r0_10
    · exact r0_12
    · exact r0_13
    · exact r0_14
    · exact r0_15
    · exact r0_16
    · exact r11_2
    · exact r11_3
    · exact r11_4
    · exact r11_5
theorem mk_hPa {T : JT} {R : JR} {a : Nat} (t0 : T a = some (.inl 2)) (t1 : T (a + 1) = some (.inr (.byte, 1200))) (r0_3 : R a 3 = some (a + 1)) : hPa T R a := by
  refine ⟨fun k q hk => ?_, fun q hq => ?_⟩
  · match k, hk with
    | 0, hk => cases hk; exact t0
    | 1, hk => cases hk; exact t1
    | (k + 2), hk => cases hk
  · simp only [rPa, List.mem_cons, List.not_mem_nil, or_false] at hq
    rcases hq with rfl
    · exact r0_3
theorem mk_hMo {T : JT} {S : JR} {a : Nat} (t0 : T a = some (.inl 8)) (t1 : T (a + 1) = some (.inr (.int, 1200))) (t2 : T (a + 2) = some (.inr (.int, 51))) (t3 : T (a + 3) = some (.inr (.int, 51))) (t4 : T (a + 4) = some (.inr (.int, 2086))) (t5 : T (a + 5) = some (.inr (.int, 2086))) (t6 : T (a + 6) = some (.inr (.int, 2086))) (t7 : T (a + 7) = some (.inr (.int, 12516))) (t8 : T (a + 8) = some (.inr (.int, 4172))) (t9 : T (a + 9) = some (.inr (.boolean, 2))) (t10 : T (a + 10) = some (.inr (.object "java/lang/String", 5))) (t11 : T (a + 11) = some (.inr (.int, 1400))) (t12 : T (a + 12) = some (.inr (.int, 1400))) (t13 : T (a + 13) = some (.inr (.int, 1400))) (t14 : T (a + 14) = some (.inr (.int, 1400))) (t15 : T (a + 15) = some (.inr (.int, 200))) (t16 : T (a + 16) = some (.inr (.int, 400))) (t17 : T (a + 17) = some (.inr (.int, 40))) (r0_1 : S a 1 = some (a + 1)) (r0_10 : S a 10 = some (a + 2)) (r0_11 : S a 11 = some (a + 3)) (r0_12 : S a 12 = some (a + 4)) (r0_13 : S a 13 = some (a + 5)) (r0_14 : S a 14 = some (a + 6)) (r0_15 : S a 15 = some (a + 7)) (r0_16 : S a 16 = some (a + 8)) (r0_17 : S a 17 = some (a + 9)) (r0_20 : S a 20 = some (a + 10)) (r0_21 : S a 21 = some (a + 11)) (r0_22 : S a 22 = some (a + 12)) (r0_23 : S a 23 = some (a + 13)) (r0_24 : S a 24 = some (a + 14)) (r0_29 : S a 29 = some (a + 15)) (r0_30 : S a 30 = some (a + 16)) (r0_35 : S a 35 = some (a + 17)) : hMo T S a := by
  refine ⟨fun k q hk => ?_, fun q hq => ?_⟩
  · match k, hk with
    | 0, hk => cases hk; exact t0
    | 1, hk => cases hk; exact t1
    | 2, hk => cases hk; exact t2
    | 3, hk => cases hk; exact t3
    | 4, hk => cases hk; exact t4
    | 5, hk => cases hk; exact t5
    | 6, hk => cases hk; exact t6
    | 7, hk => cases hk; exact t7
    | 8, hk => cases hk; exact t8
    | 9, hk => cases hk; exact t9
    | 10, hk => cases hk; exact t10
    | 11, hk => cases hk; exact t11
    | 12, hk => cases hk; exact t12
    | 13, hk => cases hk; exact t13
    | 14, hk => cases hk; exact t14
    | 15, hk => cases hk; exact t15
    | 16, hk => cases hk; exact t16
    | 17, hk => cases hk; exact t17
    | (k + 18), hk => cases hk
  · simp only [rMo, List.mem_cons, List.not_mem_nil, or_false] at hq
    rcases hq with rfl | rfl | rfl | rfl | rfl | rfl | rfl | rfl | rfl | rfl | rfl | rfl | rfl | rfl | rfl | rfl | rfl
    · exact r0_1
    · exact r0_10
    · exact r0_11
    · exact r0_12
    · exact r0_13
    · exact r0_14
    · exact r0_15
    · exact r0_16
    · exact r0_17
    · exact r0_20
    · exact r0_21
    · exact r0_22
    · exact r0_23
    · exact r0_24
    · exact r0_29
    · exact r0_30
    · exact r0_35
section C9
variable {Γ : Gam} {d : Nat} {T : JT} {R S : JR} {I : JI} {L : JL} {D : JD} {a : Nat}
theorem ex_ba_init (hT : T a = some (.inl 0)) (hF : Fre R S I L D a) : Ex Γ (d + 1) Y_X0_init [.ref a] (T, R, S, I, L, D, some (a + 1)) 7 614 (rG (mkQ (fun T' R' => hBa T' R' a) T R S I L D a 8)) := by
  have hF1 := hF.up (Nat.le_succ a)
  refine Ex.of (by decide) (by simp [Value.category]) (Nat.le_of_ble_eq_true rfl) rfl ?_
  refine jj_aload_n (q := 1) dX0_init_0 rfl rfl rfl ?_
  refine jj_objInit (q := 4) dX0_init_1 ko_X0_3 ko_i ko_c (by show 1 ≤ d + 1; omega) (by show 20 ≤ 40 * (d + 1); omega) rfl rfl ?_
  refine jj_aload_n (q := 5) dX0_init_4 rfl rfl rfl ?_
  refine jj_iconst (v := 0) (q := 6) dX0_init_5 rfl rfl ?_
  refine jj_putIv (q := 9) dX0_init_6 fl_X0_9 (by simp [u1, hT]) hF.i0 rfl rfl rfl rfl rfl ?_
  refine jj_aload_n (q := 10) dX0_init_9 rfl rfl rfl ?_
  refine jj_bipush (v := 100) (q := 12) dX0_init_10 rfl rfl ?_
  refine jj_newI (n := 100) (N := 100) (z0 := a + 1) (z1 := a + 2) (q := 14) dX0_init_12 (by refine Fre.up ?_ (show a + 1 ≤ _ by omega); (repeat (first | refine Fre.uR ?_ (by omega) | refine Fre.uS ?_ (by omega) | refine Fre.uI ?_ (by omega))); exact hF1) ka_int (by decide) rfl rfl ⟨Nat.le_of_ble_eq_true rfl, Nat.le_of_ble_eq_true rfl⟩ rfl rfl ?_
  refine jj_putFR (q := 17) dX0_init_14 fl_X0_15 rfl (by simp [u1, hT]) rfl rfl rfl rfl rfl rfl rfl ?_
  refine jj_aload_n (q := 18) dX0_init_17 rfl rfl rfl ?_
  refine jj_bipush (v := 100) (q := 20) dX0_init_18 rfl rfl ?_
  refine jj_newI (n := 100) (N := 100) (z0 := a + 2) (z1 := a + 3) (q := 22) dX0_init_20 (by refine Fre.up ?_ (show a + 1 ≤ _ by omega); (repeat (first | refine Fre.uR ?_ (by omega) | refine Fre.uS ?_ (by omega) | refine Fre.uI ?_ (by omega))); exact hF1) ka_int (by decide) rfl rfl ⟨Nat.le_of_ble_eq_true rfl, Nat.le_of_ble_eq_true rfl⟩ rfl rfl ?_
  refine jj_putFR (q := 25) dX0_init_22 fl_X0_19 rfl (by simp [u1, hT]) rfl rfl rfl rfl rfl rfl rfl ?_
  refine jj_aload_n (q := 26) dX0_init_25 rfl rfl rfl ?_
  refine jj_bipush (v := 100) (q := 28) dX0_init_26 rfl rfl ?_
  refine jj_newI (n := 100) (N := 100) (z0 := a + 3) (z1 := a + 4) (q := 30) dX0_init_28 (by refine Fre.up ?_ (show a + 1 ≤ _ by omega); (repeat (first | refine Fre.uR ?_ (by omega) | refine Fre.uS ?_ (by omega) | refine Fre.uI ?_ (by omega))); exact hF1) ka_int (by decide) rfl rfl ⟨Nat.le_of_ble_eq_true rfl, Nat.le_of_ble_eq_true rfl⟩ rfl rfl ?_
  refine jj_putFR (q := 33) dX0_init_30 fl_X0_22 rfl (by simp [u1, hT]) rfl rfl rfl rfl rfl rfl rfl ?_
  refine jj_aload_n (q := 34) dX0_init_33 rfl rfl rfl ?_
  refine jj_bipush (v := 100) (q := 36) dX0_init_34 rfl rfl ?_
  refine jj_newI (n := 100) (N := 100) (z0 := a + 4) (z1 := a + 5) (q := 38) dX0_init_36 (by refine Fre.up ?_ (show a + 1 ≤ _ by omega); (repeat (first | refine Fre.uR ?_ (by omega) | refine Fre.uS ?_ (by omega) | refine Fre.uI ?_ (by omega))); exact hF1) ka_int (by decide) rfl rfl ⟨Nat.le_of_ble_eq_true rfl, Nat.le_of_ble_eq_true rfl⟩ rfl rfl ?_
  refine jj_putFR (q := 41) dX0_init_38 fl_X0_25 rfl (by simp [u1, hT]) rfl rfl rfl rfl rfl rfl rfl ?_
  refine jj_aload_n (q := 42) dX0_init_41 rfl rfl rfl ?_
  refine jj_bipush (v := 100) (q := 44) dX0_init_42 rfl rfl ?_
  refine jj_newI (n := 100) (N := 100) (z0 := a + 5) (z1 := a + 6) (q := 46) dX0_init_44 (by refine Fre.up ?_ (show a + 1 ≤ _ by omega); (repeat (first | refine Fre.uR ?_ (by omega) | refine Fre.uS ?_ (by omega) | refine Fre.uI ?_ (by omega))); exact hF1) ka_int (by decide) rfl rfl ⟨Nat.le_of_ble_eq_true rfl, Nat.le_of_ble_eq_true rfl⟩ rfl rfl ?_
  refine jj_putFR (q := 49) dX0_init_46 fl_X0_28 rfl (by simp [u1, hT]) rfl rfl rfl rfl rfl rfl rfl ?_
  refine jj_aload_n (q := 50) dX0_init_49 rfl rfl rfl ?_
  refine jj_bipush (v := 100) (q := 52) dX0_init_50 rfl rfl ?_
  refine jj_newI (n := 100) (N := 100) (z0 := a + 6) (z1 := a + 7) (q := 54) dX0_init_52 (by refine Fre.up ?_ (show a + 1 ≤ _ by omega); (repeat (first | refine Fre.uR ?_ (by omega) | refine Fre.uS ?_ (by omega) | refine Fre.uI ?_ (by omega))); exact hF1) ka_int (by decide) rfl rfl ⟨Nat.le_of_ble_eq_true rfl, Nat.le_of_ble_eq_true rfl⟩ rfl rfl ?_
  refine jj_putFR (q := 57) dX0_init_54 fl_X0_31 rfl (by simp [u1, hT]) rfl rfl rfl rfl rfl rfl rfl ?_
  refine jj_aload_n (q := 58) dX0_init_57 rfl rfl rfl ?_
  refine jj_bipush (v := 14) (q := 60) dX0_init_58 rfl rfl ?_
  refine jj_newI (n := 14) (N := 14) (z0 := a + 7) (z1 := a + 8) (q := 62) dX0_init_60 (by refine Fre.up ?_ (show a + 1 ≤ _ by omega); (repeat (first | refine Fre.uR ?_ (by omega) | refine Fre.uS ?_ (by omega) | refine Fre.uI ?_ (by omega))); exact hF1) ka_int (by decide) rfl rfl ⟨Nat.le_of_ble_eq_true rfl, Nat.le_of_ble_eq_true rfl⟩ rfl rfl ?_
  refine jj_putFR (q := 65) dX0_init_62 fl_X0_34 rfl (by simp [u1, hT]) rfl rfl rfl rfl rfl rfl rfl ?_
  refine jj_vret dX0_init_65 rfl (Nat.le_of_ble_eq_true rfl) (Nat.le_of_ble_eq_true rfl) ?_
  refine ⟨rfl, _, _, rfl, ?_, (fun b hb => by repeat (rw [u1_ne (by omega)])), (fun b hb => by repeat (rw [u2_ne (by omega)]))⟩
  unfold hBa
  simp [u1, u2, hT]
theorem ex_ts_init (hT : T a = some (.inl 5)) (hF : Fre R S I L D a) : Ex Γ (d + 1) Y_X5_init [.ref a] (T, R, S, I, L, D, some (a + 1)) 4 1208 (rG (mkQ (fun T' R' => hTs T' R' a) T R S I L D a 5)) := by
  have hF1 := hF.up (Nat.le_succ a)
  refine Ex.of (by decide) (by simp [Value.category]) (Nat.le_of_ble_eq_true rfl) rfl ?_
  refine jj_aload_n (q := 1) dX5_init_0 rfl rfl rfl ?_
  refine jj_objInit (q := 4) dX5_init_1 ko_X5_3 ko_i ko_c (by show 1 ≤ d + 1; omega) (by show 20 ≤ 40 * (d + 1); omega) rfl rfl ?_
  refine jj_aload_n (q := 5) dX5_init_4 rfl rfl rfl ?_
  refine jj_iconst (v := 0) (q := 6) dX5_init_5 rfl rfl ?_
  refine jj_putIv (q := 9) dX5_init_6 fl_X5_9 (by simp [u1, hT]) hF.i0 rfl rfl rfl rfl rfl ?_
  refine jj_aload_n (q := 10) dX5_init_9 rfl rfl rfl ?_
  refine jj_iconst (v := 0) (q := 11) dX5_init_10 rfl rfl ?_
  refine jj_putIv (q := 14) dX5_init_11 fl_X5_15 (by simp [u1, hT]) hF.i0 rfl rfl rfl rfl rfl ?_
  refine jj_aload_n (q := 15) dX5_init_14 rfl rfl rfl ?_
  refine jj_iconst (v := 3) (q := 16) dX5_init_15 rfl rfl ?_
  refine jj_newI (n := 3) (N := 3) (z0 := a + 1) (z1 := a + 2) (q := 18) dX5_init_16 (by refine Fre.up ?_ (show a + 1 ≤ _ by omega); (repeat (first | refine Fre.uR ?_ (by omega) | refine Fre.uS ?_ (by omega) | refine Fre.uI ?_ (by omega))); exact hF1) ka_int (by decide) rfl rfl ⟨Nat.le_of_ble_eq_true rfl, Nat.le_of_ble_eq_true rfl⟩ rfl rfl ?_
  refine jj_putFR (q := 21) dX5_init_18 fl_X5_18 rfl (by simp [u1, hT]) rfl rfl rfl rfl rfl rfl rfl ?_
  refine jj_aload_n (q := 22) dX5_init_21 rfl rfl rfl ?_
  refine jj_sipush (v := 600) (q := 25) dX5_init_22 rfl rfl ?_
  refine jj_newI (n := 600) (N := 600) (z0 := a + 2) (z1 := a + 3) (q := 27) dX5_init_25 (by refine Fre.up ?_ (show a + 1 ≤ _ by omega); (repeat (first | refine Fre.uR ?_ (by omega) | refine Fre.uS ?_ (by omega) | refine Fre.uI ?_ (by omega))); exact hF1) ka_int (by decide) rfl rfl ⟨Nat.le_of_ble_eq_true rfl, Nat.le_of_ble_eq_true rfl⟩ rfl rfl ?_
  refine jj_putFR (q := 30) dX5_init_27 fl_X5_22 rfl (by simp [u1, hT]) rfl rfl rfl rfl rfl rfl rfl ?_
  refine jj_aload_n (q := 31) dX5_init_30 rfl rfl rfl ?_
  refine jj_sipush (v := 600) (q := 34) dX5_init_31 rfl rfl ?_
  refine jj_newI (n := 600) (N := 600) (z0 := a + 3) (z1 := a + 4) (q := 36) dX5_init_34 (by refine Fre.up ?_ (show a + 1 ≤ _ by omega); (repeat (first | refine Fre.uR ?_ (by omega) | refine Fre.uS ?_ (by omega) | refine Fre.uI ?_ (by omega))); exact hF1) ka_int (by decide) rfl rfl ⟨Nat.le_of_ble_eq_true rfl, Nat.le_of_ble_eq_true rfl⟩ rfl rfl ?_
  refine jj_putFR (q := 39) dX5_init_36 fl_X5_25 rfl (by simp [u1, hT]) rfl rfl rfl rfl rfl rfl rfl ?_
  refine jj_aload_n (q := 40) dX5_init_39 rfl rfl rfl ?_
  refine jj_iconst (v := 5) (q := 41) dX5_init_40 rfl rfl ?_
  refine jj_newI (n := 5) (N := 5) (z0 := a + 4) (z1 := a + 5) (q := 43) dX5_init_41 (by refine Fre.up ?_ (show a + 1 ≤ _ by omega); (repeat (first | refine Fre.uR ?_ (by omega) | refine Fre.uS ?_ (by omega) | refine Fre.uI ?_ (by omega))); exact hF1) ka_int (by decide) rfl rfl ⟨Nat.le_of_ble_eq_true rfl, Nat.le_of_ble_eq_true rfl⟩ rfl rfl ?_
  refine jj_putFR (q := 46) dX5_init_43 fl_X5_28 rfl (by simp [u1, hT]) rfl rfl rfl rfl rfl rfl rfl ?_
  refine jj_vret dX5_init_46 rfl (Nat.le_of_ble_eq_true rfl) (Nat.le_of_ble_eq_true rfl) ?_
  refine ⟨rfl, _, _, rfl, ?_, (fun b hb => by repeat (rw [u1_ne (by omega)])), (fun b hb => by repeat (rw [u2_ne (by omega)]))⟩
  unfold hTs
  simp [u1, u2, hT]
theorem ex_pa_init (hT : T a = some (.inl 2)) (hF : Fre R S I L D a) : Ex Γ (d + 1) Y_X2_init [.ref a] (T, R, S, I, L, D, some (a + 1)) 1 1200 (rG (mkQ (fun T' R' => hPa T' R' a) T R S (u2 I a 1 (-1)) L D a 2)) := by
  have hF1 := hF.up (Nat.le_succ a)
  refine Ex.of (by decide) (by simp [Value.category]) (Nat.le_of_ble_eq_true rfl) rfl ?_
  refine jj_aload_n (q := 1) dX2_init_0 rfl rfl rfl ?_
  refine jj_objInit (q := 4) dX2_init_1 ko_X2_3 ko_i ko_c (by show 1 ≤ d + 1; omega) (by show 20 ≤ 40 * (d + 1); omega) rfl rfl ?_
  refine jj_aload_n (q := 5) dX2_init_4 rfl rfl rfl ?_
  refine jj_iconst (v := 0) (q := 6) dX2_init_5 rfl rfl ?_
  refine jj_putIv (q := 9) dX2_init_6 fl_X2_9 (by simp [u1, hT]) (by first | exact hF.i0 | exact hF.i1 (by omega)) rfl rfl rfl rfl rfl ?_
  refine jj_aload_n (q := 10) dX2_init_9 rfl rfl rfl ?_
  refine jj_iconst (v := -1) (q := 11) dX2_init_10 rfl rfl ?_
  refine jj_putIv (q := 14) dX2_init_11 fl_X2_15 (by simp [u1, hT]) rfl rfl rfl rfl rfl rfl ?_
  refine jj_aload_n (q := 15) dX2_init_14 rfl rfl rfl ?_
  refine jj_iconst (v := 0) (q := 16) dX2_init_15 rfl rfl ?_
  refine jj_putIv (q := 19) dX2_init_16 fl_X2_18 (by simp [u1, hT]) (by first | exact hF.i0 | exact hF.i1 (by omega)) rfl rfl rfl rfl rfl ?_
  refine jj_aload_n (q := 20) dX2_init_19 rfl rfl rfl ?_
  refine jj_sipush (v := 1200) (q := 23) dX2_init_20 rfl rfl ?_
  refine jj_newB (n := 1200) (N := 1200) (z0 := a + 1) (z1 := a + 2) (q := 25) dX2_init_23 (by refine Fre.up ?_ (show a + 1 ≤ _ by omega); (repeat (first | refine Fre.uR ?_ (by omega) | refine Fre.uS ?_ (by omega) | refine Fre.uI ?_ (by omega))); exact hF1) ka_byte (by decide) rfl rfl ⟨Nat.le_of_ble_eq_true rfl, Nat.le_of_ble_eq_true rfl⟩ rfl rfl ?_
  refine jj_putFR (q := 28) dX2_init_25 fl_X2_21 rfl (by simp [u1, hT]) rfl rfl rfl rfl rfl rfl rfl ?_
  refine jj_aload_n (q := 29) dX2_init_28 rfl rfl rfl ?_
  refine jj_iconst (v := 0) (q := 30) dX2_init_29 rfl rfl ?_
  refine jj_putIv (q := 33) dX2_init_30 fl_X2_25 (by simp [u1, hT]) (by first | exact hF.i0 | exact hF.i1 (by omega)) rfl rfl rfl rfl rfl ?_
  refine jj_aload_n (q := 34) dX2_init_33 rfl rfl rfl ?_
  refine jj_iconst (v := 0) (q := 35) dX2_init_34 rfl rfl ?_
  refine jj_putIv (q := 38) dX2_init_35 fl_X2_28 (by simp [u1, hT]) (by first | exact hF.i0 | exact hF.i1 (by omega)) rfl rfl rfl rfl rfl ?_
  refine jj_aload_n (q := 39) dX2_init_38 rfl rfl rfl ?_
  refine jj_iconst (v := 0) (q := 40) dX2_init_39 rfl rfl ?_
  refine jj_putIv (q := 43) dX2_init_40 fl_X2_31 (by simp [u1, hT]) (by first | exact hF.i0 | exact hF.i1 (by omega)) rfl rfl rfl rfl rfl ?_
  refine jj_aload_n (q := 44) dX2_init_43 rfl rfl rfl ?_
  refine jj_iconst (v := 0) (q := 45) dX2_init_44 rfl rfl ?_
  refine jj_putIv (q := 48) dX2_init_45 fl_X2_34 (by simp [u1, hT]) (by first | exact hF.i0 | exact hF.i1 (by omega)) rfl rfl rfl rfl rfl ?_
  refine jj_aload_n (q := 49) dX2_init_48 rfl rfl rfl ?_
  refine jj_iconst (v := 0) (q := 50) dX2_init_49 rfl rfl ?_
  refine jj_putIv (q := 53) dX2_init_50 fl_X2_37 (by simp [u1, hT]) (by first | exact hF.i0 | exact hF.i1 (by omega)) rfl rfl rfl rfl rfl ?_
  refine jj_aload_n (q := 54) dX2_init_53 rfl rfl rfl ?_
  refine jj_lconst (v := 0) (q := 55) dX2_init_54 rfl rfl ?_
  refine jj_putLv (q := 58) dX2_init_55 fl_X2_40 (by simp [u1, hT]) hF.l0 rfl rfl rfl ?_
  refine jj_vret dX2_init_58 rfl (Nat.le_of_ble_eq_true rfl) (Nat.le_of_ble_eq_true rfl) ?_
  refine ⟨rfl, _, _, rfl, mk_hPa (by simp [u1, hT]) (by simp [u1]) (by simp [u2]), (fun b hb => by repeat (rw [u1_ne (by omega)])), (fun b hb => by repeat (rw [u2_ne (by omega)]))⟩
theorem ex_tx_init (hT : T a = some (.inl 6)) (hF : Fre R S I L D a) {n : Nat} (hn : n ≤ 400) : Ex Γ (d + 1) Y_X6_init [.ref a, .int (nI n)] (T, R, S, I, L, D, some (a + 1)) 1 n (rG (mkQ (fun T' R' => hTx T' R' a n) T R S I L D a 2)) := by
  have hF1 := hF.up (Nat.le_succ a)
  refine Ex.of (by decide) (by simp [Value.category]) (Nat.le_of_ble_eq_true rfl) rfl ?_
  refine jj_aload_n (q := 1) dX6_init_0 rfl rfl rfl ?_
  refine jj_objInit (q := 4) dX6_init_1 ko_X6_3 ko_i ko_c (by show 1 ≤ d + 1; omega) (by show 20 ≤ 40 * (d + 1); omega) rfl rfl ?_
  refine jj_aload_n (q := 5) dX6_init_4 rfl rfl rfl ?_
  refine jj_iconst (v := 0) (q := 6) dX6_init_5 rfl rfl ?_
  refine jj_putIv (q := 9) dX6_init_6 fl_X6_9 (by simp [u1, hT]) hF.i0 rfl rfl rfl rfl rfl ?_
  refine jj_aload_n (q := 10) dX6_init_9 rfl rfl rfl ?_
  refine jj_iload_n (q := 11) dX6_init_10 rfl rfl rfl ?_
  refine jj_iconst (v := 0) (q := 12) dX6_init_11 rfl rfl ?_
  refine jj_mmax (q := 15) dX6_init_12 km_X6_15 rfl rfl ⟨Nat.zero_le _, Nat.zero_le _⟩ ?_
  rw [show (if nI n < 0 then 0 else nI n) = nI n from if_neg (nI_ltz (by omega))]
  refine jj_newB (z0 := a + 1) (z1 := a + 2) (q := 17) dX6_init_15 (by refine Fre.up ?_ (show a + 1 ≤ _ by omega); (repeat (first | refine Fre.uR ?_ (by omega) | refine Fre.uS ?_ (by omega) | refine Fre.uI ?_ (by omega))); exact hF1) ka_byte (nI_ltz (by omega)) (nI_clamp (by omega)) (Nat.ble_eq_true_of_le (by show n * 1 ≤ _; omega)) ⟨Nat.le_of_ble_eq_true rfl, by show 0 + n ≤ n; omega⟩ rfl rfl ?_
  refine jj_putFR (q := 20) dX6_init_17 fl_X6_21 rfl (by simp [u1, hT]) rfl rfl rfl rfl rfl rfl rfl ?_
  refine jj_vret dX6_init_20 rfl (Nat.le_of_ble_eq_true rfl) (by omega) ?_
  refine ⟨rfl, _, _, rfl, ⟨by simp [u1, hT], by simp [u2], by simp [u1]⟩, (fun b hb => by repeat (rw [u1_ne (by omega)])), (fun b hb => by repeat (rw [u2_ne (by omega)]))⟩
end C9
