/-! SHAPES: which cells a thing has, one behind the other (by program) -/
def sSt : List (Nat ⊕ (FieldType × Nat)) := [.inl 4, .inl 0, .inr (.int, 100), .inr (.int, 100), .inr (.int, 100), .inr (.int, 100), .inr (.int, 100), .inr (.int, 100), .inr (.int, 14), .inr (.int, 8), .inr (.int, 8), .inr (.int, 4), .inr (.int, 4), .inr (.int, 80), .inr (.int, 40), .inr (.int, 12), .inr (.int, 12), .inr (.int, 12), .inr (.int, 300)]
def rSt : List (Nat × Nat × Nat) := [(0, 4, 1), (1, 1, 2), (1, 2, 3), (1, 3, 4), (1, 4, 5), (1, 5, 6), (1, 6, 7), (1, 7, 8), (0, 5, 9), (0, 6, 10), (0, 7, 11), (0, 8, 12), (0, 9, 13), (0, 10, 14), (0, 11, 15), (0, 12, 16), (0, 13, 17), (0, 15, 18)]
def hSt (T : JT) (R : JR) (a : Nat) : Prop := (∀ (k : Nat) (q : Nat ⊕ (FieldType × Nat)), sSt[k]? = some q → T (a + k) = some q) ∧ ∀ q ∈ rSt, R (a + q.1) q.2.1 = some (a + q.2.2)
theorem hSt.t0 {T : JT} {R : JR} {a : Nat} (h : hSt T R a) : T a = some (.inl 4) := h.1 0 _ rfl
theorem hSt.t1 {T : JT} {R : JR} {a : Nat} (h : hSt T R a) : T (a + 1) = some (.inl 0) := h.1 1 _ rfl
theorem hSt.t2 {T : JT} {R : JR} {a : Nat} (h : hSt T R a) : T (a + 2) = some (.inr (.int, 100)) := h.1 2 _ rfl
theorem hSt.t3 {T : JT} {R : JR} {a : Nat} (h : hSt T R a) : T (a + 3) = some (.inr (.int, 100)) := h.1 3 _ rfl
theorem hSt.t4 {T : JT} {R : JR} {a : Nat} (h : hSt T R a) : T (a + 4) = some (.inr (.int, 100)) := h.1 4 _ rfl
theorem hSt.t5 {T : JT} {R : JR} {a : Nat} (h : hSt T R a) : T (a + 5) = some (.inr (.int, 100)) := h.1 5 _ rfl
theorem hSt.t6 {T : JT} {R : JR} {a : Nat} (h : hSt T R a) : T (a + 6) = some (.inr (.int, 100)) := h.1 6 _ rfl
theorem hSt.t7 {T : JT} {R : JR} {a : Nat} (h : hSt T R a) : T (a + 7) = some (.inr (.int, 100)) := h.1 7 _ rfl
theorem hSt.t8 {T : JT} {R : JR} {a : Nat} (h : hSt T R a) : T (a + 8) = some (.inr (.int, 14)) := h.1 8 _ rfl
theorem hSt.t9 {T : JT} {R : JR} {a : Nat} (h : hSt T R a) : T (a + 9) = some (.inr (.int, 8)) := h.1 9 _ rfl
theorem hSt.t10 {T : JT} {R : JR} {a : Nat} (h : hSt T R a) : T (a + 10) = some (.inr (.int, 8)) := h.1 10 _ rfl
theorem hSt.t11 {T : JT} {R : JR} {a : Nat} (h : hSt T R a) : T (a + 11) = some (.inr (.int, 4)) := h.1 11 _ rfl
theorem hSt.t12 {T : JT} {R : JR} {a : Nat} (h : hSt T R a) : T (a + 12) = some (.inr (.int, 4)) := h.1 12 _ rfl
theorem hSt.t13 {T : JT} {R : JR} {a : Nat} (h : hSt T R a) : T (a + 13) = some (.inr (.int, 80)) := h.1 13 _ rfl
theorem hSt.t14 {T : JT} {R : JR} {a : Nat} (h : hSt T R a) : T (a + 14) = some (.inr (.int, 40)) := h.1 14 _ rfl
theorem hSt.t15 {T : JT} {R : JR} {a : Nat} (h : hSt T R a) : T (a + 15) = some (.inr (.int, 12)) := h.1 15 _ rfl
theorem hSt.t16 {T : JT} {R : JR} {a : Nat} (h : hSt T R a) : T (a + 16) = some (.inr (.int, 12)) := h.1 16 _ rfl
theorem hSt.t17 {T : JT} {R : JR} {a : Nat} (h : hSt T R a) : T (a + 17) = some (.inr (.int, 12)) := h.1 17 _ rfl
theorem hSt.t18 {T : JT} {R : JR} {a : Nat} (h : hSt T R a) : T (a + 18) = some (.inr (.int, 300)) := h.1 18 _ rfl
theorem hSt.r0_4 {T : JT} {R : JR} {a : Nat} (h : hSt T R a) : R a 4 = some (a + 1) := h.2 (0, 4, 1) (by decide)
theorem hSt.r1_1 {T : JT} {R : JR} {a : Nat} (h : hSt T R a) : R (a + 1) 1 = some (a + 2) := h.2 (1, 1, 2) (by decide)
theorem hSt.r1_2 {T : JT} {R : JR} {a : Nat} (h : hSt T R a) : R (a + 1) 2 = some (a + 3) := h.2 (1, 2, 3) (by decide)
theorem hSt.r1_3 {T : JT} {R : JR} {a : Nat} (h : hSt T R a) : R (a + 1) 3 = some (a + 4) := h.2 (1, 3, 4) (by decide)
theorem hSt.r1_4 {T : JT} {R : JR} {a : Nat} (h : hSt T R a) : R (a + 1) 4 = some (a + 5) := h.2 (1, 4, 5) (by decide)
theorem hSt.r1_5 {T : JT} {R : JR} {a : Nat} (h : hSt T R a) : R (a + 1) 5 = some (a + 6) := h.2 (1, 5, 6) (by decide)
theorem hSt.r1_6 {T : JT} {R : JR} {a : Nat} (h : hSt T R a) : R (a + 1) 6 = some (a + 7) := h.2 (1, 6, 7) (by decide)
theorem hSt.r1_7 {T : JT} {R : JR} {a : Nat} (h : hSt T R a) : R (a + 1) 7 = some (a + 8) := h.2 (1, 7, 8) (by decide)
theorem hSt.r0_5 {T : JT} {R : JR} {a : Nat} (h : hSt T R a) : R a 5 = some (a + 9) := h.2 (0, 5, 9) (by decide)
theorem hSt.r0_6 {T : JT} {R : JR} {a : Nat} (h : hSt T R a) : R a 6 = some (a + 10) := h.2 (0, 6, 10) (by decide)
theorem hSt.r0_7 {T : JT} {R : JR} {a : Nat} (h : hSt T R a) : R a 7 = some (a + 11) := h.2 (0, 7, 11) (by decide)
theorem hSt.r0_8 {T : JT} {R : JR} {a : Nat} (h : hSt T R a) : R a 8 = some (a + 12) := h.2 (0, 8, 12) (by decide)
theorem hSt.r0_9 {T : JT} {R : JR} {a : Nat} (h : hSt T R a) : R a 9 = some (a + 13) := h.2 (0, 9, 13) (by decide)
theorem hSt.r0_10 {T : JT} {R : JR} {a : Nat} (h : hSt T R a) : R a 10 = some (a + 14) := h.2 (0, 10, 14) (by decide)
theorem hSt.r0_11 {T : JT} {R : JR} {a : Nat} (h : hSt T R a) : R a 11 = some (a + 15) := h.2 (0, 11, 15) (by decide)
theorem hSt.r0_12 {T : JT} {R : JR} {a : Nat} (h : hSt T R a) : R a 12 = some (a + 16) := h.2 (0, 12, 16) (by decide)
theorem hSt.r0_13 {T : JT} {R : JR} {a : Nat} (h : hSt T R a) : R a 13 = some (a + 17) := h.2 (0, 13, 17) (by decide)
theorem hSt.r0_15 {T : JT} {R : JR} {a : Nat} (h : hSt T R a) : R a 15 = some (a + 18) := h.2 (0, 15, 18) (by decide)
def sPl : List (Nat ⊕ (FieldType × Nat)) := [.inl 3, .inr (.int, 3), .inr (.int, 3), .inr (.int, 3), .inr (.int, 8), .inr (.int, 4), .inr (.int, 4), .inr (.int, 4), .inr (.int, 4), .inr (.int, 4), .inr (.int, 4), .inl 5, .inr (.int, 3), .inr (.int, 600), .inr (.int, 600), .inr (.int, 5)]
def rPl : List (Nat × Nat × Nat) := [(0, 3, 1), (0, 4, 2), (0, 5, 3), (0, 7, 4), (0, 9, 5), (0, 10, 6), (0, 12, 7), (0, 13, 8), (0, 14, 9), (0, 15, 10), (0, 16, 11), (11, 2, 12), (11, 3, 13), (11, 4, 14), (11, 5, 15)]
def hPl (T : JT) (R : JR) (a : Nat) : Prop := (∀ (k : Nat) (q : Nat ⊕ (FieldType × Nat)), sPl[k]? = some q → T (a + k) = some q) ∧ ∀ q ∈ rPl, R (a + q.1) q.2.1 = some (a + q.2.2)
theorem hPl.t0 {T : JT} {R : JR} {a : Nat} (h : hPl T R a) : T a = some (.inl 3) := h.1 0 _ rfl
theorem hPl.t1 {T : JT} {R : JR} {a : Nat} (h : hPl T R a) : T (a + 1) = some (.inr (.int, 3)) := h.1 1 _ rfl
theorem hPl.t2 {T : JT} {R : JR} {a : Nat} (h : hPl T R a) : T (a + 2) = some (.inr (.int, 3)) := h.1 2 _ rfl
theorem hPl.t3 {T : JT} {R : JR} {a : Nat} (h : hPl T R a) : T (a + 3) = some (.inr (.int, 3)) := h.1 3 _ rfl
theorem hPl.t4 {T : JT} {R : JR} {a : Nat} (h : hPl T R a) : T (a + 4) = some (.inr (.int, 8)) := h.1 4 _ rfl
theorem hPl.t5 {T : JT} {R : JR} {a : Nat} (h : hPl T R a) : T (a + 5) = some (.inr (.int, 4)) := h.1 5 _ rfl
theorem hPl.t6 {T : JT} {R : JR} {a : Nat} (h : hPl T R a) : T (a + 6) = some (.inr (.int, 4)) := h.1 6 _ rfl
theorem hPl.t7 {T : JT} {R : JR} {a : Nat} (h : hPl T R a) : T (a + 7) = some (.inr (.int, 4)) := h.1 7 _ rfl
theorem hPl.t8 {T : JT} {R : JR} {a : Nat} (h : hPl T R a) : T (a + 8) = some (.inr (.int, 4)) := h.1 8 _ rfl
theorem hPl.t9 {T : JT} {R : JR} {a : Nat} (h : hPl T R a) : T (a + 9) = some (.inr (.int, 4)) := h.1 9 _ rfl
theorem hPl.t10 {T : JT} {R : JR} {a : Nat} (h : hPl T R a) : T (a + 10) = some (.inr (.int, 4)) := h.1 10 _ rfl
theorem hPl.t11 {T : JT} {R : JR} {a : Nat} (h : hPl T R a) : T (a + 11) = some (.inl 5) := h.1 11 _ rfl
theorem hPl.t12 {T : JT} {R : JR} {a : Nat} (h : hPl T R a) : T (a + 12) = some (.inr (.int, 3)) := h.1 12 _ rfl
theorem hPl.t13 {T : JT} {R : JR} {a : Nat} (h : hPl T R a) : T (a + 13) = some (.inr (.int, 600)) := h.1 13 _ rfl
theorem hPl.t14 {T : JT} {R : JR} {a : Nat} (h : hPl T R a) : T (a + 14) = some (.inr (.int, 600)) := h.1 14 _ rfl
theorem hPl.t15 {T : JT} {R : JR} {a : Nat} (h : hPl T R a) : T (a + 15) = some (.inr (.int, 5)) := h.1 15 _ rfl
theorem hPl.r0_3 {T : JT} {R : JR} {a : Nat} (h : hPl T R a) : R a 3 = some (a + 1) := h.2 (0, 3, 1) (by decide)
theorem hPl.r0_4 {T : JT} {R : JR} {a : Nat} (h : hPl T R a) : R a 4 = some (a + 2) := h.2 (0, 4, 2) (by decide)
theorem hPl.r0_5 {T : JT} {R : JR} {a : Nat} (h : hPl T R a) : R a 5 = some (a + 3) := h.2 (0, 5, 3) (by decide)
theorem hPl.r0_7 {T : JT} {R : JR} {a : Nat} (h : hPl T R a) : R a 7 = some (a + 4) := h.2 (0, 7, 4) (by decide)
theorem hPl.r0_9 {T : JT} {R : JR} {a : Nat} (h : hPl T R a) : R a 9 = some (a + 5) := h.2 (0, 9, 5) (by decide)
theorem hPl.r0_10 {T : JT} {R : JR} {a : Nat} (h : hPl T R a) : R a 10 = some (a + 6) := h.2 (0, 10, 6) (by decide)
theorem hPl.r0_12 {T : JT} {R : JR} {a : Nat} (h : hPl T R a) : R a 12 = some (a + 7) := h.2 (0, 12, 7) (by decide)
theorem hPl.r0_13 {T : JT} {R : JR} {a : Nat} (h : hPl T R a) : R a 13 = some (a + 8) := h.2 (0, 13, 8) (by decide)
theorem hPl.r0_14 {T : JT} {R : JR} {a : Nat} (h : hPl T R a) : R a 14 = some (a + 9) := h.2 (0, 14, 9) (by decide)
theorem hPl.r0_15 {T : JT} {R : JR} {a : Nat} (h : hPl T R a) : R a 15 = some (a + 10) := h.2 (0, 15, 10) (by decide)
theorem hPl.r0_16 {T : JT} {R : JR} {a : Nat} (h : hPl T R a) : R a 16 = some (a + 11) := h.2 (0, 16, 11) (by decide)
theorem hPl.r11_2 {T : JT} {R : JR} {a : Nat} (h : hPl T R a) : R (a + 11) 2 = some (a + 12) := h.2 (11, 2, 12) (by decide)
theorem hPl.r11_3 {T : JT} {R : JR} {a : Nat} (h : hPl T R a) : R (a + 11) 3 = some (a + 13) := h.2 (11, 3, 13) (by decide)
theorem hPl.r11_4 {T : JT} {R : JR} {a : Nat} (h : hPl T R a) : R (a + 11) 4 = some (a + 14) := h.2 (11, 4, 14) (by decide)
theorem hPl.r11_5 {T : JT} {R : JR} {a : Nat} (h : hPl T R a) : R (a + 11) 5 = some (a + 15) := h.2 (11, 5, 15) (by decide)
def sPa : List (Nat ⊕ (FieldType × Nat)) := [.inl 2, .inr (.byte, 1200)]
def rPa : List (Nat × Nat × Nat) := [(0, 3, 1)]
def hPa (T : JT) (R : JR) (a : Nat) : Prop := (∀ (k : Nat) (q : Nat ⊕ (FieldType × Nat)), sPa[k]? = some q → T (a + k) = some q) ∧ ∀ q ∈ rPa, R (a + q.1) q.2.1 = some (a + q.2.2)
theorem hPa.t0 {T : JT} {R : JR} {a : Nat} (h : hPa T R a) : T a = some (.inl 2) := h.1 0 _ rfl
theorem hPa.t1 {T : JT} {R : JR} {a : Nat} (h : hPa T R a) : T (a + 1) = some (.inr (.byte, 1200)) := h.1 1 _ rfl
theorem hPa.r0_3 {T : JT} {R : JR} {a : Nat} (h : hPa T R a) : R a 3 = some (a + 1) := h.2 (0, 3, 1) (by decide)
def sMo : List (Nat ⊕ (FieldType × Nat)) := [.inl 8, .inr (.int, 1200), .inr (.int, 51), .inr (.int, 51), .inr (.int, 2086), .inr (.int, 2086), .inr (.int, 2086), .inr (.int, 12516), .inr (.int, 4172), .inr (.boolean, 2), .inr (.object "java/lang/String", 5), .inr (.int, 1400), .inr (.int, 1400), .inr (.int, 1400), .inr (.int, 1400), .inr (.int, 200), .inr (.int, 400), .inr (.int, 40)]
def rMo : List (Nat × Nat × Nat) := [(0, 1, 1), (0, 10, 2), (0, 11, 3), (0, 12, 4), (0, 13, 5), (0, 14, 6), (0, 15, 7), (0, 16, 8), (0, 17, 9), (0, 20, 10), (0, 21, 11), (0, 22, 12), (0, 23, 13), (0, 24, 14), (0, 29, 15), (0, 30, 16), (0, 35, 17)]
def hMo (T : JT) (S : JR) (a : Nat) : Prop := (∀ (k : Nat) (q : Nat ⊕ (FieldType × Nat)), sMo[k]? = some q → T (a + k) = some q) ∧ ∀ q ∈ rMo, S (a + q.1) q.2.1 = some (a + q.2.2)
theorem hMo.t0 {T : JT} {S : JR} {a : Nat} (h : hMo T S a) : T a = some (.inl 8) := h.1 0 _ rfl
theorem hMo.t1 {T : JT} {S : JR} {a : Nat} (h : hMo T S a) : T (a + 1) = some (.inr (.int, 1200)) := h.1 1 _ rfl
theorem hMo.t2 {T : JT} {S : JR} {a : Nat} (h : hMo T S a) : T (a + 2) = some (.inr (.int, 51)) := h.1 2 _ rfl
theorem hMo.t3 {T : JT} {S : JR} {a : Nat} (h : hMo T S a) : T (a + 3) = some (.inr (.int, 51)) := h.1 3 _ rfl
theorem hMo.t4 {T : JT} {S : JR} {a : Nat} (h : hMo T S a) : T (a + 4) = some (.inr (.int, 2086)) := h.1 4 _ rfl
theorem hMo.t5 {T : JT} {S : JR} {a : Nat} (h : hMo T S a) : T (a + 5) = some (.inr (.int, 2086)) := h.1 5 _ rfl
theorem hMo.t6 {T : JT} {S : JR} {a : Nat} (h : hMo T S a) : T (a + 6) = some (.inr (.int, 2086)) := h.1 6 _ rfl
theorem hMo.t7 {T : JT} {S : JR} {a : Nat} (h : hMo T S a) : T (a + 7) = some (.inr (.int, 12516)) := h.1 7 _ rfl
theorem hMo.t8 {T : JT} {S : JR} {a : Nat} (h : hMo T S a) : T (a + 8) = some (.inr (.int, 4172)) := h.1 8 _ rfl
theorem hMo.t9 {T : JT} {S : JR} {a : Nat} (h : hMo T S a) : T (a + 9) = some (.inr (.boolean, 2)) := h.1 9 _ rfl
theorem hMo.t10 {T : JT} {S : JR} {a : Nat} (h : hMo T S a) : T (a + 10) = some (.inr (.object "java/lang/String", 5)) := h.1 10 _ rfl
theorem hMo.t11 {T : JT} {S : JR} {a : Nat} (h : hMo T S a) : T (a + 11) = some (.inr (.int, 1400)) := h.1 11 _ rfl
theorem hMo.t12 {T : JT} {S : JR} {a : Nat} (h : hMo T S a) : T (a + 12) = some (.inr (.int, 1400)) := h.1 12 _ rfl
theorem hMo.t13 {T : JT} {S : JR} {a : Nat} (h : hMo T S a) : T (a + 13) = some (.inr (.int, 1400)) := h.1 13 _ rfl
theorem hMo.t14 {T : JT} {S : JR} {a : Nat} (h : hMo T S a) : T (a + 14) = some (.inr (.int, 1400)) := h.1 14 _ rfl
theorem hMo.t15 {T : JT} {S : JR} {a : Nat} (h : hMo T S a) : T (a + 15) = some (.inr (.int, 200)) := h.1 15 _ rfl
theorem hMo.t16 {T : JT} {S : JR} {a : Nat} (h : hMo T S a) : T (a + 16) = some (.inr (.int, 400)) := h.1 16 _ rfl
theorem hMo.t17 {T : JT} {S : JR} {a : Nat} (h : hMo T S a) : T (a + 17) = some (.inr (.int, 40)) := h.1 17 _ rfl
theorem hMo.r0_1 {T : JT} {S : JR} {a : Nat} (h : hMo T S a) : S a 1 = some (a + 1) := h.2 (0, 1, 1) (by decide)
theorem hMo.r0_10 {T : JT} {S : JR} {a : Nat} (h : hMo T S a) : S a 10 = some (a + 2) := h.2 (0, 10, 2) (by decide)
theorem hMo.r0_11 {T : JT} {S : JR} {a : Nat} (h : hMo T S a) : S a 11 = some (a + 3) := h.2 (0, 11, 3) (by decide)
theorem hMo.r0_12 {T : JT} {S : JR} {a : Nat} (h : hMo T S a) : S a 12 = some (a + 4) := h.2 (0, 12, 4) (by decide)
theorem hMo.r0_13 {T : JT} {S : JR} {a : Nat} (h : hMo T S a) : S a 13 = some (a + 5) := h.2 (0, 13, 5) (by decide)
theorem hMo.r0_14 {T : JT} {S : JR} {a : Nat} (h : hMo T S a) : S a 14 = some (a + 6) := h.2 (0, 14, 6) (by decide)
theorem hMo.r0_15 {T : JT} {S : JR} {a : Nat} (h : hMo T S a) : S a 15 = some (a + 7) := h.2 (0, 15, 7) (by decide)
theorem hMo.r0_16 {T : JT} {S : JR} {a : Nat} (h : hMo T S a) : S a 16 = some (a + 8) := h.2 (0, 16, 8) (by decide)
theorem hMo.r0_17 {T : JT} {S : JR} {a : Nat} (h : hMo T S a) : S a 17 = some (a + 9) := h.2 (0, 17, 9) (by decide)
theorem hMo.r0_20 {T : JT} {S : JR} {a : Nat} (h : hMo T S a) : S a 20 = some (a + 10) := h.2 (0, 20, 10) (by decide)
theorem hMo.r0_21 {T : JT} {S : JR} {a : Nat} (h : hMo T S a) : S a 21 = some (a + 11) := h.2 (0, 21, 11) (by decide)
theorem hMo.r0_22 {T : JT} {S : JR} {a : Nat} (h : hMo T S a) : S a 22 = some (a + 12) := h.2 (0, 22, 12) (by decide)
theorem hMo.r0_23 {T : JT} {S : JR} {a : Nat} (h : hMo T S a) : S a 23 = some (a + 13) := h.2 (0, 23, 13) (by decide)
theorem hMo.r0_24 {T : JT} {S : JR} {a : Nat} (h : hMo T S a) : S a 24 = some (a + 14) := h.2 (0, 24, 14) (by decide)
theorem hMo.r0_29 {T : JT} {S : JR} {a : Nat} (h : hMo T S a) : S a 29 = some (a + 15) := h.2 (0, 29, 15) (by decide)
theorem hMo.r0_30 {T : JT} {S : JR} {a : Nat} (h : hMo T S a) : S a 30 = some (a + 16) := h.2 (0, 30, 16) (by decide)
theorem hMo.r0_35 {T : JT} {S : JR} {a : Nat} (h : hMo T S a) : S a 35 = some (a + 17) := h.2 (0, 35, 17) (by decide)
