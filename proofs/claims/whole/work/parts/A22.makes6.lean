/-! CONSTRUCTORS: the model's object -/
section C2x
variable {Γ : Gam} {d : Nat} {T : JT} {R S : JR} {I : JI} {L : JL} {D : JD} {a : Nat}
theorem ex_x9_init (hT : T a = some (.inl 8)) (hF : Fre R S I L D a) : Ex Γ (d + 1) Y_X9_init [.ref a] (T, R, S, I, L, D, some (a + 1)) 17 30495 (rG (fun M' => ∃ T' R' S', M' = (T', R', S', u2 I a 6 (-1), L, D, some (a + 18)) ∧ hMo T' S' a ∧ hVs Γ R' a ∧ (∀ b, b < a ∨ a + 18 ≤ b → T' b = T b) ∧ (∀ b, b ≠ a + 10 → R' b = R b) ∧ ∀ b, b ≠ a → S' b = S b)) := by
  have hF1 := hF.up (Nat.le_succ a)
  refine Ex.of (by decide) (by simp [Value.category]) (Nat.le_of_ble_eq_true rfl) rfl ?_
  refine jj_aload_n (q := 1) dX9_init_0 rfl rfl rfl ?_
  refine jj_objInit (q := 4) dX9_init_1 ko_X9_3 ko_i ko_c (by show 1 ≤ d + 1; omega) (by show 20 ≤ 40 * (d + 1); omega) rfl rfl ?_
  refine jj_aload_n (q := 5) dX9_init_4 rfl rfl rfl ?_
  refine jj_sipush (v := 1200) (q := 8) dX9_init_5 rfl rfl ?_
  refine jj_newI (n := 1200) (N := 1200) (z0 := a + 1) (z1 := a + 2) (q := 10) dX9_init_8 (by (repeat (first | refine Fre.uR ?_ (by omega) | refine Fre.uS ?_ (by omega) | refine Fre.uI ?_ (by omega))); exact hF1.up (by omega)) ka_int (by decide) rfl rfl ⟨Nat.le_of_ble_eq_true rfl, Nat.le_of_ble_eq_true rfl⟩ rfl rfl ?_
  refine jj_putFS (q := 13) dX9_init_10 fl_X9_9 (by decide) (by simp [u1, hT]) rfl rfl rfl rfl rfl rfl rfl ?_
  refine jj_aload_n (q := 14) dX9_init_13 rfl rfl rfl ?_
  refine jj_iconst (v := -1) (q := 15) dX9_init_14 rfl rfl ?_
  refine jj_putIv (q := 18) dX9_init_15 fl_X9_13 (by simp [u1, hT]) rfl rfl rfl rfl rfl rfl ?_
  refine jj_aload_n (q := 19) dX9_init_18 rfl rfl rfl ?_
  refine jj_bipush (v := 51) (q := 21) dX9_init_19 rfl rfl ?_
  refine jj_newI (n := 51) (N := 51) (z0 := a + 2) (z1 := a + 3) (q := 23) dX9_init_21 (by (repeat (first | refine Fre.uR ?_ (by omega) | refine Fre.uS ?_ (by omega) | refine Fre.uI ?_ (by omega))); exact hF1.up (by omega)) ka_int (by decide) rfl rfl ⟨Nat.le_of_ble_eq_true rfl, Nat.le_of_ble_eq_true rfl⟩ rfl rfl ?_
  refine jj_putFS (q := 26) dX9_init_23 fl_X9_17 (by decide) (by simp [u1, hT]) rfl rfl rfl rfl rfl rfl rfl ?_
  refine jj_aload_n (q := 27) dX9_init_26 rfl rfl rfl ?_
  refine jj_bipush (v := 51) (q := 29) dX9_init_27 rfl rfl ?_
  refine jj_newI (n := 51) (N := 51) (z0 := a + 3) (z1 := a + 4) (q := 31) dX9_init_29 (by (repeat (first | refine Fre.uR ?_ (by omega) | refine Fre.uS ?_ (by omega) | refine Fre.uI ?_ (by omega))); exact hF1.up (by omega)) ka_int (by decide) rfl rfl ⟨Nat.le_of_ble_eq_true rfl, Nat.le_of_ble_eq_true rfl⟩ rfl rfl ?_
  refine jj_putFS (q := 34) dX9_init_31 fl_X9_20 (by decide) (by simp [u1, hT]) rfl rfl rfl rfl rfl rfl rfl ?_
  refine jj_aload_n (q := 35) dX9_init_34 rfl rfl rfl ?_
  refine jj_sipush (v := 2086) (q := 38) dX9_init_35 rfl rfl ?_
  refine jj_newI (n := 2086) (N := 2086) (z0 := a + 4) (z1 := a + 5) (q := 40) dX9_init_38 (by (repeat (first | refine Fre.uR ?_ (by omega) | refine Fre.uS ?_ (by omega) | refine Fre.uI ?_ (by omega))); exact hF1.up (by omega)) ka_int (by decide) rfl rfl ⟨Nat.le_of_ble_eq_true rfl, Nat.le_of_ble_eq_true rfl⟩ rfl rfl ?_
  refine jj_putFS (q := 43) dX9_init_40 fl_X9_23 (by decide) (by simp [u1, hT]) rfl rfl rfl rfl rfl rfl rfl ?_
  refine jj_aload_n (q := 44) dX9_init_43 rfl rfl rfl ?_
  refine jj_sipush (v := 2086) (q := 47) dX9_init_44 rfl rfl ?_
  refine jj_newI (n := 2086) (N := 2086) (z0 := a + 5) (z1 := a + 6) (q := 49) dX9_init_47 (by (repeat (first | refine Fre.uR ?_ (by omega) | refine Fre.uS ?_ (by omega) | refine Fre.uI ?_ (by omega))); exact hF1.up (by omega)) ka_int (by decide) rfl rfl ⟨Nat.le_of_ble_eq_true rfl, Nat.le_of_ble_eq_true rfl⟩ rfl rfl ?_
  refine jj_putFS (q := 52) dX9_init_49 fl_X9_26 (by decide) (by simp [u1, hT]) rfl rfl rfl rfl rfl rfl rfl ?_
  refine jj_aload_n (q := 53) dX9_init_52 rfl rfl rfl ?_
  refine jj_sipush (v := 2086) (q := 56) dX9_init_53 rfl rfl ?_
  refine jj_newI (n := 2086) (N := 2086) (z0 := a + 6) (z1 := a + 7) (q := 58) dX9_init_56 (by (repeat (first | refine Fre.uR ?_ (by omega) | refine Fre.uS ?_ (by omega) | refine Fre.uI ?_ (by omega))); exact hF1.up (by omega)) ka_int (by decide) rfl rfl ⟨Nat.le_of_ble_eq_true rfl, Nat.le_of_ble_eq_true rfl⟩ rfl rfl ?_
  refine jj_putFS (q := 61) dX9_init_58 fl_X9_29 (by decide) (by simp [u1, hT]) rfl rfl rfl rfl rfl rfl rfl ?_
  refine jj_aload_n (q := 62) dX9_init_61 rfl rfl rfl ?_
  refine jj_sipush (v := 12516) (q := 65) dX9_init_62 rfl rfl ?_
  refine jj_newI (n := 12516) (N := 12516) (z0 := a + 7) (z1 := a + 8) (q := 67) dX9_init_65 (by (repeat (first | refine Fre.uR ?_ (by omega) | refine Fre.uS ?_ (by omega) | refine Fre.uI ?_ (by omega))); exact hF1.up (by omega)) ka_int (by decide) rfl rfl ⟨Nat.le_of_ble_eq_true rfl, Nat.le_of_ble_eq_true rfl⟩ rfl rfl ?_
  refine jj_putFS (q := 70) dX9_init_67 fl_X9_32 (by decide) (by simp [u1, hT]) rfl rfl rfl rfl rfl rfl rfl ?_
  refine jj_aload_n (q := 71) dX9_init_70 rfl rfl rfl ?_
  refine jj_sipush (v := 4172) (q := 74) dX9_init_71 rfl rfl ?_
  refine jj_newI (n := 4172) (N := 4172) (z0 := a + 8) (z1 := a + 9) (q := 76) dX9_init_74 (by (repeat (first | refine Fre.uR ?_ (by omega) | refine Fre.uS ?_ (by omega) | refine Fre.uI ?_ (by omega))); exact hF1.up (by omega)) ka_int (by decide) rfl rfl ⟨Nat.le_of_ble_eq_true rfl, Nat.le_of_ble_eq_true rfl⟩ rfl rfl ?_
  refine jj_putFS (q := 79) dX9_init_76 fl_X9_35 (by decide) (by simp [u1, hT]) rfl rfl rfl rfl rfl rfl rfl ?_
  refine jj_aload_n (q := 80) dX9_init_79 rfl rfl rfl ?_
  refine jj_iconst (v := 2) (q := 81) dX9_init_80 rfl rfl ?_
  refine jj_newZ (n := 2) (N := 2) (z0 := a + 9) (z1 := a + 10) (q := 83) dX9_init_81 (by (repeat (first | refine Fre.uR ?_ (by omega) | refine Fre.uS ?_ (by omega) | refine Fre.uI ?_ (by omega))); exact hF1.up (by omega)) ka_boolean (by decide) rfl rfl ⟨Nat.le_of_ble_eq_true rfl, Nat.le_of_ble_eq_true rfl⟩ rfl rfl ?_
  refine jj_putFS (q := 86) dX9_init_83 fl_X9_38 (by decide) (by simp [u1, hT]) rfl rfl rfl rfl rfl rfl rfl ?_
  refine jj_aload_n (q := 87) dX9_init_86 rfl rfl rfl ?_
  refine jj_iconst (v := 5) (q := 88) dX9_init_87 rfl rfl ?_
  refine jj_newQ (C9 := "java/lang/String") (n := 5) (N := 5) (z0 := a + 10) (z1 := a + 11) (q := 91) dX9_init_88 (by (repeat (first | refine Fre.uR ?_ (by omega) | refine Fre.uS ?_ (by omega) | refine Fre.uI ?_ (by omega))); exact hF1.up (by omega)) (by decide) kq_X9_42 (by decide) rfl rfl ⟨Nat.le_of_ble_eq_true rfl, Nat.le_of_ble_eq_true rfl⟩ rfl rfl ?_
  refine jj_dup (q := 92) dX9_init_91 rfl rfl ?_
  refine jj_iconst (v := 0) (q := 93) dX9_init_92 rfl rfl ?_
  refine jj_ldcS (q := 95) dX9_init_93 ks_X9_44 rfl ?_
  refine jj_aastS (n := 5) (q := 96) dX9_init_95 (by simp [u1, hT]) (show vp_in (nI 0) 5 from nI_in (by omega) (by omega)) ks_X9_44 rfl ?_
  rw [show (0 : Int32).toNatClampNeg = 0 from rfl]
  refine jj_dup (q := 97) dX9_init_96 rfl rfl ?_
  refine jj_iconst (v := 1) (q := 98) dX9_init_97 rfl rfl ?_
  refine jj_ldcS (q := 100) dX9_init_98 ks_X9_46 rfl ?_
  refine jj_aastS (n := 5) (q := 101) dX9_init_100 (by simp [u1, hT]) (show vp_in (nI 1) 5 from nI_in (by omega) (by omega)) ks_X9_46 rfl ?_
  rw [show (1 : Int32).toNatClampNeg = 1 from rfl]
  refine jj_dup (q := 102) dX9_init_101 rfl rfl ?_
  refine jj_iconst (v := 2) (q := 103) dX9_init_102 rfl rfl ?_
  refine jj_ldcS (q := 105) dX9_init_103 ks_X9_48 rfl ?_
  refine jj_aastS (n := 5) (q := 106) dX9_init_105 (by simp [u1, hT]) (show vp_in (nI 2) 5 from nI_in (by omega) (by omega)) ks_X9_48 rfl ?_
  rw [show (2 : Int32).toNatClampNeg = 2 from rfl]
  refine jj_dup (q := 107) dX9_init_106 rfl rfl ?_
  refine jj_iconst (v := 3) (q := 108) dX9_init_107 rfl rfl ?_
  refine jj_ldcS (q := 110) dX9_init_108 ks_X9_50 rfl ?_
  refine jj_aastS (n := 5) (q := 111) dX9_init_110 (by simp [u1, hT]) (show vp_in (nI 3) 5 from nI_in (by omega) (by omega)) ks_X9_50 rfl ?_
  rw [show (3 : Int32).toNatClampNeg = 3 from rfl]
  refine jj_dup (q := 112) dX9_init_111 rfl rfl ?_
  refine jj_iconst (v := 4) (q := 113) dX9_init_112 rfl rfl ?_
  refine jj_ldcS (q := 115) dX9_init_113 ks_X9_52 rfl ?_
  refine jj_aastS (n := 5) (q := 116) dX9_init_115 (by simp [u1, hT]) (show vp_in (nI 4) 5 from nI_in (by omega) (by omega)) ks_X9_52 rfl ?_
  rw [show (4 : Int32).toNatClampNeg = 4 from rfl]
  refine jj_putFS (q := 119) dX9_init_116 fl_X9_54 (by decide) (by simp [u1, hT]) rfl rfl rfl rfl rfl rfl rfl ?_
  refine jj_aload_n (q := 120) dX9_init_119 rfl rfl rfl ?_
  refine jj_sipush (v := 1400) (q := 123) dX9_init_120 rfl rfl ?_
  refine jj_newI (n := 1400) (N := 1400) (z0 := a + 11) (z1 := a + 12) (q := 125) dX9_init_123 (by (repeat (first | refine Fre.uR ?_ (by omega) | refine Fre.uS ?_ (by omega) | refine Fre.uI ?_ (by omega))); exact hF1.up (by omega)) ka_int (by decide) rfl rfl ⟨Nat.le_of_ble_eq_true rfl, Nat.le_of_ble_eq_true rfl⟩ rfl rfl ?_
  refine jj_putFS (q := 128) dX9_init_125 fl_X9_58 (by decide) (by simp [u1, hT]) rfl rfl rfl rfl rfl rfl rfl ?_
  refine jj_aload_n (q := 129) dX9_init_128 rfl rfl rfl ?_
  refine jj_sipush (v := 1400) (q := 132) dX9_init_129 rfl rfl ?_
  refine jj_newI (n := 1400) (N := 1400) (z0 := a + 12) (z1 := a + 13) (q := 134) dX9_init_132 (by (repeat (first | refine Fre.uR ?_ (by omega) | refine Fre.uS ?_ (by omega) | refine Fre.uI ?_ (by omega))); exact hF1.up (by omega)) ka_int (by decide) rfl rfl ⟨Nat.le_of_ble_eq_true rfl, Nat.le_of_ble_eq_true rfl⟩ rfl rfl ?_
  refine jj_putFS (q := 137) dX9_init_134 fl_X9_61 (by decide) (by simp [u1, hT]) rfl rfl rfl rfl rfl rfl rfl ?_
  refine jj_aload_n (q := 138) dX9_init_137 rfl rfl rfl ?_
  refine jj_sipush (v := 1400) (q := 141) dX9_init_138 rfl rfl ?_
  refine jj_newI (n := 1400) (N := 1400) (z0 := a + 13) (z1 := a + 14) (q := 143) dX9_init_141 (by (repeat (first | refine Fre.uR ?_ (by omega) | refine Fre.uS ?_ (by omega) | refine Fre.uI ?_ (by omega))); exact hF1.up (by omega)) ka_int (by decide) rfl rfl ⟨Nat.le_of_ble_eq_true rfl, Nat.le_of_ble_eq_true rfl⟩ rfl rfl ?_
  refine jj_putFS (q := 146) dX9_init_143 fl_X9_64 (by decide) (by simp [u1, hT]) rfl rfl rfl rfl rfl rfl rfl ?_
  refine jj_aload_n (q := 147) dX9_init_146 rfl rfl rfl ?_
  refine jj_sipush (v := 1400) (q := 150) dX9_init_147 rfl rfl ?_
  refine jj_newI (n := 1400) (N := 1400) (z0 := a + 14) (z1 := a + 15) (q := 152) dX9_init_150 (by (repeat (first | refine Fre.uR ?_ (by omega) | refine Fre.uS ?_ (by omega) | refine Fre.uI ?_ (by omega))); exact hF1.up (by omega)) ka_int (by decide) rfl rfl ⟨Nat.le_of_ble_eq_true rfl, Nat.le_of_ble_eq_true rfl⟩ rfl rfl ?_
  refine jj_putFS (q := 155) dX9_init_152 fl_X9_67 (by decide) (by simp [u1, hT]) rfl rfl rfl rfl rfl rfl rfl ?_
  refine jj_aload_n (q := 156) dX9_init_155 rfl rfl rfl ?_
  refine jj_sipush (v := 200) (q := 159) dX9_init_156 rfl rfl ?_
  refine jj_newI (n := 200) (N := 200) (z0 := a + 15) (z1 := a + 16) (q := 161) dX9_init_159 (by (repeat (first | refine Fre.uR ?_ (by omega) | refine Fre.uS ?_ (by omega) | refine Fre.uI ?_ (by omega))); exact hF1.up (by omega)) ka_int (by decide) rfl rfl ⟨Nat.le_of_ble_eq_true rfl, Nat.le_of_ble_eq_true rfl⟩ rfl rfl ?_
  refine jj_putFS (q := 164) dX9_init_161 fl_X9_70 (by decide) (by simp [u1, hT]) rfl rfl rfl rfl rfl rfl rfl ?_
  refine jj_aload_n (q := 165) dX9_init_164 rfl rfl rfl ?_
  refine jj_sipush (v := 400) (q := 168) dX9_init_165 rfl rfl ?_
  refine jj_newI (n := 400) (N := 400) (z0 := a + 16) (z1 := a + 17) (q := 170) dX9_init_168 (by (repeat (first | refine Fre.uR ?_ (by omega) | refine Fre.uS ?_ (by omega) | refine Fre.uI ?_ (by omega))); exact hF1.up (by omega)) ka_int (by decide) rfl rfl ⟨Nat.le_of_ble_eq_true rfl, Nat.le_of_ble_eq_true rfl⟩ rfl rfl ?_
  refine jj_putFS (q := 173) dX9_init_170 fl_X9_73 (by decide) (by simp [u1, hT]) rfl rfl rfl rfl rfl rfl rfl ?_
  refine jj_aload_n (q := 174) dX9_init_173 rfl rfl rfl ?_
  refine jj_aload_n (q := 175) dX9_init_174 rfl rfl rfl ?_
  refine jj_getS (q := 178) dX9_init_175 fl_X9_70 (by simp [u1, hT]) (show _ = some (a + 15) by simp [u2]) rfl rfl rfl ?_
  refine jj_putS (q := 181) dX9_init_178 fl_X9_76 (by decide) (by simp [u1, hT]) rfl rfl rfl rfl rfl ?_
  refine jj_aload_n (q := 182) dX9_init_181 rfl rfl rfl ?_
  refine jj_bipush (v := 40) (q := 184) dX9_init_182 rfl rfl ?_
  refine jj_newI (n := 40) (N := 40) (z0 := a + 17) (z1 := a + 18) (q := 186) dX9_init_184 (by (repeat (first | refine Fre.uR ?_ (by omega) | refine Fre.uS ?_ (by omega) | refine Fre.uI ?_ (by omega))); exact hF1.up (by omega)) ka_int (by decide) rfl rfl ⟨Nat.le_of_ble_eq_true rfl, Nat.le_of_ble_eq_true rfl⟩ rfl rfl ?_
  refine jj_putFS (q := 189) dX9_init_186 fl_X9_79 (by decide) (by simp [u1, hT]) rfl rfl rfl rfl rfl rfl rfl ?_
  refine jj_vret dX9_init_189 rfl (Nat.le_of_ble_eq_true rfl) (Nat.le_of_ble_eq_true rfl) ?_
  refine ⟨rfl, _, _, _, rfl, ?_, ?_, fun b hb => by repeat (rw [u1_ne (by omega)]), fun b hb => by repeat (rw [u2_ne hb]), fun b hb => by repeat (rw [u2_ne hb])⟩
  · refine mk_hMo ?_ ?_ ?_ ?_ ?_ ?_ ?_ ?_ ?_ ?_ ?_ ?_ ?_ ?_ ?_ ?_ ?_ ?_ ?_ ?_ ?_ ?_ ?_ ?_ ?_ ?_ ?_ ?_ ?_ ?_ ?_ ?_ ?_ ?_ ?_
    all_goals first | (simp [u1, hT]; done) | (simp [u2]; done)
  · intro j hj
    have h5 : j = 0 ∨ j = 1 ∨ j = 2 ∨ j = 3 ∨ j = 4 := by omega
    rcases h5 with rfl | rfl | rfl | rfl | rfl <;> (simp [u2, vIx]; rfl)
end C2x
