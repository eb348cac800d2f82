/-! CONSTANTS, Math, arraycopy -/
theorem ks_X8_83 : Cond.stringRef RX8 83 "n is not 0 to the number of bytes in the buffer" ∈ lw_tbl := (lw_m3 _ (List.mem_of_getElem? (i := 44) (by decide +kernel)))
theorem ks_X8_322 : Cond.stringRef RX8 322 "the bag is not loaded" ∈ lw_tbl := (lw_m6 _ (List.mem_of_getElem? (i := 202) (by decide +kernel)))
theorem ks_X8_328 : Cond.stringRef RX8 328 "the bag is in one of the states 10 to 13" ∈ lw_tbl := (lw_m6 _ (List.mem_of_getElem? (i := 239) (by decide +kernel)))
theorem ks_X8_333 : Cond.stringRef RX8 333 "there is no change to undo" ∈ lw_tbl := (lw_m7 _ (List.mem_of_getElem? (i := 7) (by decide +kernel)))
theorem ks_X8_339 : Cond.stringRef RX8 339 "nothing is saved in the slot" ∈ lw_tbl := (lw_m7 _ (List.mem_of_getElem? (i := 27) (by decide +kernel)))
theorem ks_X8_341 : Cond.stringRef RX8 341 "there is no airport" ∈ lw_tbl := (lw_m4 _ (List.mem_of_getElem? (i := 141) (by decide +kernel)))
theorem ks_X8_346 : Cond.stringRef RX8 346 "the time would be greater than 9999" ∈ lw_tbl := (lw_m6 _ (List.mem_of_getElem? (i := 34) (by decide +kernel)))
theorem ks_X8_348 : Cond.stringRef RX8 348 "the flight is closed" ∈ lw_tbl := (lw_m6 _ (List.mem_of_getElem? (i := 154) (by decide +kernel)))
theorem ks_X8_350 : Cond.stringRef RX8 350 "there is no such number" ∈ lw_tbl := (lw_m4 _ (List.mem_of_getElem? (i := 151) (by decide +kernel)))
theorem ks_X8_352 : Cond.stringRef RX8 352 "an argument is out of range" ∈ lw_tbl := (lw_m5 _ (List.mem_of_getElem? (i := 23) (by decide +kernel)))
theorem ks_X2_85 : Cond.stringRef RX2 85 "loop" ∈ lw_tbl := (lw_m3 _ (List.mem_of_getElem? (i := 192) (by decide +kernel)))
theorem ks_X2_107 : Cond.stringRef RX2 107 "level" ∈ lw_tbl := (lw_m4 _ (List.mem_of_getElem? (i := 10) (by decide +kernel)))
theorem ks_X2_119 : Cond.stringRef RX2 119 "hot" ∈ lw_tbl := (lw_m4 _ (List.mem_of_getElem? (i := 11) (by decide +kernel)))
theorem ks_X2_123 : Cond.stringRef RX2 123 "seed" ∈ lw_tbl := (lw_m4 _ (List.mem_of_getElem? (i := 12) (by decide +kernel)))
theorem ks_X2_129 : Cond.stringRef RX2 129 "flight" ∈ lw_tbl := (lw_m4 _ (List.mem_of_getElem? (i := 22) (by decide +kernel)))
theorem ks_X2_142 : Cond.stringRef RX2 142 "lane" ∈ lw_tbl := (lw_m4 _ (List.mem_of_getElem? (i := 34) (by decide +kernel)))
theorem ks_X2_151 : Cond.stringRef RX2 151 "bags" ∈ lw_tbl := (lw_m4 _ (List.mem_of_getElem? (i := 39) (by decide +kernel)))
theorem ks_X2_156 : Cond.stringRef RX2 156 "shift" ∈ lw_tbl := (lw_m4 _ (List.mem_of_getElem? (i := 48) (by decide +kernel)))
theorem ks_X2_164 : Cond.stringRef RX2 164 "keep" ∈ lw_tbl := (lw_m4 _ (List.mem_of_getElem? (i := 53) (by decide +kernel)))
theorem ks_X2_226 : Cond.stringRef RX2 226 "and" ∈ lw_tbl := (lw_m4 _ (List.mem_of_getElem? (i := 84) (by decide +kernel)))
theorem ks_X2_228 : Cond.stringRef RX2 228 "or" ∈ lw_tbl := (lw_m4 _ (List.mem_of_getElem? (i := 85) (by decide +kernel)))
theorem ks_X2_237 : Cond.stringRef RX2 237 "not" ∈ lw_tbl := (lw_m4 _ (List.mem_of_getElem? (i := 70) (by decide +kernel)))
theorem ks_X2_245 : Cond.stringRef RX2 245 "wait" ∈ lw_tbl := (lw_m4 _ (List.mem_of_getElem? (i := 66) (by decide +kernel)))
theorem ks_X2_247 : Cond.stringRef RX2 247 "laps" ∈ lw_tbl := (lw_m4 _ (List.mem_of_getElem? (i := 67) (by decide +kernel)))
theorem ks_X2_249 : Cond.stringRef RX2 249 "load" ∈ lw_tbl := (lw_m4 _ (List.mem_of_getElem? (i := 68) (by decide +kernel)))
theorem ks_X2_251 : Cond.stringRef RX2 251 "time" ∈ lw_tbl := (lw_m4 _ (List.mem_of_getElem? (i := 69) (by decide +kernel)))
theorem ks_X2_255 : Cond.stringRef RX2 255 "the text has an error" ∈ lw_tbl := (lw_m3 _ (List.mem_of_getElem? (i := 235) (by decide +kernel)))
theorem ks_X2_273 : Cond.stringRef RX2 273 ";()<>=" ∈ lw_tbl := (lw_m3 _ (List.mem_of_getElem? (i := 105) (by decide +kernel)))
theorem ks_X9_44 : Cond.stringRef RX9 44 "wait" ∈ lw_tbl := (lw_m7 _ (List.mem_of_getElem? (i := 36) (by decide +kernel)))
theorem ks_X9_46 : Cond.stringRef RX9 46 "laps" ∈ lw_tbl := (lw_m7 _ (List.mem_of_getElem? (i := 37) (by decide +kernel)))
theorem ks_X9_48 : Cond.stringRef RX9 48 "level" ∈ lw_tbl := (lw_m7 _ (List.mem_of_getElem? (i := 38) (by decide +kernel)))
theorem ks_X9_50 : Cond.stringRef RX9 50 "load" ∈ lw_tbl := (lw_m7 _ (List.mem_of_getElem? (i := 39) (by decide +kernel)))
theorem ks_X9_52 : Cond.stringRef RX9 52 "time" ∈ lw_tbl := (lw_m7 _ (List.mem_of_getElem? (i := 40) (by decide +kernel)))
theorem ks_X9_154 : Cond.stringRef RX9 154 "loop" ∈ lw_tbl := (lw_m7 _ (List.mem_of_getElem? (i := 208) (by decide +kernel)))
theorem ks_X9_160 : Cond.stringRef RX9 160 "hot" ∈ lw_tbl := (lw_m7 _ (List.mem_of_getElem? (i := 239) (by decide +kernel)))
theorem ks_X9_162 : Cond.stringRef RX9 162 "seed" ∈ lw_tbl := (lw_m8 _ (List.mem_of_getElem? (i := 0) (by decide +kernel)))
theorem ks_X9_181 : Cond.stringRef RX9 181 "and" ∈ lw_tbl := (lw_m8 _ (List.mem_of_getElem? (i := 67) (by decide +kernel)))
theorem ks_X9_183 : Cond.stringRef RX9 183 "or" ∈ lw_tbl := (lw_m8 _ (List.mem_of_getElem? (i := 68) (by decide +kernel)))
theorem ks_X9_192 : Cond.stringRef RX9 192 "not" ∈ lw_tbl := (lw_m8 _ (List.mem_of_getElem? (i := 54) (by decide +kernel)))
theorem ks_X9_209 : Cond.stringRef RX9 209 "flight" ∈ lw_tbl := (lw_m8 _ (List.mem_of_getElem? (i := 10) (by decide +kernel)))
theorem ks_X9_214 : Cond.stringRef RX9 214 "shift" ∈ lw_tbl := (lw_m8 _ (List.mem_of_getElem? (i := 19) (by decide +kernel)))
theorem ks_X9_219 : Cond.stringRef RX9 219 "lane" ∈ lw_tbl := (lw_m8 _ (List.mem_of_getElem? (i := 24) (by decide +kernel)))
theorem ks_X9_224 : Cond.stringRef RX9 224 "bags" ∈ lw_tbl := (lw_m8 _ (List.mem_of_getElem? (i := 29) (by decide +kernel)))
theorem ks_X9_229 : Cond.stringRef RX9 229 "keep" ∈ lw_tbl := (lw_m8 _ (List.mem_of_getElem? (i := 37) (by decide +kernel)))
theorem kc_X2_125 : Cond.constant RX2 125 (99999) ∈ lw_good := (lw_g4 13 (by decide +kernel) rfl)
theorem kc_X6_29 : Cond.constant RX6 29 (1000000000) ∈ lw_good := (lw_g5 210 (by decide +kernel) rfl)
theorem kc_X9_164 : Cond.constant RX9 164 (99999) ∈ lw_good := (lw_g8 1 (by decide +kernel) rfl)
theorem kc_X9_316 : Cond.constant RX9 316 (65536) ∈ lw_good := (lw_g9 166 (by decide +kernel) rfl)
theorem kc_J11_76 : Cond.constant RJ11 76 (56320) ∈ lw_good := (lw_g3 187 (by decide +kernel) rfl)
theorem kc_J11_110 : Cond.constant RJ11 110 (55232) ∈ lw_good := (lw_g3 183 (by decide +kernel) rfl)
theorem kc_J2_227 : Cond.constant RJ2 227 (65536) ∈ lw_good := (lw_g3 144 (by decide +kernel) rfl)
theorem kc_X4_83 : Cond.constantLong RX4 83 (1103515245) ∈ lw_good := (lw_g6 109 (by decide +kernel) rfl)
theorem kc_X4_85 : Cond.constantLong RX4 85 (12345) ∈ lw_good := (lw_g6 110 (by decide +kernel) rfl)
theorem kc_X4_87 : Cond.constantLong RX4 87 (2147483647) ∈ lw_good := (lw_g6 111 (by decide +kernel) rfl)
theorem kc_X4_89 : Cond.constantLong RX4 89 (65536) ∈ lw_good := (lw_g6 112 (by decide +kernel) rfl)
theorem kc_X4_91 : Cond.constantLong RX4 91 (1000) ∈ lw_good := (lw_g6 113 (by decide +kernel) rfl)
theorem kc_X9_310 : Cond.constantLong RX9 310 (1103515245) ∈ lw_good := (lw_g9 163 (by decide +kernel) rfl)
theorem kc_X9_312 : Cond.constantLong RX9 312 (12345) ∈ lw_good := (lw_g9 164 (by decide +kernel) rfl)
theorem kc_X9_314 : Cond.constantLong RX9 314 (2147483648) ∈ lw_good := (lw_g9 165 (by decide +kernel) rfl)
theorem km_X8_357 : Cond.methodLink RX8 357 Lib.Math.min.name ∈ lw_good := (lw_g6 46 (by decide +kernel) rfl)
theorem km_X8_362 : Cond.methodLink RX8 362 arraycopyName ∈ lw_good := (lw_g6 47 (by decide +kernel) rfl)
theorem km_X1_29 : Cond.methodLink RX1 29 Lib.Math.min.name ∈ lw_good := (lw_g6 179 (by decide +kernel) rfl)
theorem km_X1_35 : Cond.methodLink RX1 35 Lib.Math.max.name ∈ lw_good := (lw_g7 12 (by decide +kernel) rfl)
theorem km_X2_44 : Cond.methodLink RX2 44 Lib.Math.min.name ∈ lw_good := (lw_g3 74 (by decide +kernel) rfl)
theorem km_X6_15 : Cond.methodLink RX6 15 Lib.Math.max.name ∈ lw_good := (lw_g2 121 (by decide +kernel) rfl)
theorem km_X7_156 : Cond.methodLink RX7 156 Lib.Math.max.name ∈ lw_good := (lw_g4 234 (by decide +kernel) rfl)
theorem km_X9_271 : Cond.methodLink RX9 271 Lib.Math.max.name ∈ lw_good := (lw_g8 178 (by decide +kernel) rfl)
theorem km_J1_38 : Cond.methodLink RJ1 38 Lib.Math.min.name ∈ lw_good := (lw_g3 135 (by decide +kernel) rfl)
theorem km_J1_92 : Cond.methodLink RJ1 92 Lib.Math.max.name ∈ lw_good := (lw_g3 134 (by decide +kernel) rfl)
theorem km_J2_183 : Cond.methodLink RJ2 183 Lib.Math.min.name ∈ lw_good := (lw_g3 143 (by decide +kernel) rfl)
theorem km_J2_224 : Cond.methodLink RJ2 224 Lib.Math.max.name ∈ lw_good := (lw_g3 142 (by decide +kernel) rfl)
theorem kk_max : Cond.static Lib.Math.max.name ∈ lw_good ∧ Cond.initialized "java/lang/Math" ∈ lw_good ∧ Cond.code Lib.Math.max.name Lib.Math.max.code 2 (some .int) ∈ lw_good := ⟨(lw_g2 122 (by decide +kernel) rfl), (lw_g1 9 (by decide +kernel) rfl), (lw_g2 123 (by decide +kernel) rfl)⟩
theorem kk_min : Cond.static Lib.Math.min.name ∈ lw_good ∧ Cond.initialized "java/lang/Math" ∈ lw_good ∧ Cond.code Lib.Math.min.name Lib.Math.min.code 2 (some .int) ∈ lw_good := ⟨(lw_g3 75 (by decide +kernel) rfl), (lw_g1 9 (by decide +kernel) rfl), (lw_g3 76 (by decide +kernel) rfl)⟩
theorem kk_copy : Cond.native arraycopyName ∈ lw_good ∧ Cond.static arraycopyName ∈ lw_good ∧ Cond.initialized "java/lang/System" ∈ lw_good := ⟨(lw_g6 49 (by decide +kernel) rfl), (lw_g6 48 (by decide +kernel) rfl), (lw_g1 24 (by decide +kernel) rfl)⟩
section JK
variable {Γ : Gam} {E : JE} {Zf : List Frame → Array Value → State → State → Prop} {Rm : Room} {cells slots pc q : Nat} {vl : List (Option Value)} {st : List Value} {M : JM}
variable {T : JT} {R S : JR} {I : JI} {L : JL} {D : JD} {z : Option Nat} {a : Nat}
theorem jj_ldcS {ix : Nat} {tx : String} (hd : decode E.2.1 pc = .ok (.ldc ix, 2)) (hs : Cond.stringRef E.1 ix tx ∈ lw_tbl) (hq : pc + 2 = q) (kk : JJ Γ E Zf Rm cells slots q vl (.ref (Γ.ss E.1 ix) :: st) M) : JJ Γ E Zf Rm cells slots pc vl st M := by
  subst hq
  intro p l e s m args below meth c H locs ls C hR hlo hl
  exact va_ldcS C.1 C.2.1 C.2.2.2.2.1 (C.2.2.2.2.2.2.1.2.2.2.2.1 _ _ _ hs).1 hd (kk p l e s m args below meth c H locs ls C hR hlo hl)
theorem jj_mmax {d mcR msR ix : Nat} {x y : Int32} (hd : decode E.2.1 pc = .ok (.invokestatic ix, 3)) (hm : Cond.methodLink E.1 ix Lib.Math.max.name ∈ lw_good) (hrt : Nat.ble (st.map fun v => v.category).sum 8 = true) (hq : pc + 3 = q) (hcs : cells ≤ mcR ∧ slots ≤ msR) (kk : JJ Γ E Zf (jj_rm (d + 1) mcR msR) cells slots q vl (.int (if x < y then y else x) :: st) M) : JJ Γ E Zf (jj_rm (d + 1) mcR msR) cells slots pc vl (.int y :: .int x :: st) M := by
  subst hq
  have hrt := Nat.le_of_ble_eq_true hrt
  intro p l e s m args below meth c H locs ls C hR hlo hl
  have hts := C.2.2.2.2.2.1
  exact va_mmax C.1 C.2.1 (C.2.2.1.trans hl.1.symm) C.2.2.2.2.1 (hts _ hm) (hts _ kk_max.1) (hts _ kk_max.2.1) (hts _ kk_max.2.2) (by show 1 ≤ d + 1; omega) (by show _ ≤ 40 * (d + 1); omega) hcs.1 hcs.2 hd (kk p l e s m args below meth c H locs ls C hR hlo hl)
theorem jj_mmin {d mcR msR ix : Nat} {x y : Int32} (hd : decode E.2.1 pc = .ok (.invokestatic ix, 3)) (hm : Cond.methodLink E.1 ix Lib.Math.min.name ∈ lw_good) (hrt : Nat.ble (st.map fun v => v.category).sum 8 = true) (hq : pc + 3 = q) (hcs : cells ≤ mcR ∧ slots ≤ msR) (kk : JJ Γ E Zf (jj_rm (d + 1) mcR msR) cells slots q vl (.int (if y < x then y else x) :: st) M) : JJ Γ E Zf (jj_rm (d + 1) mcR msR) cells slots pc vl (.int y :: .int x :: st) M := by
  subst hq
  have hrt := Nat.le_of_ble_eq_true hrt
  intro p l e s m args below meth c H locs ls C hR hlo hl
  have hts := C.2.2.2.2.2.1
  exact va_mmin C.1 C.2.1 (C.2.2.1.trans hl.1.symm) C.2.2.2.2.1 (hts _ hm) (hts _ kk_min.1) (hts _ kk_min.2.1) (hts _ kk_min.2.2) (by show 1 ≤ d + 1; omega) (by show _ ≤ 40 * (d + 1); omega) hcs.1 hcs.2 hd (kk p l e s m args below meth c H locs ls C hR hlo hl)
/-- what a copy leaves in memory -/
def uC (f : JI) (a0 sp a dp n : Nat) : JI := fun b j => if b = a then va_cpy (f a0) (f a) sp dp n j else f b j
theorem uC_ne {f : JI} {a0 sp a dp n b : Nat} (h : b ≠ a) : uC f a0 sp a dp n b = f b := by
  funext j
  simp [uC, h]
theorem uC_eq {f : JI} {a0 sp a dp n : Nat} : uC f a0 sp a dp n a = va_cpy (f a0) (f a) sp dp n := by
  funext j
  simp [uC]
theorem jj_copy {d mcR msR ix a0 n0 n1 : Nat} {sp dp n : Int32} (hd : decode E.2.1 pc = .ok (.invokestatic ix, 3)) (hm : Cond.methodLink E.1 ix arraycopyName ∈ lw_good) (hT0 : T a0 = some (.inr (.int, n0))) (hT : T a = some (.inr (.int, n1))) (h1 : ¬ sp < 0) (h2 : ¬ dp < 0) (h3 : ¬ n < 0) (h4 : sp.toNatClampNeg + n.toNatClampNeg ≤ n0) (h5 : dp.toNatClampNeg + n.toNatClampNeg ≤ n1) (hrt : Nat.ble (st.map fun v => v.category).sum 8 = true) (hq : pc + 3 = q) (kk : JJ Γ E Zf (jj_rm (d + 1) mcR msR) cells slots q vl st (T, R, S, uC I a0 sp.toNatClampNeg a dp.toNatClampNeg n.toNatClampNeg, L, D, z)) : JJ Γ E Zf (jj_rm (d + 1) mcR msR) cells slots pc vl (.int n :: .int dp :: .ref a :: .int sp :: .ref a0 :: st) (T, R, S, I, L, D, z) := by
  subst hq
  have hrt := Nat.le_of_ble_eq_true hrt
  intro p l e s m args below meth c H locs ls C hR hlo hl
  have hts := C.2.2.2.2.2.1
  have nn : ∀ z : Int32, ¬ z < 0 → z.toInt = (z.toNatClampNeg : Int) := by
    intro z hz
    have hz0 : (0 : Int) ≤ z.toInt := by
      have := Int32.not_lt.mp hz
      simpa using Int32.le_iff_toInt_le.mp this
    show z.toInt = ((z.toInt.toNat : Nat) : Int)
    omega
  have hnw : nativeFrameWords "java/lang/System" "arraycopy" 5 ≤ 12 := by decide +kernel
  intro Tt hT9 X
  have hne : ¬ T a = none := by rw [hT]; exact fun h => by cases h
  have hc0 : H[a0]? = some (arrV (Γ.cA .int) n0 (fun j => .int (I a0 j))) := hR.2.1 a0 _ (jj_ce_arr hT0)
  have hc1 : H[a]? = some (arrV (Γ.cA .int) n1 (fun j => .int (I a j))) := hR.2.1 a _ (jj_ce_arr hT)
  obtain ⟨-, k0, hk0, cm0, hkk0⟩ := (KG.arr C.2.2.2.2.2.2.1 (ty := .int) (by decide)).1 n0 (fun j => .int (I a0 j))
  obtain ⟨vm', X', step⟩ := X.arraycopy C.1 C.2.2.2.2.1 (hts _ hm) (hts _ kk_copy.1) (hts _ kk_copy.2.1) (hts _ kk_copy.2.2) (src := a0) (dst := a) (cs := arrV (Γ.cA .int) n0 (fun j => .int (I a0 j))) (cd := arrV (Γ.cA .int) n1 (fun j => .int (I a j))) (srcPos := sp) (destPos := dp) (n := n) (by rw [hT9]; exact hc0) (by rw [hT9]; exact hc1)
    (fun _ h => by cases h) (fun _ h => by cases h) (fun h => by cases h) (fun h => by cases h) hk0 hk0 hkk0 hkk0 (by simp [refKind]) h1 h2 h3
    (by rw [nn sp h1, nn n h3, arrV_size]; omega)
    (by rw [nn dp h2, nn n h3, arrV_size]; omega)
    (fun vm₁ _ i hi => by
      have e : (arrV (Γ.cA .int) n0 (fun j => .int (I a0 j))).slots.getD (sp.toNatClampNeg + i) .null = .int (I a0 (sp.toNatClampNeg + i)) := by
        rw [Array.getD_eq_getD_getElem?, arrV_read _ _ (by omega)]
        rfl
      refine ⟨?_, ?_⟩
      · rw [e]
        rfl
      · rw [e]
        exact trivial)
    (g := F0 m pc ls (.int n :: .int dp :: .ref a :: .int sp :: .ref a0 :: st)) rfl (by rw [hl.1, C.2.2.1]) (rest := st) rfl (by rw [C.2.1]; exact hd) (by show 1 ≤ d + 1; omega) (by show 2 * 0 + _ + (nativeFrameWords "java/lang/System" "arraycopy" 5 + 11) ≤ 40 * (d + 1); omega)
  have e1 : copied (arrV (Γ.cA .int) n0 (fun j => .int (I a0 j))) (arrV (Γ.cA .int) n1 (fun j => .int (I a j))) sp dp n = arrV (Γ.cA .int) n1 (fun j => .int (va_cpy (I a0) (I a) sp.toNatClampNeg dp.toNatClampNeg n.toNatClampNeg j)) := va_copied (fun z => .int z) (Γ.cA .int) (Γ.cA .int) (I a0) (I a) h4
  rw [e1] at X' step
  have hlt : a < H.size := (Array.getElem?_eq_some_iff.mp hc1).1
  have hheap : ((Tt.setVm vm').setCell a (arrV (Γ.cA .int) n1 (fun j => .int (va_cpy (I a0) (I a) sp.toNatClampNeg dp.toNatClampNeg n.toNatClampNeg j)))).heap = H.setIfInBounds a (arrV (Γ.cA .int) n1 (fun j => .int (va_cpy (I a0) (I a) sp.toNatClampNeg dp.toNatClampNeg n.toNatClampNeg j))) := by rw [← hT9]; rfl
  have oq : ∀ q : Nat, q ≠ a → (H.setIfInBounds a (arrV (Γ.cA .int) n1 (fun j => .int (va_cpy (I a0) (I a) sp.toNatClampNeg dp.toNatClampNeg n.toNatClampNeg j))))[q]? = H[q]? := fun q hq => by simp [Array.getElem?_setIfInBounds, Ne.symm hq]
  obtain ⟨t, a1, b1⟩ := kk p l e s m args below meth c _ _ ls C (hR.put (M' := (T, R, S, uC I a0 sp.toNatClampNeg a dp.toNatClampNeg n.toNatClampNeg, L, D, z)) rfl rfl hne (jj_ce_arr hT) (show (H.setIfInBounds a _)[a]? = some (vp_cell (Γ.cA .int) (n1, .inl (uC I a0 sp.toNatClampNeg a dp.toNatClampNeg n.toNatClampNeg a))) by rw [uC_eq]; simp [Array.getElem?_setIfInBounds, hlt, vp_cell_i]) (fun b hb => jj_ce_ne rfl rfl (uC_ne hb) rfl rfl) (by simp) oq) (fun q hq => by
      rcases List.mem_append.mp hq with h | h
      · exact hlo q h
      · obtain ⟨z9, -, hz⟩ := List.mem_map.mp h
        rw [← hz]
        exact hR.2.2.2.2 a hne) hl _ hheap X'
  exact ⟨t, step t a1, b1⟩
end JK
