/-! CONSTANT STRINGS: rows, and the JDK's length, charAt, indexOf on them -/
section JK
variable {Γ : Gam} {E : JE} {Zf : List Frame → Array Value → State → State → Prop} {Rm : Room} {cells slots pc q : Nat} {vl : List (Option Value)} {st : List Value} {M : JM}
theorem jj_pop {v : Value} (hd : decode E.2.1 pc = .ok (.pop, 1)) (hv : v.category = 1) (hq : pc + 1 = q) (k : JJ Γ E Zf Rm cells slots q vl st M) : JJ Γ E Zf Rm cells slots pc vl (v :: st) M := by
  subst hq
  intro p l e s m args below meth c H locs ls C hR hlo hl
  exact lv_pop C.1 C.2.1 hd hv (k p l e s m args below meth c H locs ls C hR hlo hl)
/-- what the constant cells are now -/
theorem jj_const {p : Program} {l : Launch} {e : Env} {s : State} {m : MethodId} {args : Array Value} {below : List Frame} {meth : Method} {c : Code} {H : Heap} {locs : List Loc} {Q : State → Prop} {f : JFrame} (C : Cx Γ E p l s m args meth c) (hR : jj_Rep Γ M H) (hlo : ∀ q ∈ locs, Γ.base ≤ q.base) (k : va_S Γ.A s.heap H locs → (∀ a : Nat, a < Γ.H0.size → ¬ Γ.A a → s.heap[a]? = Γ.H0[a]?) → W p l e Rm s m args below meth c H locs cells slots Q f) : W p l e Rm s m args below meth c H locs cells slots Q f := by
  intro Tt hT X9
  obtain ⟨f1, f2⟩ := vx_frame X9.same
  rw [hT] at f1 f2
  have f3 : ∀ q : Nat, q < s.heap.size → ¬ Γ.A q → H[q]? = s.heap[q]? := fun q h1 h2 => f2 q h1 (fun y hy h3 => h2 (by rw [← h3]; exact hlo y hy))
  have f4 : ∀ a : Nat, a < Γ.H0.size → ¬ Γ.A a → s.heap[a]? = Γ.H0[a]? := fun a h1 h2 => by
    have h3 : a < Γ.base := Nat.not_le.mp h2
    rw [← f3 a (Nat.lt_of_lt_of_le h3 C.2.2.2.2.2.2.2.2.2.2.2) h2]
    exact hR.2.2.1 a h3
  exact k ⟨f1, f3, hlo⟩ f4 Tt hT X9
theorem jj_kget {o n d : String} {v : Value} {t ix : Nat} (hd : decode E.2.1 pc = .ok (.getfield ix, 3)) (hl : Cond.fieldLink E.1 ix o n d ∈ lw_good) (hE : ∀ U, KG Γ U → va_OF o n d v t Γ.A U Γ.H0) (hq : pc + 3 = q) (kk : JJ Γ E Zf Rm cells slots q vl (v :: st) M) : JJ Γ E Zf Rm cells slots pc vl (.ref t :: st) M := by
  subst hq
  intro p l e s m args below meth c H locs ls C hR hlo hl'
  exact jj_const C hR hlo (fun hS f4 => vk_getf C.1 C.2.1 ((hE s C.2.2.2.2.2.2.1).kept f4) hS C.2.2.2.2.1 (C.2.2.2.2.2.1 _ hl) (fun x hx => hx) hd (kk p l e s m args below meth c H locs ls C hR hlo hl'))
theorem jj_kgets {o n d : String} {v : Value} {ix : Nat} (hd : decode E.2.1 pc = .ok (.getstatic ix, 3)) (hl : Cond.fieldLink E.1 ix o n d ∈ lw_good) (hE : ∀ U, KG Γ U → va_Z o n d v Γ.A U Γ.H0) (hq : pc + 3 = q) (kk : JJ Γ E Zf Rm cells slots q vl (v :: st) M) : JJ Γ E Zf Rm cells slots pc vl st M := by
  subst hq
  intro p l e s m args below meth c H locs ls C hR hlo hl'
  exact jj_const C hR hlo (fun hS f4 => va_gets C.1 C.2.1 ((hE s C.2.2.2.2.2.2.1).kept f4) hS C.2.2.2.2.1 (C.2.2.2.2.2.1 _ hl) (fun x hx => hx) hd (kk p l e s m args below meth c H locs ls C hR hlo hl'))
theorem jj_kgetq {o n d : String} {ix : Nat} (hd : decode E.2.1 pc = .ok (.getstatic ix, 3)) (hl : Cond.fieldLink E.1 ix o n d ∈ lw_good) (hE : ∀ U, KG Γ U → va_Zq o n d Γ.A U Γ.H0) (hq : pc + 3 = q) (kk : ∀ v : Value, v.category = 1 → JJ Γ E Zf Rm cells slots q vl (v :: st) M) : JJ Γ E Zf Rm cells slots pc vl st M := by
  subst hq
  intro p l e s m args below meth c H locs ls C hR hlo hl'
  refine jj_const C hR hlo (fun hS f4 => ?_)
  rcases hE s C.2.2.2.2.2.2.1 with h | ⟨t, h⟩
  · exact va_gets C.1 C.2.1 (h.kept f4) hS C.2.2.2.2.1 (C.2.2.2.2.2.1 _ hl) (fun x hx => hx) hd (kk _ rfl p l e s m args below meth c H locs ls C hR hlo hl')
  · exact va_gets C.1 C.2.1 (h.kept f4) hS C.2.2.2.2.1 (C.2.2.2.2.2.1 _ hl) (fun x hx => hx) hd (kk _ rfl p l e s m args below meth c H locs ls C hR hlo hl')
theorem jj_kbald {t N : Nat} {f : Nat → Value} {i v : Int32} (hd : decode E.2.1 pc = .ok (.baload, 1)) (hE : ∀ U, KG Γ U → va_T .byte t N f Γ.A U Γ.H0) (hin : vp_in i N) (hv : f i.toNatClampNeg = .int v) (hq : pc + 1 = q) (kk : JJ Γ E Zf Rm cells slots q vl (.int v :: st) M) : JJ Γ E Zf Rm cells slots pc vl (.int i :: .ref t :: st) M := by
  subst hq
  intro p l e s m args below meth c H locs ls C hR hlo hl'
  exact jj_const C hR hlo (fun hS f4 => va_tb C.1 C.2.1 ((hE s C.2.2.2.2.2.2.1).kept f4) hS hin hv hd (kk p l e s m args below meth c H locs ls C hR hlo hl'))
theorem jj_kiald {t N : Nat} {f : Nat → Value} {i v : Int32} (hd : decode E.2.1 pc = .ok (.iaload, 1)) (hE : ∀ U, KG Γ U → va_T .int t N f Γ.A U Γ.H0) (hin : vp_in i N) (hv : f i.toNatClampNeg = .int v) (hq : pc + 1 = q) (kk : JJ Γ E Zf Rm cells slots q vl (.int v :: st) M) : JJ Γ E Zf Rm cells slots pc vl (.int i :: .ref t :: st) M := by
  subst hq
  intro p l e s m args below meth c H locs ls C hR hlo hl'
  exact jj_const C hR hlo (fun hS f4 => va_ti C.1 C.2.1 ((hE s C.2.2.2.2.2.2.1).kept f4) hS hin hv hd (kk p l e s m args below meth c H locs ls C hR hlo hl'))
theorem jj_klen {ty : FieldType} {t N : Nat} {f : Nat → Value} {v : Int32} (hd : decode E.2.1 pc = .ok (.arraylength, 1)) (hE : ∀ U, KG Γ U → va_T ty t N f Γ.A U Γ.H0) (hv : Int32.ofNat N = v) (hq : pc + 1 = q) (kk : JJ Γ E Zf Rm cells slots q vl (.int v :: st) M) : JJ Γ E Zf Rm cells slots pc vl (.ref t :: st) M := by
  subst hq
  intro p l e s m args below meth c H locs ls C hR hlo hl'
  exact jj_const C hR hlo (fun hS f4 => va_tlen C.1 C.2.1 ((hE s C.2.2.2.2.2.2.1).kept f4) hS hv hd (kk p l e s m args below meth c H locs ls C hR hlo hl'))
theorem jj_ldcSw {ix : Nat} {tx : String} (hd : decode E.2.1 pc = .ok (.ldc_w ix, 3)) (hs : Cond.stringRef E.1 ix tx ∈ lw_tbl) (hq : pc + 3 = q) (kk : JJ Γ E Zf Rm cells slots q vl (.ref (Γ.ss E.1 ix) :: st) M) : JJ Γ E Zf Rm cells slots pc vl st M := by
  subst hq
  intro p l e s m args below meth c H locs ls C hR hlo hl T hT X
  obtain ⟨t, a1, b1⟩ := kk p l e s m args below meth c H locs ls C hR hlo hl T hT X
  have hZ := (C.2.2.2.2.2.2.1.2.2.2.2.1 _ _ _ hs).1
  obtain ⟨k, cf, i, a', hk, hcf, hcp, -, hr, hev'⟩ := Cond.stringRef_spec C.2.2.2.2.1 hZ.1
  cases hZ.2.symm.trans hev'
  obtain ⟨k', hk', he⟩ := X.warmed.alike.2.2 _ _ hk
  have hr' : k'.resolved[ix]? = some (some (.string (Γ.ss E.1 ix))) := by
    rcases X.warmed.entry hk hk' ix with h | ⟨h, -⟩
    · rw [h]; exact hr
    · rw [hr] at h; cases h
  have hdg : decode c.code (F0 m pc ls st).pc = .ok (.ldc_w ix, 3) := by rw [C.2.1]; exact hd
  refine ⟨t, ?_, b1⟩
  jvm_step X.here [C.1, hdg, ldc_w.wp_string (e := e) (s := T) (f := F0 m pc ls st) X.here.top hk' (by rw [he]; exact hcf) hcp hr']
  exact a1
/-- a call on a constant String -/
def MLK (own : String) (ix : Nat) (y : JY) : Prop := Cond.methodLink own ix y.1 ∈ lw_good ∧ Cond.instanceMethod y.1 ∈ lw_good ∧ Cond.selects "java/lang/String" y.1 y.1 ∈ lw_good
theorem jj_callK {own tx : String} {i2 ix n d mc ms : Nat} {y : JY} {as rest : List Value} {Q : JO → JM → Prop} (hs : Cond.stringRef own i2 tx ∈ lw_tbl) (hd : decode E.2.1 pc = .ok (.invokevirtual ix, 3)) (hy : YOK y n) (hm : MLK E.1 ix y) (hx : Ex Γ d y (.ref (Γ.ss own i2) :: as) M mc ms Q) (hn : as.length = n) (hrt : (rest.map fun v => v.category).sum ≤ 8) (hrm : d + 1 ≤ Rm.frames ∧ 8 + (y.2.2.1 + 11) + 40 * d ≤ Rm.locals) (hcs : cells + mc ≤ Rm.cells ∧ slots + ms ≤ Rm.slots)
    (kk : ∀ v M', Q (.inl v) M' → JJ Γ E Zf Rm (cells + mc) (slots + ms) (pc + 3) vl (v.toList ++ rest) M') (kx : ∀ X M', Q (.inr X) M' → JX Γ E Zf Rm (cells + mc) (slots + ms) pc vl rest M' X) : JJ Γ E Zf Rm cells slots pc vl (as.reverse ++ .ref (Γ.ss own i2) :: rest) M := by
  intro p l e s m args below meth c H locs ls C hR hlo hl
  have hts := C.2.2.2.2.2.1
  have hO := (C.2.2.2.2.2.2.1.2.2.2.2.1 _ _ _ hs).2.1
  have hrecv : ∃ cellB : Cell, H[Γ.ss own i2]? = some cellB ∧ cellB.vm.isStatics = false ∧ s.vm.findClass "java/lang/String" = some cellB.cls := by
    obtain ⟨cell, h1, h2, h3, h4⟩ := hO
    exact ⟨cell, by rw [hR.2.2.1 _ (Nat.not_le.mp h4)]; exact h1, h2, h3⟩
  exact jj_after C hlo hl (vx_runV (As := as) (rest := rest) (ret := y.2.2.2) ⟨C.1, C.2.1, C.2.2.1, C.2.2.2.2.1, hts⟩ (hx l C.2.2.2.2.2.2.2.2.2.1) ⟨callB_of n hts (jj_wsG hy) rfl rfl rfl (hts _ hy.2.2) (hts _ hm.1) hy.2.1 hrm, hts _ hm.2.1, hts _ hm.2.2⟩ ⟨jj_blind Γ _ M, hrecv, jj_fr hR C.2.2.2.2.2.2.1⟩ rfl hn hl.1 rfl (lv_room hrt) hd hcs) kk kx
theorem jj_k0i {own tx : String} {i2 ix d mcR msR : Nat} {y : JY} {rest : List Value} {r : Int32} {M1 : JM} (hs : Cond.stringRef own i2 tx ∈ lw_tbl) (hd : decode E.2.1 pc = .ok (.invokevirtual ix, 3)) (hy : YOK y 0) (hm : MLK E.1 ix y) (hx : Ex Γ d y (.ref (Γ.ss own i2) :: []) M 0 0 (rI r M1)) (hk : Nat.ble y.2.2.1 21 = true) (hrt : Nat.ble (rest.map fun v => v.category).sum 8 = true) (hq : pc + 3 = q) (hcs : cells ≤ mcR ∧ slots ≤ msR) (kk : JJ Γ E Zf (jj_rm (d + 1) mcR msR) cells slots q vl (.int r :: rest) M1) : JJ Γ E Zf (jj_rm (d + 1) mcR msR) cells slots pc vl (.ref (Γ.ss own i2) :: rest) M := by
  subst hq
  exact jj_callK (as := []) (rest := rest) hs hd hy hm hx rfl (Nat.le_of_ble_eq_true hrt) (jj_rok (Nat.le_of_ble_eq_true hk)) hcs (fun v M' h => by obtain ⟨h1, h2⟩ := h; cases h1; subst h2; exact kk) (fun X M' h => by cases h.1)
theorem jj_k1i {own tx : String} {i2 ix d mcR msR : Nat} {y : JY} {rest : List Value} {v1 : Value} {r : Int32} {M1 : JM} (hs : Cond.stringRef own i2 tx ∈ lw_tbl) (hd : decode E.2.1 pc = .ok (.invokevirtual ix, 3)) (hy : YOK y 1) (hm : MLK E.1 ix y) (hx : Ex Γ d y (.ref (Γ.ss own i2) :: [v1]) M 0 0 (rI r M1)) (hk : Nat.ble y.2.2.1 21 = true) (hrt : Nat.ble (rest.map fun v => v.category).sum 8 = true) (hq : pc + 3 = q) (hcs : cells ≤ mcR ∧ slots ≤ msR) (kk : JJ Γ E Zf (jj_rm (d + 1) mcR msR) cells slots q vl (.int r :: rest) M1) : JJ Γ E Zf (jj_rm (d + 1) mcR msR) cells slots pc vl (v1 :: .ref (Γ.ss own i2) :: rest) M := by
  subst hq
  exact jj_callK (as := [v1]) (rest := rest) hs hd hy hm hx rfl (Nat.le_of_ble_eq_true hrt) (jj_rok (Nat.le_of_ble_eq_true hk)) hcs (fun v M' h => by obtain ⟨h1, h2⟩ := h; cases h1; subst h2; exact kk) (fun X M' h => by cases h.1)
theorem jj_k2i {own tx : String} {i2 ix d mcR msR : Nat} {y : JY} {rest : List Value} {v1 v2 : Value} {r : Int32} {M1 : JM} (hs : Cond.stringRef own i2 tx ∈ lw_tbl) (hd : decode E.2.1 pc = .ok (.invokevirtual ix, 3)) (hy : YOK y 2) (hm : MLK E.1 ix y) (hx : Ex Γ d y (.ref (Γ.ss own i2) :: [v1, v2]) M 0 0 (rI r M1)) (hk : Nat.ble y.2.2.1 21 = true) (hrt : Nat.ble (rest.map fun v => v.category).sum 8 = true) (hq : pc + 3 = q) (hcs : cells ≤ mcR ∧ slots ≤ msR) (kk : JJ Γ E Zf (jj_rm (d + 1) mcR msR) cells slots q vl (.int r :: rest) M1) : JJ Γ E Zf (jj_rm (d + 1) mcR msR) cells slots pc vl (v2 :: v1 :: .ref (Γ.ss own i2) :: rest) M := by
  subst hq
  exact jj_callK (as := [v1, v2]) (rest := rest) hs hd hy hm hx rfl (Nat.le_of_ble_eq_true hrt) (jj_rok (Nat.le_of_ble_eq_true hk)) hcs (fun v M' h => by obtain ⟨h1, h2⟩ := h; cases h1; subst h2; exact kk) (fun X M' h => by cases h.1)
end JK
theorem mk_X2_259 : MLK RX2 259 Y_J0_length_8abf5 := ⟨(lw_g3 201 (by decide +kernel) rfl), (lw_g3 121 (by decide +kernel) rfl), (lw_g3 122 (by decide +kernel) rfl)⟩
theorem mk_X2_263 : MLK RX2 263 Y_J0_charAt_5068e := ⟨(lw_g3 202 (by decide +kernel) rfl), (lw_g3 203 (by decide +kernel) rfl), (lw_g3 204 (by decide +kernel) rfl)⟩
theorem mk_X2_275 : MLK RX2 275 Y_J0_indexOf_0f7a4 := ⟨(lw_g3 106 (by decide +kernel) rfl), (lw_g3 107 (by decide +kernel) rfl), (lw_g3 108 (by decide +kernel) rfl)⟩
theorem mk_X9_122 : MLK RX9 122 Y_J0_length_8abf5 := ⟨(lw_g7 221 (by decide +kernel) rfl), (lw_g3 121 (by decide +kernel) rfl), (lw_g3 122 (by decide +kernel) rfl)⟩
theorem mk_X9_126 : MLK RX9 126 Y_J0_charAt_5068e := ⟨(lw_g7 222 (by decide +kernel) rfl), (lw_g3 203 (by decide +kernel) rfl), (lw_g3 204 (by decide +kernel) rfl)⟩
theorem mk_J0_335 : MLK RJ0 335 Y_J0_coder_7d493 := ⟨(lw_g3 124 (by decide +kernel) rfl), (lw_g3 125 (by decide +kernel) rfl), (lw_g3 126 (by decide +kernel) rfl)⟩
theorem mk_J0_492 : MLK RJ0 492 Y_J0_isLatin1_aae02 := ⟨(lw_g3 114 (by decide +kernel) rfl), (lw_g3 115 (by decide +kernel) rfl), (lw_g3 116 (by decide +kernel) rfl)⟩
theorem mk_J0_505 : MLK RJ0 505 Y_J0_length_8abf5 := ⟨(lw_g3 120 (by decide +kernel) rfl), (lw_g3 121 (by decide +kernel) rfl), (lw_g3 122 (by decide +kernel) rfl)⟩
theorem mk_J0_633 : MLK RJ0 633 Y_J0_indexOf_7cf53 := ⟨(lw_g3 110 (by decide +kernel) rfl), (lw_g3 111 (by decide +kernel) rfl), (lw_g3 112 (by decide +kernel) rfl)⟩
theorem kf_J0_9 : Cond.fieldLink RJ0 9 "java/lang/String" "value" "[B" ∈ lw_good := (lw_g10 24 (by decide +kernel) rfl)
theorem kf_J0_15 : Cond.fieldLink RJ0 15 "java/lang/String" "coder" "B" ∈ lw_good := (lw_g10 23 (by decide +kernel) rfl)
theorem kf_J0_38 : Cond.fieldLink RJ0 38 "java/lang/String" "COMPACT_STRINGS" "Z" ∈ lw_good := (lw_g3 118 (by decide +kernel) rfl)
theorem kf_J0_1053 : Cond.fieldLink RJ0 1053 "jdk/internal/util/Preconditions" "SIOOBE_FORMATTER" "Ljava/util/function/BiFunction;" ∈ lw_good := (lw_g3 157 (by decide +kernel) rfl)
theorem i2c_s : ∀ {b : Nat}, b < 128 → ((nI b).toUInt32 % 65536).toInt32 = nI b := by
  have h : ∀ b, b < 128 → ((nI b).toUInt32 % 65536).toInt32 = nI b := by decide +kernel
  exact fun {b} => h b
theorem narc : ∀ {b : Nat}, b < 128 → narrow .char (.int (nI b)) = .int (nI b) := by
  have h : ∀ b, b < 128 → narrow .char (.int (nI b)) = .int (nI b) := by decide +kernel
  exact fun {b} => h b
section M71
variable {Γ : Gam} {d : Nat} {M : JM} {own tx : String} {i2 : Nat}
theorem ks_of (hs : Cond.stringRef own i2 tx ∈ lw_tbl) : ∀ U, KG Γ U → KStr Γ (Γ.ss own i2) tx U := fun U h => (h.2.2.2.2.1 _ _ _ hs).2
theorem ex_coder (hs : Cond.stringRef own i2 tx ∈ lw_tbl) : Ex Γ d Y_J0_coder_7d493 [.ref (Γ.ss own i2)] M 0 0 (rI 0 M) := by
  refine Ex.of (by decide) (by simp [Value.category]) (Nat.le_of_ble_eq_true rfl) rfl ?_
  refine jj_kgets (q := 3) (v := .int 1) dJ0_coder_7d493_0 kf_J0_38 (fun U h => h.2.2.2.2.2.2.1) rfl ?_
  refine jj_if_eq (q := 6) (tgt := 13) dJ0_coder_7d493_3 rfl rfl (fun h => absurd h (by decide)) (fun _ => ?_)
  refine jj_aload_n (q := 7) dJ0_coder_7d493_6 rfl rfl rfl ?_
  refine jj_kget (q := 10) (v := .int 0) dJ0_coder_7d493_7 kf_J0_15 (fun U h => (ks_of hs U h).2.1) rfl ?_
  refine jj_goto (tgt := 14) dJ0_coder_7d493_10 rfl ?_
  exact jj_zret dJ0_coder_7d493_14 rfl rfl (Nat.zero_le _) (Nat.zero_le _) ⟨rfl, rfl⟩
theorem ex_isLatin1 (hs : Cond.stringRef own i2 tx ∈ lw_tbl) : Ex Γ d Y_J0_isLatin1_aae02 [.ref (Γ.ss own i2)] M 0 0 (rI 1 M) := by
  refine Ex.of (by decide) (by simp [Value.category]) (Nat.le_of_ble_eq_true rfl) rfl ?_
  refine jj_kgets (q := 3) (v := .int 1) dJ0_isLatin1_aae02_0 kf_J0_38 (fun U h => h.2.2.2.2.2.2.1) rfl ?_
  refine jj_if_eq (q := 6) (tgt := 17) dJ0_isLatin1_aae02_3 rfl rfl (fun h => absurd h (by decide)) (fun _ => ?_)
  refine jj_aload_n (q := 7) dJ0_isLatin1_aae02_6 rfl rfl rfl ?_
  refine jj_kget (q := 10) (v := .int 0) dJ0_isLatin1_aae02_7 kf_J0_15 (fun U h => (ks_of hs U h).2.1) rfl ?_
  refine jj_if_ne (q := 13) (tgt := 17) dJ0_isLatin1_aae02_10 rfl rfl (fun h => absurd rfl h) (fun _ => ?_)
  refine jj_iconst (v := 1) (q := 14) dJ0_isLatin1_aae02_13 rfl rfl ?_
  refine jj_goto (tgt := 18) dJ0_isLatin1_aae02_14 rfl ?_
  exact jj_zret dJ0_isLatin1_aae02_18 rfl rfl (Nat.zero_le _) (Nat.zero_le _) ⟨rfl, rfl⟩
theorem shr0 {n : Nat} : nI n >>> ((0 : Int32) &&& 31) = nI n := by
  rw [show ((0 : Int32) &&& 31) = 0 by decide]
  exact Int32.shiftRight_zero ..
theorem ex_length (hs : Cond.stringRef own i2 tx ∈ lw_tbl) : Ex Γ (d + 1) Y_J0_length_8abf5 [.ref (Γ.ss own i2)] M 0 0 (rI (nI (sTx tx).length) M) := by
  refine Ex.of (by decide) (by simp [Value.category]) (Nat.le_of_ble_eq_true rfl) rfl ?_
  refine jj_aload_n (q := 1) dJ0_length_8abf5_0 rfl rfl rfl ?_
  refine jj_kget (q := 4) (v := .ref (Γ.sv (Γ.ss own i2))) dJ0_length_8abf5_1 kf_J0_9 (fun U h => (ks_of hs U h).2.2.1) rfl ?_
  refine jj_klen (q := 5) (v := nI (sTx tx).length) dJ0_length_8abf5_4 (fun U h => (ks_of hs U h).2.2.2) rfl rfl ?_
  refine jj_aload_n (q := 6) dJ0_length_8abf5_5 rfl rfl rfl ?_
  refine jj_k0i (q := 9) hs dJ0_length_8abf5_6 yk_J0_coder_7d493 mk_J0_335 (ex_coder hs) rfl rfl rfl ⟨Nat.zero_le _, Nat.zero_le _⟩ ?_
  refine jj_ishr (q := 10) dJ0_length_8abf5_9 rfl ?_
  rw [shr0]
  exact jj_iret dJ0_length_8abf5_10 rfl (Nat.zero_le _) (Nat.zero_le _) ⟨rfl, rfl⟩
theorem ex_pcheck {i n : Nat} {v : Value} (hv : v.category = 1) (h : i < n) (hn : n < 2 ^ 31) : Ex Γ d Y_J3_checkIndex_8e157 [.int (nI i), .int (nI n), v] M 0 0 (rI (nI i) M) := by
  refine Ex.of (by decide) (fun w hw => by simp only [List.mem_cons, List.not_mem_nil, or_false] at hw; rcases hw with rfl | rfl | rfl <;> first | rfl | exact hv) (Nat.le_of_ble_eq_true rfl) rfl ?_
  refine jj_iload_n (q := 1) dJ3_checkIndex_8e157_0 rfl rfl rfl ?_
  refine jj_if_lt (q := 4) (tgt := 9) dJ3_checkIndex_8e157_1 rfl rfl (fun g => absurd g (nI_ltz (by omega))) (fun _ => ?_)
  refine jj_iload_n (q := 5) dJ3_checkIndex_8e157_4 rfl rfl rfl ?_
  refine jj_iload_n (q := 6) dJ3_checkIndex_8e157_5 rfl rfl rfl ?_
  refine jj_icmp_lt (q := 9) (tgt := 16) dJ3_checkIndex_8e157_6 rfl rfl (fun _ => ?_) (fun g => absurd (nI_ltN h hn) g)
  refine jj_iload_n (q := 17) dJ3_checkIndex_8e157_16 rfl rfl rfl ?_
  exact jj_iret dJ3_checkIndex_8e157_17 rfl (Nat.zero_le _) (Nat.zero_le _) ⟨rfl, rfl⟩
theorem ex_scheck {i n : Nat} (h : i < n) (hn : n < 2 ^ 31) : Ex Γ (d + 1) Y_J0_checkIndex_df160 [.int (nI i), .int (nI n)] M 0 0 (rV M) := by
  refine Ex.of (by decide) (by simp [Value.category]) (Nat.le_of_ble_eq_true rfl) rfl ?_
  refine jj_iload_n (q := 1) dJ0_checkIndex_df160_0 rfl rfl rfl ?_
  refine jj_iload_n (q := 2) dJ0_checkIndex_df160_1 rfl rfl rfl ?_
  refine jj_kgetq (q := 5) dJ0_checkIndex_df160_2 kf_J0_1053 (fun U h => h.2.2.2.2.2.2.2.1) rfl (fun v hv => ?_)
  refine jj_cS3i (q := 8) dJ0_checkIndex_df160_5 yk_J3_checkIndex_8e157 ml_J0_1059 (ex_pcheck hv h hn) rfl rfl rfl ⟨Nat.zero_le _, Nat.zero_le _⟩ ?_
  refine jj_pop (q := 9) dJ0_checkIndex_df160_8 rfl rfl ?_
  exact jj_vret dJ0_checkIndex_df160_9 rfl (Nat.zero_le _) (Nat.zero_le _) ⟨rfl, rfl⟩
/-- a text of plain signs -/
def pTx (tx : String) : Prop := (sTx tx).length < 2 ^ 20 ∧ ∀ j, j < (sTx tx).length → ∃ b, b < 128 ∧ (sTx tx).getD j 0 = nI b
theorem ex_lchar (hs : Cond.stringRef own i2 tx ∈ lw_tbl) (hp : pTx tx) {j : Nat} (hj : j < (sTx tx).length) : Ex Γ (d + 2) Y_J1_charAt_3b067 [.ref (Γ.sv (Γ.ss own i2)), .int (nI j)] M 0 0 (rI ((sTx tx).getD j 0) M) := by
  obtain ⟨b, hb, e⟩ := hp.2 j hj
  have hl := hp.1
  refine Ex.of (by decide) (by simp [Value.category]) (Nat.le_of_ble_eq_true rfl) rfl ?_
  refine jj_iload_n (q := 1) dJ1_charAt_3b067_0 rfl rfl rfl ?_
  refine jj_aload_n (q := 2) dJ1_charAt_3b067_1 rfl rfl rfl ?_
  refine jj_klen (q := 3) (v := nI (sTx tx).length) dJ1_charAt_3b067_2 (fun U h => (ks_of hs U h).2.2.2) rfl rfl ?_
  refine jj_cS2v (q := 6) dJ1_charAt_3b067_3 yk_J0_checkIndex_df160 ml_J1_9 (ex_scheck hj (by omega)) rfl rfl rfl ⟨Nat.zero_le _, Nat.zero_le _⟩ ?_
  refine jj_aload_n (q := 7) dJ1_charAt_3b067_6 rfl rfl rfl ?_
  refine jj_iload_n (q := 8) dJ1_charAt_3b067_7 rfl rfl rfl ?_
  refine jj_kbald (q := 9) (v := nI b) dJ1_charAt_3b067_8 (fun U h => (ks_of hs U h).2.2.2) (nI_in hj (by omega)) (by rw [nI_clamp (by omega), e]) rfl ?_
  refine jj_sipush (v := 255) (q := 12) dJ1_charAt_3b067_9 rfl rfl ?_
  refine jj_iand (q := 13) dJ1_charAt_3b067_12 rfl ?_
  rw [show nI b &&& 255 = nI b by rw [show (255 : Int32) = nI (2 ^ 8 - 1) from rfl, fa_mask, Nat.mod_eq_of_lt (by omega)]]
  refine jj_i2c (q := 14) dJ1_charAt_3b067_13 rfl ?_
  rw [i2c_s hb, e]
  exact jj_zret dJ1_charAt_3b067_14 rfl (narc hb) (Nat.zero_le _) (Nat.zero_le _) ⟨rfl, rfl⟩
theorem ex_charAt (hs : Cond.stringRef own i2 tx ∈ lw_tbl) (hp : pTx tx) {j : Nat} (hj : j < (sTx tx).length) : Ex Γ (d + 3) Y_J0_charAt_5068e [.ref (Γ.ss own i2), .int (nI j)] M 0 0 (rI ((sTx tx).getD j 0) M) := by
  obtain ⟨b, hb, e⟩ := hp.2 j hj
  refine Ex.of (by decide) (by simp [Value.category]) (Nat.le_of_ble_eq_true rfl) rfl ?_
  refine jj_aload_n (q := 1) dJ0_charAt_5068e_0 rfl rfl rfl ?_
  refine jj_k0i (q := 4) hs dJ0_charAt_5068e_1 yk_J0_isLatin1_aae02 mk_J0_492 (ex_isLatin1 hs) rfl rfl rfl ⟨Nat.zero_le _, Nat.zero_le _⟩ ?_
  refine jj_if_eq (q := 7) (tgt := 16) dJ0_charAt_5068e_4 rfl rfl (fun h => absurd h (by decide)) (fun _ => ?_)
  refine jj_aload_n (q := 8) dJ0_charAt_5068e_7 rfl rfl rfl ?_
  refine jj_kget (q := 11) (v := .ref (Γ.sv (Γ.ss own i2))) dJ0_charAt_5068e_8 kf_J0_9 (fun U h => (ks_of hs U h).2.2.1) rfl ?_
  refine jj_iload_n (q := 12) dJ0_charAt_5068e_11 rfl rfl rfl ?_
  refine jj_cS2i (q := 15) dJ0_charAt_5068e_12 yk_J1_charAt_3b067 ml_J0_495 (ex_lchar hs hp hj) rfl rfl rfl ⟨Nat.zero_le _, Nat.zero_le _⟩ ?_
  exact jj_zret dJ0_charAt_5068e_15 rfl (by rw [e]; exact narc hb) (Nat.zero_le _) (Nat.zero_le _) ⟨rfl, rfl⟩
/-- where a sign stands in a text -/
def sIx (tx : String) (c : Int32) : Int32 := srch (fun j => decide ((sTx tx).getD j 0 = c)) (sTx tx).length nI (-1)
theorem lp_ixc (hs : Cond.stringRef own i2 tx ∈ lw_tbl) (hp : pTx tx) {c : Int32} : ∀ (k i : Nat), (i + k = (sTx tx).length ∧ ∀ j, j < i → decide ((sTx tx).getD j 0 = c.toInt8.toInt32) = false) → JJ Γ (jj_E Y_J1_indexOfChar_4cfef) (jj_Z Γ (rI (sIx tx c.toInt8.toInt32) M) 0 0) (jj_rm d 0 0) 0 0 7 [some (.ref (Γ.sv (Γ.ss own i2))), some (.int c), some (.int 0), some (.int (nI (sTx tx).length)), some (.int c.toInt8.toInt32), some (.int (nI i))] [] M := by
  have hl := hp.1
  intro k
  induction k with
  | zero =>
    intro i hi
    refine jj_iload (q := 9) dJ1_indexOfChar_4cfef_7 rfl rfl ?_
    refine jj_iload_n (q := 10) dJ1_indexOfChar_4cfef_9 rfl rfl rfl ?_
    refine jj_icmp_ge (q := 13) (tgt := 31) dJ1_indexOfChar_4cfef_10 rfl rfl (fun _ => ?_) (fun h => absurd (nI_le (show (sTx tx).length ≤ i by omega) (by omega)) h)
    refine jj_iconst (v := -1) (q := 32) dJ1_indexOfChar_4cfef_31 rfl rfl ?_
    exact jj_iret dJ1_indexOfChar_4cfef_32 rfl (Nat.zero_le _) (Nat.zero_le _) ⟨by unfold sIx; rw [srch_none (fun j hj => hi.2 j (by omega))], rfl⟩
  | succ k ih =>
    intro i hi
    obtain ⟨b, hb, e⟩ := hp.2 i (by omega)
    refine jj_iload (q := 9) dJ1_indexOfChar_4cfef_7 rfl rfl ?_
    refine jj_iload_n (q := 10) dJ1_indexOfChar_4cfef_9 rfl rfl rfl ?_
    refine jj_icmp_ge (q := 13) (tgt := 31) dJ1_indexOfChar_4cfef_10 rfl rfl (fun h => absurd h (nI_ge (show i < (sTx tx).length by omega) (by omega))) (fun _ => ?_)
    refine jj_aload_n (q := 14) dJ1_indexOfChar_4cfef_13 rfl rfl rfl ?_
    refine jj_iload (q := 16) dJ1_indexOfChar_4cfef_14 rfl rfl ?_
    refine jj_kbald (q := 17) (v := (sTx tx).getD i 0) dJ1_indexOfChar_4cfef_16 (fun U h => (ks_of hs U h).2.2.2) (nI_in (show i < (sTx tx).length by omega) (by omega)) (by rw [nI_clamp (by omega)]) rfl ?_
    refine jj_iload (q := 19) dJ1_indexOfChar_4cfef_17 rfl rfl ?_
    refine jj_icmp_ne (q := 22) (tgt := 25) dJ1_indexOfChar_4cfef_19 rfl rfl (fun h19 => ?_) (fun h19 => ?_)
    · refine jj_iinc (v := nI (i + 1)) (q := 28) dJ1_indexOfChar_4cfef_25 rfl (nI_inc i) (by decide) rfl ?_
      refine jj_goto (tgt := 7) dJ1_indexOfChar_4cfef_28 rfl ?_
      refine ih (i + 1) ⟨by omega, fun j hj => ?_⟩
      by_cases ee : j = i
      · subst ee; exact decide_eq_false h19
      · exact hi.2 j (by omega)
    · refine jj_iload (q := 24) dJ1_indexOfChar_4cfef_22 rfl rfl ?_
      exact jj_iret dJ1_indexOfChar_4cfef_24 rfl (Nat.zero_le _) (Nat.zero_le _) ⟨by unfold sIx; rw [srch_hit hi.2 (decide_eq_true h19) (by omega)], rfl⟩
theorem ex_ixc (hs : Cond.stringRef own i2 tx ∈ lw_tbl) (hp : pTx tx) {c : Int32} : Ex Γ d Y_J1_indexOfChar_4cfef [.ref (Γ.sv (Γ.ss own i2)), .int c, .int 0, .int (nI (sTx tx).length)] M 0 0 (rI (sIx tx c.toInt8.toInt32) M) := by
  refine Ex.of (by decide) (by simp [Value.category]) (Nat.le_of_ble_eq_true rfl) rfl ?_
  refine jj_iload_n (q := 1) dJ1_indexOfChar_4cfef_0 rfl rfl rfl ?_
  refine jj_i2b (q := 2) dJ1_indexOfChar_4cfef_1 rfl ?_
  refine jj_istore (q := 4) dJ1_indexOfChar_4cfef_2 (by decide) rfl ?_
  refine jj_iload_n (q := 5) dJ1_indexOfChar_4cfef_4 rfl rfl rfl ?_
  refine jj_istore (q := 7) dJ1_indexOfChar_4cfef_5 (by decide) rfl ?_
  exact lp_ixc hs hp (sTx tx).length 0 ⟨by omega, fun j hj => by omega⟩
theorem ex_canE {b : Nat} (hb : b < 256) : Ex Γ d Y_J1_canEncode_9a6ad [.int (nI b)] M 0 0 (rI 1 M) := by
  refine Ex.of (by decide) (by simp [Value.category]) (Nat.le_of_ble_eq_true rfl) rfl ?_
  refine jj_iload_n (q := 1) dJ1_canEncode_9a6ad_0 rfl rfl rfl ?_
  refine jj_if_lt (q := 4) (tgt := 15) dJ1_canEncode_9a6ad_1 rfl rfl (fun g => absurd g (nI_ltz (by omega))) (fun _ => ?_)
  refine jj_iload_n (q := 5) dJ1_canEncode_9a6ad_4 rfl rfl rfl ?_
  refine jj_sipush (v := 255) (q := 8) dJ1_canEncode_9a6ad_5 rfl rfl ?_
  refine jj_icmp_gt (q := 11) (tgt := 15) dJ1_canEncode_9a6ad_8 rfl rfl (fun g => absurd g (nI_nltN (a := b) (b := 255) (by omega) (by omega))) (fun _ => ?_)
  refine jj_iconst (v := 1) (q := 12) dJ1_canEncode_9a6ad_11 rfl rfl ?_
  refine jj_goto (tgt := 16) dJ1_canEncode_9a6ad_12 rfl ?_
  exact jj_zret dJ1_canEncode_9a6ad_16 rfl rfl (Nat.zero_le _) (Nat.zero_le _) ⟨rfl, rfl⟩
theorem ex_ixl (hs : Cond.stringRef own i2 tx ∈ lw_tbl) (hp : pTx tx) (h0 : 0 < (sTx tx).length) {b : Nat} (hb : b < 256) : Ex Γ (d + 1) Y_J1_indexOf_4cfef [.ref (Γ.sv (Γ.ss own i2)), .int (nI b), .int 0, .int (nI (sTx tx).length)] M 0 0 (rI (sIx tx (nI b).toInt8.toInt32) M) := by
  have hl := hp.1
  refine Ex.of (by decide) (by simp [Value.category]) (Nat.le_of_ble_eq_true rfl) rfl ?_
  refine jj_iload_n (q := 1) dJ1_indexOf_4cfef_0 rfl rfl rfl ?_
  refine jj_cS1i (q := 4) dJ1_indexOf_4cfef_1 yk_J1_canEncode_9a6ad ml_J1_88 (ex_canE hb) rfl rfl rfl ⟨Nat.zero_le _, Nat.zero_le _⟩ ?_
  refine jj_if_ne (q := 7) (tgt := 9) dJ1_indexOf_4cfef_4 rfl rfl (fun _ => ?_) (fun h => absurd h (by decide))
  refine jj_iload_n (q := 10) dJ1_indexOf_4cfef_9 rfl rfl rfl ?_
  refine jj_iconst (v := 0) (q := 11) dJ1_indexOf_4cfef_10 rfl rfl ?_
  refine jj_mmax (q := 14) dJ1_indexOf_4cfef_11 km_J1_92 rfl rfl ⟨Nat.zero_le _, Nat.zero_le _⟩ ?_
  refine jj_istore_n (q := 15) dJ1_indexOf_4cfef_14 rfl (by decide) rfl ?_
  refine jj_iload_n (q := 16) dJ1_indexOf_4cfef_15 rfl rfl rfl ?_
  refine jj_aload_n (q := 17) dJ1_indexOf_4cfef_16 rfl rfl rfl ?_
  refine jj_klen (q := 18) (v := nI (sTx tx).length) dJ1_indexOf_4cfef_17 (fun U h => (ks_of hs U h).2.2.2) rfl rfl ?_
  refine jj_mmin (q := 21) dJ1_indexOf_4cfef_18 km_J1_38 rfl rfl ⟨Nat.zero_le _, Nat.zero_le _⟩ ?_
  refine jj_istore_n (q := 22) dJ1_indexOf_4cfef_21 rfl (by decide) rfl ?_
  rw [show (if (0 : Int32) < 0 then (0 : Int32) else 0) = 0 by decide, ite_self]
  refine jj_iload_n (q := 23) dJ1_indexOf_4cfef_22 rfl rfl rfl ?_
  refine jj_iload_n (q := 24) dJ1_indexOf_4cfef_23 rfl rfl rfl ?_
  refine jj_icmp_lt (q := 27) (tgt := 29) dJ1_indexOf_4cfef_24 rfl rfl (fun _ => ?_) (fun g => absurd (nI_ltN (a := 0) h0 (by omega)) g)
  refine jj_aload_n (q := 30) dJ1_indexOf_4cfef_29 rfl rfl rfl ?_
  refine jj_iload_n (q := 31) dJ1_indexOf_4cfef_30 rfl rfl rfl ?_
  refine jj_iload_n (q := 32) dJ1_indexOf_4cfef_31 rfl rfl rfl ?_
  refine jj_iload_n (q := 33) dJ1_indexOf_4cfef_32 rfl rfl rfl ?_
  refine jj_cS4i (q := 36) dJ1_indexOf_4cfef_33 yk_J1_indexOfChar_4cfef ml_J1_95 (ex_ixc hs hp) rfl rfl rfl ⟨Nat.zero_le _, Nat.zero_le _⟩ ?_
  exact jj_iret dJ1_indexOf_4cfef_36 rfl (Nat.zero_le _) (Nat.zero_le _) ⟨rfl, rfl⟩
theorem ex_ix2 (hs : Cond.stringRef own i2 tx ∈ lw_tbl) (hp : pTx tx) (h0 : 0 < (sTx tx).length) {b : Nat} (hb : b < 256) : Ex Γ (d + 2) Y_J0_indexOf_7cf53 [.ref (Γ.ss own i2), .int (nI b), .int 0] M 0 0 (rI (sIx tx (nI b).toInt8.toInt32) M) := by
  refine Ex.of (by decide) (by simp [Value.category]) (Nat.le_of_ble_eq_true rfl) rfl ?_
  refine jj_aload_n (q := 1) dJ0_indexOf_7cf53_0 rfl rfl rfl ?_
  refine jj_k0i (q := 4) hs dJ0_indexOf_7cf53_1 yk_J0_isLatin1_aae02 mk_J0_492 (ex_isLatin1 hs) rfl rfl rfl ⟨Nat.zero_le _, Nat.zero_le _⟩ ?_
  refine jj_if_eq (q := 7) (tgt := 23) dJ0_indexOf_7cf53_4 rfl rfl (fun h => absurd h (by decide)) (fun _ => ?_)
  refine jj_aload_n (q := 8) dJ0_indexOf_7cf53_7 rfl rfl rfl ?_
  refine jj_kget (q := 11) (v := .ref (Γ.sv (Γ.ss own i2))) dJ0_indexOf_7cf53_8 kf_J0_9 (fun U h => (ks_of hs U h).2.2.1) rfl ?_
  refine jj_iload_n (q := 12) dJ0_indexOf_7cf53_11 rfl rfl rfl ?_
  refine jj_iload_n (q := 13) dJ0_indexOf_7cf53_12 rfl rfl rfl ?_
  refine jj_aload_n (q := 14) dJ0_indexOf_7cf53_13 rfl rfl rfl ?_
  refine jj_k0i (q := 17) hs dJ0_indexOf_7cf53_14 yk_J0_length_8abf5 mk_J0_505 (ex_length hs) rfl rfl rfl ⟨Nat.zero_le _, Nat.zero_le _⟩ ?_
  refine jj_cS4i (q := 20) dJ0_indexOf_7cf53_17 yk_J1_indexOf_4cfef ml_J0_637 (ex_ixl hs hp h0 hb) rfl rfl rfl ⟨Nat.zero_le _, Nat.zero_le _⟩ ?_
  refine jj_goto (tgt := 36) dJ0_indexOf_7cf53_20 rfl ?_
  exact jj_iret dJ0_indexOf_7cf53_36 rfl (Nat.zero_le _) (Nat.zero_le _) ⟨rfl, rfl⟩
theorem ex_indexOf (hs : Cond.stringRef own i2 tx ∈ lw_tbl) (hp : pTx tx) (h0 : 0 < (sTx tx).length) {b : Nat} (hb : b < 256) : Ex Γ (d + 3) Y_J0_indexOf_0f7a4 [.ref (Γ.ss own i2), .int (nI b)] M 0 0 (rI (sIx tx (nI b).toInt8.toInt32) M) := by
  refine Ex.of (by decide) (by simp [Value.category]) (Nat.le_of_ble_eq_true rfl) rfl ?_
  refine jj_aload_n (q := 1) dJ0_indexOf_0f7a4_0 rfl rfl rfl ?_
  refine jj_iload_n (q := 2) dJ0_indexOf_0f7a4_1 rfl rfl rfl ?_
  refine jj_iconst (v := 0) (q := 3) dJ0_indexOf_0f7a4_2 rfl rfl ?_
  refine jj_k2i (q := 6) hs dJ0_indexOf_0f7a4_3 yk_J0_indexOf_7cf53 mk_J0_633 (ex_ix2 hs hp h0 hb) rfl rfl rfl ⟨Nat.zero_le _, Nat.zero_le _⟩ ?_
  exact jj_iret dJ0_indexOf_0f7a4_6 rfl (Nat.zero_le _) (Nat.zero_le _) ⟨rfl, rfl⟩
end M71
