/-! THE LAW'S CASES, 6 (by program) -/
section C15
variable {Γ : Gam} {Zf : List Frame → Array Value → State → State → Prop} {cells slots k xo mo b : Nat} {T : JT} {R S : JR} {I : JI} {L : JL} {D : JD} {i : Int32}
theorem lc_55 {a6 a7 : Option Value} (hw : Wd Γ k xo mo T R S I L) (hk : k ≤ 599) (hol : mo + 18 ≤ b) (hO : T b = some (.inr (.long, 1))) (hO2 : T (b + 1) = some (.inr (.double, 1))) (p1 : vp_in (i + 1) Γ.sc.2.1) (p2 : vp_in (i + 2) Γ.sc.2.1) (p3 : vp_in (i + 3) Γ.sc.2.1) (p4 : vp_in (i + 4) Γ.sc.2.1) (p5 : vp_in (i + 5) Γ.sc.2.1) (hc : cells + 1 ≤ 601024) (hs : slots + 6 ≤ 7293034) (kk : Kk Γ Zf k xo mo b cells slots i T R) : JJ Γ EL Zf room_1 cells slots 3084 (Vl Γ.sc.1 xo mo b i a6 a7) [] (T, R, S, I, L, D, none) := by
  by_cases hb : (Γ.sc.2.2 (i + 2).toNatClampNeg) = 0
  · obtain ⟨n9, t, v, G, hal, hx, hm⟩ := (show BSt Γ k xo mo b 100 100 Y_X8_block Y_X9_block [.int (Γ.sc.2.2 (i + 1).toNatClampNeg), .int 0] [(0, 0), (1, 1), (2, 2)] T R S I L from st_block hw (by omega) hol) D
    have hn0 : t = 0 → n9 = 0 := (by decide : ∀ p ∈ ([(0, 0), (1, 1), (2, 2)] : List (Nat × Int32)), p.2 = 0 → p.1 = 0) (n9, t) hal
    have e1 := ec_le n9
    have e2 := es_le n9
    refine jj_aload_n (q := 3085) dL_law_3084 rfl rfl rfl ?_
    refine jj_aload_n (q := 3086) dL_law_3085 rfl rfl rfl ?_
    refine jj_iload (q := 3088) dL_law_3086 rfl rfl ?_
    refine jj_iconst (v := 1) (q := 3089) dL_law_3088 rfl rfl ?_
    refine jj_iadd (q := 3090) dL_law_3089 rfl ?_
    refine jj_kiald (q := 3091) dL_law_3090 sc_E p1 rfl rfl ?_
    refine jj_aload_n (q := 3092) dL_law_3091 rfl rfl rfl ?_
    refine jj_iload (q := 3094) dL_law_3092 rfl rfl ?_
    refine jj_iconst (v := 2) (q := 3095) dL_law_3094 rfl rfl ?_
    refine jj_iadd (q := 3096) dL_law_3095 rfl ?_
    refine jj_kiald (q := 3097) dL_law_3096 sc_E p2 rfl rfl ?_
    refine jj_if_eq (q := 3100) (tgt := 3104) dL_law_3097 rfl rfl (fun h3097 => ?_) (fun h3097 => absurd (hb) h3097)
    refine jj_iconst (v := 0) (q := 3105) dL_law_3104 rfl rfl ?_
    refine jj_aload_n (q := 3106) dL_law_3105 rfl rfl rfl ?_
    refine lS4 (q := 3109) (t := t) dL_law_3106 yk_L_block ms_L_block (wr_block (v := v) (G := G) hw.tx hO hal hx) (fun o M' h => h.1) rfl rfl rfl (by omega) (by omega) (fun M' h => ?_)
    obtain ⟨h1, S1, I1, L1, rfl, hG⟩ := h
    clear h1
    refine jj_istore (q := 3111) dL_law_3109 (by decide) rfl ?_
    refine jj_aload_n (q := 3112) dL_law_3111 rfl rfl rfl ?_
    refine jj_aload_n (q := 3113) dL_law_3112 rfl rfl rfl ?_
    refine jj_iload (q := 3115) dL_law_3113 rfl rfl ?_
    refine jj_iconst (v := 1) (q := 3116) dL_law_3115 rfl rfl ?_
    refine jj_iadd (q := 3117) dL_law_3116 rfl ?_
    refine jj_kiald (q := 3118) dL_law_3117 sc_E p1 rfl rfl ?_
    refine jj_aload_n (q := 3119) dL_law_3118 rfl rfl rfl ?_
    refine jj_iload (q := 3121) dL_law_3119 rfl rfl ?_
    refine jj_iconst (v := 2) (q := 3122) dL_law_3121 rfl rfl ?_
    refine jj_iadd (q := 3123) dL_law_3122 rfl ?_
    refine jj_kiald (q := 3124) dL_law_3123 sc_E p2 rfl rfl ?_
    refine jj_if_eq (q := 3127) (tgt := 3131) dL_law_3124 rfl rfl (fun h3124 => ?_) (fun h3124 => absurd (hb) h3124)
    refine jj_iconst (v := 0) (q := 3132) dL_law_3131 rfl rfl ?_
    refine lV2 (q := 3135) dL_law_3132 yk_X9_block ml_L_371 hw.hm.t0 (hm S1 I1 L1 _ D hG (fun c h => wLo_lt h)) (fun o M' h => by obtain ⟨S2, I2, w, h1, h2⟩ := h; exact ⟨w, h1.1⟩) rfl rfl rfl (by omega) (by omega) (fun r M' h => ?_)
    obtain ⟨S2, I2, w, ⟨h1, hv⟩, rfl, hw2, ht⟩ := h
    cases h1
    refine jj_istore (q := 3137) dL_law_3135 (by decide) rfl ?_
    refine jj_aload_n (q := 3138) dL_law_3137 rfl rfl rfl ?_
    refine lV0 (q := 3141) dL_law_3138 yk_X9_thrown ml_L_191 hw.hm.t0 (ex_thr hw2.hm) (fun o M' h => ⟨_, h.1⟩) rfl rfl rfl (by omega) (by omega) (fun r M' h => ?_)
    obtain ⟨h1, rfl⟩ := h
    cases h1
    refine jj_iload (q := 3143) dL_law_3141 rfl rfl ?_
    refine jj_icmp_eq (q := 3146) (tgt := 3148) dL_law_3143 rfl rfl (fun h3143 => ?_) (fun h3143 => absurd (ht) h3143)
    refine jj_iload (q := 3150) dL_law_3148 rfl rfl ?_
    refine jj_if_ne (q := 3153) (tgt := 3172) dL_law_3150 rfl rfl (fun h3150 => ?_) (fun h3150 => ?_)
    · refine jj_goto (tgt := 3611) dL_law_3172 rfl ?_
      exact kk S2 I2 _ _ _ _ _ _ (Nat.add_le_add_left (ec_le n9) cells) (Nat.add_le_add_left (es_le n9) slots) hw2
    · refine jj_aload_n (q := 3154) dL_law_3153 rfl rfl rfl ?_
      refine jj_iconst (v := 0) (q := 3155) dL_law_3154 rfl rfl ?_
      refine jj_lald (v := (zb v)) (q := 3156) dL_law_3155 hO vp_01 (wLo_at (hn0 h3150)) rfl ?_
      refine jj_iload (q := 3158) dL_law_3156 rfl rfl ?_
      refine jj_if_eq (q := 3161) (tgt := 3165) dL_law_3158 rfl rfl (fun h3158 => ?_) (fun h3158 => ?_)
      · refine jj_lconst (v := 0) (q := 3166) dL_law_3165 rfl rfl ?_
        refine jj_lcmp (q := 3167) dL_law_3166 rfl ?_
        refine jj_if_eq (q := 3170) (tgt := 3172) dL_law_3167 rfl rfl (fun h3167 => ?_) (fun h3167 => absurd (lcmp_self (zb_0 ((hv (hn0 h3150)).symm.trans h3158))) h3167)
        refine jj_goto (tgt := 3611) dL_law_3172 rfl ?_
        exact kk S2 I2 _ _ _ _ _ _ (Nat.add_le_add_left (ec_le n9) cells) (Nat.add_le_add_left (es_le n9) slots) hw2
      · refine jj_lconst (v := 1) (q := 3162) dL_law_3161 rfl rfl ?_
        refine jj_goto (tgt := 3166) dL_law_3162 rfl ?_
        refine jj_lcmp (q := 3167) dL_law_3166 rfl ?_
        refine jj_if_eq (q := 3170) (tgt := 3172) dL_law_3167 rfl rfl (fun h3167 => ?_) (fun h3167 => absurd (lcmp_self (zb_1 (fun h => h3158 ((hv (hn0 h3150)).trans h)))) h3167)
        refine jj_goto (tgt := 3611) dL_law_3172 rfl ?_
        exact kk S2 I2 _ _ _ _ _ _ (Nat.add_le_add_left (ec_le n9) cells) (Nat.add_le_add_left (es_le n9) slots) hw2
  · obtain ⟨n9, t, v, G, hal, hx, hm⟩ := (show BSt Γ k xo mo b 100 100 Y_X8_block Y_X9_block [.int (Γ.sc.2.2 (i + 1).toNatClampNeg), .int 1] [(0, 0), (1, 1), (2, 2)] T R S I L from st_block hw (by omega) hol) D
    have hn0 : t = 0 → n9 = 0 := (by decide : ∀ p ∈ ([(0, 0), (1, 1), (2, 2)] : List (Nat × Int32)), p.2 = 0 → p.1 = 0) (n9, t) hal
    have e1 := ec_le n9
    have e2 := es_le n9
    refine jj_aload_n (q := 3085) dL_law_3084 rfl rfl rfl ?_
    refine jj_aload_n (q := 3086) dL_law_3085 rfl rfl rfl ?_
    refine jj_iload (q := 3088) dL_law_3086 rfl rfl ?_
    refine jj_iconst (v := 1) (q := 3089) dL_law_3088 rfl rfl ?_
    refine jj_iadd (q := 3090) dL_law_3089 rfl ?_
    refine jj_kiald (q := 3091) dL_law_3090 sc_E p1 rfl rfl ?_
    refine jj_aload_n (q := 3092) dL_law_3091 rfl rfl rfl ?_
    refine jj_iload (q := 3094) dL_law_3092 rfl rfl ?_
    refine jj_iconst (v := 2) (q := 3095) dL_law_3094 rfl rfl ?_
    refine jj_iadd (q := 3096) dL_law_3095 rfl ?_
    refine jj_kiald (q := 3097) dL_law_3096 sc_E p2 rfl rfl ?_
    refine jj_if_eq (q := 3100) (tgt := 3104) dL_law_3097 rfl rfl (fun h3097 => absurd h3097 (hb)) (fun h3097 => ?_)
    refine jj_iconst (v := 1) (q := 3101) dL_law_3100 rfl rfl ?_
    refine jj_goto (tgt := 3105) dL_law_3101 rfl ?_
    refine jj_aload_n (q := 3106) dL_law_3105 rfl rfl rfl ?_
    refine lS4 (q := 3109) (t := t) dL_law_3106 yk_L_block ms_L_block (wr_block (v := v) (G := G) hw.tx hO hal hx) (fun o M' h => h.1) rfl rfl rfl (by omega) (by omega) (fun M' h => ?_)
    obtain ⟨h1, S1, I1, L1, rfl, hG⟩ := h
    clear h1
    refine jj_istore (q := 3111) dL_law_3109 (by decide) rfl ?_
    refine jj_aload_n (q := 3112) dL_law_3111 rfl rfl rfl ?_
    refine jj_aload_n (q := 3113) dL_law_3112 rfl rfl rfl ?_
    refine jj_iload (q := 3115) dL_law_3113 rfl rfl ?_
    refine jj_iconst (v := 1) (q := 3116) dL_law_3115 rfl rfl ?_
    refine jj_iadd (q := 3117) dL_law_3116 rfl ?_
    refine jj_kiald (q := 3118) dL_law_3117 sc_E p1 rfl rfl ?_
    refine jj_aload_n (q := 3119) dL_law_3118 rfl rfl rfl ?_
    refine jj_iload (q := 3121) dL_law_3119 rfl rfl ?_
    refine jj_iconst (v := 2) (q := 3122) dL_law_3121 rfl rfl ?_
    refine jj_iadd (q := 3123) dL_law_3122 rfl ?_
    refine jj_kiald (q := 3124) dL_law_3123 sc_E p2 rfl rfl ?_
    refine jj_if_eq (q := 3127) (tgt := 3131) dL_law_3124 rfl rfl (fun h3124 => absurd h3124 (hb)) (fun h3124 => ?_)
    refine jj_iconst (v := 1) (q := 3128) dL_law_3127 rfl rfl ?_
    refine jj_goto (tgt := 3132) dL_law_3128 rfl ?_
    refine lV2 (q := 3135) dL_law_3132 yk_X9_block ml_L_371 hw.hm.t0 (hm S1 I1 L1 _ D hG (fun c h => wLo_lt h)) (fun o M' h => by obtain ⟨S2, I2, w, h1, h2⟩ := h; exact ⟨w, h1.1⟩) rfl rfl rfl (by omega) (by omega) (fun r M' h => ?_)
    obtain ⟨S2, I2, w, ⟨h1, hv⟩, rfl, hw2, ht⟩ := h
    cases h1
    refine jj_istore (q := 3137) dL_law_3135 (by decide) rfl ?_
    refine jj_aload_n (q := 3138) dL_law_3137 rfl rfl rfl ?_
    refine lV0 (q := 3141) dL_law_3138 yk_X9_thrown ml_L_191 hw.hm.t0 (ex_thr hw2.hm) (fun o M' h => ⟨_, h.1⟩) rfl rfl rfl (by omega) (by omega) (fun r M' h => ?_)
    obtain ⟨h1, rfl⟩ := h
    cases h1
    refine jj_iload (q := 3143) dL_law_3141 rfl rfl ?_
    refine jj_icmp_eq (q := 3146) (tgt := 3148) dL_law_3143 rfl rfl (fun h3143 => ?_) (fun h3143 => absurd (ht) h3143)
    refine jj_iload (q := 3150) dL_law_3148 rfl rfl ?_
    refine jj_if_ne (q := 3153) (tgt := 3172) dL_law_3150 rfl rfl (fun h3150 => ?_) (fun h3150 => ?_)
    · refine jj_goto (tgt := 3611) dL_law_3172 rfl ?_
      exact kk S2 I2 _ _ _ _ _ _ (Nat.add_le_add_left (ec_le n9) cells) (Nat.add_le_add_left (es_le n9) slots) hw2
    · refine jj_aload_n (q := 3154) dL_law_3153 rfl rfl rfl ?_
      refine jj_iconst (v := 0) (q := 3155) dL_law_3154 rfl rfl ?_
      refine jj_lald (v := (zb v)) (q := 3156) dL_law_3155 hO vp_01 (wLo_at (hn0 h3150)) rfl ?_
      refine jj_iload (q := 3158) dL_law_3156 rfl rfl ?_
      refine jj_if_eq (q := 3161) (tgt := 3165) dL_law_3158 rfl rfl (fun h3158 => ?_) (fun h3158 => ?_)
      · refine jj_lconst (v := 0) (q := 3166) dL_law_3165 rfl rfl ?_
        refine jj_lcmp (q := 3167) dL_law_3166 rfl ?_
        refine jj_if_eq (q := 3170) (tgt := 3172) dL_law_3167 rfl rfl (fun h3167 => ?_) (fun h3167 => absurd (lcmp_self (zb_0 ((hv (hn0 h3150)).symm.trans h3158))) h3167)
        refine jj_goto (tgt := 3611) dL_law_3172 rfl ?_
        exact kk S2 I2 _ _ _ _ _ _ (Nat.add_le_add_left (ec_le n9) cells) (Nat.add_le_add_left (es_le n9) slots) hw2
      · refine jj_lconst (v := 1) (q := 3162) dL_law_3161 rfl rfl ?_
        refine jj_goto (tgt := 3166) dL_law_3162 rfl ?_
        refine jj_lcmp (q := 3167) dL_law_3166 rfl ?_
        refine jj_if_eq (q := 3170) (tgt := 3172) dL_law_3167 rfl rfl (fun h3167 => ?_) (fun h3167 => absurd (lcmp_self (zb_1 (fun h => h3158 ((hv (hn0 h3150)).trans h)))) h3167)
        refine jj_goto (tgt := 3611) dL_law_3172 rfl ?_
        exact kk S2 I2 _ _ _ _ _ _ (Nat.add_le_add_left (ec_le n9) cells) (Nat.add_le_add_left (es_le n9) slots) hw2
theorem lc_56 {a6 a7 : Option Value} (hw : Wd Γ k xo mo T R S I L) (hk : k ≤ 599) (hol : mo + 18 ≤ b) (hO : T b = some (.inr (.long, 1))) (hO2 : T (b + 1) = some (.inr (.double, 1))) (p1 : vp_in (i + 1) Γ.sc.2.1) (p2 : vp_in (i + 2) Γ.sc.2.1) (p3 : vp_in (i + 3) Γ.sc.2.1) (p4 : vp_in (i + 4) Γ.sc.2.1) (p5 : vp_in (i + 5) Γ.sc.2.1) (hc : cells + 1 ≤ 601024) (hs : slots + 6 ≤ 7293034) (kk : Kk Γ Zf k xo mo b cells slots i T R) : JJ Γ EL Zf room_1 cells slots 3175 (Vl Γ.sc.1 xo mo b i a6 a7) [] (T, R, S, I, L, D, none) := by
  obtain ⟨n9, t, v, G, hal, hx, hm⟩ := (show BSt Γ k xo mo b 100 100 Y_X8_setHot Y_X9_setHot [.int (Γ.sc.2.2 (i + 1).toNatClampNeg)] [(0, 0), (1, 1), (3, 2)] T R S I L from st_setHot hw (by omega) hol) D
  have hn0 : t = 0 → n9 = 0 := (by decide : ∀ p ∈ ([(0, 0), (1, 1), (3, 2)] : List (Nat × Int32)), p.2 = 0 → p.1 = 0) (n9, t) hal
  have e1 := ec_le n9
  have e2 := es_le n9
  refine jj_aload_n (q := 3176) dL_law_3175 rfl rfl rfl ?_
  refine jj_aload_n (q := 3177) dL_law_3176 rfl rfl rfl ?_
  refine jj_iload (q := 3179) dL_law_3177 rfl rfl ?_
  refine jj_iconst (v := 1) (q := 3180) dL_law_3179 rfl rfl ?_
  refine jj_iadd (q := 3181) dL_law_3180 rfl ?_
  refine jj_kiald (q := 3182) dL_law_3181 sc_E p1 rfl rfl ?_
  refine jj_aload_n (q := 3183) dL_law_3182 rfl rfl rfl ?_
  refine lS3 (q := 3186) (t := t) dL_law_3183 yk_L_setHot ms_L_setHot (wr_setHot (v := v) (G := G) hw.tx hO hal hx) (fun o M' h => h.1) rfl rfl rfl (by omega) (by omega) (fun M' h => ?_)
  obtain ⟨h1, S1, I1, L1, rfl, hG⟩ := h
  clear h1
  refine jj_istore (q := 3188) dL_law_3186 (by decide) rfl ?_
  refine jj_aload_n (q := 3189) dL_law_3188 rfl rfl rfl ?_
  refine jj_aload_n (q := 3190) dL_law_3189 rfl rfl rfl ?_
  refine jj_iload (q := 3192) dL_law_3190 rfl rfl ?_
  refine jj_iconst (v := 1) (q := 3193) dL_law_3192 rfl rfl ?_
  refine jj_iadd (q := 3194) dL_law_3193 rfl ?_
  refine jj_kiald (q := 3195) dL_law_3194 sc_E p1 rfl rfl ?_
  refine lV1 (q := 3198) dL_law_3195 yk_X9_setHot ml_L_374 hw.hm.t0 (hm S1 I1 L1 _ D hG (fun c h => wLo_lt h)) (fun o M' h => by obtain ⟨S2, I2, w, h1, h2⟩ := h; exact ⟨w, h1.1⟩) rfl rfl rfl (by omega) (by omega) (fun r M' h => ?_)
  obtain ⟨S2, I2, w, ⟨h1, hv⟩, rfl, hw2, ht⟩ := h
  cases h1
  refine jj_istore (q := 3200) dL_law_3198 (by decide) rfl ?_
  refine jj_aload_n (q := 3201) dL_law_3200 rfl rfl rfl ?_
  refine lV0 (q := 3204) dL_law_3201 yk_X9_thrown ml_L_191 hw.hm.t0 (ex_thr hw2.hm) (fun o M' h => ⟨_, h.1⟩) rfl rfl rfl (by omega) (by omega) (fun r M' h => ?_)
  obtain ⟨h1, rfl⟩ := h
  cases h1
  refine jj_iload (q := 3206) dL_law_3204 rfl rfl ?_
  refine jj_icmp_eq (q := 3209) (tgt := 3211) dL_law_3206 rfl rfl (fun h3206 => ?_) (fun h3206 => absurd (ht) h3206)
  refine jj_iload (q := 3213) dL_law_3211 rfl rfl ?_
  refine jj_if_ne (q := 3216) (tgt := 3228) dL_law_3213 rfl rfl (fun h3213 => ?_) (fun h3213 => ?_)
  · refine jj_goto (tgt := 3611) dL_law_3228 rfl ?_
    exact kk S2 I2 _ _ _ _ _ _ (Nat.add_le_add_left (ec_le n9) cells) (Nat.add_le_add_left (es_le n9) slots) hw2
  · refine jj_aload_n (q := 3217) dL_law_3216 rfl rfl rfl ?_
    refine jj_iconst (v := 0) (q := 3218) dL_law_3217 rfl rfl ?_
    refine jj_lald (v := v.toInt64) (q := 3219) dL_law_3218 hO vp_01 (wLo_at (hn0 h3213)) rfl ?_
    refine jj_iload (q := 3221) dL_law_3219 rfl rfl ?_
    refine jj_i2l (q := 3222) dL_law_3221 rfl ?_
    refine jj_lcmp (q := 3223) dL_law_3222 rfl ?_
    refine jj_if_eq (q := 3226) (tgt := 3228) dL_law_3223 rfl rfl (fun h3223 => ?_) (fun h3223 => absurd (lcmp_self (congrArg Int32.toInt64 (hv (hn0 h3213)).symm)) h3223)
    refine jj_goto (tgt := 3611) dL_law_3228 rfl ?_
    exact kk S2 I2 _ _ _ _ _ _ (Nat.add_le_add_left (ec_le n9) cells) (Nat.add_le_add_left (es_le n9) slots) hw2
theorem lc_57 {a6 a7 : Option Value} (hw : Wd Γ k xo mo T R S I L) (hk : k ≤ 599) (hol : mo + 18 ≤ b) (hO : T b = some (.inr (.long, 1))) (hO2 : T (b + 1) = some (.inr (.double, 1))) (p1 : vp_in (i + 1) Γ.sc.2.1) (p2 : vp_in (i + 2) Γ.sc.2.1) (p3 : vp_in (i + 3) Γ.sc.2.1) (p4 : vp_in (i + 4) Γ.sc.2.1) (p5 : vp_in (i + 5) Γ.sc.2.1) (hc : cells + 1 ≤ 601024) (hs : slots + 6 ≤ 7293034) (kk : Kk Γ Zf k xo mo b cells slots i T R) : JJ Γ EL Zf room_1 cells slots 3231 (Vl Γ.sc.1 xo mo b i a6 a7) [] (T, R, S, I, L, D, none) := by
  obtain ⟨n9, t, v, G, hal, hx, hm⟩ := (show BSt Γ k xo mo b 100 100 Y_X8_breakMachine Y_X9_breakMachine [.int (Γ.sc.2.2 (i + 1).toNatClampNeg), .int (Γ.sc.2.2 (i + 2).toNatClampNeg), .int (Γ.sc.2.2 (i + 3).toNatClampNeg)] [(0, 0), (1, 1), (2, 2), (3, 3)] T R S I L from st_breakMachine hw (by omega) hol) D
  have hn0 : t = 0 → n9 = 0 := (by decide : ∀ p ∈ ([(0, 0), (1, 1), (2, 2), (3, 3)] : List (Nat × Int32)), p.2 = 0 → p.1 = 0) (n9, t) hal
  have e1 := ec_le n9
  have e2 := es_le n9
  refine jj_aload_n (q := 3232) dL_law_3231 rfl rfl rfl ?_
  refine jj_aload_n (q := 3233) dL_law_3232 rfl rfl rfl ?_
  refine jj_iload (q := 3235) dL_law_3233 rfl rfl ?_
  refine jj_iconst (v := 1) (q := 3236) dL_law_3235 rfl rfl ?_
  refine jj_iadd (q := 3237) dL_law_3236 rfl ?_
  refine jj_kiald (q := 3238) dL_law_3237 sc_E p1 rfl rfl ?_
  refine jj_aload_n (q := 3239) dL_law_3238 rfl rfl rfl ?_
  refine jj_iload (q := 3241) dL_law_3239 rfl rfl ?_
  refine jj_iconst (v := 2) (q := 3242) dL_law_3241 rfl rfl ?_
  refine jj_iadd (q := 3243) dL_law_3242 rfl ?_
  refine jj_kiald (q := 3244) dL_law_3243 sc_E p2 rfl rfl ?_
  refine jj_aload_n (q := 3245) dL_law_3244 rfl rfl rfl ?_
  refine jj_iload (q := 3247) dL_law_3245 rfl rfl ?_
  refine jj_iconst (v := 3) (q := 3248) dL_law_3247 rfl rfl ?_
  refine jj_iadd (q := 3249) dL_law_3248 rfl ?_
  refine jj_kiald (q := 3250) dL_law_3249 sc_E p3 rfl rfl ?_
  refine jj_aload_n (q := 3251) dL_law_3250 rfl rfl rfl ?_
  refine lS5 (q := 3254) (t := t) dL_law_3251 yk_L_breakMachine ms_L_breakMachine (wr_breakMachine (v := v) (G := G) hw.tx hO hal hx) (fun o M' h => h.1) rfl rfl rfl (by omega) (by omega) (fun M' h => ?_)
  obtain ⟨h1, S1, I1, L1, rfl, hG⟩ := h
  clear h1
  refine jj_istore (q := 3256) dL_law_3254 (by decide) rfl ?_
  refine jj_aload_n (q := 3257) dL_law_3256 rfl rfl rfl ?_
  refine jj_aload_n (q := 3258) dL_law_3257 rfl rfl rfl ?_
  refine jj_iload (q := 3260) dL_law_3258 rfl rfl ?_
  refine jj_iconst (v := 1) (q := 3261) dL_law_3260 rfl rfl ?_
  refine jj_iadd (q := 3262) dL_law_3261 rfl ?_
  refine jj_kiald (q := 3263) dL_law_3262 sc_E p1 rfl rfl ?_
  refine jj_aload_n (q := 3264) dL_law_3263 rfl rfl rfl ?_
  refine jj_iload (q := 3266) dL_law_3264 rfl rfl ?_
  refine jj_iconst (v := 2) (q := 3267) dL_law_3266 rfl rfl ?_
  refine jj_iadd (q := 3268) dL_law_3267 rfl ?_
  refine jj_kiald (q := 3269) dL_law_3268 sc_E p2 rfl rfl ?_
  refine jj_aload_n (q := 3270) dL_law_3269 rfl rfl rfl ?_
  refine jj_iload (q := 3272) dL_law_3270 rfl rfl ?_
  refine jj_iconst (v := 3) (q := 3273) dL_law_3272 rfl rfl ?_
  refine jj_iadd (q := 3274) dL_law_3273 rfl ?_
  refine jj_kiald (q := 3275) dL_law_3274 sc_E p3 rfl rfl ?_
  refine lV3 (q := 3278) dL_law_3275 yk_X9_breakMachine ml_L_377 hw.hm.t0 (hm S1 I1 L1 _ D hG (fun c h => wLo_lt h)) (fun o M' h => by obtain ⟨S2, I2, w, h1, h2⟩ := h; exact ⟨w, h1.1⟩) rfl rfl rfl (by omega) (by omega) (fun r M' h => ?_)
  obtain ⟨S2, I2, w, ⟨h1, hv⟩, rfl, hw2, ht⟩ := h
  cases h1
  refine jj_istore (q := 3280) dL_law_3278 (by decide) rfl ?_
  refine jj_aload_n (q := 3281) dL_law_3280 rfl rfl rfl ?_
  refine lV0 (q := 3284) dL_law_3281 yk_X9_thrown ml_L_191 hw.hm.t0 (ex_thr hw2.hm) (fun o M' h => ⟨_, h.1⟩) rfl rfl rfl (by omega) (by omega) (fun r M' h => ?_)
  obtain ⟨h1, rfl⟩ := h
  cases h1
  refine jj_iload (q := 3286) dL_law_3284 rfl rfl ?_
  refine jj_icmp_eq (q := 3289) (tgt := 3291) dL_law_3286 rfl rfl (fun h3286 => ?_) (fun h3286 => absurd (ht) h3286)
  refine jj_iload (q := 3293) dL_law_3291 rfl rfl ?_
  refine jj_if_ne (q := 3296) (tgt := 3315) dL_law_3293 rfl rfl (fun h3293 => ?_) (fun h3293 => ?_)
  · refine jj_goto (tgt := 3611) dL_law_3315 rfl ?_
    exact kk S2 I2 _ _ _ _ _ _ (Nat.add_le_add_left (ec_le n9) cells) (Nat.add_le_add_left (es_le n9) slots) hw2
  · refine jj_aload_n (q := 3297) dL_law_3296 rfl rfl rfl ?_
    refine jj_iconst (v := 0) (q := 3298) dL_law_3297 rfl rfl ?_
    refine jj_lald (v := (zb v)) (q := 3299) dL_law_3298 hO vp_01 (wLo_at (hn0 h3293)) rfl ?_
    refine jj_iload (q := 3301) dL_law_3299 rfl rfl ?_
    refine jj_if_eq (q := 3304) (tgt := 3308) dL_law_3301 rfl rfl (fun h3301 => ?_) (fun h3301 => ?_)
    · refine jj_lconst (v := 0) (q := 3309) dL_law_3308 rfl rfl ?_
      refine jj_lcmp (q := 3310) dL_law_3309 rfl ?_
      refine jj_if_eq (q := 3313) (tgt := 3315) dL_law_3310 rfl rfl (fun h3310 => ?_) (fun h3310 => absurd (lcmp_self (zb_0 ((hv (hn0 h3293)).symm.trans h3301))) h3310)
      refine jj_goto (tgt := 3611) dL_law_3315 rfl ?_
      exact kk S2 I2 _ _ _ _ _ _ (Nat.add_le_add_left (ec_le n9) cells) (Nat.add_le_add_left (es_le n9) slots) hw2
    · refine jj_lconst (v := 1) (q := 3305) dL_law_3304 rfl rfl ?_
      refine jj_goto (tgt := 3309) dL_law_3305 rfl ?_
      refine jj_lcmp (q := 3310) dL_law_3309 rfl ?_
      refine jj_if_eq (q := 3313) (tgt := 3315) dL_law_3310 rfl rfl (fun h3310 => ?_) (fun h3310 => absurd (lcmp_self (zb_1 (fun h => h3301 ((hv (hn0 h3293)).trans h)))) h3310)
      refine jj_goto (tgt := 3611) dL_law_3315 rfl ?_
      exact kk S2 I2 _ _ _ _ _ _ (Nat.add_le_add_left (ec_le n9) cells) (Nat.add_le_add_left (es_le n9) slots) hw2
theorem lc_58 {a6 a7 : Option Value} (hw : Wd Γ k xo mo T R S I L) (hk : k ≤ 599) (hol : mo + 18 ≤ b) (hO : T b = some (.inr (.long, 1))) (hO2 : T (b + 1) = some (.inr (.double, 1))) (p1 : vp_in (i + 1) Γ.sc.2.1) (p2 : vp_in (i + 2) Γ.sc.2.1) (p3 : vp_in (i + 3) Γ.sc.2.1) (p4 : vp_in (i + 4) Γ.sc.2.1) (p5 : vp_in (i + 5) Γ.sc.2.1) (hc : cells + 1 ≤ 601024) (hs : slots + 6 ≤ 7293034) (kk : Kk Γ Zf k xo mo b cells slots i T R) : JJ Γ EL Zf room_1 cells slots 3318 (Vl Γ.sc.1 xo mo b i a6 a7) [] (T, R, S, I, L, D, none) := by
  obtain ⟨n9, t, v, G, hal, hx, hm⟩ := (show BSt Γ k xo mo b 100 100 Y_X8_stopLoop Y_X9_stopLoop [.int (Γ.sc.2.2 (i + 1).toNatClampNeg)] [(0, 0), (1, 1), (3, 2)] T R S I L from st_stopLoop hw (by omega) hol) D
  have hn0 : t = 0 → n9 = 0 := (by decide : ∀ p ∈ ([(0, 0), (1, 1), (3, 2)] : List (Nat × Int32)), p.2 = 0 → p.1 = 0) (n9, t) hal
  have e1 := ec_le n9
  have e2 := es_le n9
  refine jj_aload_n (q := 3319) dL_law_3318 rfl rfl rfl ?_
  refine jj_aload_n (q := 3320) dL_law_3319 rfl rfl rfl ?_
  refine jj_iload (q := 3322) dL_law_3320 rfl rfl ?_
  refine jj_iconst (v := 1) (q := 3323) dL_law_3322 rfl rfl ?_
  refine jj_iadd (q := 3324) dL_law_3323 rfl ?_
  refine jj_kiald (q := 3325) dL_law_3324 sc_E p1 rfl rfl ?_
  refine jj_aload_n (q := 3326) dL_law_3325 rfl rfl rfl ?_
  refine lS3 (q := 3329) (t := t) dL_law_3326 yk_L_stopLoop ms_L_stopLoop (wr_stopLoop (v := v) (G := G) hw.tx hO hal hx) (fun o M' h => h.1) rfl rfl rfl (by omega) (by omega) (fun M' h => ?_)
  obtain ⟨h1, S1, I1, L1, rfl, hG⟩ := h
  clear h1
  refine jj_istore (q := 3331) dL_law_3329 (by decide) rfl ?_
  refine jj_aload_n (q := 3332) dL_law_3331 rfl rfl rfl ?_
  refine jj_aload_n (q := 3333) dL_law_3332 rfl rfl rfl ?_
  refine jj_iload (q := 3335) dL_law_3333 rfl rfl ?_
  refine jj_iconst (v := 1) (q := 3336) dL_law_3335 rfl rfl ?_
  refine jj_iadd (q := 3337) dL_law_3336 rfl ?_
  refine jj_kiald (q := 3338) dL_law_3337 sc_E p1 rfl rfl ?_
  refine lV1 (q := 3341) dL_law_3338 yk_X9_stopLoop ml_L_380 hw.hm.t0 (hm S1 I1 L1 _ D hG (fun c h => wLo_lt h)) (fun o M' h => by obtain ⟨S2, I2, w, h1, h2⟩ := h; exact ⟨w, h1.1⟩) rfl rfl rfl (by omega) (by omega) (fun r M' h => ?_)
  obtain ⟨S2, I2, w, ⟨h1, hv⟩, rfl, hw2, ht⟩ := h
  cases h1
  refine jj_istore (q := 3343) dL_law_3341 (by decide) rfl ?_
  refine jj_aload_n (q := 3344) dL_law_3343 rfl rfl rfl ?_
  refine lV0 (q := 3347) dL_law_3344 yk_X9_thrown ml_L_191 hw.hm.t0 (ex_thr hw2.hm) (fun o M' h => ⟨_, h.1⟩) rfl rfl rfl (by omega) (by omega) (fun r M' h => ?_)
  obtain ⟨h1, rfl⟩ := h
  cases h1
  refine jj_iload (q := 3349) dL_law_3347 rfl rfl ?_
  refine jj_icmp_eq (q := 3352) (tgt := 3354) dL_law_3349 rfl rfl (fun h3349 => ?_) (fun h3349 => absurd (ht) h3349)
  refine jj_iload (q := 3356) dL_law_3354 rfl rfl ?_
  refine jj_if_ne (q := 3359) (tgt := 3371) dL_law_3356 rfl rfl (fun h3356 => ?_) (fun h3356 => ?_)
  · refine jj_goto (tgt := 3611) dL_law_3371 rfl ?_
    exact kk S2 I2 _ _ _ _ _ _ (Nat.add_le_add_left (ec_le n9) cells) (Nat.add_le_add_left (es_le n9) slots) hw2
  · refine jj_aload_n (q := 3360) dL_law_3359 rfl rfl rfl ?_
    refine jj_iconst (v := 0) (q := 3361) dL_law_3360 rfl rfl ?_
    refine jj_lald (v := v.toInt64) (q := 3362) dL_law_3361 hO vp_01 (wLo_at (hn0 h3356)) rfl ?_
    refine jj_iload (q := 3364) dL_law_3362 rfl rfl ?_
    refine jj_i2l (q := 3365) dL_law_3364 rfl ?_
    refine jj_lcmp (q := 3366) dL_law_3365 rfl ?_
    refine jj_if_eq (q := 3369) (tgt := 3371) dL_law_3366 rfl rfl (fun h3366 => ?_) (fun h3366 => absurd (lcmp_self (congrArg Int32.toInt64 (hv (hn0 h3356)).symm)) h3366)
    refine jj_goto (tgt := 3611) dL_law_3371 rfl ?_
    exact kk S2 I2 _ _ _ _ _ _ (Nat.add_le_add_left (ec_le n9) cells) (Nat.add_le_add_left (es_le n9) slots) hw2
theorem lc_59 {a6 a7 : Option Value} (hw : Wd Γ k xo mo T R S I L) (hk : k ≤ 599) (hol : mo + 18 ≤ b) (hO : T b = some (.inr (.long, 1))) (hO2 : T (b + 1) = some (.inr (.double, 1))) (p1 : vp_in (i + 1) Γ.sc.2.1) (p2 : vp_in (i + 2) Γ.sc.2.1) (p3 : vp_in (i + 3) Γ.sc.2.1) (p4 : vp_in (i + 4) Γ.sc.2.1) (p5 : vp_in (i + 5) Γ.sc.2.1) (hc : cells + 1 ≤ 601024) (hs : slots + 6 ≤ 7293034) (kk : Kk Γ Zf k xo mo b cells slots i T R) : JJ Γ EL Zf room_1 cells slots 3374 (Vl Γ.sc.1 xo mo b i a6 a7) [] (T, R, S, I, L, D, none) := by
  obtain ⟨n9, t, v, G, hal, hx, hm⟩ := (show BSt Γ k xo mo b 100 100 Y_X8_reroute Y_X9_reroute [.int (Γ.sc.2.2 (i + 1).toNatClampNeg), .int (Γ.sc.2.2 (i + 2).toNatClampNeg)] [(0, 0), (1, 1), (2, 2), (3, 3)] T R S I L from st_reroute hw (by omega) hol) D
  have hn0 : t = 0 → n9 = 0 := (by decide : ∀ p ∈ ([(0, 0), (1, 1), (2, 2), (3, 3)] : List (Nat × Int32)), p.2 = 0 → p.1 = 0) (n9, t) hal
  have e1 := ec_le n9
  have e2 := es_le n9
  refine jj_aload_n (q := 3375) dL_law_3374 rfl rfl rfl ?_
  refine jj_aload_n (q := 3376) dL_law_3375 rfl rfl rfl ?_
  refine jj_iload (q := 3378) dL_law_3376 rfl rfl ?_
  refine jj_iconst (v := 1) (q := 3379) dL_law_3378 rfl rfl ?_
  refine jj_iadd (q := 3380) dL_law_3379 rfl ?_
  refine jj_kiald (q := 3381) dL_law_3380 sc_E p1 rfl rfl ?_
  refine jj_aload_n (q := 3382) dL_law_3381 rfl rfl rfl ?_
  refine jj_iload (q := 3384) dL_law_3382 rfl rfl ?_
  refine jj_iconst (v := 2) (q := 3385) dL_law_3384 rfl rfl ?_
  refine jj_iadd (q := 3386) dL_law_3385 rfl ?_
  refine jj_kiald (q := 3387) dL_law_3386 sc_E p2 rfl rfl ?_
  refine jj_aload_n (q := 3388) dL_law_3387 rfl rfl rfl ?_
  refine lS4 (q := 3391) (t := t) dL_law_3388 yk_L_reroute ms_L_reroute (wr_reroute (v := v) (G := G) hw.tx hO hal hx) (fun o M' h => h.1) rfl rfl rfl (by omega) (by omega) (fun M' h => ?_)
  obtain ⟨h1, S1, I1, L1, rfl, hG⟩ := h
  clear h1
  refine jj_istore (q := 3393) dL_law_3391 (by decide) rfl ?_
  refine jj_aload_n (q := 3394) dL_law_3393 rfl rfl rfl ?_
  refine jj_aload_n (q := 3395) dL_law_3394 rfl rfl rfl ?_
  refine jj_iload (q := 3397) dL_law_3395 rfl rfl ?_
  refine jj_iconst (v := 1) (q := 3398) dL_law_3397 rfl rfl ?_
  refine jj_iadd (q := 3399) dL_law_3398 rfl ?_
  refine jj_kiald (q := 3400) dL_law_3399 sc_E p1 rfl rfl ?_
  refine jj_aload_n (q := 3401) dL_law_3400 rfl rfl rfl ?_
  refine jj_iload (q := 3403) dL_law_3401 rfl rfl ?_
  refine jj_iconst (v := 2) (q := 3404) dL_law_3403 rfl rfl ?_
  refine jj_iadd (q := 3405) dL_law_3404 rfl ?_
  refine jj_kiald (q := 3406) dL_law_3405 sc_E p2 rfl rfl ?_
  refine lV2 (q := 3409) dL_law_3406 yk_X9_reroute ml_L_383 hw.hm.t0 (hm S1 I1 L1 _ D hG (fun c h => wLo_lt h)) (fun o M' h => by obtain ⟨S2, I2, w, h1, h2⟩ := h; exact ⟨w, h1.1⟩) rfl rfl rfl (by omega) (by omega) (fun r M' h => ?_)
  obtain ⟨S2, I2, w, ⟨h1, hv⟩, rfl, hw2, ht⟩ := h
  cases h1
  refine jj_istore (q := 3411) dL_law_3409 (by decide) rfl ?_
  refine jj_aload_n (q := 3412) dL_law_3411 rfl rfl rfl ?_
  refine lV0 (q := 3415) dL_law_3412 yk_X9_thrown ml_L_191 hw.hm.t0 (ex_thr hw2.hm) (fun o M' h => ⟨_, h.1⟩) rfl rfl rfl (by omega) (by omega) (fun r M' h => ?_)
  obtain ⟨h1, rfl⟩ := h
  cases h1
  refine jj_iload (q := 3417) dL_law_3415 rfl rfl ?_
  refine jj_icmp_eq (q := 3420) (tgt := 3422) dL_law_3417 rfl rfl (fun h3417 => ?_) (fun h3417 => absurd (ht) h3417)
  refine jj_iload (q := 3424) dL_law_3422 rfl rfl ?_
  refine jj_if_ne (q := 3427) (tgt := 3439) dL_law_3424 rfl rfl (fun h3424 => ?_) (fun h3424 => ?_)
  · refine jj_goto (tgt := 3611) dL_law_3439 rfl ?_
    exact kk S2 I2 _ _ _ _ _ _ (Nat.add_le_add_left (ec_le n9) cells) (Nat.add_le_add_left (es_le n9) slots) hw2
  · refine jj_aload_n (q := 3428) dL_law_3427 rfl rfl rfl ?_
    refine jj_iconst (v := 0) (q := 3429) dL_law_3428 rfl rfl ?_
    refine jj_lald (v := v.toInt64) (q := 3430) dL_law_3429 hO vp_01 (wLo_at (hn0 h3424)) rfl ?_
    refine jj_iload (q := 3432) dL_law_3430 rfl rfl ?_
    refine jj_i2l (q := 3433) dL_law_3432 rfl ?_
    refine jj_lcmp (q := 3434) dL_law_3433 rfl ?_
    refine jj_if_eq (q := 3437) (tgt := 3439) dL_law_3434 rfl rfl (fun h3434 => ?_) (fun h3434 => absurd (lcmp_self (congrArg Int32.toInt64 (hv (hn0 h3424)).symm)) h3434)
    refine jj_goto (tgt := 3611) dL_law_3439 rfl ?_
    exact kk S2 I2 _ _ _ _ _ _ (Nat.add_le_add_left (ec_le n9) cells) (Nat.add_le_add_left (es_le n9) slots) hw2
theorem lc_60 {a6 a7 : Option Value} (hw : Wd Γ k xo mo T R S I L) (hk : k ≤ 599) (hol : mo + 18 ≤ b) (hO : T b = some (.inr (.long, 1))) (hO2 : T (b + 1) = some (.inr (.double, 1))) (p1 : vp_in (i + 1) Γ.sc.2.1) (p2 : vp_in (i + 2) Γ.sc.2.1) (p3 : vp_in (i + 3) Γ.sc.2.1) (p4 : vp_in (i + 4) Γ.sc.2.1) (p5 : vp_in (i + 5) Γ.sc.2.1) (hc : cells + 1 ≤ 601024) (hs : slots + 6 ≤ 7293034) (kk : Kk Γ Zf k xo mo b cells slots i T R) : JJ Γ EL Zf room_1 cells slots 3442 (Vl Γ.sc.1 xo mo b i a6 a7) [] (T, R, S, I, L, D, none) := by
  obtain ⟨n9, t, v, G, hal, hx, hm⟩ := (show BSt Γ k xo mo b 100 100 Y_X8_undo Y_X9_undo [] [(0, 0), (1, 1)] T R S I L from st_undo hw (by omega) hol) D
  have hn0 : t = 0 → n9 = 0 := (by decide : ∀ p ∈ ([(0, 0), (1, 1)] : List (Nat × Int32)), p.2 = 0 → p.1 = 0) (n9, t) hal
  have e1 := ec_le n9
  have e2 := es_le n9
  refine jj_aload_n (q := 3443) dL_law_3442 rfl rfl rfl ?_
  refine jj_aload_n (q := 3444) dL_law_3443 rfl rfl rfl ?_
  refine lS2 (q := 3447) (t := t) dL_law_3444 yk_L_undo ms_L_undo (wr_undo (v := v) (G := G) hw.tx hO hal hx) (fun o M' h => h.1) rfl rfl rfl (by omega) (by omega) (fun M' h => ?_)
  obtain ⟨h1, S1, I1, L1, rfl, hG⟩ := h
  clear h1
  refine jj_istore (q := 3449) dL_law_3447 (by decide) rfl ?_
  refine jj_aload_n (q := 3450) dL_law_3449 rfl rfl rfl ?_
  refine lV0 (q := 3453) dL_law_3450 yk_X9_undo ml_L_386 hw.hm.t0 (hm S1 I1 L1 _ D hG (fun c h => wLo_lt h)) (fun o M' h => by obtain ⟨S2, I2, w, h1, h2⟩ := h; exact ⟨w, h1.1⟩) rfl rfl rfl (by omega) (by omega) (fun r M' h => ?_)
  obtain ⟨S2, I2, w, ⟨h1, hv⟩, rfl, hw2, ht⟩ := h
  cases h1
  refine jj_istore (q := 3455) dL_law_3453 (by decide) rfl ?_
  refine jj_aload_n (q := 3456) dL_law_3455 rfl rfl rfl ?_
  refine lV0 (q := 3459) dL_law_3456 yk_X9_thrown ml_L_191 hw.hm.t0 (ex_thr hw2.hm) (fun o M' h => ⟨_, h.1⟩) rfl rfl rfl (by omega) (by omega) (fun r M' h => ?_)
  obtain ⟨h1, rfl⟩ := h
  cases h1
  refine jj_iload (q := 3461) dL_law_3459 rfl rfl ?_
  refine jj_icmp_eq (q := 3464) (tgt := 3466) dL_law_3461 rfl rfl (fun h3461 => ?_) (fun h3461 => absurd (ht) h3461)
  refine jj_iload (q := 3468) dL_law_3466 rfl rfl ?_
  refine jj_if_ne (q := 3471) (tgt := 3483) dL_law_3468 rfl rfl (fun h3468 => ?_) (fun h3468 => ?_)
  · refine jj_goto (tgt := 3611) dL_law_3483 rfl ?_
    exact kk S2 I2 _ _ _ _ _ _ (Nat.add_le_add_left (ec_le n9) cells) (Nat.add_le_add_left (es_le n9) slots) hw2
  · refine jj_aload_n (q := 3472) dL_law_3471 rfl rfl rfl ?_
    refine jj_iconst (v := 0) (q := 3473) dL_law_3472 rfl rfl ?_
    refine jj_lald (v := v.toInt64) (q := 3474) dL_law_3473 hO vp_01 (wLo_at (hn0 h3468)) rfl ?_
    refine jj_iload (q := 3476) dL_law_3474 rfl rfl ?_
    refine jj_i2l (q := 3477) dL_law_3476 rfl ?_
    refine jj_lcmp (q := 3478) dL_law_3477 rfl ?_
    refine jj_if_eq (q := 3481) (tgt := 3483) dL_law_3478 rfl rfl (fun h3478 => ?_) (fun h3478 => absurd (lcmp_self (congrArg Int32.toInt64 (hv (hn0 h3468)).symm)) h3478)
    refine jj_goto (tgt := 3611) dL_law_3483 rfl ?_
    exact kk S2 I2 _ _ _ _ _ _ (Nat.add_le_add_left (ec_le n9) cells) (Nat.add_le_add_left (es_le n9) slots) hw2
theorem lc_61 {a6 a7 : Option Value} (hw : Wd Γ k xo mo T R S I L) (hk : k ≤ 599) (hol : mo + 18 ≤ b) (hO : T b = some (.inr (.long, 1))) (hO2 : T (b + 1) = some (.inr (.double, 1))) (p1 : vp_in (i + 1) Γ.sc.2.1) (p2 : vp_in (i + 2) Γ.sc.2.1) (p3 : vp_in (i + 3) Γ.sc.2.1) (p4 : vp_in (i + 4) Γ.sc.2.1) (p5 : vp_in (i + 5) Γ.sc.2.1) (hc : cells + 1 ≤ 601024) (hs : slots + 6 ≤ 7293034) (kk : Kk Γ Zf k xo mo b cells slots i T R) : JJ Γ EL Zf room_1 cells slots 3486 (Vl Γ.sc.1 xo mo b i a6 a7) [] (T, R, S, I, L, D, none) := by
  obtain ⟨n9, t, v, G, hal, hx, hm⟩ := (show BSt Γ k xo mo b 100 100 Y_X8_undoable Y_X9_undoable [] [(0, 0)] T R S I L from st_undoable hw (by omega) hol) D
  simp only [List.mem_cons, List.mem_nil_iff, Prod.mk.injEq, or_false] at hal
  obtain ⟨rfl, rfl⟩ := hal
  refine jj_aload_n (q := 3487) dL_law_3486 rfl rfl rfl ?_
  refine lV0 (q := 3490) dL_law_3487 yk_X8_undoable ml_L_387 hw.tx hx (fun o M' h => ⟨v, h.1⟩) rfl rfl rfl (by omega) (by omega) (fun r M' h => ?_)
  obtain ⟨h1, S1, I1, L1, rfl, hG⟩ := h
  cases h1
  refine jj_aload_n (q := 3491) dL_law_3490 rfl rfl rfl ?_
  refine lV0 (q := 3494) dL_law_3491 yk_X9_undoable ml_L_390 hw.hm.t0 (hm S1 I1 L1 L1 D hG (fun _ _ => rfl)) (fun o M' h => by obtain ⟨S2, I2, w, h1, h2⟩ := h; exact ⟨w, h1.1⟩) rfl rfl rfl (by omega) (by omega) (fun r M' h => ?_)
  obtain ⟨S2, I2, w, ⟨h1, hv⟩, rfl, hw2, ht⟩ := h
  cases h1
  refine jj_icmp_eq (q := 3497) (tgt := 3611) dL_law_3494 rfl rfl (fun h3494 => ?_) (fun h3494 => absurd ((hv rfl).symm) h3494)
  exact kk S2 I2 _ _ _ _ _ _ (Nat.le_add_right _ _) (Nat.le_add_right _ _) hw2
theorem lc_62 {a6 a7 : Option Value} (hw : Wd Γ k xo mo T R S I L) (hk : k ≤ 599) (hol : mo + 18 ≤ b) (hO : T b = some (.inr (.long, 1))) (hO2 : T (b + 1) = some (.inr (.double, 1))) (p1 : vp_in (i + 1) Γ.sc.2.1) (p2 : vp_in (i + 2) Γ.sc.2.1) (p3 : vp_in (i + 3) Γ.sc.2.1) (p4 : vp_in (i + 4) Γ.sc.2.1) (p5 : vp_in (i + 5) Γ.sc.2.1) (hc : cells + 1 ≤ 601024) (hs : slots + 6 ≤ 7293034) (kk : Kk Γ Zf k xo mo b cells slots i T R) : JJ Γ EL Zf room_1 cells slots 3499 (Vl Γ.sc.1 xo mo b i a6 a7) [] (T, R, S, I, L, D, none) := by
  obtain ⟨n9, t, v, G, hal, hx, hm⟩ := (show BSt Γ k xo mo b 100 100 Y_X8_save Y_X9_save [.int (Γ.sc.2.2 (i + 1).toNatClampNeg)] [(0, 0), (1, 1), (2, 2)] T R S I L from st_save hw (by omega) hol) D
  have hn0 : t = 0 → n9 = 0 := (by decide : ∀ p ∈ ([(0, 0), (1, 1), (2, 2)] : List (Nat × Int32)), p.2 = 0 → p.1 = 0) (n9, t) hal
  have e1 := ec_le n9
  have e2 := es_le n9
  refine jj_aload_n (q := 3500) dL_law_3499 rfl rfl rfl ?_
  refine jj_aload_n (q := 3501) dL_law_3500 rfl rfl rfl ?_
  refine jj_iload (q := 3503) dL_law_3501 rfl rfl ?_
  refine jj_iconst (v := 1) (q := 3504) dL_law_3503 rfl rfl ?_
  refine jj_iadd (q := 3505) dL_law_3504 rfl ?_
  refine jj_kiald (q := 3506) dL_law_3505 sc_E p1 rfl rfl ?_
  refine jj_aload_n (q := 3507) dL_law_3506 rfl rfl rfl ?_
  refine lS3 (q := 3510) (t := t) dL_law_3507 yk_L_save ms_L_save (wr_save (v := v) (G := G) hw.tx hO hal hx) (fun o M' h => h.1) rfl rfl rfl (by omega) (by omega) (fun M' h => ?_)
  obtain ⟨h1, S1, I1, L1, rfl, hG⟩ := h
  clear h1
  refine jj_istore (q := 3512) dL_law_3510 (by decide) rfl ?_
  refine jj_aload_n (q := 3513) dL_law_3512 rfl rfl rfl ?_
  refine jj_aload_n (q := 3514) dL_law_3513 rfl rfl rfl ?_
  refine jj_iload (q := 3516) dL_law_3514 rfl rfl ?_
  refine jj_iconst (v := 1) (q := 3517) dL_law_3516 rfl rfl ?_
  refine jj_iadd (q := 3518) dL_law_3517 rfl ?_
  refine jj_kiald (q := 3519) dL_law_3518 sc_E p1 rfl rfl ?_
  refine lV1 (q := 3522) dL_law_3519 yk_X9_save ml_L_393 hw.hm.t0 (hm S1 I1 L1 _ D hG (fun c h => wLo_lt h)) (fun o M' h => by obtain ⟨S2, I2, w, h1, h2⟩ := h; exact ⟨w, h1.1⟩) rfl rfl rfl (by omega) (by omega) (fun r M' h => ?_)
  obtain ⟨S2, I2, w, ⟨h1, hv⟩, rfl, hw2, ht⟩ := h
  cases h1
  refine jj_istore (q := 3524) dL_law_3522 (by decide) rfl ?_
  refine jj_aload_n (q := 3525) dL_law_3524 rfl rfl rfl ?_
  refine lV0 (q := 3528) dL_law_3525 yk_X9_thrown ml_L_191 hw.hm.t0 (ex_thr hw2.hm) (fun o M' h => ⟨_, h.1⟩) rfl rfl rfl (by omega) (by omega) (fun r M' h => ?_)
  obtain ⟨h1, rfl⟩ := h
  cases h1
  refine jj_iload (q := 3530) dL_law_3528 rfl rfl ?_
  refine jj_icmp_eq (q := 3533) (tgt := 3535) dL_law_3530 rfl rfl (fun h3530 => ?_) (fun h3530 => absurd (ht) h3530)
  refine jj_iload (q := 3537) dL_law_3535 rfl rfl ?_
  refine jj_if_ne (q := 3540) (tgt := 3552) dL_law_3537 rfl rfl (fun h3537 => ?_) (fun h3537 => ?_)
  · refine jj_goto (tgt := 3611) dL_law_3552 rfl ?_
    exact kk S2 I2 _ _ _ _ _ _ (Nat.add_le_add_left (ec_le n9) cells) (Nat.add_le_add_left (es_le n9) slots) hw2
  · refine jj_aload_n (q := 3541) dL_law_3540 rfl rfl rfl ?_
    refine jj_iconst (v := 0) (q := 3542) dL_law_3541 rfl rfl ?_
    refine jj_lald (v := v.toInt64) (q := 3543) dL_law_3542 hO vp_01 (wLo_at (hn0 h3537)) rfl ?_
    refine jj_iload (q := 3545) dL_law_3543 rfl rfl ?_
    refine jj_i2l (q := 3546) dL_law_3545 rfl ?_
    refine jj_lcmp (q := 3547) dL_law_3546 rfl ?_
    refine jj_if_eq (q := 3550) (tgt := 3552) dL_law_3547 rfl rfl (fun h3547 => ?_) (fun h3547 => absurd (lcmp_self (congrArg Int32.toInt64 (hv (hn0 h3537)).symm)) h3547)
    refine jj_goto (tgt := 3611) dL_law_3552 rfl ?_
    exact kk S2 I2 _ _ _ _ _ _ (Nat.add_le_add_left (ec_le n9) cells) (Nat.add_le_add_left (es_le n9) slots) hw2
theorem lc_63 {a6 a7 : Option Value} (hw : Wd Γ k xo mo T R S I L) (hk : k ≤ 599) (hol : mo + 18 ≤ b) (hO : T b = some (.inr (.long, 1))) (hO2 : T (b + 1) = some (.inr (.double, 1))) (p1 : vp_in (i + 1) Γ.sc.2.1) (p2 : vp_in (i + 2) Γ.sc.2.1) (p3 : vp_in (i + 3) Γ.sc.2.1) (p4 : vp_in (i + 4) Γ.sc.2.1) (p5 : vp_in (i + 5) Γ.sc.2.1) (hc : cells + 1 ≤ 601024) (hs : slots + 6 ≤ 7293034) (kk : Kk Γ Zf k xo mo b cells slots i T R) : JJ Γ EL Zf room_1 cells slots 3555 (Vl Γ.sc.1 xo mo b i a6 a7) [] (T, R, S, I, L, D, none) := by
  obtain ⟨n9, t, v, G, hal, hx, hm⟩ := (show BSt Γ k xo mo b 100 100 Y_X8_restore Y_X9_restore [.int (Γ.sc.2.2 (i + 1).toNatClampNeg)] [(0, 0), (2, 1), (1, 2)] T R S I L from st_restore hw (by omega) hol) D
  have hn0 : t = 0 → n9 = 0 := (by decide : ∀ p ∈ ([(0, 0), (2, 1), (1, 2)] : List (Nat × Int32)), p.2 = 0 → p.1 = 0) (n9, t) hal
  have e1 := ec_le n9
  have e2 := es_le n9
  refine jj_aload_n (q := 3556) dL_law_3555 rfl rfl rfl ?_
  refine jj_aload_n (q := 3557) dL_law_3556 rfl rfl rfl ?_
  refine jj_iload (q := 3559) dL_law_3557 rfl rfl ?_
  refine jj_iconst (v := 1) (q := 3560) dL_law_3559 rfl rfl ?_
  refine jj_iadd (q := 3561) dL_law_3560 rfl ?_
  refine jj_kiald (q := 3562) dL_law_3561 sc_E p1 rfl rfl ?_
  refine jj_aload_n (q := 3563) dL_law_3562 rfl rfl rfl ?_
  refine lS3 (q := 3566) (t := t) dL_law_3563 yk_L_restore ms_L_restore (wr_restore (v := v) (G := G) hw.tx hO hal hx) (fun o M' h => h.1) rfl rfl rfl (by omega) (by omega) (fun M' h => ?_)
  obtain ⟨h1, S1, I1, L1, rfl, hG⟩ := h
  clear h1
  refine jj_istore (q := 3568) dL_law_3566 (by decide) rfl ?_
  refine jj_aload_n (q := 3569) dL_law_3568 rfl rfl rfl ?_
  refine jj_aload_n (q := 3570) dL_law_3569 rfl rfl rfl ?_
  refine jj_iload (q := 3572) dL_law_3570 rfl rfl ?_
  refine jj_iconst (v := 1) (q := 3573) dL_law_3572 rfl rfl ?_
  refine jj_iadd (q := 3574) dL_law_3573 rfl ?_
  refine jj_kiald (q := 3575) dL_law_3574 sc_E p1 rfl rfl ?_
  refine lV1 (q := 3578) dL_law_3575 yk_X9_restore ml_L_396 hw.hm.t0 (hm S1 I1 L1 _ D hG (fun c h => wLo_lt h)) (fun o M' h => by obtain ⟨S2, I2, w, h1, h2⟩ := h; exact ⟨w, h1.1⟩) rfl rfl rfl (by omega) (by omega) (fun r M' h => ?_)
  obtain ⟨S2, I2, w, ⟨h1, hv⟩, rfl, hw2, ht⟩ := h
  cases h1
  refine jj_istore (q := 3580) dL_law_3578 (by decide) rfl ?_
  refine jj_aload_n (q := 3581) dL_law_3580 rfl rfl rfl ?_
  refine lV0 (q := 3584) dL_law_3581 yk_X9_thrown ml_L_191 hw.hm.t0 (ex_thr hw2.hm) (fun o M' h => ⟨_, h.1⟩) rfl rfl rfl (by omega) (by omega) (fun r M' h => ?_)
  obtain ⟨h1, rfl⟩ := h
  cases h1
  refine jj_iload (q := 3586) dL_law_3584 rfl rfl ?_
  refine jj_icmp_eq (q := 3589) (tgt := 3591) dL_law_3586 rfl rfl (fun h3586 => ?_) (fun h3586 => absurd (ht) h3586)
  refine jj_iload (q := 3593) dL_law_3591 rfl rfl ?_
  refine jj_if_ne (q := 3596) (tgt := 3608) dL_law_3593 rfl rfl (fun h3593 => ?_) (fun h3593 => ?_)
  · refine jj_goto (tgt := 3611) dL_law_3608 rfl ?_
    exact kk S2 I2 _ _ _ _ _ _ (Nat.add_le_add_left (ec_le n9) cells) (Nat.add_le_add_left (es_le n9) slots) hw2
  · refine jj_aload_n (q := 3597) dL_law_3596 rfl rfl rfl ?_
    refine jj_iconst (v := 0) (q := 3598) dL_law_3597 rfl rfl ?_
    refine jj_lald (v := v.toInt64) (q := 3599) dL_law_3598 hO vp_01 (wLo_at (hn0 h3593)) rfl ?_
    refine jj_iload (q := 3601) dL_law_3599 rfl rfl ?_
    refine jj_i2l (q := 3602) dL_law_3601 rfl ?_
    refine jj_lcmp (q := 3603) dL_law_3602 rfl ?_
    refine jj_if_eq (q := 3606) (tgt := 3608) dL_law_3603 rfl rfl (fun h3603 => ?_) (fun h3603 => absurd (lcmp_self (congrArg Int32.toInt64 (hv (hn0 h3593)).symm)) h3603)
    refine jj_goto (tgt := 3611) dL_law_3608 rfl ?_
    exact kk S2 I2 _ _ _ _ _ _ (Nat.add_le_add_left (ec_le n9) cells) (Nat.add_le_add_left (es_le n9) slots) hw2
end C15
