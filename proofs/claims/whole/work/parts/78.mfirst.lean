/-! the words; the FIRST LINE of the model -/
abbrev wd_loop : List Nat := [108, 111, 111, 112]
theorem wl_loop : sTx "loop" = wd_loop.map nI := by decide
abbrev wd_level : List Nat := [108, 101, 118, 101, 108]
theorem wl_level : sTx "level" = wd_level.map nI := by decide
abbrev wd_hot : List Nat := [104, 111, 116]
theorem wl_hot : sTx "hot" = wd_hot.map nI := by decide
abbrev wd_seed : List Nat := [115, 101, 101, 100]
theorem wl_seed : sTx "seed" = wd_seed.map nI := by decide
abbrev wd_flight : List Nat := [102, 108, 105, 103, 104, 116]
theorem wl_flight : sTx "flight" = wd_flight.map nI := by decide
abbrev wd_lane : List Nat := [108, 97, 110, 101]
theorem wl_lane : sTx "lane" = wd_lane.map nI := by decide
abbrev wd_bags : List Nat := [98, 97, 103, 115]
theorem wl_bags : sTx "bags" = wd_bags.map nI := by decide
abbrev wd_shift : List Nat := [115, 104, 105, 102, 116]
theorem wl_shift : sTx "shift" = wd_shift.map nI := by decide
abbrev wd_keep : List Nat := [107, 101, 101, 112]
theorem wl_keep : sTx "keep" = wd_keep.map nI := by decide
abbrev wd_and : List Nat := [97, 110, 100]
theorem wl_and : sTx "and" = wd_and.map nI := by decide
abbrev wd_or : List Nat := [111, 114]
theorem wl_or : sTx "or" = wd_or.map nI := by decide
abbrev wd_not : List Nat := [110, 111, 116]
theorem wl_not : sTx "not" = wd_not.map nI := by decide
abbrev wd_wait : List Nat := [119, 97, 105, 116]
theorem wl_wait : sTx "wait" = wd_wait.map nI := by decide
abbrev wd_laps : List Nat := [108, 97, 112, 115]
theorem wl_laps : sTx "laps" = wd_laps.map nI := by decide
abbrev wd_load : List Nat := [108, 111, 97, 100]
theorem wl_load : sTx "load" = wd_load.map nI := by decide
abbrev wd_time : List Nat := [116, 105, 109, 101]
theorem wl_time : sTx "time" = wd_time.map nI := by decide
section H78
variable (b : Nat → Nat) (E : Nat) (r : Res Unit)
def hr1 : Res Unit := rKw b E wd_loop r
def hv0 : Nat := vU 4 (rNu b E 4 41 (hr1 b E r))
def hr2 : Res Unit := rU (rNu b E 4 41 (hr1 b E r))
def hv1 : Nat := vU 0 (rNu b E 0 (hv0 b E r) (hr2 b E r))
def hr3 : Res Unit := rU (rNu b E 0 (hv0 b E r) (hr2 b E r))
def hv2 : Nat := vL b E (hv0 b E r) (hr3 b E r)
def hr4 : Res Unit := rU (rPo b E (fun v => decide (v = (hv1 b E r))) (hv0 b E r) (hr3 b E r))
def hr5 : Res Unit := rKw b E wd_level (hr4 b E r)
def hv3 : Nat := vU 1 (rNu b E 1 5 (hr5 b E r))
def hr6 : Res Unit := rU (rNu b E 1 5 (hr5 b E r))
def hv6 : Nat := vU 1 (rNu b E 1 100 (hr6 b E r))
def hr7 : Res Unit := rU (rNu b E 1 100 (hr6 b E r))
def hv9 : Nat := vU 0 (rNu b E 0 1001 (hr7 b E r))
def hr8 : Res Unit := rU (rNu b E 0 1001 (hr7 b E r))
def hr9 : Res Unit := rKw b E wd_level (hr8 b E r)
def hv4 : Nat := vU 1 (rNu b E 1 5 (hr9 b E r))
def hr10 : Res Unit := rU (rNu b E 1 5 (hr9 b E r))
def hv7 : Nat := vU 1 (rNu b E 1 100 (hr10 b E r))
def hr11 : Res Unit := rU (rNu b E 1 100 (hr10 b E r))
def hv10 : Nat := vU 0 (rNu b E 0 1001 (hr11 b E r))
def hr12 : Res Unit := rU (rNu b E 0 1001 (hr11 b E r))
def hr13 : Res Unit := rKw b E wd_level (hr12 b E r)
def hv5 : Nat := vU 1 (rNu b E 1 5 (hr13 b E r))
def hr14 : Res Unit := rU (rNu b E 1 5 (hr13 b E r))
def hv8 : Nat := vU 1 (rNu b E 1 100 (hr14 b E r))
def hr15 : Res Unit := rU (rNu b E 1 100 (hr14 b E r))
def hv11 : Nat := vU 0 (rNu b E 0 1001 (hr15 b E r))
def hr16 : Res Unit := rU (rNu b E 0 1001 (hr15 b E r))
def hr17 : Res Unit := rKw b E wd_hot (hr16 b E r)
def hvh : Nat := vU 0 (rNu b E 0 1000 (hr17 b E r))
def hr18 : Res Unit := rU (rNu b E 0 1000 (hr17 b E r))
def hr19 : Res Unit := rKw b E wd_seed (hr18 b E r)
def hvs : Nat := vU 0 (rNu b E 0 100000 (hr19 b E r))
def hr20 : Res Unit := rU (rNu b E 0 100000 (hr19 b E r))
variable (G N X : JV)
def hg1 : JV := gKw b E wd_loop r G
def hg2 : JV := gNu b E 4 41 (hr1 b E r) (hg1 b E r G)
def hg3 : JV := gNu b E 0 (hv0 b E r) (hr2 b E r) (hg2 b E r G)
def hg4 : JV := gPo b E (fun v => decide (v = (hv1 b E r))) (hv0 b E r) (hr3 b E r) (hg3 b E r G)
def hg5 : JV := gKw b E wd_level (hr4 b E r) (hg4 b E r G)
def hg6 : JV := gNu b E 1 5 (hr5 b E r) (hg5 b E r G)
def hg7 : JV := gNu b E 1 100 (hr6 b E r) (hg6 b E r G)
def hg8 : JV := gNu b E 0 1001 (hr7 b E r) (hg7 b E r G)
def hg9 : JV := gKw b E wd_level (hr8 b E r) (hg8 b E r G)
def hg10 : JV := gNu b E 1 5 (hr9 b E r) (hg9 b E r G)
def hg11 : JV := gNu b E 1 100 (hr10 b E r) (hg10 b E r G)
def hg12 : JV := gNu b E 0 1001 (hr11 b E r) (hg11 b E r G)
def hg13 : JV := gKw b E wd_level (hr12 b E r) (hg12 b E r G)
def hg14 : JV := gNu b E 1 5 (hr13 b E r) (hg13 b E r G)
def hg15 : JV := gNu b E 1 100 (hr14 b E r) (hg14 b E r G)
def hg16 : JV := gNu b E 0 1001 (hr15 b E r) (hg15 b E r G)
def hg17 : JV := gKw b E wd_hot (hr16 b E r) (hg16 b E r G)
def hg18 : JV := gNu b E 0 1000 (hr17 b E r) (hg17 b E r G)
def hg19 : JV := gKw b E wd_seed (hr18 b E r) (hg18 b E r G)
def hg20 : JV := gNu b E 0 100000 (hr19 b E r) (hg19 b E r G)
def hN1 : JV := w1 (w1 (w1 (w1 (w1 (w1 (w1 (w1 (w1 (w1 (w1 (w1 (N) 0 (nI (hv0 b E r))) 1 (nI (hv1 b E r))) 2 (nI (hv2 b E r))) 3 (nI (hv3 b E r))) 6 (nI (hv6 b E r))) 9 (nI (hv9 b E r))) 4 (nI (hv4 b E r))) 7 (nI (hv7 b E r))) 10 (nI (hv10 b E r))) 5 (nI (hv5 b E r))) 8 (nI (hv8 b E r))) 11 (nI (hv11 b E r))
def hX1 : JV := w1 (w1 X 4 (nI (hvh b E r))) 1 (nI (hvs b E r))
end H78
theorem mSt.g1 {b : Nat → Nat} {E : Nat} {r : Res Unit} {G : JV} (h : mSt b E r G) : mSt b E (hr1 b E r) (hg1 b E r G) := h.kw
theorem mSt.g2 {b : Nat → Nat} {E : Nat} {r : Res Unit} {G : JV} (h : mSt b E r G) : mSt b E (hr2 b E r) (hg2 b E r G) := h.g1.nu
theorem mSt.g3 {b : Nat → Nat} {E : Nat} {r : Res Unit} {G : JV} (h : mSt b E r G) : mSt b E (hr3 b E r) (hg3 b E r G) := h.g2.nu
theorem mSt.g4 {b : Nat → Nat} {E : Nat} {r : Res Unit} {G : JV} (h : mSt b E r G) : mSt b E (hr4 b E r) (hg4 b E r G) := h.g3.po
theorem mSt.g5 {b : Nat → Nat} {E : Nat} {r : Res Unit} {G : JV} (h : mSt b E r G) : mSt b E (hr5 b E r) (hg5 b E r G) := h.g4.kw
theorem mSt.g6 {b : Nat → Nat} {E : Nat} {r : Res Unit} {G : JV} (h : mSt b E r G) : mSt b E (hr6 b E r) (hg6 b E r G) := h.g5.nu
theorem mSt.g7 {b : Nat → Nat} {E : Nat} {r : Res Unit} {G : JV} (h : mSt b E r G) : mSt b E (hr7 b E r) (hg7 b E r G) := h.g6.nu
theorem mSt.g8 {b : Nat → Nat} {E : Nat} {r : Res Unit} {G : JV} (h : mSt b E r G) : mSt b E (hr8 b E r) (hg8 b E r G) := h.g7.nu
theorem mSt.g9 {b : Nat → Nat} {E : Nat} {r : Res Unit} {G : JV} (h : mSt b E r G) : mSt b E (hr9 b E r) (hg9 b E r G) := h.g8.kw
theorem mSt.g10 {b : Nat → Nat} {E : Nat} {r : Res Unit} {G : JV} (h : mSt b E r G) : mSt b E (hr10 b E r) (hg10 b E r G) := h.g9.nu
theorem mSt.g11 {b : Nat → Nat} {E : Nat} {r : Res Unit} {G : JV} (h : mSt b E r G) : mSt b E (hr11 b E r) (hg11 b E r G) := h.g10.nu
theorem mSt.g12 {b : Nat → Nat} {E : Nat} {r : Res Unit} {G : JV} (h : mSt b E r G) : mSt b E (hr12 b E r) (hg12 b E r G) := h.g11.nu
theorem mSt.g13 {b : Nat → Nat} {E : Nat} {r : Res Unit} {G : JV} (h : mSt b E r G) : mSt b E (hr13 b E r) (hg13 b E r G) := h.g12.kw
theorem mSt.g14 {b : Nat → Nat} {E : Nat} {r : Res Unit} {G : JV} (h : mSt b E r G) : mSt b E (hr14 b E r) (hg14 b E r G) := h.g13.nu
theorem mSt.g15 {b : Nat → Nat} {E : Nat} {r : Res Unit} {G : JV} (h : mSt b E r G) : mSt b E (hr15 b E r) (hg15 b E r G) := h.g14.nu
theorem mSt.g16 {b : Nat → Nat} {E : Nat} {r : Res Unit} {G : JV} (h : mSt b E r G) : mSt b E (hr16 b E r) (hg16 b E r G) := h.g15.nu
theorem mSt.g17 {b : Nat → Nat} {E : Nat} {r : Res Unit} {G : JV} (h : mSt b E r G) : mSt b E (hr17 b E r) (hg17 b E r G) := h.g16.kw
theorem mSt.g18 {b : Nat → Nat} {E : Nat} {r : Res Unit} {G : JV} (h : mSt b E r G) : mSt b E (hr18 b E r) (hg18 b E r G) := h.g17.nu
theorem mSt.g19 {b : Nat → Nat} {E : Nat} {r : Res Unit} {G : JV} (h : mSt b E r G) : mSt b E (hr19 b E r) (hg19 b E r G) := h.g18.kw
theorem mSt.g20 {b : Nat → Nat} {E : Nat} {r : Res Unit} {G : JV} (h : mSt b E r G) : mSt b E (hr20 b E r) (hg20 b E r G) := h.g19.nu
theorem gPk_5 {b : Nat → Nat} {E hx : Nat} {t : Bool} {r : Res Unit} {G : JV} (h : mSt b E r G) (h5 : ¬ gLk b E 0 hx r G 5 = 0) : gPk b E t hx r G = gLk b E 0 hx r G := by
  have hs1 := h.lk (lo := 0) (hx := hx)
  unfold gPk
  cases t with
  | false => rfl
  | true =>
    show gF b E 3 _ _ = _
    cases hr : rLk b E 0 hx r with
    | inl e => rfl
    | inr x => rw [hr] at hs1; exact absurd hs1.2.2.2.1 h5
theorem vU_lt {b : Nat → Nat} {E lo hx : Nat} {r : Res Unit} (h : lo < hx) : lo ≤ vU lo (rNu b E lo hx r) ∧ vU lo (rNu b E lo hx r) < hx := by
  cases hn : rNu b E lo hx r with
  | inl e => exact ⟨Nat.le_refl _, h⟩
  | inr x =>
    cases r with
    | inl e => cases hn
    | inr y => exact (pNum_o hn).2.2
section M78
variable {Γ : Gam} {d : Nat} {T : JT} {R S : JR} {I A : JI} {L : JL} {D : JD} {z : Option Nat} {mo E : Nat} {G N X : JV} {b : Nat → Nat} {r : Res Unit}
theorem exM_first (hm : hMo T S mo) (hb : mB_ A b E) (hs : mSt b E r G) : Ex Γ (d + 8) Y_X9_readFirst [.ref mo] (T, R, S, blk 18 I mo (st (qA A N X) 0 G), L, D, z) 0 0 (rV (T, R, S, blk 18 I mo (st (qA A (hN1 b E r N) (hX1 b E r X)) 0 (hg20 b E r G)), L, D, z)) := by
  have hw0 := vU_lt (b := b) (E := E) (lo := 4) (hx := 41) (r := hr1 b E r) (by omega)
  have hv0a : hv0 b E r < 2 ^ 30 := by show vU 4 _ < _; omega
  have hrest : JJ Γ (jj_E Y_X9_readFirst) (jj_Z Γ (rV (T, R, S, blk 18 I mo (st (qA A (hN1 b E r N) (hX1 b E r X)) 0 (hg20 b E r G)), L, D, z)) 0 0) (jj_rm (d + 8) 0 0) 0 0 74 [some (.ref mo), some (.int (nI (hv2 b E r))), none] [] (T, R, S, blk 18 I mo (st (qA A (w1 (w1 N 0 (nI (hv0 b E r))) 1 (nI (hv1 b E r))) X) 0 (gPk b E (decide (hv2 b E r = hv1 b E r)) (hv0 b E r) (hr3 b E r) (hg3 b E r G))), L, D, z) := by
    refine jj_aload_n (q := 75) dX9_readFirst_74 rfl rfl rfl ?_
    refine jj_cV0v (q := 78) dX9_readFirst_75 yk_X9_nextToken ml_X9_134 hm.t0 (exM_next hm hb.q (hs.g3.pk (hx := hv0 b E r) (t := decide (hv2 b E r = hv1 b E r)))) rfl rfl rfl ⟨Nat.zero_le _, Nat.zero_le _⟩ ?_
    refine jj_aload_n (q := 79) dX9_readFirst_78 rfl rfl rfl ?_
    refine jj_getS (q := 82) dX9_readFirst_79 fl_X9_20 hm.t0 hm.r0_11 rfl rfl rfl ?_
    refine jj_iconst (v := 2) (q := 83) dX9_readFirst_82 rfl rfl ?_
    refine jj_iload_n (q := 84) dX9_readFirst_83 rfl rfl rfl ?_
    refine jj_iastN (q := 85) (j := 2) dX9_readFirst_84 hm.t3 n3_wr rfl (by omega) rfl ?_
    refine jj_iconst (v := 0) (q := 86) dX9_readFirst_85 rfl rfl ?_
    refine jj_istore_n (q := 87) dX9_readFirst_86 rfl (by decide) rfl ?_
    refine jj_iload_n (q := 88) dX9_readFirst_87 rfl rfl rfl ?_
    refine jj_iconst (v := 3) (q := 89) dX9_readFirst_88 rfl rfl ?_
    refine jj_icmp_ge (q := 92) (tgt := 147) dX9_readFirst_89 rfl rfl (fun h89 => absurd h89 (by decide)) (fun h89 => ?_)
    refine jj_aload_n (q := 93) dX9_readFirst_92 rfl rfl rfl ?_
    refine jj_getS (q := 96) dX9_readFirst_93 fl_X9_20 hm.t0 hm.r0_11 rfl rfl rfl ?_
    refine jj_iconst (v := 3) (q := 97) dX9_readFirst_96 rfl rfl ?_
    refine jj_iload_n (q := 98) dX9_readFirst_97 rfl rfl rfl ?_
    refine jj_iaddN (q := 99) (a := 3) (b := 0) dX9_readFirst_98 rfl rfl rfl ?_
    refine jj_aload_n (q := 100) dX9_readFirst_99 rfl rfl rfl ?_
    refine jj_ldcS (q := 102) dX9_readFirst_100 ks_X9_48 rfl ?_
    refine jj_iconst (v := 1) (q := 103) dX9_readFirst_102 rfl rfl ?_
    refine jj_iconst (v := 4) (q := 104) dX9_readFirst_103 rfl rfl ?_
    refine jj_cV3i (q := 107) dX9_readFirst_104 yk_X9_measure ml_X9_156 hm.t0 (exM_measure (lo := 1) (hx := 5) hm hb.q hs.g4 ks_X9_48 wl_level (by decide) (by decide) rfl (by decide) (by decide)) rfl rfl rfl ⟨Nat.zero_le _, Nat.zero_le _⟩ ?_
    refine jj_iastN (q := 108) (j := 3 + 0) dX9_readFirst_107 hm.t3 n3_wr rfl (by omega) rfl ?_
    refine jj_aload_n (q := 109) dX9_readFirst_108 rfl rfl rfl ?_
    refine jj_getS (q := 112) dX9_readFirst_109 fl_X9_20 hm.t0 hm.r0_11 rfl rfl rfl ?_
    refine jj_bipush (v := 6) (q := 114) dX9_readFirst_112 rfl rfl ?_
    refine jj_iload_n (q := 115) dX9_readFirst_114 rfl rfl rfl ?_
    refine jj_iaddN (q := 116) (a := 6) (b := 0) dX9_readFirst_115 rfl rfl rfl ?_
    refine jj_aload_n (q := 117) dX9_readFirst_116 rfl rfl rfl ?_
    refine jj_iconst (v := 1) (q := 118) dX9_readFirst_117 rfl rfl ?_
    refine jj_bipush (v := 99) (q := 120) dX9_readFirst_118 rfl rfl ?_
    refine jj_cV2i (q := 123) dX9_readFirst_120 yk_X9_number ml_X9_151 hm.t0 (exM_number (lo := 1) (hx := 100) hm hb.q hs.g6 rfl (by decide) (by decide)) rfl rfl rfl ⟨Nat.zero_le _, Nat.zero_le _⟩ ?_
    refine jj_iastN (q := 124) (j := 6 + 0) dX9_readFirst_123 hm.t3 n3_wr rfl (by omega) rfl ?_
    refine jj_aload_n (q := 125) dX9_readFirst_124 rfl rfl rfl ?_
    refine jj_getS (q := 128) dX9_readFirst_125 fl_X9_20 hm.t0 hm.r0_11 rfl rfl rfl ?_
    refine jj_bipush (v := 9) (q := 130) dX9_readFirst_128 rfl rfl ?_
    refine jj_iload_n (q := 131) dX9_readFirst_130 rfl rfl rfl ?_
    refine jj_iaddN (q := 132) (a := 9) (b := 0) dX9_readFirst_131 rfl rfl rfl ?_
    refine jj_aload_n (q := 133) dX9_readFirst_132 rfl rfl rfl ?_
    refine jj_iconst (v := 0) (q := 134) dX9_readFirst_133 rfl rfl ?_
    refine jj_sipush (v := 1000) (q := 137) dX9_readFirst_134 rfl rfl ?_
    refine jj_cV2i (q := 140) dX9_readFirst_137 yk_X9_number ml_X9_151 hm.t0 (exM_number (lo := 0) (hx := 1001) hm hb.q hs.g7 rfl (by decide) (by decide)) rfl rfl rfl ⟨Nat.zero_le _, Nat.zero_le _⟩ ?_
    refine jj_iastN (q := 141) (j := 9 + 0) dX9_readFirst_140 hm.t3 n3_wr rfl (by omega) rfl ?_
    refine jj_iinc (v := nI (0 + 1)) (q := 144) dX9_readFirst_141 rfl (nI_incn 0 1 rfl) (by decide) rfl ?_
    refine jj_goto (tgt := 87) dX9_readFirst_144 rfl ?_
    refine jj_iload_n (q := 88) dX9_readFirst_87 rfl rfl rfl ?_
    refine jj_iconst (v := 3) (q := 89) dX9_readFirst_88 rfl rfl ?_
    refine jj_icmp_ge (q := 92) (tgt := 147) dX9_readFirst_89 rfl rfl (fun h89 => absurd h89 (by decide)) (fun h89 => ?_)
    refine jj_aload_n (q := 93) dX9_readFirst_92 rfl rfl rfl ?_
    refine jj_getS (q := 96) dX9_readFirst_93 fl_X9_20 hm.t0 hm.r0_11 rfl rfl rfl ?_
    refine jj_iconst (v := 3) (q := 97) dX9_readFirst_96 rfl rfl ?_
    refine jj_iload_n (q := 98) dX9_readFirst_97 rfl rfl rfl ?_
    refine jj_iaddN (q := 99) (a := 3) (b := 0 + 1) dX9_readFirst_98 rfl rfl rfl ?_
    refine jj_aload_n (q := 100) dX9_readFirst_99 rfl rfl rfl ?_
    refine jj_ldcS (q := 102) dX9_readFirst_100 ks_X9_48 rfl ?_
    refine jj_iconst (v := 1) (q := 103) dX9_readFirst_102 rfl rfl ?_
    refine jj_iconst (v := 4) (q := 104) dX9_readFirst_103 rfl rfl ?_
    refine jj_cV3i (q := 107) dX9_readFirst_104 yk_X9_measure ml_X9_156 hm.t0 (exM_measure (lo := 1) (hx := 5) hm hb.q hs.g8 ks_X9_48 wl_level (by decide) (by decide) rfl (by decide) (by decide)) rfl rfl rfl ⟨Nat.zero_le _, Nat.zero_le _⟩ ?_
    refine jj_iastN (q := 108) (j := 3 + (0 + 1)) dX9_readFirst_107 hm.t3 n3_wr rfl (by omega) rfl ?_
    refine jj_aload_n (q := 109) dX9_readFirst_108 rfl rfl rfl ?_
    refine jj_getS (q := 112) dX9_readFirst_109 fl_X9_20 hm.t0 hm.r0_11 rfl rfl rfl ?_
    refine jj_bipush (v := 6) (q := 114) dX9_readFirst_112 rfl rfl ?_
    refine jj_iload_n (q := 115) dX9_readFirst_114 rfl rfl rfl ?_
    refine jj_iaddN (q := 116) (a := 6) (b := 0 + 1) dX9_readFirst_115 rfl rfl rfl ?_
    refine jj_aload_n (q := 117) dX9_readFirst_116 rfl rfl rfl ?_
    refine jj_iconst (v := 1) (q := 118) dX9_readFirst_117 rfl rfl ?_
    refine jj_bipush (v := 99) (q := 120) dX9_readFirst_118 rfl rfl ?_
    refine jj_cV2i (q := 123) dX9_readFirst_120 yk_X9_number ml_X9_151 hm.t0 (exM_number (lo := 1) (hx := 100) hm hb.q hs.g10 rfl (by decide) (by decide)) rfl rfl rfl ⟨Nat.zero_le _, Nat.zero_le _⟩ ?_
    refine jj_iastN (q := 124) (j := 6 + (0 + 1)) dX9_readFirst_123 hm.t3 n3_wr rfl (by omega) rfl ?_
    refine jj_aload_n (q := 125) dX9_readFirst_124 rfl rfl rfl ?_
    refine jj_getS (q := 128) dX9_readFirst_125 fl_X9_20 hm.t0 hm.r0_11 rfl rfl rfl ?_
    refine jj_bipush (v := 9) (q := 130) dX9_readFirst_128 rfl rfl ?_
    refine jj_iload_n (q := 131) dX9_readFirst_130 rfl rfl rfl ?_
    refine jj_iaddN (q := 132) (a := 9) (b := 0 + 1) dX9_readFirst_131 rfl rfl rfl ?_
    refine jj_aload_n (q := 133) dX9_readFirst_132 rfl rfl rfl ?_
    refine jj_iconst (v := 0) (q := 134) dX9_readFirst_133 rfl rfl ?_
    refine jj_sipush (v := 1000) (q := 137) dX9_readFirst_134 rfl rfl ?_
    refine jj_cV2i (q := 140) dX9_readFirst_137 yk_X9_number ml_X9_151 hm.t0 (exM_number (lo := 0) (hx := 1001) hm hb.q hs.g11 rfl (by decide) (by decide)) rfl rfl rfl ⟨Nat.zero_le _, Nat.zero_le _⟩ ?_
    refine jj_iastN (q := 141) (j := 9 + (0 + 1)) dX9_readFirst_140 hm.t3 n3_wr rfl (by omega) rfl ?_
    refine jj_iinc (v := nI ((0 + 1) + 1)) (q := 144) dX9_readFirst_141 rfl (nI_incn (0 + 1) 1 rfl) (by decide) rfl ?_
    refine jj_goto (tgt := 87) dX9_readFirst_144 rfl ?_
    refine jj_iload_n (q := 88) dX9_readFirst_87 rfl rfl rfl ?_
    refine jj_iconst (v := 3) (q := 89) dX9_readFirst_88 rfl rfl ?_
    refine jj_icmp_ge (q := 92) (tgt := 147) dX9_readFirst_89 rfl rfl (fun h89 => absurd h89 (by decide)) (fun h89 => ?_)
    refine jj_aload_n (q := 93) dX9_readFirst_92 rfl rfl rfl ?_
    refine jj_getS (q := 96) dX9_readFirst_93 fl_X9_20 hm.t0 hm.r0_11 rfl rfl rfl ?_
    refine jj_iconst (v := 3) (q := 97) dX9_readFirst_96 rfl rfl ?_
    refine jj_iload_n (q := 98) dX9_readFirst_97 rfl rfl rfl ?_
    refine jj_iaddN (q := 99) (a := 3) (b := (0 + 1) + 1) dX9_readFirst_98 rfl rfl rfl ?_
    refine jj_aload_n (q := 100) dX9_readFirst_99 rfl rfl rfl ?_
    refine jj_ldcS (q := 102) dX9_readFirst_100 ks_X9_48 rfl ?_
    refine jj_iconst (v := 1) (q := 103) dX9_readFirst_102 rfl rfl ?_
    refine jj_iconst (v := 4) (q := 104) dX9_readFirst_103 rfl rfl ?_
    refine jj_cV3i (q := 107) dX9_readFirst_104 yk_X9_measure ml_X9_156 hm.t0 (exM_measure (lo := 1) (hx := 5) hm hb.q hs.g12 ks_X9_48 wl_level (by decide) (by decide) rfl (by decide) (by decide)) rfl rfl rfl ⟨Nat.zero_le _, Nat.zero_le _⟩ ?_
    refine jj_iastN (q := 108) (j := 3 + ((0 + 1) + 1)) dX9_readFirst_107 hm.t3 n3_wr rfl (by omega) rfl ?_
    refine jj_aload_n (q := 109) dX9_readFirst_108 rfl rfl rfl ?_
    refine jj_getS (q := 112) dX9_readFirst_109 fl_X9_20 hm.t0 hm.r0_11 rfl rfl rfl ?_
    refine jj_bipush (v := 6) (q := 114) dX9_readFirst_112 rfl rfl ?_
    refine jj_iload_n (q := 115) dX9_readFirst_114 rfl rfl rfl ?_
    refine jj_iaddN (q := 116) (a := 6) (b := (0 + 1) + 1) dX9_readFirst_115 rfl rfl rfl ?_
    refine jj_aload_n (q := 117) dX9_readFirst_116 rfl rfl rfl ?_
    refine jj_iconst (v := 1) (q := 118) dX9_readFirst_117 rfl rfl ?_
    refine jj_bipush (v := 99) (q := 120) dX9_readFirst_118 rfl rfl ?_
    refine jj_cV2i (q := 123) dX9_readFirst_120 yk_X9_number ml_X9_151 hm.t0 (exM_number (lo := 1) (hx := 100) hm hb.q hs.g14 rfl (by decide) (by decide)) rfl rfl rfl ⟨Nat.zero_le _, Nat.zero_le _⟩ ?_
    refine jj_iastN (q := 124) (j := 6 + ((0 + 1) + 1)) dX9_readFirst_123 hm.t3 n3_wr rfl (by omega) rfl ?_
    refine jj_aload_n (q := 125) dX9_readFirst_124 rfl rfl rfl ?_
    refine jj_getS (q := 128) dX9_readFirst_125 fl_X9_20 hm.t0 hm.r0_11 rfl rfl rfl ?_
    refine jj_bipush (v := 9) (q := 130) dX9_readFirst_128 rfl rfl ?_
    refine jj_iload_n (q := 131) dX9_readFirst_130 rfl rfl rfl ?_
    refine jj_iaddN (q := 132) (a := 9) (b := (0 + 1) + 1) dX9_readFirst_131 rfl rfl rfl ?_
    refine jj_aload_n (q := 133) dX9_readFirst_132 rfl rfl rfl ?_
    refine jj_iconst (v := 0) (q := 134) dX9_readFirst_133 rfl rfl ?_
    refine jj_sipush (v := 1000) (q := 137) dX9_readFirst_134 rfl rfl ?_
    refine jj_cV2i (q := 140) dX9_readFirst_137 yk_X9_number ml_X9_151 hm.t0 (exM_number (lo := 0) (hx := 1001) hm hb.q hs.g15 rfl (by decide) (by decide)) rfl rfl rfl ⟨Nat.zero_le _, Nat.zero_le _⟩ ?_
    refine jj_iastN (q := 141) (j := 9 + ((0 + 1) + 1)) dX9_readFirst_140 hm.t3 n3_wr rfl (by omega) rfl ?_
    refine jj_iinc (v := nI (((0 + 1) + 1) + 1)) (q := 144) dX9_readFirst_141 rfl (nI_incn ((0 + 1) + 1) 1 rfl) (by decide) rfl ?_
    refine jj_goto (tgt := 87) dX9_readFirst_144 rfl ?_
    refine jj_iload_n (q := 88) dX9_readFirst_87 rfl rfl rfl ?_
    refine jj_iconst (v := 3) (q := 89) dX9_readFirst_88 rfl rfl ?_
    refine jj_icmp_ge (q := 92) (tgt := 147) dX9_readFirst_89 rfl rfl (fun h89 => ?_) (fun h89 => absurd (by decide) h89)
    refine jj_aload_n (q := 148) dX9_readFirst_147 rfl rfl rfl ?_
    refine jj_getS (q := 151) dX9_readFirst_148 fl_X9_26 hm.t0 hm.r0_13 rfl rfl rfl ?_
    refine jj_iconst (v := 4) (q := 152) dX9_readFirst_151 rfl rfl ?_
    refine jj_aload_n (q := 153) dX9_readFirst_152 rfl rfl rfl ?_
    refine jj_ldcS (q := 155) dX9_readFirst_153 ks_X9_160 rfl ?_
    refine jj_iconst (v := 0) (q := 156) dX9_readFirst_155 rfl rfl ?_
    refine jj_sipush (v := 999) (q := 159) dX9_readFirst_156 rfl rfl ?_
    refine jj_cV3i (q := 162) dX9_readFirst_159 yk_X9_measure ml_X9_156 hm.t0 (exM_measure (lo := 0) (hx := 1000) hm hb.q hs.g16 ks_X9_160 wl_hot (by decide) (by decide) rfl (by decide) (by decide)) rfl rfl rfl ⟨Nat.zero_le _, Nat.zero_le _⟩ ?_
    refine jj_iastN (q := 163) (j := 4) dX9_readFirst_162 hm.t5 n5_wr rfl (by omega) rfl ?_
    refine jj_aload_n (q := 164) dX9_readFirst_163 rfl rfl rfl ?_
    refine jj_getS (q := 167) dX9_readFirst_164 fl_X9_26 hm.t0 hm.r0_13 rfl rfl rfl ?_
    refine jj_iconst (v := 1) (q := 168) dX9_readFirst_167 rfl rfl ?_
    refine jj_aload_n (q := 169) dX9_readFirst_168 rfl rfl rfl ?_
    refine jj_ldcS (q := 171) dX9_readFirst_169 ks_X9_162 rfl ?_
    refine jj_iconst (v := 0) (q := 172) dX9_readFirst_171 rfl rfl ?_
    refine jj_ldci (q := 174) dX9_readFirst_172 kc_X9_164 rfl ?_
    refine jj_cV3i (q := 177) dX9_readFirst_174 yk_X9_measure ml_X9_156 hm.t0 (exM_measure (lo := 0) (hx := 100000) hm hb.q hs.g18 ks_X9_162 wl_seed (by decide) (by decide) rfl (by decide) (by decide)) rfl rfl rfl ⟨Nat.zero_le _, Nat.zero_le _⟩ ?_
    refine jj_iastN (q := 178) (j := 1) dX9_readFirst_177 hm.t5 n5_wr rfl (by omega) rfl ?_
    refine jj_vret dX9_readFirst_178 rfl (Nat.zero_le _) (Nat.zero_le _) ?_
    exact ⟨rfl, rfl⟩
  have hw1 := vU_lt (b := b) (E := E) (lo := 0) (hx := hv0 b E r) (r := hr2 b E r) (by show 0 < vU 4 _; omega)
  have hw2 := vU_lt (b := b) (E := E) (lo := 0) (hx := hv0 b E r) (r := hr3 b E r) (by show 0 < vU 4 _; omega)
  have hv1b : hv1 b E r < 2 ^ 31 := by show vU 0 _ < _; omega
  have hv2b : hv2 b E r < 2 ^ 31 := by show vU 0 _ < _; omega
  refine Ex.of (by decide) (by simp [Value.category]) (Nat.le_of_ble_eq_true rfl) rfl ?_
  refine jj_aload_n (q := 1) dX9_readFirst_0 rfl rfl rfl ?_
  refine jj_ldcS (q := 3) dX9_readFirst_1 ks_X9_154 rfl ?_
  refine jj_cV1v (q := 6) dX9_readFirst_3 yk_X9_keyword ml_X9_147 hm.t0 (exM_keyword hm hb.q hs ks_X9_154 wl_loop (by decide) (by decide)) rfl rfl rfl ⟨Nat.zero_le _, Nat.zero_le _⟩ ?_
  refine jj_aload_n (q := 7) dX9_readFirst_6 rfl rfl rfl ?_
  refine jj_getS (q := 10) dX9_readFirst_7 fl_X9_20 hm.t0 hm.r0_11 rfl rfl rfl ?_
  refine jj_iconst (v := 0) (q := 11) dX9_readFirst_10 rfl rfl ?_
  refine jj_aload_n (q := 12) dX9_readFirst_11 rfl rfl rfl ?_
  refine jj_iconst (v := 4) (q := 13) dX9_readFirst_12 rfl rfl ?_
  refine jj_bipush (v := 40) (q := 15) dX9_readFirst_13 rfl rfl ?_
  refine jj_cV2i (q := 18) dX9_readFirst_15 yk_X9_number ml_X9_151 hm.t0 (exM_number (lo := 4) (hx := 41) hm hb.q hs.g1 rfl (by decide) (by decide)) rfl rfl rfl ⟨Nat.zero_le _, Nat.zero_le _⟩ ?_
  refine jj_iastN (q := 19) (j := 0) dX9_readFirst_18 hm.t3 n3_wr rfl (by omega) rfl ?_
  refine jj_aload_n (q := 20) dX9_readFirst_19 rfl rfl rfl ?_
  refine jj_getS (q := 23) dX9_readFirst_20 fl_X9_20 hm.t0 hm.r0_11 rfl rfl rfl ?_
  refine jj_iconst (v := 1) (q := 24) dX9_readFirst_23 rfl rfl ?_
  refine jj_aload_n (q := 25) dX9_readFirst_24 rfl rfl rfl ?_
  refine jj_iconst (v := 0) (q := 26) dX9_readFirst_25 rfl rfl ?_
  refine jj_aload_n (q := 27) dX9_readFirst_26 rfl rfl rfl ?_
  refine jj_getS (q := 30) dX9_readFirst_27 fl_X9_20 hm.t0 hm.r0_11 rfl rfl rfl ?_
  refine jj_iconst (v := 0) (q := 31) dX9_readFirst_30 rfl rfl ?_
  refine jj_ialdW (q := 32) (j := 0) (v := nI (hv0 b E r)) dX9_readFirst_31 hm.t3 n3_rd rfl (by omega) rfl rfl ?_
  refine jj_iconst (v := 1) (q := 33) dX9_readFirst_32 rfl rfl ?_
  refine jj_isub (q := 34) dX9_readFirst_33 rfl ?_
  refine jj_cV2i (q := 37) dX9_readFirst_34 yk_X9_number ml_X9_151 hm.t0 (exM_number (lo := 0) (hx := (hv0 b E r)) hm hb.q hs.g2 rfl (by decide) (by omega)) rfl rfl rfl ⟨Nat.zero_le _, Nat.zero_le _⟩ ?_
  refine jj_iastN (q := 38) (j := 1) dX9_readFirst_37 hm.t3 n3_wr rfl (by omega) rfl ?_
  refine jj_aload_n (q := 39) dX9_readFirst_38 rfl rfl rfl ?_
  refine jj_iconst (v := 0) (q := 40) dX9_readFirst_39 rfl rfl ?_
  refine jj_aload_n (q := 41) dX9_readFirst_40 rfl rfl rfl ?_
  refine jj_getS (q := 44) dX9_readFirst_41 fl_X9_20 hm.t0 hm.r0_11 rfl rfl rfl ?_
  refine jj_iconst (v := 0) (q := 45) dX9_readFirst_44 rfl rfl ?_
  refine jj_ialdW (q := 46) (j := 0) (v := nI (hv0 b E r)) dX9_readFirst_45 hm.t3 n3_rd rfl (by omega) rfl rfl ?_
  refine jj_iconst (v := 1) (q := 47) dX9_readFirst_46 rfl rfl ?_
  refine jj_isub (q := 48) dX9_readFirst_47 rfl ?_
  refine jj_cV2i (q := 51) dX9_readFirst_48 yk_X9_look ml_X9_143 hm.t0 (exM_look hm hb.q hs.g3 (hx := hv0 b E r) (lo := 0) rfl (by decide) (by omega)) rfl rfl rfl ⟨Nat.zero_le _, Nat.zero_le _⟩ ?_
  refine jj_istore_n (q := 52) dX9_readFirst_51 rfl (by decide) rfl ?_
  refine jj_aload_n (q := 53) dX9_readFirst_52 rfl rfl rfl ?_
  refine jj_getIw (v := gLk b E 0 (hv0 b E r) (hr3 b E r) (hg3 b E r G) 5) (q := 56) dX9_readFirst_53 fl_X9_92 hm.t0 (by rw [g_rd]) rfl rfl ?_
  refine jj_if_ne (q := 59) (tgt := 74) dX9_readFirst_56 rfl rfl (fun h56 => ?_) (fun h56 => ?_)
  · rw [gPk_5 hs.g3 h56] at hrest
    exact hrest
  · refine jj_iload_n (q := 60) dX9_readFirst_59 rfl rfl rfl ?_
    refine jj_aload_n (q := 61) dX9_readFirst_60 rfl rfl rfl ?_
    refine jj_getS (q := 64) dX9_readFirst_61 fl_X9_20 hm.t0 hm.r0_11 rfl rfl rfl ?_
    refine jj_iconst (v := 1) (q := 65) dX9_readFirst_64 rfl rfl ?_
    refine jj_ialdW (q := 66) (j := 1) (v := nI (hv1 b E r)) dX9_readFirst_65 hm.t3 n3_rd rfl (by omega) rfl rfl ?_
    refine jj_icmp_ne (q := 69) (tgt := 74) dX9_readFirst_66 rfl rfl (fun h66 => ?_) (fun h66 => ?_)
    · rw [show gPk b E (decide (hv2 b E r = hv1 b E r)) (hv0 b E r) (hr3 b E r) (hg3 b E r G) = gLk b E 0 (hv0 b E r) (hr3 b E r) (hg3 b E r G) by rw [decide_eq_false (fun w => h66 (by show nI (hv2 b E r) = _; rw [w]))]; rfl] at hrest
      exact hrest
    · refine jj_aload_n (q := 70) dX9_readFirst_69 rfl rfl rfl ?_
      refine jj_iconst (v := 3) (q := 71) dX9_readFirst_70 rfl rfl ?_
      refine jj_cV1v (q := 74) dX9_readFirst_71 yk_X9_faults ml_X9_140 hm.t0 (exM_faults (c := 3) hm hb.q (hs.g3.lk (lo := 0) (hx := hv0 b E r))) rfl rfl rfl ⟨Nat.zero_le _, Nat.zero_le _⟩ ?_
      rw [show gPk b E (decide (hv2 b E r = hv1 b E r)) (hv0 b E r) (hr3 b E r) (hg3 b E r G) = gF b E 3 (rLk b E 0 (hv0 b E r) (hr3 b E r)) (gLk b E 0 (hv0 b E r) (hr3 b E r) (hg3 b E r G)) by rw [decide_eq_true (nI_inj' hv2b hv1b h66)]; rfl] at hrest
      exact hrest
end M78
