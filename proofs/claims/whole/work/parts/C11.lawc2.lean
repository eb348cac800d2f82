/-! THE LAW'S CASES, 2 (by program) -/
section C11
variable {Γ : Gam} {Zf : List Frame → Array Value → State → State → Prop} {cells slots k xo mo b : Nat} {T : JT} {R S : JR} {I : JI} {L : JL} {D : JD} {i : Int32}
theorem lc_11 {a6 a7 : Option Value} (hw : Wd Γ k xo mo T R S I L) (hk : k ≤ 599) (hol : mo + 18 ≤ b) (hO : T b = some (.inr (.long, 1))) (hO2 : T (b + 1) = some (.inr (.double, 1))) (p1 : vp_in (i + 1) Γ.sc.2.1) (p2 : vp_in (i + 2) Γ.sc.2.1) (p3 : vp_in (i + 3) Γ.sc.2.1) (p4 : vp_in (i + 4) Γ.sc.2.1) (p5 : vp_in (i + 5) Γ.sc.2.1) (hc : cells + 1 ≤ 601024) (hs : slots + 6 ≤ 7293034) (kk : Kk Γ Zf k xo mo b cells slots i T R) : JJ Γ EL Zf room_1 cells slots 734 (Vl Γ.sc.1 xo mo b i a6 a7) [] (T, R, S, I, L, D, none) := by
  obtain ⟨n9, t, v, G, hal, hx, hm⟩ := (show BSt Γ k xo mo b 100 100 Y_X8_lapsOf Y_X9_lapsOf [.int (Γ.sc.2.2 (i + 1).toNatClampNeg)] [(0, 0), (1, 1), (2, 2)] T R S I L from st_lapsOf hw (by omega) hol) D
  have hn0 : t = 0 → n9 = 0 := (by decide : ∀ p ∈ ([(0, 0), (1, 1), (2, 2)] : List (Nat × Int32)), p.2 = 0 → p.1 = 0) (n9, t) hal
  have e1 := ec_le n9
  have e2 := es_le n9
  refine jj_aload_n (q := 735) dL_law_734 rfl rfl rfl ?_
  refine jj_aload_n (q := 736) dL_law_735 rfl rfl rfl ?_
  refine jj_iload (q := 738) dL_law_736 rfl rfl ?_
  refine jj_iconst (v := 1) (q := 739) dL_law_738 rfl rfl ?_
  refine jj_iadd (q := 740) dL_law_739 rfl ?_
  refine jj_kiald (q := 741) dL_law_740 sc_E p1 rfl rfl ?_
  refine jj_aload_n (q := 742) dL_law_741 rfl rfl rfl ?_
  refine lS3 (q := 745) (t := t) dL_law_742 yk_L_lapsOf ms_L_lapsOf (wr_lapsOf (v := v) (G := G) hw.tx hO hal hx) (fun o M' h => h.1) rfl rfl rfl (by omega) (by omega) (fun M' h => ?_)
  obtain ⟨h1, S1, I1, L1, rfl, hG⟩ := h
  clear h1
  refine jj_istore (q := 747) dL_law_745 (by decide) rfl ?_
  refine jj_aload_n (q := 748) dL_law_747 rfl rfl rfl ?_
  refine jj_aload_n (q := 749) dL_law_748 rfl rfl rfl ?_
  refine jj_iload (q := 751) dL_law_749 rfl rfl ?_
  refine jj_iconst (v := 1) (q := 752) dL_law_751 rfl rfl ?_
  refine jj_iadd (q := 753) dL_law_752 rfl ?_
  refine jj_kiald (q := 754) dL_law_753 sc_E p1 rfl rfl ?_
  refine lV1 (q := 757) dL_law_754 yk_X9_lapsOf ml_L_228 hw.hm.t0 (hm S1 I1 L1 _ D hG (fun c h => wLo_lt h)) (fun o M' h => by obtain ⟨S2, I2, w, h1, h2⟩ := h; exact ⟨w, h1.1⟩) rfl rfl rfl (by omega) (by omega) (fun r M' h => ?_)
  obtain ⟨S2, I2, w, ⟨h1, hv⟩, rfl, hw2, ht⟩ := h
  cases h1
  refine jj_istore (q := 759) dL_law_757 (by decide) rfl ?_
  refine jj_aload_n (q := 760) dL_law_759 rfl rfl rfl ?_
  refine lV0 (q := 763) dL_law_760 yk_X9_thrown ml_L_191 hw.hm.t0 (ex_thr hw2.hm) (fun o M' h => ⟨_, h.1⟩) rfl rfl rfl (by omega) (by omega) (fun r M' h => ?_)
  obtain ⟨h1, rfl⟩ := h
  cases h1
  refine jj_iload (q := 765) dL_law_763 rfl rfl ?_
  refine jj_icmp_eq (q := 768) (tgt := 770) dL_law_765 rfl rfl (fun h765 => ?_) (fun h765 => absurd (ht) h765)
  refine jj_iload (q := 772) dL_law_770 rfl rfl ?_
  refine jj_if_ne (q := 775) (tgt := 787) dL_law_772 rfl rfl (fun h772 => ?_) (fun h772 => ?_)
  · refine jj_goto (tgt := 3611) dL_law_787 rfl ?_
    exact kk S2 I2 _ _ _ _ _ _ (Nat.add_le_add_left (ec_le n9) cells) (Nat.add_le_add_left (es_le n9) slots) hw2
  · refine jj_aload_n (q := 776) dL_law_775 rfl rfl rfl ?_
    refine jj_iconst (v := 0) (q := 777) dL_law_776 rfl rfl ?_
    refine jj_lald (v := v.toInt64) (q := 778) dL_law_777 hO vp_01 (wLo_at (hn0 h772)) rfl ?_
    refine jj_iload (q := 780) dL_law_778 rfl rfl ?_
    refine jj_i2l (q := 781) dL_law_780 rfl ?_
    refine jj_lcmp (q := 782) dL_law_781 rfl ?_
    refine jj_if_eq (q := 785) (tgt := 787) dL_law_782 rfl rfl (fun h782 => ?_) (fun h782 => absurd (lcmp_self (congrArg Int32.toInt64 (hv (hn0 h772)).symm)) h782)
    refine jj_goto (tgt := 3611) dL_law_787 rfl ?_
    exact kk S2 I2 _ _ _ _ _ _ (Nat.add_le_add_left (ec_le n9) cells) (Nat.add_le_add_left (es_le n9) slots) hw2
theorem lc_12 {a6 a7 : Option Value} (hw : Wd Γ k xo mo T R S I L) (hk : k ≤ 599) (hol : mo + 18 ≤ b) (hO : T b = some (.inr (.long, 1))) (hO2 : T (b + 1) = some (.inr (.double, 1))) (p1 : vp_in (i + 1) Γ.sc.2.1) (p2 : vp_in (i + 2) Γ.sc.2.1) (p3 : vp_in (i + 3) Γ.sc.2.1) (p4 : vp_in (i + 4) Γ.sc.2.1) (p5 : vp_in (i + 5) Γ.sc.2.1) (hc : cells + 1 ≤ 601024) (hs : slots + 6 ≤ 7293034) (kk : Kk Γ Zf k xo mo b cells slots i T R) : JJ Γ EL Zf room_1 cells slots 790 (Vl Γ.sc.1 xo mo b i a6 a7) [] (T, R, S, I, L, D, none) := by
  obtain ⟨n9, t, v, G, hal, hx, hm⟩ := (show BSt Γ k xo mo b 100 100 Y_X8_levelOf Y_X9_levelOf [.int (Γ.sc.2.2 (i + 1).toNatClampNeg)] [(0, 0), (1, 1), (2, 2)] T R S I L from st_levelOf hw (by omega) hol) D
  have hn0 : t = 0 → n9 = 0 := (by decide : ∀ p ∈ ([(0, 0), (1, 1), (2, 2)] : List (Nat × Int32)), p.2 = 0 → p.1 = 0) (n9, t) hal
  have e1 := ec_le n9
  have e2 := es_le n9
  refine jj_aload_n (q := 791) dL_law_790 rfl rfl rfl ?_
  refine jj_aload_n (q := 792) dL_law_791 rfl rfl rfl ?_
  refine jj_iload (q := 794) dL_law_792 rfl rfl ?_
  refine jj_iconst (v := 1) (q := 795) dL_law_794 rfl rfl ?_
  refine jj_iadd (q := 796) dL_law_795 rfl ?_
  refine jj_kiald (q := 797) dL_law_796 sc_E p1 rfl rfl ?_
  refine jj_aload_n (q := 798) dL_law_797 rfl rfl rfl ?_
  refine lS3 (q := 801) (t := t) dL_law_798 yk_L_levelOf ms_L_levelOf (wr_levelOf (v := v) (G := G) hw.tx hO hal hx) (fun o M' h => h.1) rfl rfl rfl (by omega) (by omega) (fun M' h => ?_)
  obtain ⟨h1, S1, I1, L1, rfl, hG⟩ := h
  clear h1
  refine jj_istore (q := 803) dL_law_801 (by decide) rfl ?_
  refine jj_aload_n (q := 804) dL_law_803 rfl rfl rfl ?_
  refine jj_aload_n (q := 805) dL_law_804 rfl rfl rfl ?_
  refine jj_iload (q := 807) dL_law_805 rfl rfl ?_
  refine jj_iconst (v := 1) (q := 808) dL_law_807 rfl rfl ?_
  refine jj_iadd (q := 809) dL_law_808 rfl ?_
  refine jj_kiald (q := 810) dL_law_809 sc_E p1 rfl rfl ?_
  refine lV1 (q := 813) dL_law_810 yk_X9_levelOf ml_L_231 hw.hm.t0 (hm S1 I1 L1 _ D hG (fun c h => wLo_lt h)) (fun o M' h => by obtain ⟨S2, I2, w, h1, h2⟩ := h; exact ⟨w, h1.1⟩) rfl rfl rfl (by omega) (by omega) (fun r M' h => ?_)
  obtain ⟨S2, I2, w, ⟨h1, hv⟩, rfl, hw2, ht⟩ := h
  cases h1
  refine jj_istore (q := 815) dL_law_813 (by decide) rfl ?_
  refine jj_aload_n (q := 816) dL_law_815 rfl rfl rfl ?_
  refine lV0 (q := 819) dL_law_816 yk_X9_thrown ml_L_191 hw.hm.t0 (ex_thr hw2.hm) (fun o M' h => ⟨_, h.1⟩) rfl rfl rfl (by omega) (by omega) (fun r M' h => ?_)
  obtain ⟨h1, rfl⟩ := h
  cases h1
  refine jj_iload (q := 821) dL_law_819 rfl rfl ?_
  refine jj_icmp_eq (q := 824) (tgt := 826) dL_law_821 rfl rfl (fun h821 => ?_) (fun h821 => absurd (ht) h821)
  refine jj_iload (q := 828) dL_law_826 rfl rfl ?_
  refine jj_if_ne (q := 831) (tgt := 843) dL_law_828 rfl rfl (fun h828 => ?_) (fun h828 => ?_)
  · refine jj_goto (tgt := 3611) dL_law_843 rfl ?_
    exact kk S2 I2 _ _ _ _ _ _ (Nat.add_le_add_left (ec_le n9) cells) (Nat.add_le_add_left (es_le n9) slots) hw2
  · refine jj_aload_n (q := 832) dL_law_831 rfl rfl rfl ?_
    refine jj_iconst (v := 0) (q := 833) dL_law_832 rfl rfl ?_
    refine jj_lald (v := v.toInt64) (q := 834) dL_law_833 hO vp_01 (wLo_at (hn0 h828)) rfl ?_
    refine jj_iload (q := 836) dL_law_834 rfl rfl ?_
    refine jj_i2l (q := 837) dL_law_836 rfl ?_
    refine jj_lcmp (q := 838) dL_law_837 rfl ?_
    refine jj_if_eq (q := 841) (tgt := 843) dL_law_838 rfl rfl (fun h838 => ?_) (fun h838 => absurd (lcmp_self (congrArg Int32.toInt64 (hv (hn0 h828)).symm)) h838)
    refine jj_goto (tgt := 3611) dL_law_843 rfl ?_
    exact kk S2 I2 _ _ _ _ _ _ (Nat.add_le_add_left (ec_le n9) cells) (Nat.add_le_add_left (es_le n9) slots) hw2
theorem lc_13 {a6 a7 : Option Value} (hw : Wd Γ k xo mo T R S I L) (hk : k ≤ 599) (hol : mo + 18 ≤ b) (hO : T b = some (.inr (.long, 1))) (hO2 : T (b + 1) = some (.inr (.double, 1))) (p1 : vp_in (i + 1) Γ.sc.2.1) (p2 : vp_in (i + 2) Γ.sc.2.1) (p3 : vp_in (i + 3) Γ.sc.2.1) (p4 : vp_in (i + 4) Γ.sc.2.1) (p5 : vp_in (i + 5) Γ.sc.2.1) (hc : cells + 1 ≤ 601024) (hs : slots + 6 ≤ 7293034) (kk : Kk Γ Zf k xo mo b cells slots i T R) : JJ Γ EL Zf room_1 cells slots 846 (Vl Γ.sc.1 xo mo b i a6 a7) [] (T, R, S, I, L, D, none) := by
  obtain ⟨n9, t, v, G, hal, hx, hm⟩ := (show BSt Γ k xo mo b 100 100 Y_X8_laneOf Y_X9_laneOf [.int (Γ.sc.2.2 (i + 1).toNatClampNeg)] [(0, 0), (1, 1), (2, 2)] T R S I L from st_laneOf hw (by omega) hol) D
  have hn0 : t = 0 → n9 = 0 := (by decide : ∀ p ∈ ([(0, 0), (1, 1), (2, 2)] : List (Nat × Int32)), p.2 = 0 → p.1 = 0) (n9, t) hal
  have e1 := ec_le n9
  have e2 := es_le n9
  refine jj_aload_n (q := 847) dL_law_846 rfl rfl rfl ?_
  refine jj_aload_n (q := 848) dL_law_847 rfl rfl rfl ?_
  refine jj_iload (q := 850) dL_law_848 rfl rfl ?_
  refine jj_iconst (v := 1) (q := 851) dL_law_850 rfl rfl ?_
  refine jj_iadd (q := 852) dL_law_851 rfl ?_
  refine jj_kiald (q := 853) dL_law_852 sc_E p1 rfl rfl ?_
  refine jj_aload_n (q := 854) dL_law_853 rfl rfl rfl ?_
  refine lS3 (q := 857) (t := t) dL_law_854 yk_L_laneOf ms_L_laneOf (wr_laneOf (v := v) (G := G) hw.tx hO hal hx) (fun o M' h => h.1) rfl rfl rfl (by omega) (by omega) (fun M' h => ?_)
  obtain ⟨h1, S1, I1, L1, rfl, hG⟩ := h
  clear h1
  refine jj_istore (q := 859) dL_law_857 (by decide) rfl ?_
  refine jj_aload_n (q := 860) dL_law_859 rfl rfl rfl ?_
  refine jj_aload_n (q := 861) dL_law_860 rfl rfl rfl ?_
  refine jj_iload (q := 863) dL_law_861 rfl rfl ?_
  refine jj_iconst (v := 1) (q := 864) dL_law_863 rfl rfl ?_
  refine jj_iadd (q := 865) dL_law_864 rfl ?_
  refine jj_kiald (q := 866) dL_law_865 sc_E p1 rfl rfl ?_
  refine lV1 (q := 869) dL_law_866 yk_X9_laneOf ml_L_234 hw.hm.t0 (hm S1 I1 L1 _ D hG (fun c h => wLo_lt h)) (fun o M' h => by obtain ⟨S2, I2, w, h1, h2⟩ := h; exact ⟨w, h1.1⟩) rfl rfl rfl (by omega) (by omega) (fun r M' h => ?_)
  obtain ⟨S2, I2, w, ⟨h1, hv⟩, rfl, hw2, ht⟩ := h
  cases h1
  refine jj_istore (q := 871) dL_law_869 (by decide) rfl ?_
  refine jj_aload_n (q := 872) dL_law_871 rfl rfl rfl ?_
  refine lV0 (q := 875) dL_law_872 yk_X9_thrown ml_L_191 hw.hm.t0 (ex_thr hw2.hm) (fun o M' h => ⟨_, h.1⟩) rfl rfl rfl (by omega) (by omega) (fun r M' h => ?_)
  obtain ⟨h1, rfl⟩ := h
  cases h1
  refine jj_iload (q := 877) dL_law_875 rfl rfl ?_
  refine jj_icmp_eq (q := 880) (tgt := 882) dL_law_877 rfl rfl (fun h877 => ?_) (fun h877 => absurd (ht) h877)
  refine jj_iload (q := 884) dL_law_882 rfl rfl ?_
  refine jj_if_ne (q := 887) (tgt := 899) dL_law_884 rfl rfl (fun h884 => ?_) (fun h884 => ?_)
  · refine jj_goto (tgt := 3611) dL_law_899 rfl ?_
    exact kk S2 I2 _ _ _ _ _ _ (Nat.add_le_add_left (ec_le n9) cells) (Nat.add_le_add_left (es_le n9) slots) hw2
  · refine jj_aload_n (q := 888) dL_law_887 rfl rfl rfl ?_
    refine jj_iconst (v := 0) (q := 889) dL_law_888 rfl rfl ?_
    refine jj_lald (v := v.toInt64) (q := 890) dL_law_889 hO vp_01 (wLo_at (hn0 h884)) rfl ?_
    refine jj_iload (q := 892) dL_law_890 rfl rfl ?_
    refine jj_i2l (q := 893) dL_law_892 rfl ?_
    refine jj_lcmp (q := 894) dL_law_893 rfl ?_
    refine jj_if_eq (q := 897) (tgt := 899) dL_law_894 rfl rfl (fun h894 => ?_) (fun h894 => absurd (lcmp_self (congrArg Int32.toInt64 (hv (hn0 h884)).symm)) h894)
    refine jj_goto (tgt := 3611) dL_law_899 rfl ?_
    exact kk S2 I2 _ _ _ _ _ _ (Nat.add_le_add_left (ec_le n9) cells) (Nat.add_le_add_left (es_le n9) slots) hw2
theorem lc_14 {a6 a7 : Option Value} (hw : Wd Γ k xo mo T R S I L) (hk : k ≤ 599) (hol : mo + 18 ≤ b) (hO : T b = some (.inr (.long, 1))) (hO2 : T (b + 1) = some (.inr (.double, 1))) (p1 : vp_in (i + 1) Γ.sc.2.1) (p2 : vp_in (i + 2) Γ.sc.2.1) (p3 : vp_in (i + 3) Γ.sc.2.1) (p4 : vp_in (i + 4) Γ.sc.2.1) (p5 : vp_in (i + 5) Γ.sc.2.1) (hc : cells + 1 ≤ 601024) (hs : slots + 6 ≤ 7293034) (kk : Kk Γ Zf k xo mo b cells slots i T R) : JJ Γ EL Zf room_1 cells slots 902 (Vl Γ.sc.1 xo mo b i a6 a7) [] (T, R, S, I, L, D, none) := by
  obtain ⟨n9, t, v, G, hal, hx, hm⟩ := (show BSt Γ k xo mo b 100 100 Y_X8_ticksTo Y_X9_ticksTo [.int (Γ.sc.2.2 (i + 1).toNatClampNeg)] [(0, 0), (1, 1), (2, 2)] T R S I L from st_ticksTo hw (by omega) hol) D
  have hn0 : t = 0 → n9 = 0 := (by decide : ∀ p ∈ ([(0, 0), (1, 1), (2, 2)] : List (Nat × Int32)), p.2 = 0 → p.1 = 0) (n9, t) hal
  have e1 := ec_le n9
  have e2 := es_le n9
  refine jj_aload_n (q := 903) dL_law_902 rfl rfl rfl ?_
  refine jj_aload_n (q := 904) dL_law_903 rfl rfl rfl ?_
  refine jj_iload (q := 906) dL_law_904 rfl rfl ?_
  refine jj_iconst (v := 1) (q := 907) dL_law_906 rfl rfl ?_
  refine jj_iadd (q := 908) dL_law_907 rfl ?_
  refine jj_kiald (q := 909) dL_law_908 sc_E p1 rfl rfl ?_
  refine jj_aload_n (q := 910) dL_law_909 rfl rfl rfl ?_
  refine lS3 (q := 913) (t := t) dL_law_910 yk_L_ticksTo ms_L_ticksTo (wr_ticksTo (v := v) (G := G) hw.tx hO hal hx) (fun o M' h => h.1) rfl rfl rfl (by omega) (by omega) (fun M' h => ?_)
  obtain ⟨h1, S1, I1, L1, rfl, hG⟩ := h
  clear h1
  refine jj_istore (q := 915) dL_law_913 (by decide) rfl ?_
  refine jj_aload_n (q := 916) dL_law_915 rfl rfl rfl ?_
  refine jj_aload_n (q := 917) dL_law_916 rfl rfl rfl ?_
  refine jj_iload (q := 919) dL_law_917 rfl rfl ?_
  refine jj_iconst (v := 1) (q := 920) dL_law_919 rfl rfl ?_
  refine jj_iadd (q := 921) dL_law_920 rfl ?_
  refine jj_kiald (q := 922) dL_law_921 sc_E p1 rfl rfl ?_
  refine lV1 (q := 925) dL_law_922 yk_X9_ticksTo ml_L_237 hw.hm.t0 (hm S1 I1 L1 _ D hG (fun c h => wLo_lt h)) (fun o M' h => by obtain ⟨S2, I2, w, h1, h2⟩ := h; exact ⟨w, h1.1⟩) rfl rfl rfl (by omega) (by omega) (fun r M' h => ?_)
  obtain ⟨S2, I2, w, ⟨h1, hv⟩, rfl, hw2, ht⟩ := h
  cases h1
  refine jj_istore (q := 927) dL_law_925 (by decide) rfl ?_
  refine jj_aload_n (q := 928) dL_law_927 rfl rfl rfl ?_
  refine lV0 (q := 931) dL_law_928 yk_X9_thrown ml_L_191 hw.hm.t0 (ex_thr hw2.hm) (fun o M' h => ⟨_, h.1⟩) rfl rfl rfl (by omega) (by omega) (fun r M' h => ?_)
  obtain ⟨h1, rfl⟩ := h
  cases h1
  refine jj_iload (q := 933) dL_law_931 rfl rfl ?_
  refine jj_icmp_eq (q := 936) (tgt := 938) dL_law_933 rfl rfl (fun h933 => ?_) (fun h933 => absurd (ht) h933)
  refine jj_iload (q := 940) dL_law_938 rfl rfl ?_
  refine jj_if_ne (q := 943) (tgt := 955) dL_law_940 rfl rfl (fun h940 => ?_) (fun h940 => ?_)
  · refine jj_goto (tgt := 3611) dL_law_955 rfl ?_
    exact kk S2 I2 _ _ _ _ _ _ (Nat.add_le_add_left (ec_le n9) cells) (Nat.add_le_add_left (es_le n9) slots) hw2
  · refine jj_aload_n (q := 944) dL_law_943 rfl rfl rfl ?_
    refine jj_iconst (v := 0) (q := 945) dL_law_944 rfl rfl ?_
    refine jj_lald (v := v.toInt64) (q := 946) dL_law_945 hO vp_01 (wLo_at (hn0 h940)) rfl ?_
    refine jj_iload (q := 948) dL_law_946 rfl rfl ?_
    refine jj_i2l (q := 949) dL_law_948 rfl ?_
    refine jj_lcmp (q := 950) dL_law_949 rfl ?_
    refine jj_if_eq (q := 953) (tgt := 955) dL_law_950 rfl rfl (fun h950 => ?_) (fun h950 => absurd (lcmp_self (congrArg Int32.toInt64 (hv (hn0 h940)).symm)) h950)
    refine jj_goto (tgt := 3611) dL_law_955 rfl ?_
    exact kk S2 I2 _ _ _ _ _ _ (Nat.add_le_add_left (ec_le n9) cells) (Nat.add_le_add_left (es_le n9) slots) hw2
theorem lc_15 {a6 a7 : Option Value} (hw : Wd Γ k xo mo T R S I L) (hk : k ≤ 599) (hol : mo + 18 ≤ b) (hO : T b = some (.inr (.long, 1))) (hO2 : T (b + 1) = some (.inr (.double, 1))) (p1 : vp_in (i + 1) Γ.sc.2.1) (p2 : vp_in (i + 2) Γ.sc.2.1) (p3 : vp_in (i + 3) Γ.sc.2.1) (p4 : vp_in (i + 4) Γ.sc.2.1) (p5 : vp_in (i + 5) Γ.sc.2.1) (hc : cells + 1 ≤ 601024) (hs : slots + 6 ≤ 7293034) (kk : Kk Γ Zf k xo mo b cells slots i T R) : JJ Γ EL Zf room_1 cells slots 958 (Vl Γ.sc.1 xo mo b i a6 a7) [] (T, R, S, I, L, D, none) := by
  obtain ⟨n9, t, v, G, hal, hx, hm⟩ := (show BSt Γ k xo mo b 100 100 Y_X8_finishedAt Y_X9_finishedAt [.int (Γ.sc.2.2 (i + 1).toNatClampNeg)] [(0, 0), (1, 1), (2, 2)] T R S I L from st_finishedAt hw (by omega) hol) D
  have hn0 : t = 0 → n9 = 0 := (by decide : ∀ p ∈ ([(0, 0), (1, 1), (2, 2)] : List (Nat × Int32)), p.2 = 0 → p.1 = 0) (n9, t) hal
  have e1 := ec_le n9
  have e2 := es_le n9
  refine jj_aload_n (q := 959) dL_law_958 rfl rfl rfl ?_
  refine jj_aload_n (q := 960) dL_law_959 rfl rfl rfl ?_
  refine jj_iload (q := 962) dL_law_960 rfl rfl ?_
  refine jj_iconst (v := 1) (q := 963) dL_law_962 rfl rfl ?_
  refine jj_iadd (q := 964) dL_law_963 rfl ?_
  refine jj_kiald (q := 965) dL_law_964 sc_E p1 rfl rfl ?_
  refine jj_aload_n (q := 966) dL_law_965 rfl rfl rfl ?_
  refine lS3 (q := 969) (t := t) dL_law_966 yk_L_finishedAt ms_L_finishedAt (wr_finishedAt (v := v) (G := G) hw.tx hO hal hx) (fun o M' h => h.1) rfl rfl rfl (by omega) (by omega) (fun M' h => ?_)
  obtain ⟨h1, S1, I1, L1, rfl, hG⟩ := h
  clear h1
  refine jj_istore (q := 971) dL_law_969 (by decide) rfl ?_
  refine jj_aload_n (q := 972) dL_law_971 rfl rfl rfl ?_
  refine jj_aload_n (q := 973) dL_law_972 rfl rfl rfl ?_
  refine jj_iload (q := 975) dL_law_973 rfl rfl ?_
  refine jj_iconst (v := 1) (q := 976) dL_law_975 rfl rfl ?_
  refine jj_iadd (q := 977) dL_law_976 rfl ?_
  refine jj_kiald (q := 978) dL_law_977 sc_E p1 rfl rfl ?_
  refine lV1 (q := 981) dL_law_978 yk_X9_finishedAt ml_L_240 hw.hm.t0 (hm S1 I1 L1 _ D hG (fun c h => wLo_lt h)) (fun o M' h => by obtain ⟨S2, I2, w, h1, h2⟩ := h; exact ⟨w, h1.1⟩) rfl rfl rfl (by omega) (by omega) (fun r M' h => ?_)
  obtain ⟨S2, I2, w, ⟨h1, hv⟩, rfl, hw2, ht⟩ := h
  cases h1
  refine jj_istore (q := 983) dL_law_981 (by decide) rfl ?_
  refine jj_aload_n (q := 984) dL_law_983 rfl rfl rfl ?_
  refine lV0 (q := 987) dL_law_984 yk_X9_thrown ml_L_191 hw.hm.t0 (ex_thr hw2.hm) (fun o M' h => ⟨_, h.1⟩) rfl rfl rfl (by omega) (by omega) (fun r M' h => ?_)
  obtain ⟨h1, rfl⟩ := h
  cases h1
  refine jj_iload (q := 989) dL_law_987 rfl rfl ?_
  refine jj_icmp_eq (q := 992) (tgt := 994) dL_law_989 rfl rfl (fun h989 => ?_) (fun h989 => absurd (ht) h989)
  refine jj_iload (q := 996) dL_law_994 rfl rfl ?_
  refine jj_if_ne (q := 999) (tgt := 1011) dL_law_996 rfl rfl (fun h996 => ?_) (fun h996 => ?_)
  · refine jj_goto (tgt := 3611) dL_law_1011 rfl ?_
    exact kk S2 I2 _ _ _ _ _ _ (Nat.add_le_add_left (ec_le n9) cells) (Nat.add_le_add_left (es_le n9) slots) hw2
  · refine jj_aload_n (q := 1000) dL_law_999 rfl rfl rfl ?_
    refine jj_iconst (v := 0) (q := 1001) dL_law_1000 rfl rfl ?_
    refine jj_lald (v := v.toInt64) (q := 1002) dL_law_1001 hO vp_01 (wLo_at (hn0 h996)) rfl ?_
    refine jj_iload (q := 1004) dL_law_1002 rfl rfl ?_
    refine jj_i2l (q := 1005) dL_law_1004 rfl ?_
    refine jj_lcmp (q := 1006) dL_law_1005 rfl ?_
    refine jj_if_eq (q := 1009) (tgt := 1011) dL_law_1006 rfl rfl (fun h1006 => ?_) (fun h1006 => absurd (lcmp_self (congrArg Int32.toInt64 (hv (hn0 h996)).symm)) h1006)
    refine jj_goto (tgt := 3611) dL_law_1011 rfl ?_
    exact kk S2 I2 _ _ _ _ _ _ (Nat.add_le_add_left (ec_le n9) cells) (Nat.add_le_add_left (es_le n9) slots) hw2
theorem lc_16 {a6 a7 : Option Value} (hw : Wd Γ k xo mo T R S I L) (hk : k ≤ 599) (hol : mo + 18 ≤ b) (hO : T b = some (.inr (.long, 1))) (hO2 : T (b + 1) = some (.inr (.double, 1))) (p1 : vp_in (i + 1) Γ.sc.2.1) (p2 : vp_in (i + 2) Γ.sc.2.1) (p3 : vp_in (i + 3) Γ.sc.2.1) (p4 : vp_in (i + 4) Γ.sc.2.1) (p5 : vp_in (i + 5) Γ.sc.2.1) (hc : cells + 1 ≤ 601024) (hs : slots + 6 ≤ 7293034) (kk : Kk Γ Zf k xo mo b cells slots i T R) : JJ Γ EL Zf room_1 cells slots 1014 (Vl Γ.sc.1 xo mo b i a6 a7) [] (T, R, S, I, L, D, none) := by
  obtain ⟨n9, t, v, G, hal, hx, hm⟩ := (show BSt Γ k xo mo b 100 100 Y_X8_isHot Y_X9_isHot [.int (Γ.sc.2.2 (i + 1).toNatClampNeg)] [(0, 0), (1, 1), (2, 2)] T R S I L from st_isHot hw (by omega) hol) D
  have hn0 : t = 0 → n9 = 0 := (by decide : ∀ p ∈ ([(0, 0), (1, 1), (2, 2)] : List (Nat × Int32)), p.2 = 0 → p.1 = 0) (n9, t) hal
  have e1 := ec_le n9
  have e2 := es_le n9
  refine jj_aload_n (q := 1015) dL_law_1014 rfl rfl rfl ?_
  refine jj_aload_n (q := 1016) dL_law_1015 rfl rfl rfl ?_
  refine jj_iload (q := 1018) dL_law_1016 rfl rfl ?_
  refine jj_iconst (v := 1) (q := 1019) dL_law_1018 rfl rfl ?_
  refine jj_iadd (q := 1020) dL_law_1019 rfl ?_
  refine jj_kiald (q := 1021) dL_law_1020 sc_E p1 rfl rfl ?_
  refine jj_aload_n (q := 1022) dL_law_1021 rfl rfl rfl ?_
  refine lS3 (q := 1025) (t := t) dL_law_1022 yk_L_isHot ms_L_isHot (wr_isHot (v := v) (G := G) hw.tx hO hal hx) (fun o M' h => h.1) rfl rfl rfl (by omega) (by omega) (fun M' h => ?_)
  obtain ⟨h1, S1, I1, L1, rfl, hG⟩ := h
  clear h1
  refine jj_istore (q := 1027) dL_law_1025 (by decide) rfl ?_
  refine jj_aload_n (q := 1028) dL_law_1027 rfl rfl rfl ?_
  refine jj_aload_n (q := 1029) dL_law_1028 rfl rfl rfl ?_
  refine jj_iload (q := 1031) dL_law_1029 rfl rfl ?_
  refine jj_iconst (v := 1) (q := 1032) dL_law_1031 rfl rfl ?_
  refine jj_iadd (q := 1033) dL_law_1032 rfl ?_
  refine jj_kiald (q := 1034) dL_law_1033 sc_E p1 rfl rfl ?_
  refine lV1 (q := 1037) dL_law_1034 yk_X9_isHot ml_L_243 hw.hm.t0 (hm S1 I1 L1 _ D hG (fun c h => wLo_lt h)) (fun o M' h => by obtain ⟨S2, I2, w, h1, h2⟩ := h; exact ⟨w, h1.1⟩) rfl rfl rfl (by omega) (by omega) (fun r M' h => ?_)
  obtain ⟨S2, I2, w, ⟨h1, hv⟩, rfl, hw2, ht⟩ := h
  cases h1
  refine jj_istore (q := 1039) dL_law_1037 (by decide) rfl ?_
  refine jj_aload_n (q := 1040) dL_law_1039 rfl rfl rfl ?_
  refine lV0 (q := 1043) dL_law_1040 yk_X9_thrown ml_L_191 hw.hm.t0 (ex_thr hw2.hm) (fun o M' h => ⟨_, h.1⟩) rfl rfl rfl (by omega) (by omega) (fun r M' h => ?_)
  obtain ⟨h1, rfl⟩ := h
  cases h1
  refine jj_iload (q := 1045) dL_law_1043 rfl rfl ?_
  refine jj_icmp_eq (q := 1048) (tgt := 1050) dL_law_1045 rfl rfl (fun h1045 => ?_) (fun h1045 => absurd (ht) h1045)
  refine jj_iload (q := 1052) dL_law_1050 rfl rfl ?_
  refine jj_if_ne (q := 1055) (tgt := 1074) dL_law_1052 rfl rfl (fun h1052 => ?_) (fun h1052 => ?_)
  · refine jj_goto (tgt := 3611) dL_law_1074 rfl ?_
    exact kk S2 I2 _ _ _ _ _ _ (Nat.add_le_add_left (ec_le n9) cells) (Nat.add_le_add_left (es_le n9) slots) hw2
  · refine jj_aload_n (q := 1056) dL_law_1055 rfl rfl rfl ?_
    refine jj_iconst (v := 0) (q := 1057) dL_law_1056 rfl rfl ?_
    refine jj_lald (v := (zb v)) (q := 1058) dL_law_1057 hO vp_01 (wLo_at (hn0 h1052)) rfl ?_
    refine jj_iload (q := 1060) dL_law_1058 rfl rfl ?_
    refine jj_if_eq (q := 1063) (tgt := 1067) dL_law_1060 rfl rfl (fun h1060 => ?_) (fun h1060 => ?_)
    · refine jj_lconst (v := 0) (q := 1068) dL_law_1067 rfl rfl ?_
      refine jj_lcmp (q := 1069) dL_law_1068 rfl ?_
      refine jj_if_eq (q := 1072) (tgt := 1074) dL_law_1069 rfl rfl (fun h1069 => ?_) (fun h1069 => absurd (lcmp_self (zb_0 ((hv (hn0 h1052)).symm.trans h1060))) h1069)
      refine jj_goto (tgt := 3611) dL_law_1074 rfl ?_
      exact kk S2 I2 _ _ _ _ _ _ (Nat.add_le_add_left (ec_le n9) cells) (Nat.add_le_add_left (es_le n9) slots) hw2
    · refine jj_lconst (v := 1) (q := 1064) dL_law_1063 rfl rfl ?_
      refine jj_goto (tgt := 1068) dL_law_1064 rfl ?_
      refine jj_lcmp (q := 1069) dL_law_1068 rfl ?_
      refine jj_if_eq (q := 1072) (tgt := 1074) dL_law_1069 rfl rfl (fun h1069 => ?_) (fun h1069 => absurd (lcmp_self (zb_1 (fun h => h1060 ((hv (hn0 h1052)).trans h)))) h1069)
      refine jj_goto (tgt := 3611) dL_law_1074 rfl ?_
      exact kk S2 I2 _ _ _ _ _ _ (Nat.add_le_add_left (ec_le n9) cells) (Nat.add_le_add_left (es_le n9) slots) hw2
theorem lc_17 {a6 a7 : Option Value} (hw : Wd Γ k xo mo T R S I L) (hk : k ≤ 599) (hol : mo + 18 ≤ b) (hO : T b = some (.inr (.long, 1))) (hO2 : T (b + 1) = some (.inr (.double, 1))) (p1 : vp_in (i + 1) Γ.sc.2.1) (p2 : vp_in (i + 2) Γ.sc.2.1) (p3 : vp_in (i + 3) Γ.sc.2.1) (p4 : vp_in (i + 4) Γ.sc.2.1) (p5 : vp_in (i + 5) Γ.sc.2.1) (hc : cells + 1 ≤ 601024) (hs : slots + 6 ≤ 7293034) (kk : Kk Γ Zf k xo mo b cells slots i T R) : JJ Γ EL Zf room_1 cells slots 1077 (Vl Γ.sc.1 xo mo b i a6 a7) [] (T, R, S, I, L, D, none) := by
  obtain ⟨n9, t, v, G, hal, hx, hm⟩ := (show BSt Γ k xo mo b 100 100 Y_X8_isKept Y_X9_isKept [.int (Γ.sc.2.2 (i + 1).toNatClampNeg)] [(0, 0), (1, 1), (2, 2)] T R S I L from st_isKept hw (by omega) hol) D
  have hn0 : t = 0 → n9 = 0 := (by decide : ∀ p ∈ ([(0, 0), (1, 1), (2, 2)] : List (Nat × Int32)), p.2 = 0 → p.1 = 0) (n9, t) hal
  have e1 := ec_le n9
  have e2 := es_le n9
  refine jj_aload_n (q := 1078) dL_law_1077 rfl rfl rfl ?_
  refine jj_aload_n (q := 1079) dL_law_1078 rfl rfl rfl ?_
  refine jj_iload (q := 1081) dL_law_1079 rfl rfl ?_
  refine jj_iconst (v := 1) (q := 1082) dL_law_1081 rfl rfl ?_
  refine jj_iadd (q := 1083) dL_law_1082 rfl ?_
  refine jj_kiald (q := 1084) dL_law_1083 sc_E p1 rfl rfl ?_
  refine jj_aload_n (q := 1085) dL_law_1084 rfl rfl rfl ?_
  refine lS3 (q := 1088) (t := t) dL_law_1085 yk_L_isKept ms_L_isKept (wr_isKept (v := v) (G := G) hw.tx hO hal hx) (fun o M' h => h.1) rfl rfl rfl (by omega) (by omega) (fun M' h => ?_)
  obtain ⟨h1, S1, I1, L1, rfl, hG⟩ := h
  clear h1
  refine jj_istore (q := 1090) dL_law_1088 (by decide) rfl ?_
  refine jj_aload_n (q := 1091) dL_law_1090 rfl rfl rfl ?_
  refine jj_aload_n (q := 1092) dL_law_1091 rfl rfl rfl ?_
  refine jj_iload (q := 1094) dL_law_1092 rfl rfl ?_
  refine jj_iconst (v := 1) (q := 1095) dL_law_1094 rfl rfl ?_
  refine jj_iadd (q := 1096) dL_law_1095 rfl ?_
  refine jj_kiald (q := 1097) dL_law_1096 sc_E p1 rfl rfl ?_
  refine lV1 (q := 1100) dL_law_1097 yk_X9_isKept ml_L_246 hw.hm.t0 (hm S1 I1 L1 _ D hG (fun c h => wLo_lt h)) (fun o M' h => by obtain ⟨S2, I2, w, h1, h2⟩ := h; exact ⟨w, h1.1⟩) rfl rfl rfl (by omega) (by omega) (fun r M' h => ?_)
  obtain ⟨S2, I2, w, ⟨h1, hv⟩, rfl, hw2, ht⟩ := h
  cases h1
  refine jj_istore (q := 1102) dL_law_1100 (by decide) rfl ?_
  refine jj_aload_n (q := 1103) dL_law_1102 rfl rfl rfl ?_
  refine lV0 (q := 1106) dL_law_1103 yk_X9_thrown ml_L_191 hw.hm.t0 (ex_thr hw2.hm) (fun o M' h => ⟨_, h.1⟩) rfl rfl rfl (by omega) (by omega) (fun r M' h => ?_)
  obtain ⟨h1, rfl⟩ := h
  cases h1
  refine jj_iload (q := 1108) dL_law_1106 rfl rfl ?_
  refine jj_icmp_eq (q := 1111) (tgt := 1113) dL_law_1108 rfl rfl (fun h1108 => ?_) (fun h1108 => absurd (ht) h1108)
  refine jj_iload (q := 1115) dL_law_1113 rfl rfl ?_
  refine jj_if_ne (q := 1118) (tgt := 1137) dL_law_1115 rfl rfl (fun h1115 => ?_) (fun h1115 => ?_)
  · refine jj_goto (tgt := 3611) dL_law_1137 rfl ?_
    exact kk S2 I2 _ _ _ _ _ _ (Nat.add_le_add_left (ec_le n9) cells) (Nat.add_le_add_left (es_le n9) slots) hw2
  · refine jj_aload_n (q := 1119) dL_law_1118 rfl rfl rfl ?_
    refine jj_iconst (v := 0) (q := 1120) dL_law_1119 rfl rfl ?_
    refine jj_lald (v := (zb v)) (q := 1121) dL_law_1120 hO vp_01 (wLo_at (hn0 h1115)) rfl ?_
    refine jj_iload (q := 1123) dL_law_1121 rfl rfl ?_
    refine jj_if_eq (q := 1126) (tgt := 1130) dL_law_1123 rfl rfl (fun h1123 => ?_) (fun h1123 => ?_)
    · refine jj_lconst (v := 0) (q := 1131) dL_law_1130 rfl rfl ?_
      refine jj_lcmp (q := 1132) dL_law_1131 rfl ?_
      refine jj_if_eq (q := 1135) (tgt := 1137) dL_law_1132 rfl rfl (fun h1132 => ?_) (fun h1132 => absurd (lcmp_self (zb_0 ((hv (hn0 h1115)).symm.trans h1123))) h1132)
      refine jj_goto (tgt := 3611) dL_law_1137 rfl ?_
      exact kk S2 I2 _ _ _ _ _ _ (Nat.add_le_add_left (ec_le n9) cells) (Nat.add_le_add_left (es_le n9) slots) hw2
    · refine jj_lconst (v := 1) (q := 1127) dL_law_1126 rfl rfl ?_
      refine jj_goto (tgt := 1131) dL_law_1127 rfl ?_
      refine jj_lcmp (q := 1132) dL_law_1131 rfl ?_
      refine jj_if_eq (q := 1135) (tgt := 1137) dL_law_1132 rfl rfl (fun h1132 => ?_) (fun h1132 => absurd (lcmp_self (zb_1 (fun h => h1123 ((hv (hn0 h1115)).trans h)))) h1132)
      refine jj_goto (tgt := 3611) dL_law_1137 rfl ?_
      exact kk S2 I2 _ _ _ _ _ _ (Nat.add_le_add_left (ec_le n9) cells) (Nat.add_le_add_left (es_le n9) slots) hw2
theorem lc_18 {a6 a7 : Option Value} (hw : Wd Γ k xo mo T R S I L) (hk : k ≤ 599) (hol : mo + 18 ≤ b) (hO : T b = some (.inr (.long, 1))) (hO2 : T (b + 1) = some (.inr (.double, 1))) (p1 : vp_in (i + 1) Γ.sc.2.1) (p2 : vp_in (i + 2) Γ.sc.2.1) (p3 : vp_in (i + 3) Γ.sc.2.1) (p4 : vp_in (i + 4) Γ.sc.2.1) (p5 : vp_in (i + 5) Γ.sc.2.1) (hc : cells + 1 ≤ 601024) (hs : slots + 6 ≤ 7293034) (kk : Kk Γ Zf k xo mo b cells slots i T R) : JJ Γ EL Zf room_1 cells slots 1140 (Vl Γ.sc.1 xo mo b i a6 a7) [] (T, R, S, I, L, D, none) := by
  obtain ⟨n9, t, v, G, hal, hx, hm⟩ := (show BSt Γ k xo mo b 100 100 Y_X8_bagAt Y_X9_bagAt [.int (Γ.sc.2.2 (i + 1).toNatClampNeg)] [(0, 0), (1, 1), (2, 2)] T R S I L from st_bagAt hw (by omega) hol) D
  have hn0 : t = 0 → n9 = 0 := (by decide : ∀ p ∈ ([(0, 0), (1, 1), (2, 2)] : List (Nat × Int32)), p.2 = 0 → p.1 = 0) (n9, t) hal
  have e1 := ec_le n9
  have e2 := es_le n9
  refine jj_aload_n (q := 1141) dL_law_1140 rfl rfl rfl ?_
  refine jj_aload_n (q := 1142) dL_law_1141 rfl rfl rfl ?_
  refine jj_iload (q := 1144) dL_law_1142 rfl rfl ?_
  refine jj_iconst (v := 1) (q := 1145) dL_law_1144 rfl rfl ?_
  refine jj_iadd (q := 1146) dL_law_1145 rfl ?_
  refine jj_kiald (q := 1147) dL_law_1146 sc_E p1 rfl rfl ?_
  refine jj_aload_n (q := 1148) dL_law_1147 rfl rfl rfl ?_
  refine lS3 (q := 1151) (t := t) dL_law_1148 yk_L_bagAt ms_L_bagAt (wr_bagAt (v := v) (G := G) hw.tx hO hal hx) (fun o M' h => h.1) rfl rfl rfl (by omega) (by omega) (fun M' h => ?_)
  obtain ⟨h1, S1, I1, L1, rfl, hG⟩ := h
  clear h1
  refine jj_istore (q := 1153) dL_law_1151 (by decide) rfl ?_
  refine jj_aload_n (q := 1154) dL_law_1153 rfl rfl rfl ?_
  refine jj_aload_n (q := 1155) dL_law_1154 rfl rfl rfl ?_
  refine jj_iload (q := 1157) dL_law_1155 rfl rfl ?_
  refine jj_iconst (v := 1) (q := 1158) dL_law_1157 rfl rfl ?_
  refine jj_iadd (q := 1159) dL_law_1158 rfl ?_
  refine jj_kiald (q := 1160) dL_law_1159 sc_E p1 rfl rfl ?_
  refine lV1 (q := 1163) dL_law_1160 yk_X9_bagAt ml_L_249 hw.hm.t0 (hm S1 I1 L1 _ D hG (fun c h => wLo_lt h)) (fun o M' h => by obtain ⟨S2, I2, w, h1, h2⟩ := h; exact ⟨w, h1.1⟩) rfl rfl rfl (by omega) (by omega) (fun r M' h => ?_)
  obtain ⟨S2, I2, w, ⟨h1, hv⟩, rfl, hw2, ht⟩ := h
  cases h1
  refine jj_istore (q := 1165) dL_law_1163 (by decide) rfl ?_
  refine jj_aload_n (q := 1166) dL_law_1165 rfl rfl rfl ?_
  refine lV0 (q := 1169) dL_law_1166 yk_X9_thrown ml_L_191 hw.hm.t0 (ex_thr hw2.hm) (fun o M' h => ⟨_, h.1⟩) rfl rfl rfl (by omega) (by omega) (fun r M' h => ?_)
  obtain ⟨h1, rfl⟩ := h
  cases h1
  refine jj_iload (q := 1171) dL_law_1169 rfl rfl ?_
  refine jj_icmp_eq (q := 1174) (tgt := 1176) dL_law_1171 rfl rfl (fun h1171 => ?_) (fun h1171 => absurd (ht) h1171)
  refine jj_iload (q := 1178) dL_law_1176 rfl rfl ?_
  refine jj_if_ne (q := 1181) (tgt := 1193) dL_law_1178 rfl rfl (fun h1178 => ?_) (fun h1178 => ?_)
  · refine jj_goto (tgt := 3611) dL_law_1193 rfl ?_
    exact kk S2 I2 _ _ _ _ _ _ (Nat.add_le_add_left (ec_le n9) cells) (Nat.add_le_add_left (es_le n9) slots) hw2
  · refine jj_aload_n (q := 1182) dL_law_1181 rfl rfl rfl ?_
    refine jj_iconst (v := 0) (q := 1183) dL_law_1182 rfl rfl ?_
    refine jj_lald (v := v.toInt64) (q := 1184) dL_law_1183 hO vp_01 (wLo_at (hn0 h1178)) rfl ?_
    refine jj_iload (q := 1186) dL_law_1184 rfl rfl ?_
    refine jj_i2l (q := 1187) dL_law_1186 rfl ?_
    refine jj_lcmp (q := 1188) dL_law_1187 rfl ?_
    refine jj_if_eq (q := 1191) (tgt := 1193) dL_law_1188 rfl rfl (fun h1188 => ?_) (fun h1188 => absurd (lcmp_self (congrArg Int32.toInt64 (hv (hn0 h1178)).symm)) h1188)
    refine jj_goto (tgt := 3611) dL_law_1193 rfl ?_
    exact kk S2 I2 _ _ _ _ _ _ (Nat.add_le_add_left (ec_le n9) cells) (Nat.add_le_add_left (es_le n9) slots) hw2
theorem lc_19 {a6 a7 : Option Value} (hw : Wd Γ k xo mo T R S I L) (hk : k ≤ 599) (hol : mo + 18 ≤ b) (hO : T b = some (.inr (.long, 1))) (hO2 : T (b + 1) = some (.inr (.double, 1))) (p1 : vp_in (i + 1) Γ.sc.2.1) (p2 : vp_in (i + 2) Γ.sc.2.1) (p3 : vp_in (i + 3) Γ.sc.2.1) (p4 : vp_in (i + 4) Γ.sc.2.1) (p5 : vp_in (i + 5) Γ.sc.2.1) (hc : cells + 1 ≤ 601024) (hs : slots + 6 ≤ 7293034) (kk : Kk Γ Zf k xo mo b cells slots i T R) : JJ Γ EL Zf room_1 cells slots 1196 (Vl Γ.sc.1 xo mo b i a6 a7) [] (T, R, S, I, L, D, none) := by
  obtain ⟨n9, t, v, G, hal, hx, hm⟩ := (show BSt Γ k xo mo b 100 100 Y_X8_loopLoad Y_X9_loopLoad [] [(0, 0)] T R S I L from st_loopLoad hw (by omega) hol) D
  simp only [List.mem_cons, List.mem_nil_iff, Prod.mk.injEq, or_false] at hal
  obtain ⟨rfl, rfl⟩ := hal
  refine jj_aload_n (q := 1197) dL_law_1196 rfl rfl rfl ?_
  refine lV0 (q := 1200) dL_law_1197 yk_X8_loopLoad ml_L_250 hw.tx hx (fun o M' h => ⟨v, h.1⟩) rfl rfl rfl (by omega) (by omega) (fun r M' h => ?_)
  obtain ⟨h1, S1, I1, L1, rfl, hG⟩ := h
  cases h1
  refine jj_aload_n (q := 1201) dL_law_1200 rfl rfl rfl ?_
  refine lV0 (q := 1204) dL_law_1201 yk_X9_loopLoad ml_L_253 hw.hm.t0 (hm S1 I1 L1 L1 D hG (fun _ _ => rfl)) (fun o M' h => by obtain ⟨S2, I2, w, h1, h2⟩ := h; exact ⟨w, h1.1⟩) rfl rfl rfl (by omega) (by omega) (fun r M' h => ?_)
  obtain ⟨S2, I2, w, ⟨h1, hv⟩, rfl, hw2, ht⟩ := h
  cases h1
  refine jj_icmp_eq (q := 1207) (tgt := 3611) dL_law_1204 rfl rfl (fun h1204 => ?_) (fun h1204 => absurd ((hv rfl).symm) h1204)
  exact kk S2 I2 _ _ _ _ _ _ (Nat.le_add_right _ _) (Nat.le_add_right _ _) hw2
theorem lc_20 {a6 a7 : Option Value} (hw : Wd Γ k xo mo T R S I L) (hk : k ≤ 599) (hol : mo + 18 ≤ b) (hO : T b = some (.inr (.long, 1))) (hO2 : T (b + 1) = some (.inr (.double, 1))) (p1 : vp_in (i + 1) Γ.sc.2.1) (p2 : vp_in (i + 2) Γ.sc.2.1) (p3 : vp_in (i + 3) Γ.sc.2.1) (p4 : vp_in (i + 4) Γ.sc.2.1) (p5 : vp_in (i + 5) Γ.sc.2.1) (hc : cells + 1 ≤ 601024) (hs : slots + 6 ≤ 7293034) (kk : Kk Γ Zf k xo mo b cells slots i T R) : JJ Γ EL Zf room_1 cells slots 1209 (Vl Γ.sc.1 xo mo b i a6 a7) [] (T, R, S, I, L, D, none) := by
  obtain ⟨n9, t, v, G, hal, hx, hm⟩ := (show BSt Γ k xo mo b 100 100 Y_X8_waiting Y_X9_waiting [.int (Γ.sc.2.2 (i + 1).toNatClampNeg)] [(0, 0), (1, 1), (3, 2)] T R S I L from st_waiting hw (by omega) hol) D
  have hn0 : t = 0 → n9 = 0 := (by decide : ∀ p ∈ ([(0, 0), (1, 1), (3, 2)] : List (Nat × Int32)), p.2 = 0 → p.1 = 0) (n9, t) hal
  have e1 := ec_le n9
  have e2 := es_le n9
  refine jj_aload_n (q := 1210) dL_law_1209 rfl rfl rfl ?_
  refine jj_aload_n (q := 1211) dL_law_1210 rfl rfl rfl ?_
  refine jj_iload (q := 1213) dL_law_1211 rfl rfl ?_
  refine jj_iconst (v := 1) (q := 1214) dL_law_1213 rfl rfl ?_
  refine jj_iadd (q := 1215) dL_law_1214 rfl ?_
  refine jj_kiald (q := 1216) dL_law_1215 sc_E p1 rfl rfl ?_
  refine jj_aload_n (q := 1217) dL_law_1216 rfl rfl rfl ?_
  refine lS3 (q := 1220) (t := t) dL_law_1217 yk_L_waiting ms_L_waiting (wr_waiting (v := v) (G := G) hw.tx hO hal hx) (fun o M' h => h.1) rfl rfl rfl (by omega) (by omega) (fun M' h => ?_)
  obtain ⟨h1, S1, I1, L1, rfl, hG⟩ := h
  clear h1
  refine jj_istore (q := 1222) dL_law_1220 (by decide) rfl ?_
  refine jj_aload_n (q := 1223) dL_law_1222 rfl rfl rfl ?_
  refine jj_aload_n (q := 1224) dL_law_1223 rfl rfl rfl ?_
  refine jj_iload (q := 1226) dL_law_1224 rfl rfl ?_
  refine jj_iconst (v := 1) (q := 1227) dL_law_1226 rfl rfl ?_
  refine jj_iadd (q := 1228) dL_law_1227 rfl ?_
  refine jj_kiald (q := 1229) dL_law_1228 sc_E p1 rfl rfl ?_
  refine lV1 (q := 1232) dL_law_1229 yk_X9_waiting ml_L_256 hw.hm.t0 (hm S1 I1 L1 _ D hG (fun c h => wLo_lt h)) (fun o M' h => by obtain ⟨S2, I2, w, h1, h2⟩ := h; exact ⟨w, h1.1⟩) rfl rfl rfl (by omega) (by omega) (fun r M' h => ?_)
  obtain ⟨S2, I2, w, ⟨h1, hv⟩, rfl, hw2, ht⟩ := h
  cases h1
  refine jj_istore (q := 1234) dL_law_1232 (by decide) rfl ?_
  refine jj_aload_n (q := 1235) dL_law_1234 rfl rfl rfl ?_
  refine lV0 (q := 1238) dL_law_1235 yk_X9_thrown ml_L_191 hw.hm.t0 (ex_thr hw2.hm) (fun o M' h => ⟨_, h.1⟩) rfl rfl rfl (by omega) (by omega) (fun r M' h => ?_)
  obtain ⟨h1, rfl⟩ := h
  cases h1
  refine jj_iload (q := 1240) dL_law_1238 rfl rfl ?_
  refine jj_icmp_eq (q := 1243) (tgt := 1245) dL_law_1240 rfl rfl (fun h1240 => ?_) (fun h1240 => absurd (ht) h1240)
  refine jj_iload (q := 1247) dL_law_1245 rfl rfl ?_
  refine jj_if_ne (q := 1250) (tgt := 1262) dL_law_1247 rfl rfl (fun h1247 => ?_) (fun h1247 => ?_)
  · refine jj_goto (tgt := 3611) dL_law_1262 rfl ?_
    exact kk S2 I2 _ _ _ _ _ _ (Nat.add_le_add_left (ec_le n9) cells) (Nat.add_le_add_left (es_le n9) slots) hw2
  · refine jj_aload_n (q := 1251) dL_law_1250 rfl rfl rfl ?_
    refine jj_iconst (v := 0) (q := 1252) dL_law_1251 rfl rfl ?_
    refine jj_lald (v := v.toInt64) (q := 1253) dL_law_1252 hO vp_01 (wLo_at (hn0 h1247)) rfl ?_
    refine jj_iload (q := 1255) dL_law_1253 rfl rfl ?_
    refine jj_i2l (q := 1256) dL_law_1255 rfl ?_
    refine jj_lcmp (q := 1257) dL_law_1256 rfl ?_
    refine jj_if_eq (q := 1260) (tgt := 1262) dL_law_1257 rfl rfl (fun h1257 => ?_) (fun h1257 => absurd (lcmp_self (congrArg Int32.toInt64 (hv (hn0 h1247)).symm)) h1257)
    refine jj_goto (tgt := 3611) dL_law_1262 rfl ?_
    exact kk S2 I2 _ _ _ _ _ _ (Nat.add_le_add_left (ec_le n9) cells) (Nat.add_le_add_left (es_le n9) slots) hw2
theorem lc_21 {a6 a7 : Option Value} (hw : Wd Γ k xo mo T R S I L) (hk : k ≤ 599) (hol : mo + 18 ≤ b) (hO : T b = some (.inr (.long, 1))) (hO2 : T (b + 1) = some (.inr (.double, 1))) (p1 : vp_in (i + 1) Γ.sc.2.1) (p2 : vp_in (i + 2) Γ.sc.2.1) (p3 : vp_in (i + 3) Γ.sc.2.1) (p4 : vp_in (i + 4) Γ.sc.2.1) (p5 : vp_in (i + 5) Γ.sc.2.1) (hc : cells + 1 ≤ 601024) (hs : slots + 6 ≤ 7293034) (kk : Kk Γ Zf k xo mo b cells slots i T R) : JJ Γ EL Zf room_1 cells slots 1265 (Vl Γ.sc.1 xo mo b i a6 a7) [] (T, R, S, I, L, D, none) := by
  obtain ⟨n9, t, v, G, hal, hx, hm⟩ := (show BSt Γ k xo mo b 100 100 Y_X8_queueAt Y_X9_queueAt [.int (Γ.sc.2.2 (i + 1).toNatClampNeg), .int (Γ.sc.2.2 (i + 2).toNatClampNeg)] [(0, 0), (1, 1), (2, 2)] T R S I L from st_queueAt hw (by omega) hol) D
  have hn0 : t = 0 → n9 = 0 := (by decide : ∀ p ∈ ([(0, 0), (1, 1), (2, 2)] : List (Nat × Int32)), p.2 = 0 → p.1 = 0) (n9, t) hal
  have e1 := ec_le n9
  have e2 := es_le n9
  refine jj_aload_n (q := 1266) dL_law_1265 rfl rfl rfl ?_
  refine jj_aload_n (q := 1267) dL_law_1266 rfl rfl rfl ?_
  refine jj_iload (q := 1269) dL_law_1267 rfl rfl ?_
  refine jj_iconst (v := 1) (q := 1270) dL_law_1269 rfl rfl ?_
  refine jj_iadd (q := 1271) dL_law_1270 rfl ?_
  refine jj_kiald (q := 1272) dL_law_1271 sc_E p1 rfl rfl ?_
  refine jj_aload_n (q := 1273) dL_law_1272 rfl rfl rfl ?_
  refine jj_iload (q := 1275) dL_law_1273 rfl rfl ?_
  refine jj_iconst (v := 2) (q := 1276) dL_law_1275 rfl rfl ?_
  refine jj_iadd (q := 1277) dL_law_1276 rfl ?_
  refine jj_kiald (q := 1278) dL_law_1277 sc_E p2 rfl rfl ?_
  refine jj_aload_n (q := 1279) dL_law_1278 rfl rfl rfl ?_
  refine lS4 (q := 1282) (t := t) dL_law_1279 yk_L_queueAt ms_L_queueAt (wr_queueAt (v := v) (G := G) hw.tx hO hal hx) (fun o M' h => h.1) rfl rfl rfl (by omega) (by omega) (fun M' h => ?_)
  obtain ⟨h1, S1, I1, L1, rfl, hG⟩ := h
  clear h1
  refine jj_istore (q := 1284) dL_law_1282 (by decide) rfl ?_
  refine jj_aload_n (q := 1285) dL_law_1284 rfl rfl rfl ?_
  refine jj_aload_n (q := 1286) dL_law_1285 rfl rfl rfl ?_
  refine jj_iload (q := 1288) dL_law_1286 rfl rfl ?_
  refine jj_iconst (v := 1) (q := 1289) dL_law_1288 rfl rfl ?_
  refine jj_iadd (q := 1290) dL_law_1289 rfl ?_
  refine jj_kiald (q := 1291) dL_law_1290 sc_E p1 rfl rfl ?_
  refine jj_aload_n (q := 1292) dL_law_1291 rfl rfl rfl ?_
  refine jj_iload (q := 1294) dL_law_1292 rfl rfl ?_
  refine jj_iconst (v := 2) (q := 1295) dL_law_1294 rfl rfl ?_
  refine jj_iadd (q := 1296) dL_law_1295 rfl ?_
  refine jj_kiald (q := 1297) dL_law_1296 sc_E p2 rfl rfl ?_
  refine lV2 (q := 1300) dL_law_1297 yk_X9_queueAt ml_L_260 hw.hm.t0 (hm S1 I1 L1 _ D hG (fun c h => wLo_lt h)) (fun o M' h => by obtain ⟨S2, I2, w, h1, h2⟩ := h; exact ⟨w, h1.1⟩) rfl rfl rfl (by omega) (by omega) (fun r M' h => ?_)
  obtain ⟨S2, I2, w, ⟨h1, hv⟩, rfl, hw2, ht⟩ := h
  cases h1
  refine jj_istore (q := 1302) dL_law_1300 (by decide) rfl ?_
  refine jj_aload_n (q := 1303) dL_law_1302 rfl rfl rfl ?_
  refine lV0 (q := 1306) dL_law_1303 yk_X9_thrown ml_L_191 hw.hm.t0 (ex_thr hw2.hm) (fun o M' h => ⟨_, h.1⟩) rfl rfl rfl (by omega) (by omega) (fun r M' h => ?_)
  obtain ⟨h1, rfl⟩ := h
  cases h1
  refine jj_iload (q := 1308) dL_law_1306 rfl rfl ?_
  refine jj_icmp_eq (q := 1311) (tgt := 1313) dL_law_1308 rfl rfl (fun h1308 => ?_) (fun h1308 => absurd (ht) h1308)
  refine jj_iload (q := 1315) dL_law_1313 rfl rfl ?_
  refine jj_if_ne (q := 1318) (tgt := 1330) dL_law_1315 rfl rfl (fun h1315 => ?_) (fun h1315 => ?_)
  · refine jj_goto (tgt := 3611) dL_law_1330 rfl ?_
    exact kk S2 I2 _ _ _ _ _ _ (Nat.add_le_add_left (ec_le n9) cells) (Nat.add_le_add_left (es_le n9) slots) hw2
  · refine jj_aload_n (q := 1319) dL_law_1318 rfl rfl rfl ?_
    refine jj_iconst (v := 0) (q := 1320) dL_law_1319 rfl rfl ?_
    refine jj_lald (v := v.toInt64) (q := 1321) dL_law_1320 hO vp_01 (wLo_at (hn0 h1315)) rfl ?_
    refine jj_iload (q := 1323) dL_law_1321 rfl rfl ?_
    refine jj_i2l (q := 1324) dL_law_1323 rfl ?_
    refine jj_lcmp (q := 1325) dL_law_1324 rfl ?_
    refine jj_if_eq (q := 1328) (tgt := 1330) dL_law_1325 rfl rfl (fun h1325 => ?_) (fun h1325 => absurd (lcmp_self (congrArg Int32.toInt64 (hv (hn0 h1315)).symm)) h1325)
    refine jj_goto (tgt := 3611) dL_law_1330 rfl ?_
    exact kk S2 I2 _ _ _ _ _ _ (Nat.add_le_add_left (ec_le n9) cells) (Nat.add_le_add_left (es_le n9) slots) hw2
end C11
