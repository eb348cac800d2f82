/-! THE LAW'S CASES, 4 (by program) -/
section C13
variable {Γ : Gam} {Zf : List Frame → Array Value → State → State → Prop} {cells slots k xo mo b : Nat} {T : JT} {R S : JR} {I : JI} {L : JL} {D : JD} {i : Int32}
theorem lc_33 {a6 a7 : Option Value} (hw : Wd Γ k xo mo T R S I L) (hk : k ≤ 599) (hol : mo + 18 ≤ b) (hO : T b = some (.inr (.long, 1))) (hO2 : T (b + 1) = some (.inr (.double, 1))) (p1 : vp_in (i + 1) Γ.sc.2.1) (p2 : vp_in (i + 2) Γ.sc.2.1) (p3 : vp_in (i + 3) Γ.sc.2.1) (p4 : vp_in (i + 4) Γ.sc.2.1) (p5 : vp_in (i + 5) Γ.sc.2.1) (hc : cells + 1 ≤ 601024) (hs : slots + 6 ≤ 7293034) (kk : Kk Γ Zf k xo mo b cells slots i T R) : JJ Γ EL Zf room_1 cells slots 1813 (Vl Γ.sc.1 xo mo b i a6 a7) [] (T, R, S, I, L, D, none) := by
  obtain ⟨n9, t, v, G, hal, hx, hm⟩ := (show BSt Γ k xo mo b 100 100 Y_X8_countOf Y_X9_countOf [.int (Γ.sc.2.2 (i + 1).toNatClampNeg), .int (Γ.sc.2.2 (i + 2).toNatClampNeg)] [(0, 0), (1, 1), (2, 2), (3, 3)] T R S I L from st_countOf hw (by omega) hol) D
  have hn0 : t = 0 → n9 = 0 := (by decide : ∀ p ∈ ([(0, 0), (1, 1), (2, 2), (3, 3)] : List (Nat × Int32)), p.2 = 0 → p.1 = 0) (n9, t) hal
  have e1 := ec_le n9
  have e2 := es_le n9
  refine jj_aload_n (q := 1814) dL_law_1813 rfl rfl rfl ?_
  refine jj_aload_n (q := 1815) dL_law_1814 rfl rfl rfl ?_
  refine jj_iload (q := 1817) dL_law_1815 rfl rfl ?_
  refine jj_iconst (v := 1) (q := 1818) dL_law_1817 rfl rfl ?_
  refine jj_iadd (q := 1819) dL_law_1818 rfl ?_
  refine jj_kiald (q := 1820) dL_law_1819 sc_E p1 rfl rfl ?_
  refine jj_aload_n (q := 1821) dL_law_1820 rfl rfl rfl ?_
  refine jj_iload (q := 1823) dL_law_1821 rfl rfl ?_
  refine jj_iconst (v := 2) (q := 1824) dL_law_1823 rfl rfl ?_
  refine jj_iadd (q := 1825) dL_law_1824 rfl ?_
  refine jj_kiald (q := 1826) dL_law_1825 sc_E p2 rfl rfl ?_
  refine jj_aload_n (q := 1827) dL_law_1826 rfl rfl rfl ?_
  refine lS4 (q := 1830) (t := t) dL_law_1827 yk_L_countOf ms_L_countOf (wr_countOf (v := v) (G := G) hw.tx hO hal hx) (fun o M' h => h.1) rfl rfl rfl (by omega) (by omega) (fun M' h => ?_)
  obtain ⟨h1, S1, I1, L1, rfl, hG⟩ := h
  clear h1
  refine jj_istore (q := 1832) dL_law_1830 (by decide) rfl ?_
  refine jj_aload_n (q := 1833) dL_law_1832 rfl rfl rfl ?_
  refine jj_aload_n (q := 1834) dL_law_1833 rfl rfl rfl ?_
  refine jj_iload (q := 1836) dL_law_1834 rfl rfl ?_
  refine jj_iconst (v := 1) (q := 1837) dL_law_1836 rfl rfl ?_
  refine jj_iadd (q := 1838) dL_law_1837 rfl ?_
  refine jj_kiald (q := 1839) dL_law_1838 sc_E p1 rfl rfl ?_
  refine jj_aload_n (q := 1840) dL_law_1839 rfl rfl rfl ?_
  refine jj_iload (q := 1842) dL_law_1840 rfl rfl ?_
  refine jj_iconst (v := 2) (q := 1843) dL_law_1842 rfl rfl ?_
  refine jj_iadd (q := 1844) dL_law_1843 rfl ?_
  refine jj_kiald (q := 1845) dL_law_1844 sc_E p2 rfl rfl ?_
  refine lV2 (q := 1848) dL_law_1845 yk_X9_countOf ml_L_300 hw.hm.t0 (hm S1 I1 L1 _ D hG (fun c h => wLo_lt h)) (fun o M' h => by obtain ⟨S2, I2, w, h1, h2⟩ := h; exact ⟨w, h1.1⟩) rfl rfl rfl (by omega) (by omega) (fun r M' h => ?_)
  obtain ⟨S2, I2, w, ⟨h1, hv⟩, rfl, hw2, ht⟩ := h
  cases h1
  refine jj_istore (q := 1850) dL_law_1848 (by decide) rfl ?_
  refine jj_aload_n (q := 1851) dL_law_1850 rfl rfl rfl ?_
  refine lV0 (q := 1854) dL_law_1851 yk_X9_thrown ml_L_191 hw.hm.t0 (ex_thr hw2.hm) (fun o M' h => ⟨_, h.1⟩) rfl rfl rfl (by omega) (by omega) (fun r M' h => ?_)
  obtain ⟨h1, rfl⟩ := h
  cases h1
  refine jj_iload (q := 1856) dL_law_1854 rfl rfl ?_
  refine jj_icmp_eq (q := 1859) (tgt := 1861) dL_law_1856 rfl rfl (fun h1856 => ?_) (fun h1856 => absurd (ht) h1856)
  refine jj_iload (q := 1863) dL_law_1861 rfl rfl ?_
  refine jj_if_ne (q := 1866) (tgt := 1878) dL_law_1863 rfl rfl (fun h1863 => ?_) (fun h1863 => ?_)
  · refine jj_goto (tgt := 3611) dL_law_1878 rfl ?_
    exact kk S2 I2 _ _ _ _ _ _ (Nat.add_le_add_left (ec_le n9) cells) (Nat.add_le_add_left (es_le n9) slots) hw2
  · refine jj_aload_n (q := 1867) dL_law_1866 rfl rfl rfl ?_
    refine jj_iconst (v := 0) (q := 1868) dL_law_1867 rfl rfl ?_
    refine jj_lald (v := v.toInt64) (q := 1869) dL_law_1868 hO vp_01 (wLo_at (hn0 h1863)) rfl ?_
    refine jj_iload (q := 1871) dL_law_1869 rfl rfl ?_
    refine jj_i2l (q := 1872) dL_law_1871 rfl ?_
    refine jj_lcmp (q := 1873) dL_law_1872 rfl ?_
    refine jj_if_eq (q := 1876) (tgt := 1878) dL_law_1873 rfl rfl (fun h1873 => ?_) (fun h1873 => absurd (lcmp_self (congrArg Int32.toInt64 (hv (hn0 h1863)).symm)) h1873)
    refine jj_goto (tgt := 3611) dL_law_1878 rfl ?_
    exact kk S2 I2 _ _ _ _ _ _ (Nat.add_le_add_left (ec_le n9) cells) (Nat.add_le_add_left (es_le n9) slots) hw2
theorem lc_34 {a6 a7 : Option Value} (hw : Wd Γ k xo mo T R S I L) (hk : k ≤ 599) (hol : mo + 18 ≤ b) (hO : T b = some (.inr (.long, 1))) (hO2 : T (b + 1) = some (.inr (.double, 1))) (p1 : vp_in (i + 1) Γ.sc.2.1) (p2 : vp_in (i + 2) Γ.sc.2.1) (p3 : vp_in (i + 3) Γ.sc.2.1) (p4 : vp_in (i + 4) Γ.sc.2.1) (p5 : vp_in (i + 5) Γ.sc.2.1) (hc : cells + 1 ≤ 601024) (hs : slots + 6 ≤ 7293034) (kk : Kk Γ Zf k xo mo b cells slots i T R) : JJ Γ EL Zf room_1 cells slots 1881 (Vl Γ.sc.1 xo mo b i a6 a7) [] (T, R, S, I, L, D, none) := by
  obtain ⟨n9, t, v, G, hal, hx, hm⟩ := (show BSt Γ k xo mo b 100 100 Y_X8_missing Y_X9_missing [.int (Γ.sc.2.2 (i + 1).toNatClampNeg)] [(0, 0), (1, 1), (2, 2)] T R S I L from st_missing hw (by omega) hol) D
  have hn0 : t = 0 → n9 = 0 := (by decide : ∀ p ∈ ([(0, 0), (1, 1), (2, 2)] : List (Nat × Int32)), p.2 = 0 → p.1 = 0) (n9, t) hal
  have e1 := ec_le n9
  have e2 := es_le n9
  refine jj_aload_n (q := 1882) dL_law_1881 rfl rfl rfl ?_
  refine jj_aload_n (q := 1883) dL_law_1882 rfl rfl rfl ?_
  refine jj_iload (q := 1885) dL_law_1883 rfl rfl ?_
  refine jj_iconst (v := 1) (q := 1886) dL_law_1885 rfl rfl ?_
  refine jj_iadd (q := 1887) dL_law_1886 rfl ?_
  refine jj_kiald (q := 1888) dL_law_1887 sc_E p1 rfl rfl ?_
  refine jj_aload_n (q := 1889) dL_law_1888 rfl rfl rfl ?_
  refine lS3 (q := 1892) (t := t) dL_law_1889 yk_L_missing ms_L_missing (wr_missing (v := v) (G := G) hw.tx hO hal hx) (fun o M' h => h.1) rfl rfl rfl (by omega) (by omega) (fun M' h => ?_)
  obtain ⟨h1, S1, I1, L1, rfl, hG⟩ := h
  clear h1
  refine jj_istore (q := 1894) dL_law_1892 (by decide) rfl ?_
  refine jj_aload_n (q := 1895) dL_law_1894 rfl rfl rfl ?_
  refine jj_aload_n (q := 1896) dL_law_1895 rfl rfl rfl ?_
  refine jj_iload (q := 1898) dL_law_1896 rfl rfl ?_
  refine jj_iconst (v := 1) (q := 1899) dL_law_1898 rfl rfl ?_
  refine jj_iadd (q := 1900) dL_law_1899 rfl ?_
  refine jj_kiald (q := 1901) dL_law_1900 sc_E p1 rfl rfl ?_
  refine lV1 (q := 1904) dL_law_1901 yk_X9_missing ml_L_303 hw.hm.t0 (hm S1 I1 L1 _ D hG (fun c h => wLo_lt h)) (fun o M' h => by obtain ⟨S2, I2, w, h1, h2⟩ := h; exact ⟨w, h1.1⟩) rfl rfl rfl (by omega) (by omega) (fun r M' h => ?_)
  obtain ⟨S2, I2, w, ⟨h1, hv⟩, rfl, hw2, ht⟩ := h
  cases h1
  refine jj_istore (q := 1906) dL_law_1904 (by decide) rfl ?_
  refine jj_aload_n (q := 1907) dL_law_1906 rfl rfl rfl ?_
  refine lV0 (q := 1910) dL_law_1907 yk_X9_thrown ml_L_191 hw.hm.t0 (ex_thr hw2.hm) (fun o M' h => ⟨_, h.1⟩) rfl rfl rfl (by omega) (by omega) (fun r M' h => ?_)
  obtain ⟨h1, rfl⟩ := h
  cases h1
  refine jj_iload (q := 1912) dL_law_1910 rfl rfl ?_
  refine jj_icmp_eq (q := 1915) (tgt := 1917) dL_law_1912 rfl rfl (fun h1912 => ?_) (fun h1912 => absurd (ht) h1912)
  refine jj_iload (q := 1919) dL_law_1917 rfl rfl ?_
  refine jj_if_ne (q := 1922) (tgt := 1934) dL_law_1919 rfl rfl (fun h1919 => ?_) (fun h1919 => ?_)
  · refine jj_goto (tgt := 3611) dL_law_1934 rfl ?_
    exact kk S2 I2 _ _ _ _ _ _ (Nat.add_le_add_left (ec_le n9) cells) (Nat.add_le_add_left (es_le n9) slots) hw2
  · refine jj_aload_n (q := 1923) dL_law_1922 rfl rfl rfl ?_
    refine jj_iconst (v := 0) (q := 1924) dL_law_1923 rfl rfl ?_
    refine jj_lald (v := v.toInt64) (q := 1925) dL_law_1924 hO vp_01 (wLo_at (hn0 h1919)) rfl ?_
    refine jj_iload (q := 1927) dL_law_1925 rfl rfl ?_
    refine jj_i2l (q := 1928) dL_law_1927 rfl ?_
    refine jj_lcmp (q := 1929) dL_law_1928 rfl ?_
    refine jj_if_eq (q := 1932) (tgt := 1934) dL_law_1929 rfl rfl (fun h1929 => ?_) (fun h1929 => absurd (lcmp_self (congrArg Int32.toInt64 (hv (hn0 h1919)).symm)) h1929)
    refine jj_goto (tgt := 3611) dL_law_1934 rfl ?_
    exact kk S2 I2 _ _ _ _ _ _ (Nat.add_le_add_left (ec_le n9) cells) (Nat.add_le_add_left (es_le n9) slots) hw2
theorem lc_35 {a6 a7 : Option Value} (hw : Wd Γ k xo mo T R S I L) (hk : k ≤ 599) (hol : mo + 18 ≤ b) (hO : T b = some (.inr (.long, 1))) (hO2 : T (b + 1) = some (.inr (.double, 1))) (p1 : vp_in (i + 1) Γ.sc.2.1) (p2 : vp_in (i + 2) Γ.sc.2.1) (p3 : vp_in (i + 3) Γ.sc.2.1) (p4 : vp_in (i + 4) Γ.sc.2.1) (p5 : vp_in (i + 5) Γ.sc.2.1) (hc : cells + 1 ≤ 601024) (hs : slots + 6 ≤ 7293034) (kk : Kk Γ Zf k xo mo b cells slots i T R) : JJ Γ EL Zf room_1 cells slots 1937 (Vl Γ.sc.1 xo mo b i a6 a7) [] (T, R, S, I, L, D, none) := by
  obtain ⟨n9, t, v, w, hal, hx, hf, hm⟩ := (show BSf Γ k xo mo b 100 100 Y_X8_loadedShare Y_X9_loadedShare [.int (Γ.sc.2.2 (i + 1).toNatClampNeg)] [(0, 0), (1, 1), (2, 2)] T R S I L from st_loadedShare hw (by omega) hol) D
  have hn0 : t = 0 → n9 = 0 := (by decide : ∀ p ∈ ([(0, 0), (1, 1), (2, 2)] : List (Nat × Int32)), p.2 = 0 → p.1 = 0) (n9, t) hal
  have e1 := ec_le n9
  have e2 := es_le n9
  refine jj_aload_n (q := 1938) dL_law_1937 rfl rfl rfl ?_
  refine jj_aload_n (q := 1939) dL_law_1938 rfl rfl rfl ?_
  refine jj_iload (q := 1941) dL_law_1939 rfl rfl ?_
  refine jj_iconst (v := 1) (q := 1942) dL_law_1941 rfl rfl ?_
  refine jj_iadd (q := 1943) dL_law_1942 rfl ?_
  refine jj_kiald (q := 1944) dL_law_1943 sc_E p1 rfl rfl ?_
  refine jj_aload (q := 1946) dL_law_1944 rfl rfl ?_
  refine lS3 (q := 1949) (t := t) dL_law_1946 yk_L_loadedShare ms_L_loadedShare (wr_loadedShare hw.tx hO2 hal (fun h => shF_n64 (hf h).2) hx) (fun o M' h => h.1) rfl rfl rfl (by omega) (by omega) (fun M' h => ?_)
  obtain ⟨h1, rfl⟩ := h
  clear h1
  refine jj_istore (q := 1951) dL_law_1949 (by decide) rfl ?_
  refine jj_aload_n (q := 1952) dL_law_1951 rfl rfl rfl ?_
  refine jj_aload_n (q := 1953) dL_law_1952 rfl rfl rfl ?_
  refine jj_iload (q := 1955) dL_law_1953 rfl rfl ?_
  refine jj_iconst (v := 1) (q := 1956) dL_law_1955 rfl rfl ?_
  refine jj_iadd (q := 1957) dL_law_1956 rfl ?_
  refine jj_kiald (q := 1958) dL_law_1957 sc_E p1 rfl rfl ?_
  refine lVf (w := w) (q := 1961) dL_law_1958 yk_X9_loadedShare ml_L_307 hw.hm.t0 (hm L _ (fun _ _ => rfl)) (fun o M' h => by obtain ⟨I2, h1, h2⟩ := h; exact h1) rfl rfl rfl (by omega) (by omega) (fun M' h => ?_)
  obtain ⟨I2, h1, rfl, hw2, ht⟩ := h
  clear h1
  refine jj_fstore (q := 1963) dL_law_1961 (by decide) rfl ?_
  refine jj_aload_n (q := 1964) dL_law_1963 rfl rfl rfl ?_
  refine lV0 (q := 1967) dL_law_1964 yk_X9_thrown ml_L_191 hw.hm.t0 (ex_thr hw2.hm) (fun o M' h => ⟨_, h.1⟩) rfl rfl rfl (by omega) (by omega) (fun r M' h => ?_)
  obtain ⟨h1, rfl⟩ := h
  cases h1
  refine jj_iload (q := 1969) dL_law_1967 rfl rfl ?_
  refine jj_icmp_eq (q := 1972) (tgt := 1974) dL_law_1969 rfl rfl (fun h1969 => ?_) (fun h1969 => absurd (ht) h1969)
  refine jj_iload (q := 1976) dL_law_1974 rfl rfl ?_
  refine jj_if_ne (q := 1979) (tgt := 2012) dL_law_1976 rfl rfl (fun h1976 => ?_) (fun h1976 => ?_)
  · refine jj_goto (tgt := 3611) dL_law_2012 rfl ?_
    exact kk S I2 _ _ _ _ _ _ (Nat.add_le_add_left (ec_le n9) cells) (Nat.add_le_add_left (es_le n9) slots) hw2
  · refine jj_aload (q := 1981) dL_law_1979 rfl rfl ?_
    refine jj_iconst (v := 0) (q := 1982) dL_law_1981 rfl rfl ?_
    refine jj_dald (q := 1983) dL_law_1982 hO2 vp_01 rfl rfl ?_
    refine jj_fload (q := 1985) dL_law_1983 rfl rfl ?_
    refine jj_f2d (q := 1986) dL_law_1985 (by rw [(hf (hn0 h1976)).1]; exact shF_n64 (hf (hn0 h1976)).2) rfl ?_
    refine jj_dcmp (q := 1987) dL_law_1986 rfl ?_
    refine jj_if_eq (q := 1990) (tgt := 2012) dL_law_1987 rfl rfl (fun h1987 => ?_) (fun h1987 => absurd (sh_cmp (hn0 h1976) (hf (hn0 h1976)).1 (hf (hn0 h1976)).2) h1987)
    refine jj_goto (tgt := 3611) dL_law_2012 rfl ?_
    exact kk S I2 _ _ _ _ _ _ (Nat.add_le_add_left (ec_le n9) cells) (Nat.add_le_add_left (es_le n9) slots) hw2
theorem lc_36 {a6 a7 : Option Value} (hw : Wd Γ k xo mo T R S I L) (hk : k ≤ 599) (hol : mo + 18 ≤ b) (hO : T b = some (.inr (.long, 1))) (hO2 : T (b + 1) = some (.inr (.double, 1))) (p1 : vp_in (i + 1) Γ.sc.2.1) (p2 : vp_in (i + 2) Γ.sc.2.1) (p3 : vp_in (i + 3) Γ.sc.2.1) (p4 : vp_in (i + 4) Γ.sc.2.1) (p5 : vp_in (i + 5) Γ.sc.2.1) (hc : cells + 1 ≤ 601024) (hs : slots + 6 ≤ 7293034) (kk : Kk Γ Zf k xo mo b cells slots i T R) : JJ Γ EL Zf room_1 cells slots 2015 (Vl Γ.sc.1 xo mo b i a6 a7) [] (T, R, S, I, L, D, none) := by
  obtain ⟨n9, t, v, G, hal, hx, hm⟩ := (show BSt Γ k xo mo b 100 100 Y_X8_percentile Y_X9_percentile [.int (Γ.sc.2.2 (i + 1).toNatClampNeg), .int (Γ.sc.2.2 (i + 2).toNatClampNeg)] [(0, 0), (1, 1), (2, 2), (3, 3)] T R S I L from st_percentile hw (by omega) hol) D
  have hn0 : t = 0 → n9 = 0 := (by decide : ∀ p ∈ ([(0, 0), (1, 1), (2, 2), (3, 3)] : List (Nat × Int32)), p.2 = 0 → p.1 = 0) (n9, t) hal
  have e1 := ec_le n9
  have e2 := es_le n9
  refine jj_aload_n (q := 2016) dL_law_2015 rfl rfl rfl ?_
  refine jj_aload_n (q := 2017) dL_law_2016 rfl rfl rfl ?_
  refine jj_iload (q := 2019) dL_law_2017 rfl rfl ?_
  refine jj_iconst (v := 1) (q := 2020) dL_law_2019 rfl rfl ?_
  refine jj_iadd (q := 2021) dL_law_2020 rfl ?_
  refine jj_kiald (q := 2022) dL_law_2021 sc_E p1 rfl rfl ?_
  refine jj_aload_n (q := 2023) dL_law_2022 rfl rfl rfl ?_
  refine jj_iload (q := 2025) dL_law_2023 rfl rfl ?_
  refine jj_iconst (v := 2) (q := 2026) dL_law_2025 rfl rfl ?_
  refine jj_iadd (q := 2027) dL_law_2026 rfl ?_
  refine jj_kiald (q := 2028) dL_law_2027 sc_E p2 rfl rfl ?_
  refine jj_aload_n (q := 2029) dL_law_2028 rfl rfl rfl ?_
  refine lS4 (q := 2032) (t := t) dL_law_2029 yk_L_percentile ms_L_percentile (wr_percentile (v := v) (G := G) hw.tx hO hal hx) (fun o M' h => h.1) rfl rfl rfl (by omega) (by omega) (fun M' h => ?_)
  obtain ⟨h1, S1, I1, L1, rfl, hG⟩ := h
  clear h1
  refine jj_istore (q := 2034) dL_law_2032 (by decide) rfl ?_
  refine jj_aload_n (q := 2035) dL_law_2034 rfl rfl rfl ?_
  refine jj_aload_n (q := 2036) dL_law_2035 rfl rfl rfl ?_
  refine jj_iload (q := 2038) dL_law_2036 rfl rfl ?_
  refine jj_iconst (v := 1) (q := 2039) dL_law_2038 rfl rfl ?_
  refine jj_iadd (q := 2040) dL_law_2039 rfl ?_
  refine jj_kiald (q := 2041) dL_law_2040 sc_E p1 rfl rfl ?_
  refine jj_aload_n (q := 2042) dL_law_2041 rfl rfl rfl ?_
  refine jj_iload (q := 2044) dL_law_2042 rfl rfl ?_
  refine jj_iconst (v := 2) (q := 2045) dL_law_2044 rfl rfl ?_
  refine jj_iadd (q := 2046) dL_law_2045 rfl ?_
  refine jj_kiald (q := 2047) dL_law_2046 sc_E p2 rfl rfl ?_
  refine lV2 (q := 2050) dL_law_2047 yk_X9_percentile ml_L_310 hw.hm.t0 (hm S1 I1 L1 _ D hG (fun c h => wLo_lt h)) (fun o M' h => by obtain ⟨S2, I2, w, h1, h2⟩ := h; exact ⟨w, h1.1⟩) rfl rfl rfl (by omega) (by omega) (fun r M' h => ?_)
  obtain ⟨S2, I2, w, ⟨h1, hv⟩, rfl, hw2, ht⟩ := h
  cases h1
  refine jj_istore (q := 2052) dL_law_2050 (by decide) rfl ?_
  refine jj_aload_n (q := 2053) dL_law_2052 rfl rfl rfl ?_
  refine lV0 (q := 2056) dL_law_2053 yk_X9_thrown ml_L_191 hw.hm.t0 (ex_thr hw2.hm) (fun o M' h => ⟨_, h.1⟩) rfl rfl rfl (by omega) (by omega) (fun r M' h => ?_)
  obtain ⟨h1, rfl⟩ := h
  cases h1
  refine jj_iload (q := 2058) dL_law_2056 rfl rfl ?_
  refine jj_icmp_eq (q := 2061) (tgt := 2063) dL_law_2058 rfl rfl (fun h2058 => ?_) (fun h2058 => absurd (ht) h2058)
  refine jj_iload (q := 2065) dL_law_2063 rfl rfl ?_
  refine jj_if_ne (q := 2068) (tgt := 2080) dL_law_2065 rfl rfl (fun h2065 => ?_) (fun h2065 => ?_)
  · refine jj_goto (tgt := 3611) dL_law_2080 rfl ?_
    exact kk S2 I2 _ _ _ _ _ _ (Nat.add_le_add_left (ec_le n9) cells) (Nat.add_le_add_left (es_le n9) slots) hw2
  · refine jj_aload_n (q := 2069) dL_law_2068 rfl rfl rfl ?_
    refine jj_iconst (v := 0) (q := 2070) dL_law_2069 rfl rfl ?_
    refine jj_lald (v := v.toInt64) (q := 2071) dL_law_2070 hO vp_01 (wLo_at (hn0 h2065)) rfl ?_
    refine jj_iload (q := 2073) dL_law_2071 rfl rfl ?_
    refine jj_i2l (q := 2074) dL_law_2073 rfl ?_
    refine jj_lcmp (q := 2075) dL_law_2074 rfl ?_
    refine jj_if_eq (q := 2078) (tgt := 2080) dL_law_2075 rfl rfl (fun h2075 => ?_) (fun h2075 => absurd (lcmp_self (congrArg Int32.toInt64 (hv (hn0 h2065)).symm)) h2075)
    refine jj_goto (tgt := 3611) dL_law_2080 rfl ?_
    exact kk S2 I2 _ _ _ _ _ _ (Nat.add_le_add_left (ec_le n9) cells) (Nat.add_le_add_left (es_le n9) slots) hw2
theorem lc_37 {a6 a7 : Option Value} (hw : Wd Γ k xo mo T R S I L) (hk : k ≤ 599) (hol : mo + 18 ≤ b) (hO : T b = some (.inr (.long, 1))) (hO2 : T (b + 1) = some (.inr (.double, 1))) (p1 : vp_in (i + 1) Γ.sc.2.1) (p2 : vp_in (i + 2) Γ.sc.2.1) (p3 : vp_in (i + 3) Γ.sc.2.1) (p4 : vp_in (i + 4) Γ.sc.2.1) (p5 : vp_in (i + 5) Γ.sc.2.1) (hc : cells + 1 ≤ 601024) (hs : slots + 6 ≤ 7293034) (kk : Kk Γ Zf k xo mo b cells slots i T R) : JJ Γ EL Zf room_1 cells slots 2083 (Vl Γ.sc.1 xo mo b i a6 a7) [] (T, R, S, I, L, D, none) := by
  obtain ⟨n9, t, v, G, hal, hx, hm⟩ := (show BSt Γ k xo mo b 100 100 Y_X8_worstFlight Y_X9_worstFlight [.int (Γ.sc.2.2 (i + 1).toNatClampNeg)] [(0, 0), (1, 1), (2, 2)] T R S I L from st_worstFlight hw (by omega) hol) D
  have hn0 : t = 0 → n9 = 0 := (by decide : ∀ p ∈ ([(0, 0), (1, 1), (2, 2)] : List (Nat × Int32)), p.2 = 0 → p.1 = 0) (n9, t) hal
  have e1 := ec_le n9
  have e2 := es_le n9
  refine jj_aload_n (q := 2084) dL_law_2083 rfl rfl rfl ?_
  refine jj_aload_n (q := 2085) dL_law_2084 rfl rfl rfl ?_
  refine jj_iload (q := 2087) dL_law_2085 rfl rfl ?_
  refine jj_iconst (v := 1) (q := 2088) dL_law_2087 rfl rfl ?_
  refine jj_iadd (q := 2089) dL_law_2088 rfl ?_
  refine jj_kiald (q := 2090) dL_law_2089 sc_E p1 rfl rfl ?_
  refine jj_aload_n (q := 2091) dL_law_2090 rfl rfl rfl ?_
  refine lS3 (q := 2094) (t := t) dL_law_2091 yk_L_worstFlight ms_L_worstFlight (wr_worstFlight (v := v) (G := G) hw.tx hO hal hx) (fun o M' h => h.1) rfl rfl rfl (by omega) (by omega) (fun M' h => ?_)
  obtain ⟨h1, S1, I1, L1, rfl, hG⟩ := h
  clear h1
  refine jj_istore (q := 2096) dL_law_2094 (by decide) rfl ?_
  refine jj_aload_n (q := 2097) dL_law_2096 rfl rfl rfl ?_
  refine jj_aload_n (q := 2098) dL_law_2097 rfl rfl rfl ?_
  refine jj_iload (q := 2100) dL_law_2098 rfl rfl ?_
  refine jj_iconst (v := 1) (q := 2101) dL_law_2100 rfl rfl ?_
  refine jj_iadd (q := 2102) dL_law_2101 rfl ?_
  refine jj_kiald (q := 2103) dL_law_2102 sc_E p1 rfl rfl ?_
  refine lV1 (q := 2106) dL_law_2103 yk_X9_worstFlight ml_L_313 hw.hm.t0 (hm S1 I1 L1 _ D hG (fun c h => wLo_lt h)) (fun o M' h => by obtain ⟨S2, I2, w, h1, h2⟩ := h; exact ⟨w, h1.1⟩) rfl rfl rfl (by omega) (by omega) (fun r M' h => ?_)
  obtain ⟨S2, I2, w, ⟨h1, hv⟩, rfl, hw2, ht⟩ := h
  cases h1
  refine jj_istore (q := 2108) dL_law_2106 (by decide) rfl ?_
  refine jj_aload_n (q := 2109) dL_law_2108 rfl rfl rfl ?_
  refine lV0 (q := 2112) dL_law_2109 yk_X9_thrown ml_L_191 hw.hm.t0 (ex_thr hw2.hm) (fun o M' h => ⟨_, h.1⟩) rfl rfl rfl (by omega) (by omega) (fun r M' h => ?_)
  obtain ⟨h1, rfl⟩ := h
  cases h1
  refine jj_iload (q := 2114) dL_law_2112 rfl rfl ?_
  refine jj_icmp_eq (q := 2117) (tgt := 2119) dL_law_2114 rfl rfl (fun h2114 => ?_) (fun h2114 => absurd (ht) h2114)
  refine jj_iload (q := 2121) dL_law_2119 rfl rfl ?_
  refine jj_if_ne (q := 2124) (tgt := 2136) dL_law_2121 rfl rfl (fun h2121 => ?_) (fun h2121 => ?_)
  · refine jj_goto (tgt := 3611) dL_law_2136 rfl ?_
    exact kk S2 I2 _ _ _ _ _ _ (Nat.add_le_add_left (ec_le n9) cells) (Nat.add_le_add_left (es_le n9) slots) hw2
  · refine jj_aload_n (q := 2125) dL_law_2124 rfl rfl rfl ?_
    refine jj_iconst (v := 0) (q := 2126) dL_law_2125 rfl rfl ?_
    refine jj_lald (v := v.toInt64) (q := 2127) dL_law_2126 hO vp_01 (wLo_at (hn0 h2121)) rfl ?_
    refine jj_iload (q := 2129) dL_law_2127 rfl rfl ?_
    refine jj_i2l (q := 2130) dL_law_2129 rfl ?_
    refine jj_lcmp (q := 2131) dL_law_2130 rfl ?_
    refine jj_if_eq (q := 2134) (tgt := 2136) dL_law_2131 rfl rfl (fun h2131 => ?_) (fun h2131 => absurd (lcmp_self (congrArg Int32.toInt64 (hv (hn0 h2121)).symm)) h2131)
    refine jj_goto (tgt := 3611) dL_law_2136 rfl ?_
    exact kk S2 I2 _ _ _ _ _ _ (Nat.add_le_add_left (ec_le n9) cells) (Nat.add_le_add_left (es_le n9) slots) hw2
theorem lc_38 {a6 a7 : Option Value} (hw : Wd Γ k xo mo T R S I L) (hk : k ≤ 599) (hol : mo + 18 ≤ b) (hO : T b = some (.inr (.long, 1))) (hO2 : T (b + 1) = some (.inr (.double, 1))) (p1 : vp_in (i + 1) Γ.sc.2.1) (p2 : vp_in (i + 2) Γ.sc.2.1) (p3 : vp_in (i + 3) Γ.sc.2.1) (p4 : vp_in (i + 4) Γ.sc.2.1) (p5 : vp_in (i + 5) Γ.sc.2.1) (hc : cells + 1 ≤ 601024) (hs : slots + 6 ≤ 7293034) (kk : Kk Γ Zf k xo mo b cells slots i T R) : JJ Γ EL Zf room_1 cells slots 2139 (Vl Γ.sc.1 xo mo b i a6 a7) [] (T, R, S, I, L, D, none) := by
  obtain ⟨n9, t, v, G, hal, hx, hm⟩ := (show BSt Γ k xo mo b 100 100 Y_X8_events Y_X9_events [] [(0, 0)] T R S I L from st_events hw (by omega) hol) D
  simp only [List.mem_cons, List.mem_nil_iff, Prod.mk.injEq, or_false] at hal
  obtain ⟨rfl, rfl⟩ := hal
  refine jj_aload_n (q := 2140) dL_law_2139 rfl rfl rfl ?_
  refine lV0 (q := 2143) dL_law_2140 yk_X8_events ml_L_314 hw.tx hx (fun o M' h => ⟨v, h.1⟩) rfl rfl rfl (by omega) (by omega) (fun r M' h => ?_)
  obtain ⟨h1, S1, I1, L1, rfl, hG⟩ := h
  cases h1
  refine jj_aload_n (q := 2144) dL_law_2143 rfl rfl rfl ?_
  refine lV0 (q := 2147) dL_law_2144 yk_X9_events ml_L_317 hw.hm.t0 (hm S1 I1 L1 L1 D hG (fun _ _ => rfl)) (fun o M' h => by obtain ⟨S2, I2, w, h1, h2⟩ := h; exact ⟨w, h1.1⟩) rfl rfl rfl (by omega) (by omega) (fun r M' h => ?_)
  obtain ⟨S2, I2, w, ⟨h1, hv⟩, rfl, hw2, ht⟩ := h
  cases h1
  refine jj_icmp_eq (q := 2150) (tgt := 3611) dL_law_2147 rfl rfl (fun h2147 => ?_) (fun h2147 => absurd ((hv rfl).symm) h2147)
  exact kk S2 I2 _ _ _ _ _ _ (Nat.le_add_right _ _) (Nat.le_add_right _ _) hw2
theorem lc_39 {a6 a7 : Option Value} (hw : Wd Γ k xo mo T R S I L) (hk : k ≤ 599) (hol : mo + 18 ≤ b) (hO : T b = some (.inr (.long, 1))) (hO2 : T (b + 1) = some (.inr (.double, 1))) (p1 : vp_in (i + 1) Γ.sc.2.1) (p2 : vp_in (i + 2) Γ.sc.2.1) (p3 : vp_in (i + 3) Γ.sc.2.1) (p4 : vp_in (i + 4) Γ.sc.2.1) (p5 : vp_in (i + 5) Γ.sc.2.1) (hc : cells + 1 ≤ 601024) (hs : slots + 6 ≤ 7293034) (kk : Kk Γ Zf k xo mo b cells slots i T R) : JJ Γ EL Zf room_1 cells slots 2152 (Vl Γ.sc.1 xo mo b i a6 a7) [] (T, R, S, I, L, D, none) := by
  obtain ⟨n9, t, v, G, hal, hx, hm⟩ := (show BSt Γ k xo mo b 100 100 Y_X8_event Y_X9_event [.int (Γ.sc.2.2 (i + 1).toNatClampNeg), .int (Γ.sc.2.2 (i + 2).toNatClampNeg)] [(0, 0), (1, 1), (2, 2), (3, 3)] T R S I L from st_event hw (by omega) hol) D
  have hn0 : t = 0 → n9 = 0 := (by decide : ∀ p ∈ ([(0, 0), (1, 1), (2, 2), (3, 3)] : List (Nat × Int32)), p.2 = 0 → p.1 = 0) (n9, t) hal
  have e1 := ec_le n9
  have e2 := es_le n9
  refine jj_aload_n (q := 2153) dL_law_2152 rfl rfl rfl ?_
  refine jj_aload_n (q := 2154) dL_law_2153 rfl rfl rfl ?_
  refine jj_iload (q := 2156) dL_law_2154 rfl rfl ?_
  refine jj_iconst (v := 1) (q := 2157) dL_law_2156 rfl rfl ?_
  refine jj_iadd (q := 2158) dL_law_2157 rfl ?_
  refine jj_kiald (q := 2159) dL_law_2158 sc_E p1 rfl rfl ?_
  refine jj_aload_n (q := 2160) dL_law_2159 rfl rfl rfl ?_
  refine jj_iload (q := 2162) dL_law_2160 rfl rfl ?_
  refine jj_iconst (v := 2) (q := 2163) dL_law_2162 rfl rfl ?_
  refine jj_iadd (q := 2164) dL_law_2163 rfl ?_
  refine jj_kiald (q := 2165) dL_law_2164 sc_E p2 rfl rfl ?_
  refine jj_aload_n (q := 2166) dL_law_2165 rfl rfl rfl ?_
  refine lS4 (q := 2169) (t := t) dL_law_2166 yk_L_event ms_L_event (wr_event (v := v) (G := G) hw.tx hO hal hx) (fun o M' h => h.1) rfl rfl rfl (by omega) (by omega) (fun M' h => ?_)
  obtain ⟨h1, S1, I1, L1, rfl, hG⟩ := h
  clear h1
  refine jj_istore (q := 2171) dL_law_2169 (by decide) rfl ?_
  refine jj_aload_n (q := 2172) dL_law_2171 rfl rfl rfl ?_
  refine jj_aload_n (q := 2173) dL_law_2172 rfl rfl rfl ?_
  refine jj_iload (q := 2175) dL_law_2173 rfl rfl ?_
  refine jj_iconst (v := 1) (q := 2176) dL_law_2175 rfl rfl ?_
  refine jj_iadd (q := 2177) dL_law_2176 rfl ?_
  refine jj_kiald (q := 2178) dL_law_2177 sc_E p1 rfl rfl ?_
  refine jj_aload_n (q := 2179) dL_law_2178 rfl rfl rfl ?_
  refine jj_iload (q := 2181) dL_law_2179 rfl rfl ?_
  refine jj_iconst (v := 2) (q := 2182) dL_law_2181 rfl rfl ?_
  refine jj_iadd (q := 2183) dL_law_2182 rfl ?_
  refine jj_kiald (q := 2184) dL_law_2183 sc_E p2 rfl rfl ?_
  refine lV2 (q := 2187) dL_law_2184 yk_X9_event ml_L_320 hw.hm.t0 (hm S1 I1 L1 _ D hG (fun c h => wLo_lt h)) (fun o M' h => by obtain ⟨S2, I2, w, h1, h2⟩ := h; exact ⟨w, h1.1⟩) rfl rfl rfl (by omega) (by omega) (fun r M' h => ?_)
  obtain ⟨S2, I2, w, ⟨h1, hv⟩, rfl, hw2, ht⟩ := h
  cases h1
  refine jj_istore (q := 2189) dL_law_2187 (by decide) rfl ?_
  refine jj_aload_n (q := 2190) dL_law_2189 rfl rfl rfl ?_
  refine lV0 (q := 2193) dL_law_2190 yk_X9_thrown ml_L_191 hw.hm.t0 (ex_thr hw2.hm) (fun o M' h => ⟨_, h.1⟩) rfl rfl rfl (by omega) (by omega) (fun r M' h => ?_)
  obtain ⟨h1, rfl⟩ := h
  cases h1
  refine jj_iload (q := 2195) dL_law_2193 rfl rfl ?_
  refine jj_icmp_eq (q := 2198) (tgt := 2200) dL_law_2195 rfl rfl (fun h2195 => ?_) (fun h2195 => absurd (ht) h2195)
  refine jj_iload (q := 2202) dL_law_2200 rfl rfl ?_
  refine jj_if_ne (q := 2205) (tgt := 2217) dL_law_2202 rfl rfl (fun h2202 => ?_) (fun h2202 => ?_)
  · refine jj_goto (tgt := 3611) dL_law_2217 rfl ?_
    exact kk S2 I2 _ _ _ _ _ _ (Nat.add_le_add_left (ec_le n9) cells) (Nat.add_le_add_left (es_le n9) slots) hw2
  · refine jj_aload_n (q := 2206) dL_law_2205 rfl rfl rfl ?_
    refine jj_iconst (v := 0) (q := 2207) dL_law_2206 rfl rfl ?_
    refine jj_lald (v := v.toInt64) (q := 2208) dL_law_2207 hO vp_01 (wLo_at (hn0 h2202)) rfl ?_
    refine jj_iload (q := 2210) dL_law_2208 rfl rfl ?_
    refine jj_i2l (q := 2211) dL_law_2210 rfl ?_
    refine jj_lcmp (q := 2212) dL_law_2211 rfl ?_
    refine jj_if_eq (q := 2215) (tgt := 2217) dL_law_2212 rfl rfl (fun h2212 => ?_) (fun h2212 => absurd (lcmp_self (congrArg Int32.toInt64 (hv (hn0 h2202)).symm)) h2212)
    refine jj_goto (tgt := 3611) dL_law_2217 rfl ?_
    exact kk S2 I2 _ _ _ _ _ _ (Nat.add_le_add_left (ec_le n9) cells) (Nat.add_le_add_left (es_le n9) slots) hw2
theorem lc_40 {a6 a7 : Option Value} (hw : Wd Γ k xo mo T R S I L) (hk : k ≤ 599) (hol : mo + 18 ≤ b) (hO : T b = some (.inr (.long, 1))) (hO2 : T (b + 1) = some (.inr (.double, 1))) (p1 : vp_in (i + 1) Γ.sc.2.1) (p2 : vp_in (i + 2) Γ.sc.2.1) (p3 : vp_in (i + 3) Γ.sc.2.1) (p4 : vp_in (i + 4) Γ.sc.2.1) (p5 : vp_in (i + 5) Γ.sc.2.1) (hc : cells + 1 ≤ 601024) (hs : slots + 6 ≤ 7293034) (kk : Kk Γ Zf k xo mo b cells slots i T R) : JJ Γ EL Zf room_1 cells slots 2220 (Vl Γ.sc.1 xo mo b i a6 a7) [] (T, R, S, I, L, D, none) := by
  obtain ⟨n9, t, v, G, hal, hx, hm⟩ := (show BSt Γ k xo mo b 100 100 Y_X8_report Y_X9_report [] [(0, 0), (1, 1)] T R S I L from st_report hw (by omega) hol) D
  have hn0 : t = 0 → n9 = 0 := (by decide : ∀ p ∈ ([(0, 0), (1, 1)] : List (Nat × Int32)), p.2 = 0 → p.1 = 0) (n9, t) hal
  have e1 := ec_le n9
  have e2 := es_le n9
  refine jj_aload_n (q := 2221) dL_law_2220 rfl rfl rfl ?_
  refine jj_aload_n (q := 2222) dL_law_2221 rfl rfl rfl ?_
  refine lS2 (q := 2225) (t := t) dL_law_2222 yk_L_report ms_L_report (wr_report (v := v) (G := G) hw.tx hO hal hx) (fun o M' h => h.1) rfl rfl rfl (by omega) (by omega) (fun M' h => ?_)
  obtain ⟨h1, S1, I1, L1, rfl, hG⟩ := h
  clear h1
  refine jj_istore (q := 2227) dL_law_2225 (by decide) rfl ?_
  refine jj_aload_n (q := 2228) dL_law_2227 rfl rfl rfl ?_
  refine lV0 (q := 2231) dL_law_2228 yk_X9_report ml_L_324 hw.hm.t0 (hm S1 I1 L1 _ D hG (fun c h => wLo_lt h)) (fun o M' h => by obtain ⟨S2, I2, w, h1, h2⟩ := h; exact ⟨w, h1.1⟩) rfl rfl rfl (by omega) (by omega) (fun r M' h => ?_)
  obtain ⟨S2, I2, w, ⟨h1, hv⟩, rfl, hw2, ht⟩ := h
  cases h1
  refine jj_istore (q := 2233) dL_law_2231 (by decide) rfl ?_
  refine jj_aload_n (q := 2234) dL_law_2233 rfl rfl rfl ?_
  refine lV0 (q := 2237) dL_law_2234 yk_X9_thrown ml_L_191 hw.hm.t0 (ex_thr hw2.hm) (fun o M' h => ⟨_, h.1⟩) rfl rfl rfl (by omega) (by omega) (fun r M' h => ?_)
  obtain ⟨h1, rfl⟩ := h
  cases h1
  refine jj_iload (q := 2239) dL_law_2237 rfl rfl ?_
  refine jj_icmp_eq (q := 2242) (tgt := 2244) dL_law_2239 rfl rfl (fun h2239 => ?_) (fun h2239 => absurd (ht) h2239)
  refine jj_iload (q := 2246) dL_law_2244 rfl rfl ?_
  refine jj_if_ne (q := 2249) (tgt := 2261) dL_law_2246 rfl rfl (fun h2246 => ?_) (fun h2246 => ?_)
  · refine jj_goto (tgt := 3611) dL_law_2261 rfl ?_
    exact kk S2 I2 _ _ _ _ _ _ (Nat.add_le_add_left (ec_le n9) cells) (Nat.add_le_add_left (es_le n9) slots) hw2
  · refine jj_aload_n (q := 2250) dL_law_2249 rfl rfl rfl ?_
    refine jj_iconst (v := 0) (q := 2251) dL_law_2250 rfl rfl ?_
    refine jj_lald (v := v.toInt64) (q := 2252) dL_law_2251 hO vp_01 (wLo_at (hn0 h2246)) rfl ?_
    refine jj_iload (q := 2254) dL_law_2252 rfl rfl ?_
    refine jj_i2l (q := 2255) dL_law_2254 rfl ?_
    refine jj_lcmp (q := 2256) dL_law_2255 rfl ?_
    refine jj_if_eq (q := 2259) (tgt := 2261) dL_law_2256 rfl rfl (fun h2256 => ?_) (fun h2256 => absurd (lcmp_self (congrArg Int32.toInt64 (hv (hn0 h2246)).symm)) h2256)
    refine jj_goto (tgt := 3611) dL_law_2261 rfl ?_
    exact kk S2 I2 _ _ _ _ _ _ (Nat.add_le_add_left (ec_le n9) cells) (Nat.add_le_add_left (es_le n9) slots) hw2
theorem lc_41 {a6 a7 : Option Value} (hw : Wd Γ k xo mo T R S I L) (hk : k ≤ 599) (hol : mo + 18 ≤ b) (hO : T b = some (.inr (.long, 1))) (hO2 : T (b + 1) = some (.inr (.double, 1))) (p1 : vp_in (i + 1) Γ.sc.2.1) (p2 : vp_in (i + 2) Γ.sc.2.1) (p3 : vp_in (i + 3) Γ.sc.2.1) (p4 : vp_in (i + 4) Γ.sc.2.1) (p5 : vp_in (i + 5) Γ.sc.2.1) (hc : cells + 1 ≤ 601024) (hs : slots + 6 ≤ 7293034) (kk : Kk Γ Zf k xo mo b cells slots i T R) : JJ Γ EL Zf room_1 cells slots 2264 (Vl Γ.sc.1 xo mo b i a6 a7) [] (T, R, S, I, L, D, none) := by
  obtain ⟨n9, t, v, G, hal, hx, hm⟩ := (show BSt Γ k xo mo b 100 100 Y_X8_reportByte Y_X9_reportByte [.int (Γ.sc.2.2 (i + 1).toNatClampNeg)] [(0, 0), (2, 1)] T R S I L from st_reportByte hw (by omega) hol) D
  have hn0 : t = 0 → n9 = 0 := (by decide : ∀ p ∈ ([(0, 0), (2, 1)] : List (Nat × Int32)), p.2 = 0 → p.1 = 0) (n9, t) hal
  have e1 := ec_le n9
  have e2 := es_le n9
  refine jj_aload_n (q := 2265) dL_law_2264 rfl rfl rfl ?_
  refine jj_aload_n (q := 2266) dL_law_2265 rfl rfl rfl ?_
  refine jj_iload (q := 2268) dL_law_2266 rfl rfl ?_
  refine jj_iconst (v := 1) (q := 2269) dL_law_2268 rfl rfl ?_
  refine jj_iadd (q := 2270) dL_law_2269 rfl ?_
  refine jj_kiald (q := 2271) dL_law_2270 sc_E p1 rfl rfl ?_
  refine jj_aload_n (q := 2272) dL_law_2271 rfl rfl rfl ?_
  refine lS3 (q := 2275) (t := t) dL_law_2272 yk_L_reportByte ms_L_reportByte (wr_reportByte (v := v) (G := G) hw.tx hO hal hx) (fun o M' h => h.1) rfl rfl rfl (by omega) (by omega) (fun M' h => ?_)
  obtain ⟨h1, S1, I1, L1, rfl, hG⟩ := h
  clear h1
  refine jj_istore (q := 2277) dL_law_2275 (by decide) rfl ?_
  refine jj_aload_n (q := 2278) dL_law_2277 rfl rfl rfl ?_
  refine jj_aload_n (q := 2279) dL_law_2278 rfl rfl rfl ?_
  refine jj_iload (q := 2281) dL_law_2279 rfl rfl ?_
  refine jj_iconst (v := 1) (q := 2282) dL_law_2281 rfl rfl ?_
  refine jj_iadd (q := 2283) dL_law_2282 rfl ?_
  refine jj_kiald (q := 2284) dL_law_2283 sc_E p1 rfl rfl ?_
  refine lV1 (q := 2287) dL_law_2284 yk_X9_reportByte ml_L_327 hw.hm.t0 (hm S1 I1 L1 _ D hG (fun c h => wLo_lt h)) (fun o M' h => by obtain ⟨S2, I2, w, h1, h2⟩ := h; exact ⟨w, h1.1⟩) rfl rfl rfl (by omega) (by omega) (fun r M' h => ?_)
  obtain ⟨S2, I2, w, ⟨h1, hv⟩, rfl, hw2, ht⟩ := h
  cases h1
  refine jj_istore (q := 2289) dL_law_2287 (by decide) rfl ?_
  refine jj_aload_n (q := 2290) dL_law_2289 rfl rfl rfl ?_
  refine lV0 (q := 2293) dL_law_2290 yk_X9_thrown ml_L_191 hw.hm.t0 (ex_thr hw2.hm) (fun o M' h => ⟨_, h.1⟩) rfl rfl rfl (by omega) (by omega) (fun r M' h => ?_)
  obtain ⟨h1, rfl⟩ := h
  cases h1
  refine jj_iload (q := 2295) dL_law_2293 rfl rfl ?_
  refine jj_icmp_eq (q := 2298) (tgt := 2300) dL_law_2295 rfl rfl (fun h2295 => ?_) (fun h2295 => absurd (ht) h2295)
  refine jj_iload (q := 2302) dL_law_2300 rfl rfl ?_
  refine jj_if_ne (q := 2305) (tgt := 2317) dL_law_2302 rfl rfl (fun h2302 => ?_) (fun h2302 => ?_)
  · refine jj_goto (tgt := 3611) dL_law_2317 rfl ?_
    exact kk S2 I2 _ _ _ _ _ _ (Nat.add_le_add_left (ec_le n9) cells) (Nat.add_le_add_left (es_le n9) slots) hw2
  · refine jj_aload_n (q := 2306) dL_law_2305 rfl rfl rfl ?_
    refine jj_iconst (v := 0) (q := 2307) dL_law_2306 rfl rfl ?_
    refine jj_lald (v := v.toInt64) (q := 2308) dL_law_2307 hO vp_01 (wLo_at (hn0 h2302)) rfl ?_
    refine jj_iload (q := 2310) dL_law_2308 rfl rfl ?_
    refine jj_i2l (q := 2311) dL_law_2310 rfl ?_
    refine jj_lcmp (q := 2312) dL_law_2311 rfl ?_
    refine jj_if_eq (q := 2315) (tgt := 2317) dL_law_2312 rfl rfl (fun h2312 => ?_) (fun h2312 => absurd (lcmp_self (congrArg Int32.toInt64 (hv (hn0 h2302)).symm)) h2312)
    refine jj_goto (tgt := 3611) dL_law_2317 rfl ?_
    exact kk S2 I2 _ _ _ _ _ _ (Nat.add_le_add_left (ec_le n9) cells) (Nat.add_le_add_left (es_le n9) slots) hw2
theorem lc_42 {a6 a7 : Option Value} (hw : Wd Γ k xo mo T R S I L) (hk : k ≤ 599) (hol : mo + 18 ≤ b) (hO : T b = some (.inr (.long, 1))) (hO2 : T (b + 1) = some (.inr (.double, 1))) (p1 : vp_in (i + 1) Γ.sc.2.1) (p2 : vp_in (i + 2) Γ.sc.2.1) (p3 : vp_in (i + 3) Γ.sc.2.1) (p4 : vp_in (i + 4) Γ.sc.2.1) (p5 : vp_in (i + 5) Γ.sc.2.1) (hc : cells + 1 ≤ 601024) (hs : slots + 6 ≤ 7293034) (kk : Kk Γ Zf k xo mo b cells slots i T R) : JJ Γ EL Zf room_1 cells slots 2320 (Vl Γ.sc.1 xo mo b i a6 a7) [] (T, R, S, I, L, D, none) := by
  obtain ⟨n9, t, v, G, hal, hx, hm⟩ := (show BSt Γ k xo mo b 100 100 Y_X8_map Y_X9_map [] [(0, 0), (1, 1)] T R S I L from st_map hw (by omega) hol) D
  have hn0 : t = 0 → n9 = 0 := (by decide : ∀ p ∈ ([(0, 0), (1, 1)] : List (Nat × Int32)), p.2 = 0 → p.1 = 0) (n9, t) hal
  have e1 := ec_le n9
  have e2 := es_le n9
  refine jj_aload_n (q := 2321) dL_law_2320 rfl rfl rfl ?_
  refine jj_aload_n (q := 2322) dL_law_2321 rfl rfl rfl ?_
  refine lS2 (q := 2325) (t := t) dL_law_2322 yk_L_map ms_L_map (wr_map (v := v) (G := G) hw.tx hO hal hx) (fun o M' h => h.1) rfl rfl rfl (by omega) (by omega) (fun M' h => ?_)
  obtain ⟨h1, S1, I1, L1, rfl, hG⟩ := h
  clear h1
  refine jj_istore (q := 2327) dL_law_2325 (by decide) rfl ?_
  refine jj_aload_n (q := 2328) dL_law_2327 rfl rfl rfl ?_
  refine lV0 (q := 2331) dL_law_2328 yk_X9_map ml_L_330 hw.hm.t0 (hm S1 I1 L1 _ D hG (fun c h => wLo_lt h)) (fun o M' h => by obtain ⟨S2, I2, w, h1, h2⟩ := h; exact ⟨w, h1.1⟩) rfl rfl rfl (by omega) (by omega) (fun r M' h => ?_)
  obtain ⟨S2, I2, w, ⟨h1, hv⟩, rfl, hw2, ht⟩ := h
  cases h1
  refine jj_istore (q := 2333) dL_law_2331 (by decide) rfl ?_
  refine jj_aload_n (q := 2334) dL_law_2333 rfl rfl rfl ?_
  refine lV0 (q := 2337) dL_law_2334 yk_X9_thrown ml_L_191 hw.hm.t0 (ex_thr hw2.hm) (fun o M' h => ⟨_, h.1⟩) rfl rfl rfl (by omega) (by omega) (fun r M' h => ?_)
  obtain ⟨h1, rfl⟩ := h
  cases h1
  refine jj_iload (q := 2339) dL_law_2337 rfl rfl ?_
  refine jj_icmp_eq (q := 2342) (tgt := 2344) dL_law_2339 rfl rfl (fun h2339 => ?_) (fun h2339 => absurd (ht) h2339)
  refine jj_iload (q := 2346) dL_law_2344 rfl rfl ?_
  refine jj_if_ne (q := 2349) (tgt := 2361) dL_law_2346 rfl rfl (fun h2346 => ?_) (fun h2346 => ?_)
  · refine jj_goto (tgt := 3611) dL_law_2361 rfl ?_
    exact kk S2 I2 _ _ _ _ _ _ (Nat.add_le_add_left (ec_le n9) cells) (Nat.add_le_add_left (es_le n9) slots) hw2
  · refine jj_aload_n (q := 2350) dL_law_2349 rfl rfl rfl ?_
    refine jj_iconst (v := 0) (q := 2351) dL_law_2350 rfl rfl ?_
    refine jj_lald (v := v.toInt64) (q := 2352) dL_law_2351 hO vp_01 (wLo_at (hn0 h2346)) rfl ?_
    refine jj_iload (q := 2354) dL_law_2352 rfl rfl ?_
    refine jj_i2l (q := 2355) dL_law_2354 rfl ?_
    refine jj_lcmp (q := 2356) dL_law_2355 rfl ?_
    refine jj_if_eq (q := 2359) (tgt := 2361) dL_law_2356 rfl rfl (fun h2356 => ?_) (fun h2356 => absurd (lcmp_self (congrArg Int32.toInt64 (hv (hn0 h2346)).symm)) h2356)
    refine jj_goto (tgt := 3611) dL_law_2361 rfl ?_
    exact kk S2 I2 _ _ _ _ _ _ (Nat.add_le_add_left (ec_le n9) cells) (Nat.add_le_add_left (es_le n9) slots) hw2
theorem lc_43 {a6 a7 : Option Value} (hw : Wd Γ k xo mo T R S I L) (hk : k ≤ 599) (hol : mo + 18 ≤ b) (hO : T b = some (.inr (.long, 1))) (hO2 : T (b + 1) = some (.inr (.double, 1))) (p1 : vp_in (i + 1) Γ.sc.2.1) (p2 : vp_in (i + 2) Γ.sc.2.1) (p3 : vp_in (i + 3) Γ.sc.2.1) (p4 : vp_in (i + 4) Γ.sc.2.1) (p5 : vp_in (i + 5) Γ.sc.2.1) (hc : cells + 1 ≤ 601024) (hs : slots + 6 ≤ 7293034) (kk : Kk Γ Zf k xo mo b cells slots i T R) : JJ Γ EL Zf room_1 cells slots 2364 (Vl Γ.sc.1 xo mo b i a6 a7) [] (T, R, S, I, L, D, none) := by
  obtain ⟨n9, t, v, G, hal, hx, hm⟩ := (show BSt Γ k xo mo b 100 100 Y_X8_mapByte Y_X9_mapByte [.int (Γ.sc.2.2 (i + 1).toNatClampNeg)] [(0, 0), (2, 1)] T R S I L from st_mapByte hw (by omega) hol) D
  have hn0 : t = 0 → n9 = 0 := (by decide : ∀ p ∈ ([(0, 0), (2, 1)] : List (Nat × Int32)), p.2 = 0 → p.1 = 0) (n9, t) hal
  have e1 := ec_le n9
  have e2 := es_le n9
  refine jj_aload_n (q := 2365) dL_law_2364 rfl rfl rfl ?_
  refine jj_aload_n (q := 2366) dL_law_2365 rfl rfl rfl ?_
  refine jj_iload (q := 2368) dL_law_2366 rfl rfl ?_
  refine jj_iconst (v := 1) (q := 2369) dL_law_2368 rfl rfl ?_
  refine jj_iadd (q := 2370) dL_law_2369 rfl ?_
  refine jj_kiald (q := 2371) dL_law_2370 sc_E p1 rfl rfl ?_
  refine jj_aload_n (q := 2372) dL_law_2371 rfl rfl rfl ?_
  refine lS3 (q := 2375) (t := t) dL_law_2372 yk_L_mapByte ms_L_mapByte (wr_mapByte (v := v) (G := G) hw.tx hO hal hx) (fun o M' h => h.1) rfl rfl rfl (by omega) (by omega) (fun M' h => ?_)
  obtain ⟨h1, S1, I1, L1, rfl, hG⟩ := h
  clear h1
  refine jj_istore (q := 2377) dL_law_2375 (by decide) rfl ?_
  refine jj_aload_n (q := 2378) dL_law_2377 rfl rfl rfl ?_
  refine jj_aload_n (q := 2379) dL_law_2378 rfl rfl rfl ?_
  refine jj_iload (q := 2381) dL_law_2379 rfl rfl ?_
  refine jj_iconst (v := 1) (q := 2382) dL_law_2381 rfl rfl ?_
  refine jj_iadd (q := 2383) dL_law_2382 rfl ?_
  refine jj_kiald (q := 2384) dL_law_2383 sc_E p1 rfl rfl ?_
  refine lV1 (q := 2387) dL_law_2384 yk_X9_mapByte ml_L_333 hw.hm.t0 (hm S1 I1 L1 _ D hG (fun c h => wLo_lt h)) (fun o M' h => by obtain ⟨S2, I2, w, h1, h2⟩ := h; exact ⟨w, h1.1⟩) rfl rfl rfl (by omega) (by omega) (fun r M' h => ?_)
  obtain ⟨S2, I2, w, ⟨h1, hv⟩, rfl, hw2, ht⟩ := h
  cases h1
  refine jj_istore (q := 2389) dL_law_2387 (by decide) rfl ?_
  refine jj_aload_n (q := 2390) dL_law_2389 rfl rfl rfl ?_
  refine lV0 (q := 2393) dL_law_2390 yk_X9_thrown ml_L_191 hw.hm.t0 (ex_thr hw2.hm) (fun o M' h => ⟨_, h.1⟩) rfl rfl rfl (by omega) (by omega) (fun r M' h => ?_)
  obtain ⟨h1, rfl⟩ := h
  cases h1
  refine jj_iload (q := 2395) dL_law_2393 rfl rfl ?_
  refine jj_icmp_eq (q := 2398) (tgt := 2400) dL_law_2395 rfl rfl (fun h2395 => ?_) (fun h2395 => absurd (ht) h2395)
  refine jj_iload (q := 2402) dL_law_2400 rfl rfl ?_
  refine jj_if_ne (q := 2405) (tgt := 2417) dL_law_2402 rfl rfl (fun h2402 => ?_) (fun h2402 => ?_)
  · refine jj_goto (tgt := 3611) dL_law_2417 rfl ?_
    exact kk S2 I2 _ _ _ _ _ _ (Nat.add_le_add_left (ec_le n9) cells) (Nat.add_le_add_left (es_le n9) slots) hw2
  · refine jj_aload_n (q := 2406) dL_law_2405 rfl rfl rfl ?_
    refine jj_iconst (v := 0) (q := 2407) dL_law_2406 rfl rfl ?_
    refine jj_lald (v := v.toInt64) (q := 2408) dL_law_2407 hO vp_01 (wLo_at (hn0 h2402)) rfl ?_
    refine jj_iload (q := 2410) dL_law_2408 rfl rfl ?_
    refine jj_i2l (q := 2411) dL_law_2410 rfl ?_
    refine jj_lcmp (q := 2412) dL_law_2411 rfl ?_
    refine jj_if_eq (q := 2415) (tgt := 2417) dL_law_2412 rfl rfl (fun h2412 => ?_) (fun h2412 => absurd (lcmp_self (congrArg Int32.toInt64 (hv (hn0 h2402)).symm)) h2412)
    refine jj_goto (tgt := 3611) dL_law_2417 rfl ?_
    exact kk S2 I2 _ _ _ _ _ _ (Nat.add_le_add_left (ec_le n9) cells) (Nat.add_le_add_left (es_le n9) slots) hw2
end C13
