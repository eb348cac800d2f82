/-! THE LAW, DECODED -/
theorem dL_law_2017 : decode cL_law 2017 = .ok (.iload 5, 2) := by decide +kernel
theorem dL_law_2019 : decode cL_law 2019 = .ok (.iconst 1, 1) := by decide +kernel
theorem dL_law_2020 : decode cL_law 2020 = .ok (.iadd, 1) := by decide +kernel
theorem dL_law_2021 : decode cL_law 2021 = .ok (.iaload, 1) := by decide +kernel
theorem dL_law_2022 : decode cL_law 2022 = .ok (.aload_n 0, 1) := by decide +kernel
theorem dL_law_2023 : decode cL_law 2023 = .ok (.iload 5, 2) := by decide +kernel
theorem dL_law_2025 : decode cL_law 2025 = .ok (.iconst 2, 1) := by decide +kernel
theorem dL_law_2026 : decode cL_law 2026 = .ok (.iadd, 1) := by decide +kernel
theorem dL_law_2027 : decode cL_law 2027 = .ok (.iaload, 1) := by decide +kernel
theorem dL_law_2028 : decode cL_law 2028 = .ok (.aload_n 3, 1) := by decide +kernel
theorem dL_law_2029 : decode cL_law 2029 = .ok (.invokestatic 308, 3) := by decide +kernel
theorem dL_law_2032 : decode cL_law 2032 = .ok (.istore 6, 2) := by decide +kernel
theorem dL_law_2034 : decode cL_law 2034 = .ok (.aload_n 2, 1) := by decide +kernel
theorem dL_law_2035 : decode cL_law 2035 = .ok (.aload_n 0, 1) := by decide +kernel
theorem dL_law_2036 : decode cL_law 2036 = .ok (.iload 5, 2) := by decide +kernel
theorem dL_law_2038 : decode cL_law 2038 = .ok (.iconst 1, 1) := by decide +kernel
theorem dL_law_2039 : decode cL_law 2039 = .ok (.iadd, 1) := by decide +kernel
theorem dL_law_2040 : decode cL_law 2040 = .ok (.iaload, 1) := by decide +kernel
theorem dL_law_2041 : decode cL_law 2041 = .ok (.aload_n 0, 1) := by decide +kernel
theorem dL_law_2042 : decode cL_law 2042 = .ok (.iload 5, 2) := by decide +kernel
theorem dL_law_2044 : decode cL_law 2044 = .ok (.iconst 2, 1) := by decide +kernel
theorem dL_law_2045 : decode cL_law 2045 = .ok (.iadd, 1) := by decide +kernel
theorem dL_law_2046 : decode cL_law 2046 = .ok (.iaload, 1) := by decide +kernel
theorem dL_law_2047 : decode cL_law 2047 = .ok (.invokevirtual 310, 3) := by decide +kernel
theorem dL_law_2050 : decode cL_law 2050 = .ok (.istore 7, 2) := by decide +kernel
theorem dL_law_2052 : decode cL_law 2052 = .ok (.aload_n 2, 1) := by decide +kernel
theorem dL_law_2053 : decode cL_law 2053 = .ok (.invokevirtual 191, 3) := by decide +kernel
theorem dL_law_2056 : decode cL_law 2056 = .ok (.iload 6, 2) := by decide +kernel
theorem dL_law_2058 : decode cL_law 2058 = .ok (.if_icmp .eq 5, 3) := by decide +kernel
theorem dL_law_2061 : decode cL_law 2061 = .ok (.iconst 0, 1) := by decide +kernel
theorem dL_law_2062 : decode cL_law 2062 = .ok (.ireturn, 1) := by decide +kernel
theorem dL_law_2063 : decode cL_law 2063 = .ok (.iload 6, 2) := by decide +kernel
theorem dL_law_2065 : decode cL_law 2065 = .ok (.ifCond .ne 15, 3) := by decide +kernel
theorem dL_law_2068 : decode cL_law 2068 = .ok (.aload_n 3, 1) := by decide +kernel
theorem dL_law_2069 : decode cL_law 2069 = .ok (.iconst 0, 1) := by decide +kernel
theorem dL_law_2070 : decode cL_law 2070 = .ok (.laload, 1) := by decide +kernel
theorem dL_law_2071 : decode cL_law 2071 = .ok (.iload 7, 2) := by decide +kernel
theorem dL_law_2073 : decode cL_law 2073 = .ok (.i2l, 1) := by decide +kernel
theorem dL_law_2074 : decode cL_law 2074 = .ok (.lcmp, 1) := by decide +kernel
theorem dL_law_2075 : decode cL_law 2075 = .ok (.ifCond .eq 5, 3) := by decide +kernel
theorem dL_law_2078 : decode cL_law 2078 = .ok (.iconst 0, 1) := by decide +kernel
theorem dL_law_2079 : decode cL_law 2079 = .ok (.ireturn, 1) := by decide +kernel
theorem dL_law_2080 : decode cL_law 2080 = .ok (.goto 1531, 3) := by decide +kernel
theorem dL_law_2083 : decode cL_law 2083 = .ok (.aload_n 1, 1) := by decide +kernel
theorem dL_law_2084 : decode cL_law 2084 = .ok (.aload_n 0, 1) := by decide +kernel
theorem dL_law_2085 : decode cL_law 2085 = .ok (.iload 5, 2) := by decide +kernel
theorem dL_law_2087 : decode cL_law 2087 = .ok (.iconst 1, 1) := by decide +kernel
theorem dL_law_2088 : decode cL_law 2088 = .ok (.iadd, 1) := by decide +kernel
theorem dL_law_2089 : decode cL_law 2089 = .ok (.iaload, 1) := by decide +kernel
theorem dL_law_2090 : decode cL_law 2090 = .ok (.aload_n 3, 1) := by decide +kernel
theorem dL_law_2091 : decode cL_law 2091 = .ok (.invokestatic 311, 3) := by decide +kernel
theorem dL_law_2094 : decode cL_law 2094 = .ok (.istore 6, 2) := by decide +kernel
theorem dL_law_2096 : decode cL_law 2096 = .ok (.aload_n 2, 1) := by decide +kernel
theorem dL_law_2097 : decode cL_law 2097 = .ok (.aload_n 0, 1) := by decide +kernel
theorem dL_law_2098 : decode cL_law 2098 = .ok (.iload 5, 2) := by decide +kernel
theorem dL_law_2100 : decode cL_law 2100 = .ok (.iconst 1, 1) := by decide +kernel
theorem dL_law_2101 : decode cL_law 2101 = .ok (.iadd, 1) := by decide +kernel
theorem dL_law_2102 : decode cL_law 2102 = .ok (.iaload, 1) := by decide +kernel
theorem dL_law_2103 : decode cL_law 2103 = .ok (.invokevirtual 313, 3) := by decide +kernel
theorem dL_law_2106 : decode cL_law 2106 = .ok (.istore 7, 2) := by decide +kernel
theorem dL_law_2108 : decode cL_law 2108 = .ok (.aload_n 2, 1) := by decide +kernel
theorem dL_law_2109 : decode cL_law 2109 = .ok (.invokevirtual 191, 3) := by decide +kernel
theorem dL_law_2112 : decode cL_law 2112 = .ok (.iload 6, 2) := by decide +kernel
theorem dL_law_2114 : decode cL_law 2114 = .ok (.if_icmp .eq 5, 3) := by decide +kernel
theorem dL_law_2117 : decode cL_law 2117 = .ok (.iconst 0, 1) := by decide +kernel
theorem dL_law_2118 : decode cL_law 2118 = .ok (.ireturn, 1) := by decide +kernel
theorem dL_law_2119 : decode cL_law 2119 = .ok (.iload 6, 2) := by decide +kernel
theorem dL_law_2121 : decode cL_law 2121 = .ok (.ifCond .ne 15, 3) := by decide +kernel
theorem dL_law_2124 : decode cL_law 2124 = .ok (.aload_n 3, 1) := by decide +kernel
theorem dL_law_2125 : decode cL_law 2125 = .ok (.iconst 0, 1) := by decide +kernel
theorem dL_law_2126 : decode cL_law 2126 = .ok (.laload, 1) := by decide +kernel
theorem dL_law_2127 : decode cL_law 2127 = .ok (.iload 7, 2) := by decide +kernel
theorem dL_law_2129 : decode cL_law 2129 = .ok (.i2l, 1) := by decide +kernel
theorem dL_law_2130 : decode cL_law 2130 = .ok (.lcmp, 1) := by decide +kernel
theorem dL_law_2131 : decode cL_law 2131 = .ok (.ifCond .eq 5, 3) := by decide +kernel
theorem dL_law_2134 : decode cL_law 2134 = .ok (.iconst 0, 1) := by decide +kernel
theorem dL_law_2135 : decode cL_law 2135 = .ok (.ireturn, 1) := by decide +kernel
theorem dL_law_2136 : decode cL_law 2136 = .ok (.goto 1475, 3) := by decide +kernel
theorem dL_law_2139 : decode cL_law 2139 = .ok (.aload_n 1, 1) := by decide +kernel
theorem dL_law_2140 : decode cL_law 2140 = .ok (.invokevirtual 314, 3) := by decide +kernel
theorem dL_law_2143 : decode cL_law 2143 = .ok (.aload_n 2, 1) := by decide +kernel
theorem dL_law_2144 : decode cL_law 2144 = .ok (.invokevirtual 317, 3) := by decide +kernel
theorem dL_law_2147 : decode cL_law 2147 = .ok (.if_icmp .eq 1464, 3) := by decide +kernel
theorem dL_law_2150 : decode cL_law 2150 = .ok (.iconst 0, 1) := by decide +kernel
theorem dL_law_2151 : decode cL_law 2151 = .ok (.ireturn, 1) := by decide +kernel
theorem dL_law_2152 : decode cL_law 2152 = .ok (.aload_n 1, 1) := by decide +kernel
theorem dL_law_2153 : decode cL_law 2153 = .ok (.aload_n 0, 1) := by decide +kernel
theorem dL_law_2154 : decode cL_law 2154 = .ok (.iload 5, 2) := by decide +kernel
theorem dL_law_2156 : decode cL_law 2156 = .ok (.iconst 1, 1) := by decide +kernel
theorem dL_law_2157 : decode cL_law 2157 = .ok (.iadd, 1) := by decide +kernel
theorem dL_law_2158 : decode cL_law 2158 = .ok (.iaload, 1) := by decide +kernel
theorem dL_law_2159 : decode cL_law 2159 = .ok (.aload_n 0, 1) := by decide +kernel
theorem dL_law_2160 : decode cL_law 2160 = .ok (.iload 5, 2) := by decide +kernel
theorem dL_law_2162 : decode cL_law 2162 = .ok (.iconst 2, 1) := by decide +kernel
theorem dL_law_2163 : decode cL_law 2163 = .ok (.iadd, 1) := by decide +kernel
theorem dL_law_2164 : decode cL_law 2164 = .ok (.iaload, 1) := by decide +kernel
theorem dL_law_2165 : decode cL_law 2165 = .ok (.aload_n 3, 1) := by decide +kernel
theorem dL_law_2166 : decode cL_law 2166 = .ok (.invokestatic 318, 3) := by decide +kernel
theorem dL_law_2169 : decode cL_law 2169 = .ok (.istore 6, 2) := by decide +kernel
theorem dL_law_2171 : decode cL_law 2171 = .ok (.aload_n 2, 1) := by decide +kernel
