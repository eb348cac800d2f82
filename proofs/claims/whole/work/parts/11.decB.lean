theorem dX9_init_0 : decode cX9_init 0 = .ok (.aload_n 0, 1) := by decide +kernel
theorem dX9_init_1 : decode cX9_init 1 = .ok (.invokespecial 3, 3) := by decide +kernel
theorem dX9_init_4 : decode cX9_init 4 = .ok (.aload_n 0, 1) := by decide +kernel
theorem dX9_init_5 : decode cX9_init 5 = .ok (.sipush 1200, 3) := by decide +kernel
theorem dX9_init_8 : decode cX9_init 8 = .ok (.newarray .int, 2) := by decide +kernel
theorem dX9_init_10 : decode cX9_init 10 = .ok (.putfield 9, 3) := by decide +kernel
theorem dX9_init_13 : decode cX9_init 13 = .ok (.aload_n 0, 1) := by decide +kernel
theorem dX9_init_14 : decode cX9_init 14 = .ok (.iconst (-1), 1) := by decide +kernel
theorem dX9_init_15 : decode cX9_init 15 = .ok (.putfield 13, 3) := by decide +kernel
theorem dX9_init_18 : decode cX9_init 18 = .ok (.aload_n 0, 1) := by decide +kernel
theorem dX9_init_19 : decode cX9_init 19 = .ok (.bipush 51, 2) := by decide +kernel
theorem dX9_init_21 : decode cX9_init 21 = .ok (.newarray .int, 2) := by decide +kernel
theorem dX9_init_23 : decode cX9_init 23 = .ok (.putfield 17, 3) := by decide +kernel
theorem dX9_init_26 : decode cX9_init 26 = .ok (.aload_n 0, 1) := by decide +kernel
theorem dX9_init_27 : decode cX9_init 27 = .ok (.bipush 51, 2) := by decide +kernel
theorem dX9_init_29 : decode cX9_init 29 = .ok (.newarray .int, 2) := by decide +kernel
theorem dX9_init_31 : decode cX9_init 31 = .ok (.putfield 20, 3) := by decide +kernel
theorem dX9_init_34 : decode cX9_init 34 = .ok (.aload_n 0, 1) := by decide +kernel
theorem dX9_init_35 : decode cX9_init 35 = .ok (.sipush 2086, 3) := by decide +kernel
theorem dX9_init_38 : decode cX9_init 38 = .ok (.newarray .int, 2) := by decide +kernel
theorem dX9_init_40 : decode cX9_init 40 = .ok (.putfield 23, 3) := by decide +kernel
theorem dX9_init_43 : decode cX9_init 43 = .ok (.aload_n 0, 1) := by decide +kernel
theorem dX9_init_44 : decode cX9_init 44 = .ok (.sipush 2086, 3) := by decide +kernel
theorem dX9_init_47 : decode cX9_init 47 = .ok (.newarray .int, 2) := by decide +kernel
theorem dX9_init_49 : decode cX9_init 49 = .ok (.putfield 26, 3) := by decide +kernel
theorem dX9_init_52 : decode cX9_init 52 = .ok (.aload_n 0, 1) := by decide +kernel
theorem dX9_init_53 : decode cX9_init 53 = .ok (.sipush 2086, 3) := by decide +kernel
theorem dX9_init_56 : decode cX9_init 56 = .ok (.newarray .int, 2) := by decide +kernel
theorem dX9_init_58 : decode cX9_init 58 = .ok (.putfield 29, 3) := by decide +kernel
theorem dX9_init_61 : decode cX9_init 61 = .ok (.aload_n 0, 1) := by decide +kernel
theorem dX9_init_62 : decode cX9_init 62 = .ok (.sipush 12516, 3) := by decide +kernel
theorem dX9_init_65 : decode cX9_init 65 = .ok (.newarray .int, 2) := by decide +kernel
theorem dX9_init_67 : decode cX9_init 67 = .ok (.putfield 32, 3) := by decide +kernel
theorem dX9_init_70 : decode cX9_init 70 = .ok (.aload_n 0, 1) := by decide +kernel
theorem dX9_init_71 : decode cX9_init 71 = .ok (.sipush 4172, 3) := by decide +kernel
theorem dX9_init_74 : decode cX9_init 74 = .ok (.newarray .int, 2) := by decide +kernel
theorem dX9_init_76 : decode cX9_init 76 = .ok (.putfield 35, 3) := by decide +kernel
theorem dX9_init_79 : decode cX9_init 79 = .ok (.aload_n 0, 1) := by decide +kernel
theorem dX9_init_80 : decode cX9_init 80 = .ok (.iconst 2, 1) := by decide +kernel
theorem dX9_init_81 : decode cX9_init 81 = .ok (.newarray .boolean, 2) := by decide +kernel
theorem dX9_init_83 : decode cX9_init 83 = .ok (.putfield 38, 3) := by decide +kernel
theorem dX9_init_86 : decode cX9_init 86 = .ok (.aload_n 0, 1) := by decide +kernel
theorem dX9_init_87 : decode cX9_init 87 = .ok (.iconst 5, 1) := by decide +kernel
theorem dX9_init_88 : decode cX9_init 88 = .ok (.anewarray 42, 3) := by decide +kernel
theorem dX9_init_91 : decode cX9_init 91 = .ok (.dup, 1) := by decide +kernel
theorem dX9_init_92 : decode cX9_init 92 = .ok (.iconst 0, 1) := by decide +kernel
theorem dX9_init_93 : decode cX9_init 93 = .ok (.ldc 44, 2) := by decide +kernel
theorem dX9_init_95 : decode cX9_init 95 = .ok (.aastore, 1) := by decide +kernel
theorem dX9_init_96 : decode cX9_init 96 = .ok (.dup, 1) := by decide +kernel
theorem dX9_init_97 : decode cX9_init 97 = .ok (.iconst 1, 1) := by decide +kernel
theorem dX9_init_98 : decode cX9_init 98 = .ok (.ldc 46, 2) := by decide +kernel
theorem dX9_init_100 : decode cX9_init 100 = .ok (.aastore, 1) := by decide +kernel
theorem dX9_init_101 : decode cX9_init 101 = .ok (.dup, 1) := by decide +kernel
theorem dX9_init_102 : decode cX9_init 102 = .ok (.iconst 2, 1) := by decide +kernel
theorem dX9_init_103 : decode cX9_init 103 = .ok (.ldc 48, 2) := by decide +kernel
theorem dX9_init_105 : decode cX9_init 105 = .ok (.aastore, 1) := by decide +kernel
theorem dX9_init_106 : decode cX9_init 106 = .ok (.dup, 1) := by decide +kernel
theorem dX9_init_107 : decode cX9_init 107 = .ok (.iconst 3, 1) := by decide +kernel
theorem dX9_init_108 : decode cX9_init 108 = .ok (.ldc 50, 2) := by decide +kernel
theorem dX9_init_110 : decode cX9_init 110 = .ok (.aastore, 1) := by decide +kernel
theorem dX9_init_111 : decode cX9_init 111 = .ok (.dup, 1) := by decide +kernel
theorem dX9_init_112 : decode cX9_init 112 = .ok (.iconst 4, 1) := by decide +kernel
theorem dX9_init_113 : decode cX9_init 113 = .ok (.ldc 52, 2) := by decide +kernel
theorem dX9_init_115 : decode cX9_init 115 = .ok (.aastore, 1) := by decide +kernel
theorem dX9_init_116 : decode cX9_init 116 = .ok (.putfield 54, 3) := by decide +kernel
theorem dX9_init_119 : decode cX9_init 119 = .ok (.aload_n 0, 1) := by decide +kernel
theorem dX9_init_120 : decode cX9_init 120 = .ok (.sipush 1400, 3) := by decide +kernel
theorem dX9_init_123 : decode cX9_init 123 = .ok (.newarray .int, 2) := by decide +kernel
theorem dX9_init_125 : decode cX9_init 125 = .ok (.putfield 58, 3) := by decide +kernel
theorem dX9_init_128 : decode cX9_init 128 = .ok (.aload_n 0, 1) := by decide +kernel
theorem dX9_init_129 : decode cX9_init 129 = .ok (.sipush 1400, 3) := by decide +kernel
theorem dX9_init_132 : decode cX9_init 132 = .ok (.newarray .int, 2) := by decide +kernel
theorem dX9_init_134 : decode cX9_init 134 = .ok (.putfield 61, 3) := by decide +kernel
theorem dX9_init_137 : decode cX9_init 137 = .ok (.aload_n 0, 1) := by decide +kernel
theorem dX9_init_138 : decode cX9_init 138 = .ok (.sipush 1400, 3) := by decide +kernel
theorem dX9_init_141 : decode cX9_init 141 = .ok (.newarray .int, 2) := by decide +kernel
theorem dX9_init_143 : decode cX9_init 143 = .ok (.putfield 64, 3) := by decide +kernel
theorem dX9_init_146 : decode cX9_init 146 = .ok (.aload_n 0, 1) := by decide +kernel
theorem dX9_init_147 : decode cX9_init 147 = .ok (.sipush 1400, 3) := by decide +kernel
theorem dX9_init_150 : decode cX9_init 150 = .ok (.newarray .int, 2) := by decide +kernel
theorem dX9_init_152 : decode cX9_init 152 = .ok (.putfield 67, 3) := by decide +kernel
theorem dX9_init_155 : decode cX9_init 155 = .ok (.aload_n 0, 1) := by decide +kernel
theorem dX9_init_156 : decode cX9_init 156 = .ok (.sipush 200, 3) := by decide +kernel
theorem dX9_init_159 : decode cX9_init 159 = .ok (.newarray .int, 2) := by decide +kernel
theorem dX9_init_161 : decode cX9_init 161 = .ok (.putfield 70, 3) := by decide +kernel
theorem dX9_init_164 : decode cX9_init 164 = .ok (.aload_n 0, 1) := by decide +kernel
theorem dX9_init_165 : decode cX9_init 165 = .ok (.sipush 400, 3) := by decide +kernel
theorem dX9_init_168 : decode cX9_init 168 = .ok (.newarray .int, 2) := by decide +kernel
theorem dX9_init_170 : decode cX9_init 170 = .ok (.putfield 73, 3) := by decide +kernel
theorem dX9_init_173 : decode cX9_init 173 = .ok (.aload_n 0, 1) := by decide +kernel
theorem dX9_init_174 : decode cX9_init 174 = .ok (.aload_n 0, 1) := by decide +kernel
theorem dX9_init_175 : decode cX9_init 175 = .ok (.getfield 70, 3) := by decide +kernel
theorem dX9_init_178 : decode cX9_init 178 = .ok (.putfield 76, 3) := by decide +kernel
theorem dX9_init_181 : decode cX9_init 181 = .ok (.aload_n 0, 1) := by decide +kernel
theorem dX9_init_182 : decode cX9_init 182 = .ok (.bipush 40, 2) := by decide +kernel
theorem dX9_init_184 : decode cX9_init 184 = .ok (.newarray .int, 2) := by decide +kernel
theorem dX9_init_186 : decode cX9_init 186 = .ok (.putfield 79, 3) := by decide +kernel
theorem dX9_init_189 : decode cX9_init 189 = .ok (.return_, 1) := by decide +kernel
theorem dX9_thrown_0 : decode cX9_thrown 0 = .ok (.aload_n 0, 1) := by decide +kernel
theorem dX9_thrown_1 : decode cX9_thrown 1 = .ok (.getfield 82, 3) := by decide +kernel
theorem dX9_thrown_4 : decode cX9_thrown 4 = .ok (.ireturn, 1) := by decide +kernel
theorem dX9_in_0 : decode cX9_in 0 = .ok (.iload_n 0, 1) := by decide +kernel
theorem dX9_in_1 : decode cX9_in 1 = .ok (.iload_n 1, 1) := by decide +kernel
theorem dX9_in_2 : decode cX9_in 2 = .ok (.if_icmp .lt 12, 3) := by decide +kernel
theorem dX9_in_5 : decode cX9_in 5 = .ok (.iload_n 0, 1) := by decide +kernel
theorem dX9_in_6 : decode cX9_in 6 = .ok (.iload_n 2, 1) := by decide +kernel
theorem dX9_in_7 : decode cX9_in 7 = .ok (.if_icmp .gt 7, 3) := by decide +kernel
theorem dX9_in_10 : decode cX9_in 10 = .ok (.iconst 1, 1) := by decide +kernel
theorem dX9_in_11 : decode cX9_in 11 = .ok (.goto 4, 3) := by decide +kernel
theorem dX9_in_14 : decode cX9_in 14 = .ok (.iconst 0, 1) := by decide +kernel
theorem dX9_in_15 : decode cX9_in 15 = .ok (.ireturn, 1) := by decide +kernel
theorem dX9_throwsAt_0 : decode cX9_throwsAt 0 = .ok (.aload_n 0, 1) := by decide +kernel
theorem dX9_throwsAt_1 : decode cX9_throwsAt 1 = .ok (.iload_n 1, 1) := by decide +kernel
theorem dX9_throwsAt_2 : decode cX9_throwsAt 2 = .ok (.putfield 82, 3) := by decide +kernel
theorem dX9_throwsAt_5 : decode cX9_throwsAt 5 = .ok (.iconst 0, 1) := by decide +kernel
theorem dX9_throwsAt_6 : decode cX9_throwsAt 6 = .ok (.ireturn, 1) := by decide +kernel
theorem dX9_four_0 : decode cX9_four 0 = .ok (.bipush 24, 2) := by decide +kernel
theorem dX9_four_2 : decode cX9_four 2 = .ok (.istore_n 2, 1) := by decide +kernel
theorem dX9_four_3 : decode cX9_four 3 = .ok (.iload_n 2, 1) := by decide +kernel
theorem dX9_four_4 : decode cX9_four 4 = .ok (.ifCond .lt 35, 3) := by decide +kernel
theorem dX9_four_7 : decode cX9_four 7 = .ok (.aload_n 0, 1) := by decide +kernel
theorem dX9_four_8 : decode cX9_four 8 = .ok (.getfield 9, 3) := by decide +kernel
theorem dX9_four_11 : decode cX9_four 11 = .ok (.aload_n 0, 1) := by decide +kernel
theorem dX9_four_12 : decode cX9_four 12 = .ok (.getfield 85, 3) := by decide +kernel
theorem dX9_four_15 : decode cX9_four 15 = .ok (.iload_n 1, 1) := by decide +kernel
theorem dX9_four_16 : decode cX9_four 16 = .ok (.iload_n 2, 1) := by decide +kernel
theorem dX9_four_17 : decode cX9_four 17 = .ok (.ishr, 1) := by decide +kernel
theorem dX9_four_18 : decode cX9_four 18 = .ok (.sipush 255, 3) := by decide +kernel
theorem dX9_four_21 : decode cX9_four 21 = .ok (.iand, 1) := by decide +kernel
theorem dX9_four_22 : decode cX9_four 22 = .ok (.iastore, 1) := by decide +kernel
theorem dX9_four_23 : decode cX9_four 23 = .ok (.aload_n 0, 1) := by decide +kernel
theorem dX9_four_24 : decode cX9_four 24 = .ok (.dup, 1) := by decide +kernel
theorem dX9_four_25 : decode cX9_four 25 = .ok (.getfield 85, 3) := by decide +kernel
theorem dX9_four_28 : decode cX9_four 28 = .ok (.iconst 1, 1) := by decide +kernel
theorem dX9_four_29 : decode cX9_four 29 = .ok (.iadd, 1) := by decide +kernel
theorem dX9_four_30 : decode cX9_four 30 = .ok (.putfield 85, 3) := by decide +kernel
theorem dX9_four_33 : decode cX9_four 33 = .ok (.iinc 2 (-8), 3) := by decide +kernel
theorem dX9_four_36 : decode cX9_four 36 = .ok (.goto (-33), 3) := by decide +kernel
theorem dX9_four_39 : decode cX9_four 39 = .ok (.return_, 1) := by decide +kernel
theorem dX9_append_0 : decode cX9_append 0 = .ok (.aload_n 0, 1) := by decide +kernel
theorem dX9_append_1 : decode cX9_append 1 = .ok (.iconst 0, 1) := by decide +kernel
theorem dX9_append_2 : decode cX9_append 2 = .ok (.putfield 82, 3) := by decide +kernel
theorem dX9_append_5 : decode cX9_append 5 = .ok (.aload_n 0, 1) := by decide +kernel
theorem dX9_append_6 : decode cX9_append 6 = .ok (.getfield 85, 3) := by decide +kernel
theorem dX9_append_9 : decode cX9_append 9 = .ok (.bipush 20, 2) := by decide +kernel
theorem dX9_append_11 : decode cX9_append 11 = .ok (.iadd, 1) := by decide +kernel
theorem dX9_append_12 : decode cX9_append 12 = .ok (.sipush 1200, 3) := by decide +kernel
theorem dX9_append_15 : decode cX9_append 15 = .ok (.if_icmp .le 5, 3) := by decide +kernel
theorem dX9_append_18 : decode cX9_append 18 = .ok (.iconst (-1), 1) := by decide +kernel
theorem dX9_append_19 : decode cX9_append 19 = .ok (.ireturn, 1) := by decide +kernel
theorem dX9_append_20 : decode cX9_append 20 = .ok (.aload_n 0, 1) := by decide +kernel
theorem dX9_append_21 : decode cX9_append 21 = .ok (.iload_n 1, 1) := by decide +kernel
theorem dX9_append_22 : decode cX9_append 22 = .ok (.invokevirtual 88, 3) := by decide +kernel
theorem dX9_append_25 : decode cX9_append 25 = .ok (.aload_n 0, 1) := by decide +kernel
theorem dX9_append_26 : decode cX9_append 26 = .ok (.iload_n 2, 1) := by decide +kernel
theorem dX9_append_27 : decode cX9_append 27 = .ok (.invokevirtual 88, 3) := by decide +kernel
theorem dX9_append_30 : decode cX9_append 30 = .ok (.aload_n 0, 1) := by decide +kernel
theorem dX9_append_31 : decode cX9_append 31 = .ok (.iload_n 3, 1) := by decide +kernel
theorem dX9_append_32 : decode cX9_append 32 = .ok (.invokevirtual 88, 3) := by decide +kernel
theorem dX9_append_35 : decode cX9_append 35 = .ok (.aload_n 0, 1) := by decide +kernel
theorem dX9_append_36 : decode cX9_append 36 = .ok (.iload 4, 2) := by decide +kernel
theorem dX9_append_38 : decode cX9_append 38 = .ok (.invokevirtual 88, 3) := by decide +kernel
theorem dX9_append_41 : decode cX9_append 41 = .ok (.aload_n 0, 1) := by decide +kernel
theorem dX9_append_42 : decode cX9_append 42 = .ok (.iload 5, 2) := by decide +kernel
theorem dX9_append_44 : decode cX9_append 44 = .ok (.invokevirtual 88, 3) := by decide +kernel
theorem dX9_append_47 : decode cX9_append 47 = .ok (.aload_n 0, 1) := by decide +kernel
theorem dX9_append_48 : decode cX9_append 48 = .ok (.getfield 85, 3) := by decide +kernel
theorem dX9_append_51 : decode cX9_append 51 = .ok (.ireturn, 1) := by decide +kernel
theorem dX9_buffered_0 : decode cX9_buffered 0 = .ok (.aload_n 0, 1) := by decide +kernel
theorem dX9_buffered_1 : decode cX9_buffered 1 = .ok (.iconst 0, 1) := by decide +kernel
theorem dX9_buffered_2 : decode cX9_buffered 2 = .ok (.putfield 82, 3) := by decide +kernel
theorem dX9_buffered_5 : decode cX9_buffered 5 = .ok (.aload_n 0, 1) := by decide +kernel
theorem dX9_buffered_6 : decode cX9_buffered 6 = .ok (.getfield 85, 3) := by decide +kernel
theorem dX9_buffered_9 : decode cX9_buffered 9 = .ok (.ireturn, 1) := by decide +kernel
theorem dX9_parseError_0 : decode cX9_parseError 0 = .ok (.aload_n 0, 1) := by decide +kernel
theorem dX9_parseError_1 : decode cX9_parseError 1 = .ok (.iconst 0, 1) := by decide +kernel
theorem dX9_parseError_2 : decode cX9_parseError 2 = .ok (.putfield 82, 3) := by decide +kernel
theorem dX9_parseError_5 : decode cX9_parseError 5 = .ok (.aload_n 0, 1) := by decide +kernel
theorem dX9_parseError_6 : decode cX9_parseError 6 = .ok (.getfield 92, 3) := by decide +kernel
theorem dX9_parseError_9 : decode cX9_parseError 9 = .ok (.ireturn, 1) := by decide +kernel
theorem dX9_errorPosition_0 : decode cX9_errorPosition 0 = .ok (.aload_n 0, 1) := by decide +kernel
theorem dX9_errorPosition_1 : decode cX9_errorPosition 1 = .ok (.iconst 0, 1) := by decide +kernel
theorem dX9_errorPosition_2 : decode cX9_errorPosition 2 = .ok (.putfield 82, 3) := by decide +kernel
theorem dX9_errorPosition_5 : decode cX9_errorPosition 5 = .ok (.aload_n 0, 1) := by decide +kernel
theorem dX9_errorPosition_6 : decode cX9_errorPosition 6 = .ok (.getfield 13, 3) := by decide +kernel
theorem dX9_errorPosition_9 : decode cX9_errorPosition 9 = .ok (.ireturn, 1) := by decide +kernel
theorem dX9_byteAt_0 : decode cX9_byteAt 0 = .ok (.iload_n 1, 1) := by decide +kernel
theorem dX9_byteAt_1 : decode cX9_byteAt 1 = .ok (.aload_n 0, 1) := by decide +kernel
theorem dX9_byteAt_2 : decode cX9_byteAt 2 = .ok (.getfield 95, 3) := by decide +kernel
theorem dX9_byteAt_5 : decode cX9_byteAt 5 = .ok (.if_icmp .ge 12, 3) := by decide +kernel
theorem dX9_byteAt_8 : decode cX9_byteAt 8 = .ok (.aload_n 0, 1) := by decide +kernel
theorem dX9_byteAt_9 : decode cX9_byteAt 9 = .ok (.getfield 9, 3) := by decide +kernel
theorem dX9_byteAt_12 : decode cX9_byteAt 12 = .ok (.iload_n 1, 1) := by decide +kernel
theorem dX9_byteAt_13 : decode cX9_byteAt 13 = .ok (.iaload, 1) := by decide +kernel
theorem dX9_byteAt_14 : decode cX9_byteAt 14 = .ok (.goto 4, 3) := by decide +kernel
theorem dX9_byteAt_17 : decode cX9_byteAt 17 = .ok (.iconst (-1), 1) := by decide +kernel
theorem dX9_byteAt_18 : decode cX9_byteAt 18 = .ok (.ireturn, 1) := by decide +kernel
theorem dX9_faults_0 : decode cX9_faults 0 = .ok (.aload_n 0, 1) := by decide +kernel
theorem dX9_faults_1 : decode cX9_faults 1 = .ok (.getfield 92, 3) := by decide +kernel
theorem dX9_faults_4 : decode cX9_faults 4 = .ok (.ifCond .le 4, 3) := by decide +kernel
theorem dX9_faults_7 : decode cX9_faults 7 = .ok (.return_, 1) := by decide +kernel
theorem dX9_faults_8 : decode cX9_faults 8 = .ok (.aload_n 0, 1) := by decide +kernel
theorem dX9_faults_9 : decode cX9_faults 9 = .ok (.iload_n 1, 1) := by decide +kernel
theorem dX9_faults_10 : decode cX9_faults 10 = .ok (.putfield 92, 3) := by decide +kernel
theorem dX9_faults_13 : decode cX9_faults 13 = .ok (.aload_n 0, 1) := by decide +kernel
theorem dX9_faults_14 : decode cX9_faults 14 = .ok (.aload_n 0, 1) := by decide +kernel
theorem dX9_faults_15 : decode cX9_faults 15 = .ok (.getfield 98, 3) := by decide +kernel
theorem dX9_faults_18 : decode cX9_faults 18 = .ok (.putfield 13, 3) := by decide +kernel
theorem dX9_faults_21 : decode cX9_faults 21 = .ok (.return_, 1) := by decide +kernel
theorem dX9_isSign_0 : decode cX9_isSign 0 = .ok (.iload_n 0, 1) := by decide +kernel
theorem dX9_isSign_1 : decode cX9_isSign 1 = .ok (.bipush 59, 2) := by decide +kernel
theorem dX9_isSign_3 : decode cX9_isSign 3 = .ok (.if_icmp .eq 33, 3) := by decide +kernel
theorem dX9_isSign_6 : decode cX9_isSign 6 = .ok (.iload_n 0, 1) := by decide +kernel
theorem dX9_isSign_7 : decode cX9_isSign 7 = .ok (.bipush 40, 2) := by decide +kernel
theorem dX9_isSign_9 : decode cX9_isSign 9 = .ok (.if_icmp .eq 27, 3) := by decide +kernel
theorem dX9_isSign_12 : decode cX9_isSign 12 = .ok (.iload_n 0, 1) := by decide +kernel
theorem dX9_isSign_13 : decode cX9_isSign 13 = .ok (.bipush 41, 2) := by decide +kernel
theorem dX9_isSign_15 : decode cX9_isSign 15 = .ok (.if_icmp .eq 21, 3) := by decide +kernel
theorem dX9_isSign_18 : decode cX9_isSign 18 = .ok (.iload_n 0, 1) := by decide +kernel
theorem dX9_isSign_19 : decode cX9_isSign 19 = .ok (.bipush 60, 2) := by decide +kernel
theorem dX9_isSign_21 : decode cX9_isSign 21 = .ok (.if_icmp .eq 15, 3) := by decide +kernel
theorem dX9_isSign_24 : decode cX9_isSign 24 = .ok (.iload_n 0, 1) := by decide +kernel
theorem dX9_isSign_25 : decode cX9_isSign 25 = .ok (.bipush 62, 2) := by decide +kernel
theorem dX9_isSign_27 : decode cX9_isSign 27 = .ok (.if_icmp .eq 9, 3) := by decide +kernel
theorem dX9_isSign_30 : decode cX9_isSign 30 = .ok (.iload_n 0, 1) := by decide +kernel
theorem dX9_isSign_31 : decode cX9_isSign 31 = .ok (.bipush 61, 2) := by decide +kernel
theorem dX9_isSign_33 : decode cX9_isSign 33 = .ok (.if_icmp .ne 7, 3) := by decide +kernel
theorem dX9_isSign_36 : decode cX9_isSign 36 = .ok (.iconst 1, 1) := by decide +kernel
theorem dX9_isSign_37 : decode cX9_isSign 37 = .ok (.goto 4, 3) := by decide +kernel
theorem dX9_isSign_40 : decode cX9_isSign 40 = .ok (.iconst 0, 1) := by decide +kernel
theorem dX9_isSign_41 : decode cX9_isSign 41 = .ok (.ireturn, 1) := by decide +kernel
theorem dX9_nextToken_0 : decode cX9_nextToken 0 = .ok (.aload_n 0, 1) := by decide +kernel
theorem dX9_nextToken_1 : decode cX9_nextToken 1 = .ok (.getfield 92, 3) := by decide +kernel
theorem dX9_nextToken_4 : decode cX9_nextToken 4 = .ok (.ifCond .le 4, 3) := by decide +kernel
theorem dX9_nextToken_7 : decode cX9_nextToken 7 = .ok (.return_, 1) := by decide +kernel
theorem dX9_nextToken_8 : decode cX9_nextToken 8 = .ok (.aload_n 0, 1) := by decide +kernel
theorem dX9_nextToken_9 : decode cX9_nextToken 9 = .ok (.aload_n 0, 1) := by decide +kernel
theorem dX9_nextToken_10 : decode cX9_nextToken 10 = .ok (.getfield 101, 3) := by decide +kernel
theorem dX9_nextToken_13 : decode cX9_nextToken 13 = .ok (.invokevirtual 104, 3) := by decide +kernel
theorem dX9_nextToken_16 : decode cX9_nextToken 16 = .ok (.bipush 32, 2) := by decide +kernel
theorem dX9_nextToken_18 : decode cX9_nextToken 18 = .ok (.if_icmp .ne 16, 3) := by decide +kernel
theorem dX9_nextToken_21 : decode cX9_nextToken 21 = .ok (.aload_n 0, 1) := by decide +kernel
theorem dX9_nextToken_22 : decode cX9_nextToken 22 = .ok (.dup, 1) := by decide +kernel
theorem dX9_nextToken_23 : decode cX9_nextToken 23 = .ok (.getfield 101, 3) := by decide +kernel
theorem dX9_nextToken_26 : decode cX9_nextToken 26 = .ok (.iconst 1, 1) := by decide +kernel
theorem dX9_nextToken_27 : decode cX9_nextToken 27 = .ok (.iadd, 1) := by decide +kernel
theorem dX9_nextToken_28 : decode cX9_nextToken 28 = .ok (.putfield 101, 3) := by decide +kernel
theorem dX9_nextToken_31 : decode cX9_nextToken 31 = .ok (.goto (-23), 3) := by decide +kernel
theorem dX9_nextToken_34 : decode cX9_nextToken 34 = .ok (.aload_n 0, 1) := by decide +kernel
theorem dX9_nextToken_35 : decode cX9_nextToken 35 = .ok (.aload_n 0, 1) := by decide +kernel
theorem dX9_nextToken_36 : decode cX9_nextToken 36 = .ok (.getfield 101, 3) := by decide +kernel
theorem dX9_nextToken_39 : decode cX9_nextToken 39 = .ok (.putfield 98, 3) := by decide +kernel
theorem dX9_nextToken_42 : decode cX9_nextToken 42 = .ok (.aload_n 0, 1) := by decide +kernel
theorem dX9_nextToken_43 : decode cX9_nextToken 43 = .ok (.getfield 101, 3) := by decide +kernel
theorem dX9_nextToken_46 : decode cX9_nextToken 46 = .ok (.aload_n 0, 1) := by decide +kernel
theorem dX9_nextToken_47 : decode cX9_nextToken 47 = .ok (.getfield 95, 3) := by decide +kernel
theorem dX9_nextToken_50 : decode cX9_nextToken 50 = .ok (.if_icmp .ne 11, 3) := by decide +kernel
theorem dX9_nextToken_53 : decode cX9_nextToken 53 = .ok (.aload_n 0, 1) := by decide +kernel
theorem dX9_nextToken_54 : decode cX9_nextToken 54 = .ok (.iconst 1, 1) := by decide +kernel
theorem dX9_nextToken_55 : decode cX9_nextToken 55 = .ok (.putfield 108, 3) := by decide +kernel
theorem dX9_nextToken_58 : decode cX9_nextToken 58 = .ok (.goto 234, 3) := by decide +kernel
theorem dX9_nextToken_61 : decode cX9_nextToken 61 = .ok (.aload_n 0, 1) := by decide +kernel
theorem dX9_nextToken_62 : decode cX9_nextToken 62 = .ok (.aload_n 0, 1) := by decide +kernel
theorem dX9_nextToken_63 : decode cX9_nextToken 63 = .ok (.getfield 101, 3) := by decide +kernel
theorem dX9_nextToken_66 : decode cX9_nextToken 66 = .ok (.invokevirtual 104, 3) := by decide +kernel
theorem dX9_nextToken_69 : decode cX9_nextToken 69 = .ok (.bipush 97, 2) := by decide +kernel
theorem dX9_nextToken_71 : decode cX9_nextToken 71 = .ok (.bipush 122, 2) := by decide +kernel
theorem dX9_nextToken_73 : decode cX9_nextToken 73 = .ok (.invokestatic 111, 3) := by decide +kernel
theorem dX9_nextToken_76 : decode cX9_nextToken 76 = .ok (.ifCond .eq 60, 3) := by decide +kernel
theorem dX9_nextToken_79 : decode cX9_nextToken 79 = .ok (.aload_n 0, 1) := by decide +kernel
theorem dX9_nextToken_80 : decode cX9_nextToken 80 = .ok (.aload_n 0, 1) := by decide +kernel
theorem dX9_nextToken_81 : decode cX9_nextToken 81 = .ok (.getfield 101, 3) := by decide +kernel
theorem dX9_nextToken_84 : decode cX9_nextToken 84 = .ok (.invokevirtual 104, 3) := by decide +kernel
theorem dX9_nextToken_87 : decode cX9_nextToken 87 = .ok (.bipush 97, 2) := by decide +kernel
theorem dX9_nextToken_89 : decode cX9_nextToken 89 = .ok (.bipush 122, 2) := by decide +kernel
theorem dX9_nextToken_91 : decode cX9_nextToken 91 = .ok (.invokestatic 111, 3) := by decide +kernel
theorem dX9_nextToken_94 : decode cX9_nextToken 94 = .ok (.ifCond .eq 16, 3) := by decide +kernel
theorem dX9_nextToken_97 : decode cX9_nextToken 97 = .ok (.aload_n 0, 1) := by decide +kernel
theorem dX9_nextToken_98 : decode cX9_nextToken 98 = .ok (.dup, 1) := by decide +kernel
theorem dX9_nextToken_99 : decode cX9_nextToken 99 = .ok (.getfield 101, 3) := by decide +kernel
theorem dX9_nextToken_102 : decode cX9_nextToken 102 = .ok (.iconst 1, 1) := by decide +kernel
theorem dX9_nextToken_103 : decode cX9_nextToken 103 = .ok (.iadd, 1) := by decide +kernel
theorem dX9_nextToken_104 : decode cX9_nextToken 104 = .ok (.putfield 101, 3) := by decide +kernel
theorem dX9_nextToken_107 : decode cX9_nextToken 107 = .ok (.goto (-28), 3) := by decide +kernel
theorem dX9_nextToken_110 : decode cX9_nextToken 110 = .ok (.aload_n 0, 1) := by decide +kernel
theorem dX9_nextToken_111 : decode cX9_nextToken 111 = .ok (.aload_n 0, 1) := by decide +kernel
theorem dX9_nextToken_112 : decode cX9_nextToken 112 = .ok (.getfield 101, 3) := by decide +kernel
theorem dX9_nextToken_115 : decode cX9_nextToken 115 = .ok (.aload_n 0, 1) := by decide +kernel
theorem dX9_nextToken_116 : decode cX9_nextToken 116 = .ok (.getfield 98, 3) := by decide +kernel
theorem dX9_nextToken_119 : decode cX9_nextToken 119 = .ok (.isub, 1) := by decide +kernel
theorem dX9_nextToken_120 : decode cX9_nextToken 120 = .ok (.bipush 8, 2) := by decide +kernel
theorem dX9_nextToken_122 : decode cX9_nextToken 122 = .ok (.if_icmp .le 7, 3) := by decide +kernel
theorem dX9_nextToken_125 : decode cX9_nextToken 125 = .ok (.iconst 0, 1) := by decide +kernel
theorem dX9_nextToken_126 : decode cX9_nextToken 126 = .ok (.goto 4, 3) := by decide +kernel
theorem dX9_nextToken_129 : decode cX9_nextToken 129 = .ok (.iconst 2, 1) := by decide +kernel
theorem dX9_nextToken_130 : decode cX9_nextToken 130 = .ok (.putfield 108, 3) := by decide +kernel
theorem dX9_nextToken_133 : decode cX9_nextToken 133 = .ok (.goto 159, 3) := by decide +kernel
theorem dX9_nextToken_136 : decode cX9_nextToken 136 = .ok (.aload_n 0, 1) := by decide +kernel
theorem dX9_nextToken_137 : decode cX9_nextToken 137 = .ok (.aload_n 0, 1) := by decide +kernel
theorem dX9_nextToken_138 : decode cX9_nextToken 138 = .ok (.getfield 101, 3) := by decide +kernel
theorem dX9_nextToken_141 : decode cX9_nextToken 141 = .ok (.invokevirtual 104, 3) := by decide +kernel
theorem dX9_nextToken_144 : decode cX9_nextToken 144 = .ok (.bipush 48, 2) := by decide +kernel
theorem dX9_nextToken_146 : decode cX9_nextToken 146 = .ok (.bipush 57, 2) := by decide +kernel
theorem dX9_nextToken_148 : decode cX9_nextToken 148 = .ok (.invokestatic 111, 3) := by decide +kernel
theorem dX9_nextToken_151 : decode cX9_nextToken 151 = .ok (.ifCond .eq 100, 3) := by decide +kernel
theorem dX9_nextToken_154 : decode cX9_nextToken 154 = .ok (.aload_n 0, 1) := by decide +kernel
theorem dX9_nextToken_155 : decode cX9_nextToken 155 = .ok (.iconst 0, 1) := by decide +kernel
theorem dX9_nextToken_156 : decode cX9_nextToken 156 = .ok (.putfield 115, 3) := by decide +kernel
theorem dX9_nextToken_159 : decode cX9_nextToken 159 = .ok (.aload_n 0, 1) := by decide +kernel
theorem dX9_nextToken_160 : decode cX9_nextToken 160 = .ok (.aload_n 0, 1) := by decide +kernel
theorem dX9_nextToken_161 : decode cX9_nextToken 161 = .ok (.getfield 101, 3) := by decide +kernel
theorem dX9_nextToken_164 : decode cX9_nextToken 164 = .ok (.invokevirtual 104, 3) := by decide +kernel
theorem dX9_nextToken_167 : decode cX9_nextToken 167 = .ok (.bipush 48, 2) := by decide +kernel
theorem dX9_nextToken_169 : decode cX9_nextToken 169 = .ok (.bipush 57, 2) := by decide +kernel
theorem dX9_nextToken_171 : decode cX9_nextToken 171 = .ok (.invokestatic 111, 3) := by decide +kernel
theorem dX9_nextToken_174 : decode cX9_nextToken 174 = .ok (.ifCond .eq 52, 3) := by decide +kernel
theorem dX9_nextToken_177 : decode cX9_nextToken 177 = .ok (.aload_n 0, 1) := by decide +kernel
theorem dX9_nextToken_178 : decode cX9_nextToken 178 = .ok (.getfield 101, 3) := by decide +kernel
theorem dX9_nextToken_181 : decode cX9_nextToken 181 = .ok (.aload_n 0, 1) := by decide +kernel
theorem dX9_nextToken_182 : decode cX9_nextToken 182 = .ok (.getfield 98, 3) := by decide +kernel
theorem dX9_nextToken_185 : decode cX9_nextToken 185 = .ok (.isub, 1) := by decide +kernel
theorem dX9_nextToken_186 : decode cX9_nextToken 186 = .ok (.iconst 5, 1) := by decide +kernel
theorem dX9_nextToken_187 : decode cX9_nextToken 187 = .ok (.if_icmp .ge 26, 3) := by decide +kernel
theorem dX9_nextToken_190 : decode cX9_nextToken 190 = .ok (.aload_n 0, 1) := by decide +kernel
theorem dX9_nextToken_191 : decode cX9_nextToken 191 = .ok (.bipush 10, 2) := by decide +kernel
theorem dX9_nextToken_193 : decode cX9_nextToken 193 = .ok (.aload_n 0, 1) := by decide +kernel
theorem dX9_nextToken_194 : decode cX9_nextToken 194 = .ok (.getfield 115, 3) := by decide +kernel
theorem dX9_nextToken_197 : decode cX9_nextToken 197 = .ok (.imul, 1) := by decide +kernel
theorem dX9_nextToken_198 : decode cX9_nextToken 198 = .ok (.aload_n 0, 1) := by decide +kernel
theorem dX9_nextToken_199 : decode cX9_nextToken 199 = .ok (.aload_n 0, 1) := by decide +kernel
theorem dX9_nextToken_200 : decode cX9_nextToken 200 = .ok (.getfield 101, 3) := by decide +kernel
theorem dX9_nextToken_203 : decode cX9_nextToken 203 = .ok (.invokevirtual 104, 3) := by decide +kernel
theorem dX9_nextToken_206 : decode cX9_nextToken 206 = .ok (.iadd, 1) := by decide +kernel
theorem dX9_nextToken_207 : decode cX9_nextToken 207 = .ok (.bipush 48, 2) := by decide +kernel
theorem dX9_nextToken_209 : decode cX9_nextToken 209 = .ok (.isub, 1) := by decide +kernel
theorem dX9_nextToken_210 : decode cX9_nextToken 210 = .ok (.putfield 115, 3) := by decide +kernel
theorem dX9_nextToken_213 : decode cX9_nextToken 213 = .ok (.aload_n 0, 1) := by decide +kernel
theorem dX9_nextToken_214 : decode cX9_nextToken 214 = .ok (.dup, 1) := by decide +kernel
theorem dX9_nextToken_215 : decode cX9_nextToken 215 = .ok (.getfield 101, 3) := by decide +kernel
theorem dX9_nextToken_218 : decode cX9_nextToken 218 = .ok (.iconst 1, 1) := by decide +kernel
theorem dX9_nextToken_219 : decode cX9_nextToken 219 = .ok (.iadd, 1) := by decide +kernel
theorem dX9_nextToken_220 : decode cX9_nextToken 220 = .ok (.putfield 101, 3) := by decide +kernel
theorem dX9_nextToken_223 : decode cX9_nextToken 223 = .ok (.goto (-64), 3) := by decide +kernel
theorem dX9_nextToken_226 : decode cX9_nextToken 226 = .ok (.aload_n 0, 1) := by decide +kernel
theorem dX9_nextToken_227 : decode cX9_nextToken 227 = .ok (.aload_n 0, 1) := by decide +kernel
theorem dX9_nextToken_228 : decode cX9_nextToken 228 = .ok (.getfield 101, 3) := by decide +kernel
theorem dX9_nextToken_231 : decode cX9_nextToken 231 = .ok (.aload_n 0, 1) := by decide +kernel
theorem dX9_nextToken_232 : decode cX9_nextToken 232 = .ok (.getfield 98, 3) := by decide +kernel
theorem dX9_nextToken_235 : decode cX9_nextToken 235 = .ok (.isub, 1) := by decide +kernel
theorem dX9_nextToken_236 : decode cX9_nextToken 236 = .ok (.iconst 5, 1) := by decide +kernel
theorem dX9_nextToken_237 : decode cX9_nextToken 237 = .ok (.if_icmp .le 7, 3) := by decide +kernel
theorem dX9_nextToken_240 : decode cX9_nextToken 240 = .ok (.iconst 0, 1) := by decide +kernel
theorem dX9_nextToken_241 : decode cX9_nextToken 241 = .ok (.goto 4, 3) := by decide +kernel
theorem dX9_nextToken_244 : decode cX9_nextToken 244 = .ok (.iconst 3, 1) := by decide +kernel
theorem dX9_nextToken_245 : decode cX9_nextToken 245 = .ok (.putfield 108, 3) := by decide +kernel
theorem dX9_nextToken_248 : decode cX9_nextToken 248 = .ok (.goto 44, 3) := by decide +kernel
theorem dX9_nextToken_251 : decode cX9_nextToken 251 = .ok (.aload_n 0, 1) := by decide +kernel
theorem dX9_nextToken_252 : decode cX9_nextToken 252 = .ok (.aload_n 0, 1) := by decide +kernel
theorem dX9_nextToken_253 : decode cX9_nextToken 253 = .ok (.aload_n 0, 1) := by decide +kernel
theorem dX9_nextToken_254 : decode cX9_nextToken 254 = .ok (.getfield 101, 3) := by decide +kernel
theorem dX9_nextToken_257 : decode cX9_nextToken 257 = .ok (.invokevirtual 104, 3) := by decide +kernel
theorem dX9_nextToken_260 : decode cX9_nextToken 260 = .ok (.putfield 115, 3) := by decide +kernel
theorem dX9_nextToken_263 : decode cX9_nextToken 263 = .ok (.aload_n 0, 1) := by decide +kernel
theorem dX9_nextToken_264 : decode cX9_nextToken 264 = .ok (.aload_n 0, 1) := by decide +kernel
theorem dX9_nextToken_265 : decode cX9_nextToken 265 = .ok (.getfield 115, 3) := by decide +kernel
theorem dX9_nextToken_268 : decode cX9_nextToken 268 = .ok (.invokestatic 118, 3) := by decide +kernel
theorem dX9_nextToken_271 : decode cX9_nextToken 271 = .ok (.ifCond .eq 7, 3) := by decide +kernel
theorem dX9_nextToken_274 : decode cX9_nextToken 274 = .ok (.iconst 4, 1) := by decide +kernel
theorem dX9_nextToken_275 : decode cX9_nextToken 275 = .ok (.goto 4, 3) := by decide +kernel
theorem dX9_nextToken_278 : decode cX9_nextToken 278 = .ok (.iconst 0, 1) := by decide +kernel
theorem dX9_nextToken_279 : decode cX9_nextToken 279 = .ok (.putfield 108, 3) := by decide +kernel
theorem dX9_nextToken_282 : decode cX9_nextToken 282 = .ok (.aload_n 0, 1) := by decide +kernel
theorem dX9_nextToken_283 : decode cX9_nextToken 283 = .ok (.dup, 1) := by decide +kernel
theorem dX9_nextToken_284 : decode cX9_nextToken 284 = .ok (.getfield 101, 3) := by decide +kernel
theorem dX9_nextToken_287 : decode cX9_nextToken 287 = .ok (.iconst 1, 1) := by decide +kernel
theorem dX9_nextToken_288 : decode cX9_nextToken 288 = .ok (.iadd, 1) := by decide +kernel
theorem dX9_nextToken_289 : decode cX9_nextToken 289 = .ok (.putfield 101, 3) := by decide +kernel
theorem dX9_nextToken_292 : decode cX9_nextToken 292 = .ok (.return_, 1) := by decide +kernel
theorem dX9_isSignHere_0 : decode cX9_isSignHere 0 = .ok (.aload_n 0, 1) := by decide +kernel
theorem dX9_isSignHere_1 : decode cX9_isSignHere 1 = .ok (.getfield 92, 3) := by decide +kernel
theorem dX9_isSignHere_4 : decode cX9_isSignHere 4 = .ok (.ifCond .ne 23, 3) := by decide +kernel
theorem dX9_isSignHere_7 : decode cX9_isSignHere 7 = .ok (.aload_n 0, 1) := by decide +kernel
theorem dX9_isSignHere_8 : decode cX9_isSignHere 8 = .ok (.getfield 108, 3) := by decide +kernel
theorem dX9_isSignHere_11 : decode cX9_isSignHere 11 = .ok (.iconst 4, 1) := by decide +kernel
theorem dX9_isSignHere_12 : decode cX9_isSignHere 12 = .ok (.if_icmp .ne 15, 3) := by decide +kernel
theorem dX9_isSignHere_15 : decode cX9_isSignHere 15 = .ok (.aload_n 0, 1) := by decide +kernel
theorem dX9_isSignHere_16 : decode cX9_isSignHere 16 = .ok (.getfield 115, 3) := by decide +kernel
theorem dX9_isSignHere_19 : decode cX9_isSignHere 19 = .ok (.iload_n 1, 1) := by decide +kernel
theorem dX9_isSignHere_20 : decode cX9_isSignHere 20 = .ok (.if_icmp .ne 7, 3) := by decide +kernel
theorem dX9_isSignHere_23 : decode cX9_isSignHere 23 = .ok (.iconst 1, 1) := by decide +kernel
theorem dX9_isSignHere_24 : decode cX9_isSignHere 24 = .ok (.goto 4, 3) := by decide +kernel
theorem dX9_isSignHere_27 : decode cX9_isSignHere 27 = .ok (.iconst 0, 1) := by decide +kernel
theorem dX9_isSignHere_28 : decode cX9_isSignHere 28 = .ok (.ireturn, 1) := by decide +kernel
theorem dX9_isWord_0 : decode cX9_isWord 0 = .ok (.aload_n 0, 1) := by decide +kernel
theorem dX9_isWord_1 : decode cX9_isWord 1 = .ok (.getfield 92, 3) := by decide +kernel
theorem dX9_isWord_4 : decode cX9_isWord 4 = .ok (.ifCond .gt 27, 3) := by decide +kernel
theorem dX9_isWord_7 : decode cX9_isWord 7 = .ok (.aload_n 0, 1) := by decide +kernel
theorem dX9_isWord_8 : decode cX9_isWord 8 = .ok (.getfield 108, 3) := by decide +kernel
theorem dX9_isWord_11 : decode cX9_isWord 11 = .ok (.iconst 2, 1) := by decide +kernel
theorem dX9_isWord_12 : decode cX9_isWord 12 = .ok (.if_icmp .ne 19, 3) := by decide +kernel
theorem dX9_isWord_15 : decode cX9_isWord 15 = .ok (.aload_n 0, 1) := by decide +kernel
theorem dX9_isWord_16 : decode cX9_isWord 16 = .ok (.getfield 101, 3) := by decide +kernel
theorem dX9_isWord_19 : decode cX9_isWord 19 = .ok (.aload_n 0, 1) := by decide +kernel
theorem dX9_isWord_20 : decode cX9_isWord 20 = .ok (.getfield 98, 3) := by decide +kernel
theorem dX9_isWord_23 : decode cX9_isWord 23 = .ok (.isub, 1) := by decide +kernel
theorem dX9_isWord_24 : decode cX9_isWord 24 = .ok (.aload_n 1, 1) := by decide +kernel
theorem dX9_isWord_25 : decode cX9_isWord 25 = .ok (.invokevirtual 122, 3) := by decide +kernel
theorem dX9_isWord_28 : decode cX9_isWord 28 = .ok (.if_icmp .eq 5, 3) := by decide +kernel
theorem dX9_isWord_31 : decode cX9_isWord 31 = .ok (.iconst 0, 1) := by decide +kernel
theorem dX9_isWord_32 : decode cX9_isWord 32 = .ok (.ireturn, 1) := by decide +kernel
theorem dX9_isWord_33 : decode cX9_isWord 33 = .ok (.iconst 0, 1) := by decide +kernel
theorem dX9_isWord_34 : decode cX9_isWord 34 = .ok (.istore_n 2, 1) := by decide +kernel
theorem dX9_isWord_35 : decode cX9_isWord 35 = .ok (.iload_n 2, 1) := by decide +kernel
theorem dX9_isWord_36 : decode cX9_isWord 36 = .ok (.aload_n 1, 1) := by decide +kernel
theorem dX9_isWord_37 : decode cX9_isWord 37 = .ok (.invokevirtual 122, 3) := by decide +kernel
theorem dX9_isWord_40 : decode cX9_isWord 40 = .ok (.if_icmp .ge 30, 3) := by decide +kernel
theorem dX9_isWord_43 : decode cX9_isWord 43 = .ok (.aload_n 0, 1) := by decide +kernel
theorem dX9_isWord_44 : decode cX9_isWord 44 = .ok (.getfield 9, 3) := by decide +kernel
theorem dX9_isWord_47 : decode cX9_isWord 47 = .ok (.aload_n 0, 1) := by decide +kernel
theorem dX9_isWord_48 : decode cX9_isWord 48 = .ok (.getfield 98, 3) := by decide +kernel
theorem dX9_isWord_51 : decode cX9_isWord 51 = .ok (.iload_n 2, 1) := by decide +kernel
theorem dX9_isWord_52 : decode cX9_isWord 52 = .ok (.iadd, 1) := by decide +kernel
theorem dX9_isWord_53 : decode cX9_isWord 53 = .ok (.iaload, 1) := by decide +kernel
theorem dX9_isWord_54 : decode cX9_isWord 54 = .ok (.aload_n 1, 1) := by decide +kernel
theorem dX9_isWord_55 : decode cX9_isWord 55 = .ok (.iload_n 2, 1) := by decide +kernel
theorem dX9_isWord_56 : decode cX9_isWord 56 = .ok (.invokevirtual 126, 3) := by decide +kernel
theorem dX9_isWord_59 : decode cX9_isWord 59 = .ok (.if_icmp .eq 5, 3) := by decide +kernel
theorem dX9_isWord_62 : decode cX9_isWord 62 = .ok (.iconst 0, 1) := by decide +kernel
theorem dX9_isWord_63 : decode cX9_isWord 63 = .ok (.ireturn, 1) := by decide +kernel
theorem dX9_isWord_64 : decode cX9_isWord 64 = .ok (.iinc 2 1, 3) := by decide +kernel
theorem dX9_isWord_67 : decode cX9_isWord 67 = .ok (.goto (-32), 3) := by decide +kernel
theorem dX9_isWord_70 : decode cX9_isWord 70 = .ok (.iconst 1, 1) := by decide +kernel
theorem dX9_isWord_71 : decode cX9_isWord 71 = .ok (.ireturn, 1) := by decide +kernel
theorem dX9_takes_0 : decode cX9_takes 0 = .ok (.aload_n 0, 1) := by decide +kernel
theorem dX9_takes_1 : decode cX9_takes 1 = .ok (.aload_n 1, 1) := by decide +kernel
theorem dX9_takes_2 : decode cX9_takes 2 = .ok (.invokevirtual 130, 3) := by decide +kernel
theorem dX9_takes_5 : decode cX9_takes 5 = .ok (.istore_n 2, 1) := by decide +kernel
theorem dX9_takes_6 : decode cX9_takes 6 = .ok (.iload_n 2, 1) := by decide +kernel
theorem dX9_takes_7 : decode cX9_takes 7 = .ok (.ifCond .eq 7, 3) := by decide +kernel
theorem dX9_takes_10 : decode cX9_takes 10 = .ok (.aload_n 0, 1) := by decide +kernel
theorem dX9_takes_11 : decode cX9_takes 11 = .ok (.invokevirtual 134, 3) := by decide +kernel
theorem dX9_takes_14 : decode cX9_takes 14 = .ok (.iload_n 2, 1) := by decide +kernel
theorem dX9_takes_15 : decode cX9_takes 15 = .ok (.ireturn, 1) := by decide +kernel
theorem dX9_keyword_0 : decode cX9_keyword 0 = .ok (.aload_n 0, 1) := by decide +kernel
theorem dX9_keyword_1 : decode cX9_keyword 1 = .ok (.aload_n 1, 1) := by decide +kernel
theorem dX9_keyword_2 : decode cX9_keyword 2 = .ok (.invokevirtual 137, 3) := by decide +kernel
theorem dX9_keyword_5 : decode cX9_keyword 5 = .ok (.ifCond .ne 8, 3) := by decide +kernel
theorem dX9_keyword_8 : decode cX9_keyword 8 = .ok (.aload_n 0, 1) := by decide +kernel
theorem dX9_keyword_9 : decode cX9_keyword 9 = .ok (.iconst 1, 1) := by decide +kernel
theorem dX9_keyword_10 : decode cX9_keyword 10 = .ok (.invokevirtual 140, 3) := by decide +kernel
theorem dX9_keyword_13 : decode cX9_keyword 13 = .ok (.return_, 1) := by decide +kernel
theorem dX9_look_0 : decode cX9_look 0 = .ok (.aload_n 0, 1) := by decide +kernel
theorem dX9_look_1 : decode cX9_look 1 = .ok (.getfield 92, 3) := by decide +kernel
theorem dX9_look_4 : decode cX9_look 4 = .ok (.ifCond .le 5, 3) := by decide +kernel
theorem dX9_look_7 : decode cX9_look 7 = .ok (.iload_n 1, 1) := by decide +kernel
theorem dX9_look_8 : decode cX9_look 8 = .ok (.ireturn, 1) := by decide +kernel
theorem dX9_look_9 : decode cX9_look 9 = .ok (.aload_n 0, 1) := by decide +kernel
theorem dX9_look_10 : decode cX9_look 10 = .ok (.getfield 108, 3) := by decide +kernel
theorem dX9_look_13 : decode cX9_look 13 = .ok (.iconst 3, 1) := by decide +kernel
theorem dX9_look_14 : decode cX9_look 14 = .ok (.if_icmp .eq 11, 3) := by decide +kernel
theorem dX9_look_17 : decode cX9_look 17 = .ok (.aload_n 0, 1) := by decide +kernel
theorem dX9_look_18 : decode cX9_look 18 = .ok (.iconst 1, 1) := by decide +kernel
theorem dX9_look_19 : decode cX9_look 19 = .ok (.invokevirtual 140, 3) := by decide +kernel
theorem dX9_look_22 : decode cX9_look 22 = .ok (.goto 20, 3) := by decide +kernel
theorem dX9_look_25 : decode cX9_look 25 = .ok (.aload_n 0, 1) := by decide +kernel
theorem dX9_look_26 : decode cX9_look 26 = .ok (.getfield 115, 3) := by decide +kernel
theorem dX9_look_29 : decode cX9_look 29 = .ok (.iload_n 1, 1) := by decide +kernel
theorem dX9_look_30 : decode cX9_look 30 = .ok (.iload_n 2, 1) := by decide +kernel
theorem dX9_look_31 : decode cX9_look 31 = .ok (.invokestatic 111, 3) := by decide +kernel
theorem dX9_look_34 : decode cX9_look 34 = .ok (.ifCond .ne 8, 3) := by decide +kernel
theorem dX9_look_37 : decode cX9_look 37 = .ok (.aload_n 0, 1) := by decide +kernel
theorem dX9_look_38 : decode cX9_look 38 = .ok (.iconst 2, 1) := by decide +kernel
theorem dX9_look_39 : decode cX9_look 39 = .ok (.invokevirtual 140, 3) := by decide +kernel
theorem dX9_look_42 : decode cX9_look 42 = .ok (.aload_n 0, 1) := by decide +kernel
theorem dX9_look_43 : decode cX9_look 43 = .ok (.getfield 92, 3) := by decide +kernel
theorem dX9_look_46 : decode cX9_look 46 = .ok (.ifCond .le 7, 3) := by decide +kernel
theorem dX9_look_49 : decode cX9_look 49 = .ok (.iload_n 1, 1) := by decide +kernel
theorem dX9_look_50 : decode cX9_look 50 = .ok (.goto 7, 3) := by decide +kernel
theorem dX9_look_53 : decode cX9_look 53 = .ok (.aload_n 0, 1) := by decide +kernel
theorem dX9_look_54 : decode cX9_look 54 = .ok (.getfield 115, 3) := by decide +kernel
theorem dX9_look_57 : decode cX9_look 57 = .ok (.ireturn, 1) := by decide +kernel
theorem dX9_number_0 : decode cX9_number 0 = .ok (.aload_n 0, 1) := by decide +kernel
theorem dX9_number_1 : decode cX9_number 1 = .ok (.iload_n 1, 1) := by decide +kernel
theorem dX9_number_2 : decode cX9_number 2 = .ok (.iload_n 2, 1) := by decide +kernel
theorem dX9_number_3 : decode cX9_number 3 = .ok (.invokevirtual 143, 3) := by decide +kernel
theorem dX9_number_6 : decode cX9_number 6 = .ok (.istore_n 3, 1) := by decide +kernel
theorem dX9_number_7 : decode cX9_number 7 = .ok (.aload_n 0, 1) := by decide +kernel
theorem dX9_number_8 : decode cX9_number 8 = .ok (.invokevirtual 134, 3) := by decide +kernel
theorem dX9_number_11 : decode cX9_number 11 = .ok (.iload_n 3, 1) := by decide +kernel
theorem dX9_number_12 : decode cX9_number 12 = .ok (.ireturn, 1) := by decide +kernel
theorem dX9_measure_0 : decode cX9_measure 0 = .ok (.aload_n 0, 1) := by decide +kernel
theorem dX9_measure_1 : decode cX9_measure 1 = .ok (.aload_n 1, 1) := by decide +kernel
theorem dX9_measure_2 : decode cX9_measure 2 = .ok (.invokevirtual 147, 3) := by decide +kernel
theorem dX9_measure_5 : decode cX9_measure 5 = .ok (.aload_n 0, 1) := by decide +kernel
theorem dX9_measure_6 : decode cX9_measure 6 = .ok (.iload_n 2, 1) := by decide +kernel
theorem dX9_measure_7 : decode cX9_measure 7 = .ok (.iload_n 3, 1) := by decide +kernel
theorem dX9_measure_8 : decode cX9_measure 8 = .ok (.invokevirtual 151, 3) := by decide +kernel
theorem dX9_measure_11 : decode cX9_measure 11 = .ok (.ireturn, 1) := by decide +kernel
theorem dX9_readFirst_0 : decode cX9_readFirst 0 = .ok (.aload_n 0, 1) := by decide +kernel
theorem dX9_readFirst_1 : decode cX9_readFirst 1 = .ok (.ldc 154, 2) := by decide +kernel
theorem dX9_readFirst_3 : decode cX9_readFirst 3 = .ok (.invokevirtual 147, 3) := by decide +kernel
theorem dX9_readFirst_6 : decode cX9_readFirst 6 = .ok (.aload_n 0, 1) := by decide +kernel
theorem dX9_readFirst_7 : decode cX9_readFirst 7 = .ok (.getfield 20, 3) := by decide +kernel
theorem dX9_readFirst_10 : decode cX9_readFirst 10 = .ok (.iconst 0, 1) := by decide +kernel
theorem dX9_readFirst_11 : decode cX9_readFirst 11 = .ok (.aload_n 0, 1) := by decide +kernel
theorem dX9_readFirst_12 : decode cX9_readFirst 12 = .ok (.iconst 4, 1) := by decide +kernel
theorem dX9_readFirst_13 : decode cX9_readFirst 13 = .ok (.bipush 40, 2) := by decide +kernel
theorem dX9_readFirst_15 : decode cX9_readFirst 15 = .ok (.invokevirtual 151, 3) := by decide +kernel
theorem dX9_readFirst_18 : decode cX9_readFirst 18 = .ok (.iastore, 1) := by decide +kernel
theorem dX9_readFirst_19 : decode cX9_readFirst 19 = .ok (.aload_n 0, 1) := by decide +kernel
theorem dX9_readFirst_20 : decode cX9_readFirst 20 = .ok (.getfield 20, 3) := by decide +kernel
theorem dX9_readFirst_23 : decode cX9_readFirst 23 = .ok (.iconst 1, 1) := by decide +kernel
theorem dX9_readFirst_24 : decode cX9_readFirst 24 = .ok (.aload_n 0, 1) := by decide +kernel
theorem dX9_readFirst_25 : decode cX9_readFirst 25 = .ok (.iconst 0, 1) := by decide +kernel
theorem dX9_readFirst_26 : decode cX9_readFirst 26 = .ok (.aload_n 0, 1) := by decide +kernel
theorem dX9_readFirst_27 : decode cX9_readFirst 27 = .ok (.getfield 20, 3) := by decide +kernel
theorem dX9_readFirst_30 : decode cX9_readFirst 30 = .ok (.iconst 0, 1) := by decide +kernel
theorem dX9_readFirst_31 : decode cX9_readFirst 31 = .ok (.iaload, 1) := by decide +kernel
theorem dX9_readFirst_32 : decode cX9_readFirst 32 = .ok (.iconst 1, 1) := by decide +kernel
theorem dX9_readFirst_33 : decode cX9_readFirst 33 = .ok (.isub, 1) := by decide +kernel
theorem dX9_readFirst_34 : decode cX9_readFirst 34 = .ok (.invokevirtual 151, 3) := by decide +kernel
theorem dX9_readFirst_37 : decode cX9_readFirst 37 = .ok (.iastore, 1) := by decide +kernel
theorem dX9_readFirst_38 : decode cX9_readFirst 38 = .ok (.aload_n 0, 1) := by decide +kernel
theorem dX9_readFirst_39 : decode cX9_readFirst 39 = .ok (.iconst 0, 1) := by decide +kernel
theorem dX9_readFirst_40 : decode cX9_readFirst 40 = .ok (.aload_n 0, 1) := by decide +kernel
theorem dX9_readFirst_41 : decode cX9_readFirst 41 = .ok (.getfield 20, 3) := by decide +kernel
theorem dX9_readFirst_44 : decode cX9_readFirst 44 = .ok (.iconst 0, 1) := by decide +kernel
theorem dX9_readFirst_45 : decode cX9_readFirst 45 = .ok (.iaload, 1) := by decide +kernel
theorem dX9_readFirst_46 : decode cX9_readFirst 46 = .ok (.iconst 1, 1) := by decide +kernel
theorem dX9_readFirst_47 : decode cX9_readFirst 47 = .ok (.isub, 1) := by decide +kernel
theorem dX9_readFirst_48 : decode cX9_readFirst 48 = .ok (.invokevirtual 143, 3) := by decide +kernel
theorem dX9_readFirst_51 : decode cX9_readFirst 51 = .ok (.istore_n 1, 1) := by decide +kernel
theorem dX9_readFirst_52 : decode cX9_readFirst 52 = .ok (.aload_n 0, 1) := by decide +kernel
theorem dX9_readFirst_53 : decode cX9_readFirst 53 = .ok (.getfield 92, 3) := by decide +kernel
theorem dX9_readFirst_56 : decode cX9_readFirst 56 = .ok (.ifCond .ne 18, 3) := by decide +kernel
theorem dX9_readFirst_59 : decode cX9_readFirst 59 = .ok (.iload_n 1, 1) := by decide +kernel
theorem dX9_readFirst_60 : decode cX9_readFirst 60 = .ok (.aload_n 0, 1) := by decide +kernel
theorem dX9_readFirst_61 : decode cX9_readFirst 61 = .ok (.getfield 20, 3) := by decide +kernel
theorem dX9_readFirst_64 : decode cX9_readFirst 64 = .ok (.iconst 1, 1) := by decide +kernel
theorem dX9_readFirst_65 : decode cX9_readFirst 65 = .ok (.iaload, 1) := by decide +kernel
theorem dX9_readFirst_66 : decode cX9_readFirst 66 = .ok (.if_icmp .ne 8, 3) := by decide +kernel
theorem dX9_readFirst_69 : decode cX9_readFirst 69 = .ok (.aload_n 0, 1) := by decide +kernel
theorem dX9_readFirst_70 : decode cX9_readFirst 70 = .ok (.iconst 3, 1) := by decide +kernel
theorem dX9_readFirst_71 : decode cX9_readFirst 71 = .ok (.invokevirtual 140, 3) := by decide +kernel
theorem dX9_readFirst_74 : decode cX9_readFirst 74 = .ok (.aload_n 0, 1) := by decide +kernel
theorem dX9_readFirst_75 : decode cX9_readFirst 75 = .ok (.invokevirtual 134, 3) := by decide +kernel
theorem dX9_readFirst_78 : decode cX9_readFirst 78 = .ok (.aload_n 0, 1) := by decide +kernel
theorem dX9_readFirst_79 : decode cX9_readFirst 79 = .ok (.getfield 20, 3) := by decide +kernel
theorem dX9_readFirst_82 : decode cX9_readFirst 82 = .ok (.iconst 2, 1) := by decide +kernel
theorem dX9_readFirst_83 : decode cX9_readFirst 83 = .ok (.iload_n 1, 1) := by decide +kernel
theorem dX9_readFirst_84 : decode cX9_readFirst 84 = .ok (.iastore, 1) := by decide +kernel
theorem dX9_readFirst_85 : decode cX9_readFirst 85 = .ok (.iconst 0, 1) := by decide +kernel
theorem dX9_readFirst_86 : decode cX9_readFirst 86 = .ok (.istore_n 2, 1) := by decide +kernel
theorem dX9_readFirst_87 : decode cX9_readFirst 87 = .ok (.iload_n 2, 1) := by decide +kernel
theorem dX9_readFirst_88 : decode cX9_readFirst 88 = .ok (.iconst 3, 1) := by decide +kernel
theorem dX9_readFirst_89 : decode cX9_readFirst 89 = .ok (.if_icmp .ge 58, 3) := by decide +kernel
theorem dX9_readFirst_92 : decode cX9_readFirst 92 = .ok (.aload_n 0, 1) := by decide +kernel
theorem dX9_readFirst_93 : decode cX9_readFirst 93 = .ok (.getfield 20, 3) := by decide +kernel
theorem dX9_readFirst_96 : decode cX9_readFirst 96 = .ok (.iconst 3, 1) := by decide +kernel
theorem dX9_readFirst_97 : decode cX9_readFirst 97 = .ok (.iload_n 2, 1) := by decide +kernel
theorem dX9_readFirst_98 : decode cX9_readFirst 98 = .ok (.iadd, 1) := by decide +kernel
theorem dX9_readFirst_99 : decode cX9_readFirst 99 = .ok (.aload_n 0, 1) := by decide +kernel
theorem dX9_readFirst_100 : decode cX9_readFirst 100 = .ok (.ldc 48, 2) := by decide +kernel
theorem dX9_readFirst_102 : decode cX9_readFirst 102 = .ok (.iconst 1, 1) := by decide +kernel
theorem dX9_readFirst_103 : decode cX9_readFirst 103 = .ok (.iconst 4, 1) := by decide +kernel
theorem dX9_readFirst_104 : decode cX9_readFirst 104 = .ok (.invokevirtual 156, 3) := by decide +kernel
theorem dX9_readFirst_107 : decode cX9_readFirst 107 = .ok (.iastore, 1) := by decide +kernel
theorem dX9_readFirst_108 : decode cX9_readFirst 108 = .ok (.aload_n 0, 1) := by decide +kernel
theorem dX9_readFirst_109 : decode cX9_readFirst 109 = .ok (.getfield 20, 3) := by decide +kernel
theorem dX9_readFirst_112 : decode cX9_readFirst 112 = .ok (.bipush 6, 2) := by decide +kernel
theorem dX9_readFirst_114 : decode cX9_readFirst 114 = .ok (.iload_n 2, 1) := by decide +kernel
theorem dX9_readFirst_115 : decode cX9_readFirst 115 = .ok (.iadd, 1) := by decide +kernel
theorem dX9_readFirst_116 : decode cX9_readFirst 116 = .ok (.aload_n 0, 1) := by decide +kernel
theorem dX9_readFirst_117 : decode cX9_readFirst 117 = .ok (.iconst 1, 1) := by decide +kernel
theorem dX9_readFirst_118 : decode cX9_readFirst 118 = .ok (.bipush 99, 2) := by decide +kernel
theorem dX9_readFirst_120 : decode cX9_readFirst 120 = .ok (.invokevirtual 151, 3) := by decide +kernel
theorem dX9_readFirst_123 : decode cX9_readFirst 123 = .ok (.iastore, 1) := by decide +kernel
theorem dX9_readFirst_124 : decode cX9_readFirst 124 = .ok (.aload_n 0, 1) := by decide +kernel
theorem dX9_readFirst_125 : decode cX9_readFirst 125 = .ok (.getfield 20, 3) := by decide +kernel
theorem dX9_readFirst_128 : decode cX9_readFirst 128 = .ok (.bipush 9, 2) := by decide +kernel
theorem dX9_readFirst_130 : decode cX9_readFirst 130 = .ok (.iload_n 2, 1) := by decide +kernel
theorem dX9_readFirst_131 : decode cX9_readFirst 131 = .ok (.iadd, 1) := by decide +kernel
theorem dX9_readFirst_132 : decode cX9_readFirst 132 = .ok (.aload_n 0, 1) := by decide +kernel
theorem dX9_readFirst_133 : decode cX9_readFirst 133 = .ok (.iconst 0, 1) := by decide +kernel
theorem dX9_readFirst_134 : decode cX9_readFirst 134 = .ok (.sipush 1000, 3) := by decide +kernel
theorem dX9_readFirst_137 : decode cX9_readFirst 137 = .ok (.invokevirtual 151, 3) := by decide +kernel
theorem dX9_readFirst_140 : decode cX9_readFirst 140 = .ok (.iastore, 1) := by decide +kernel
theorem dX9_readFirst_141 : decode cX9_readFirst 141 = .ok (.iinc 2 1, 3) := by decide +kernel
theorem dX9_readFirst_144 : decode cX9_readFirst 144 = .ok (.goto (-57), 3) := by decide +kernel
theorem dX9_readFirst_147 : decode cX9_readFirst 147 = .ok (.aload_n 0, 1) := by decide +kernel
theorem dX9_readFirst_148 : decode cX9_readFirst 148 = .ok (.getfield 26, 3) := by decide +kernel
theorem dX9_readFirst_151 : decode cX9_readFirst 151 = .ok (.iconst 4, 1) := by decide +kernel
theorem dX9_readFirst_152 : decode cX9_readFirst 152 = .ok (.aload_n 0, 1) := by decide +kernel
theorem dX9_readFirst_153 : decode cX9_readFirst 153 = .ok (.ldc 160, 2) := by decide +kernel
theorem dX9_readFirst_155 : decode cX9_readFirst 155 = .ok (.iconst 0, 1) := by decide +kernel
theorem dX9_readFirst_156 : decode cX9_readFirst 156 = .ok (.sipush 999, 3) := by decide +kernel
theorem dX9_readFirst_159 : decode cX9_readFirst 159 = .ok (.invokevirtual 156, 3) := by decide +kernel
theorem dX9_readFirst_162 : decode cX9_readFirst 162 = .ok (.iastore, 1) := by decide +kernel
theorem dX9_readFirst_163 : decode cX9_readFirst 163 = .ok (.aload_n 0, 1) := by decide +kernel
theorem dX9_readFirst_164 : decode cX9_readFirst 164 = .ok (.getfield 26, 3) := by decide +kernel
theorem dX9_readFirst_167 : decode cX9_readFirst 167 = .ok (.iconst 1, 1) := by decide +kernel
theorem dX9_readFirst_168 : decode cX9_readFirst 168 = .ok (.aload_n 0, 1) := by decide +kernel
theorem dX9_readFirst_169 : decode cX9_readFirst 169 = .ok (.ldc 162, 2) := by decide +kernel
theorem dX9_readFirst_171 : decode cX9_readFirst 171 = .ok (.iconst 0, 1) := by decide +kernel
theorem dX9_readFirst_172 : decode cX9_readFirst 172 = .ok (.ldc 164, 2) := by decide +kernel
theorem dX9_readFirst_174 : decode cX9_readFirst 174 = .ok (.invokevirtual 156, 3) := by decide +kernel
theorem dX9_readFirst_177 : decode cX9_readFirst 177 = .ok (.iastore, 1) := by decide +kernel
theorem dX9_readFirst_178 : decode cX9_readFirst 178 = .ok (.return_, 1) := by decide +kernel
theorem dX9_position_0 : decode cX9_position 0 = .ok (.aload_n 0, 1) := by decide +kernel
theorem dX9_position_1 : decode cX9_position 1 = .ok (.iconst 0, 1) := by decide +kernel
theorem dX9_position_2 : decode cX9_position 2 = .ok (.aload_n 0, 1) := by decide +kernel
theorem dX9_position_3 : decode cX9_position 3 = .ok (.getfield 20, 3) := by decide +kernel
theorem dX9_position_6 : decode cX9_position 6 = .ok (.iconst 0, 1) := by decide +kernel
theorem dX9_position_7 : decode cX9_position 7 = .ok (.iaload, 1) := by decide +kernel
theorem dX9_position_8 : decode cX9_position 8 = .ok (.iconst 1, 1) := by decide +kernel
theorem dX9_position_9 : decode cX9_position 9 = .ok (.isub, 1) := by decide +kernel
theorem dX9_position_10 : decode cX9_position 10 = .ok (.invokevirtual 143, 3) := by decide +kernel
theorem dX9_position_13 : decode cX9_position 13 = .ok (.istore_n 1, 1) := by decide +kernel
theorem dX9_position_14 : decode cX9_position 14 = .ok (.iload_n 1, 1) := by decide +kernel
theorem dX9_position_15 : decode cX9_position 15 = .ok (.aload_n 0, 1) := by decide +kernel
theorem dX9_position_16 : decode cX9_position 16 = .ok (.getfield 20, 3) := by decide +kernel
theorem dX9_position_19 : decode cX9_position 19 = .ok (.iconst 1, 1) := by decide +kernel
theorem dX9_position_20 : decode cX9_position 20 = .ok (.iaload, 1) := by decide +kernel
theorem dX9_position_21 : decode cX9_position 21 = .ok (.if_icmp .eq 13, 3) := by decide +kernel
theorem dX9_position_24 : decode cX9_position 24 = .ok (.iload_n 1, 1) := by decide +kernel
theorem dX9_position_25 : decode cX9_position 25 = .ok (.aload_n 0, 1) := by decide +kernel
theorem dX9_position_26 : decode cX9_position 26 = .ok (.getfield 20, 3) := by decide +kernel
theorem dX9_position_29 : decode cX9_position 29 = .ok (.iconst 2, 1) := by decide +kernel
theorem dX9_position_30 : decode cX9_position 30 = .ok (.iaload, 1) := by decide +kernel
theorem dX9_position_31 : decode cX9_position 31 = .ok (.if_icmp .ne 7, 3) := by decide +kernel
theorem dX9_position_34 : decode cX9_position 34 = .ok (.iconst 1, 1) := by decide +kernel
theorem dX9_position_35 : decode cX9_position 35 = .ok (.goto 4, 3) := by decide +kernel
theorem dX9_position_38 : decode cX9_position 38 = .ok (.iconst 0, 1) := by decide +kernel
theorem dX9_position_39 : decode cX9_position 39 = .ok (.istore_n 2, 1) := by decide +kernel
theorem dX9_position_40 : decode cX9_position 40 = .ok (.iconst 0, 1) := by decide +kernel
theorem dX9_position_41 : decode cX9_position 41 = .ok (.istore_n 3, 1) := by decide +kernel
theorem dX9_position_42 : decode cX9_position 42 = .ok (.iload_n 3, 1) := by decide +kernel
theorem dX9_position_43 : decode cX9_position 43 = .ok (.aload_n 0, 1) := by decide +kernel
theorem dX9_position_44 : decode cX9_position 44 = .ok (.getfield 20, 3) := by decide +kernel
theorem dX9_position_47 : decode cX9_position 47 = .ok (.bipush 12, 2) := by decide +kernel
theorem dX9_position_49 : decode cX9_position 49 = .ok (.iaload, 1) := by decide +kernel
theorem dX9_position_50 : decode cX9_position 50 = .ok (.if_icmp .ge 32, 3) := by decide +kernel
theorem dX9_position_53 : decode cX9_position 53 = .ok (.iload_n 2, 1) := by decide +kernel
theorem dX9_position_54 : decode cX9_position 54 = .ok (.ifCond .ne 16, 3) := by decide +kernel
theorem dX9_position_57 : decode cX9_position 57 = .ok (.aload_n 0, 1) := by decide +kernel
theorem dX9_position_58 : decode cX9_position 58 = .ok (.getfield 20, 3) := by decide +kernel
theorem dX9_position_61 : decode cX9_position 61 = .ok (.bipush 15, 2) := by decide +kernel
theorem dX9_position_63 : decode cX9_position 63 = .ok (.iload_n 3, 1) := by decide +kernel
theorem dX9_position_64 : decode cX9_position 64 = .ok (.iadd, 1) := by decide +kernel
theorem dX9_position_65 : decode cX9_position 65 = .ok (.iaload, 1) := by decide +kernel
theorem dX9_position_66 : decode cX9_position 66 = .ok (.iload_n 1, 1) := by decide +kernel
theorem dX9_position_67 : decode cX9_position 67 = .ok (.if_icmp .ne 7, 3) := by decide +kernel
theorem dX9_position_70 : decode cX9_position 70 = .ok (.iconst 1, 1) := by decide +kernel
theorem dX9_position_71 : decode cX9_position 71 = .ok (.goto 4, 3) := by decide +kernel
theorem dX9_position_74 : decode cX9_position 74 = .ok (.iconst 0, 1) := by decide +kernel
theorem dX9_position_75 : decode cX9_position 75 = .ok (.istore_n 2, 1) := by decide +kernel
theorem dX9_position_76 : decode cX9_position 76 = .ok (.iinc 3 1, 3) := by decide +kernel
theorem dX9_position_79 : decode cX9_position 79 = .ok (.goto (-37), 3) := by decide +kernel
theorem dX9_position_82 : decode cX9_position 82 = .ok (.iconst 0, 1) := by decide +kernel
theorem dX9_position_83 : decode cX9_position 83 = .ok (.istore_n 3, 1) := by decide +kernel
theorem dX9_position_84 : decode cX9_position 84 = .ok (.iload_n 3, 1) := by decide +kernel
theorem dX9_position_85 : decode cX9_position 85 = .ok (.aload_n 0, 1) := by decide +kernel
theorem dX9_position_86 : decode cX9_position 86 = .ok (.getfield 20, 3) := by decide +kernel
theorem dX9_position_89 : decode cX9_position 89 = .ok (.bipush 13, 2) := by decide +kernel
theorem dX9_position_91 : decode cX9_position 91 = .ok (.iaload, 1) := by decide +kernel
theorem dX9_position_92 : decode cX9_position 92 = .ok (.if_icmp .ge 32, 3) := by decide +kernel
theorem dX9_position_95 : decode cX9_position 95 = .ok (.iload_n 2, 1) := by decide +kernel
theorem dX9_position_96 : decode cX9_position 96 = .ok (.ifCond .ne 16, 3) := by decide +kernel
theorem dX9_position_99 : decode cX9_position 99 = .ok (.aload_n 0, 1) := by decide +kernel
theorem dX9_position_100 : decode cX9_position 100 = .ok (.getfield 20, 3) := by decide +kernel
theorem dX9_position_103 : decode cX9_position 103 = .ok (.bipush 23, 2) := by decide +kernel
theorem dX9_position_105 : decode cX9_position 105 = .ok (.iload_n 3, 1) := by decide +kernel
theorem dX9_position_106 : decode cX9_position 106 = .ok (.iadd, 1) := by decide +kernel
theorem dX9_position_107 : decode cX9_position 107 = .ok (.iaload, 1) := by decide +kernel
theorem dX9_position_108 : decode cX9_position 108 = .ok (.iload_n 1, 1) := by decide +kernel
theorem dX9_position_109 : decode cX9_position 109 = .ok (.if_icmp .ne 7, 3) := by decide +kernel
theorem dX9_position_112 : decode cX9_position 112 = .ok (.iconst 1, 1) := by decide +kernel
theorem dX9_position_113 : decode cX9_position 113 = .ok (.goto 4, 3) := by decide +kernel
theorem dX9_position_116 : decode cX9_position 116 = .ok (.iconst 0, 1) := by decide +kernel
theorem dX9_position_117 : decode cX9_position 117 = .ok (.istore_n 2, 1) := by decide +kernel
theorem dX9_position_118 : decode cX9_position 118 = .ok (.iinc 3 1, 3) := by decide +kernel
theorem dX9_position_121 : decode cX9_position 121 = .ok (.goto (-37), 3) := by decide +kernel
theorem dX9_position_124 : decode cX9_position 124 = .ok (.aload_n 0, 1) := by decide +kernel
theorem dX9_position_125 : decode cX9_position 125 = .ok (.getfield 92, 3) := by decide +kernel
theorem dX9_position_128 : decode cX9_position 128 = .ok (.ifCond .ne 12, 3) := by decide +kernel
theorem dX9_position_131 : decode cX9_position 131 = .ok (.iload_n 2, 1) := by decide +kernel
theorem dX9_position_132 : decode cX9_position 132 = .ok (.ifCond .eq 8, 3) := by decide +kernel
theorem dX9_position_135 : decode cX9_position 135 = .ok (.aload_n 0, 1) := by decide +kernel
theorem dX9_position_136 : decode cX9_position 136 = .ok (.iconst 3, 1) := by decide +kernel
theorem dX9_position_137 : decode cX9_position 137 = .ok (.invokevirtual 140, 3) := by decide +kernel
theorem dX9_position_140 : decode cX9_position 140 = .ok (.aload_n 0, 1) := by decide +kernel
theorem dX9_position_141 : decode cX9_position 141 = .ok (.invokevirtual 134, 3) := by decide +kernel
theorem dX9_position_144 : decode cX9_position 144 = .ok (.iload_n 1, 1) := by decide +kernel
theorem dX9_position_145 : decode cX9_position 145 = .ok (.ireturn, 1) := by decide +kernel
theorem dX9_readFlight_0 : decode cX9_readFlight 0 = .ok (.aload_n 0, 1) := by decide +kernel
theorem dX9_readFlight_1 : decode cX9_readFlight 1 = .ok (.getfield 20, 3) := by decide +kernel
theorem dX9_readFlight_4 : decode cX9_readFlight 4 = .ok (.bipush 12, 2) := by decide +kernel
theorem dX9_readFlight_6 : decode cX9_readFlight 6 = .ok (.iaload, 1) := by decide +kernel
theorem dX9_readFlight_7 : decode cX9_readFlight 7 = .ok (.istore_n 1, 1) := by decide +kernel
theorem dX9_readFlight_8 : decode cX9_readFlight 8 = .ok (.iload_n 1, 1) := by decide +kernel
theorem dX9_readFlight_9 : decode cX9_readFlight 9 = .ok (.bipush 8, 2) := by decide +kernel
theorem dX9_readFlight_11 : decode cX9_readFlight 11 = .ok (.if_icmp .ne 8, 3) := by decide +kernel
theorem dX9_readFlight_14 : decode cX9_readFlight 14 = .ok (.aload_n 0, 1) := by decide +kernel
theorem dX9_readFlight_15 : decode cX9_readFlight 15 = .ok (.iconst 4, 1) := by decide +kernel
theorem dX9_readFlight_16 : decode cX9_readFlight 16 = .ok (.invokevirtual 140, 3) := by decide +kernel
theorem dX9_readFlight_19 : decode cX9_readFlight 19 = .ok (.aload_n 0, 1) := by decide +kernel
theorem dX9_readFlight_20 : decode cX9_readFlight 20 = .ok (.invokevirtual 134, 3) := by decide +kernel
theorem dX9_readFlight_23 : decode cX9_readFlight 23 = .ok (.aload_n 0, 1) := by decide +kernel
theorem dX9_readFlight_24 : decode cX9_readFlight 24 = .ok (.getfield 92, 3) := by decide +kernel
theorem dX9_readFlight_27 : decode cX9_readFlight 27 = .ok (.ifCond .le 4, 3) := by decide +kernel
theorem dX9_readFlight_30 : decode cX9_readFlight 30 = .ok (.return_, 1) := by decide +kernel
theorem dX9_readFlight_31 : decode cX9_readFlight 31 = .ok (.aload_n 0, 1) := by decide +kernel
theorem dX9_readFlight_32 : decode cX9_readFlight 32 = .ok (.getfield 20, 3) := by decide +kernel
theorem dX9_readFlight_35 : decode cX9_readFlight 35 = .ok (.bipush 15, 2) := by decide +kernel
theorem dX9_readFlight_37 : decode cX9_readFlight 37 = .ok (.iload_n 1, 1) := by decide +kernel
theorem dX9_readFlight_38 : decode cX9_readFlight 38 = .ok (.iadd, 1) := by decide +kernel
theorem dX9_readFlight_39 : decode cX9_readFlight 39 = .ok (.aload_n 0, 1) := by decide +kernel
theorem dX9_readFlight_40 : decode cX9_readFlight 40 = .ok (.invokevirtual 165, 3) := by decide +kernel
theorem dX9_readFlight_43 : decode cX9_readFlight 43 = .ok (.iastore, 1) := by decide +kernel
theorem dX9_readFlight_44 : decode cX9_readFlight 44 = .ok (.aload_n 0, 1) := by decide +kernel
theorem dX9_readFlight_45 : decode cX9_readFlight 45 = .ok (.getfield 26, 3) := by decide +kernel
theorem dX9_readFlight_48 : decode cX9_readFlight 48 = .ok (.iconst 5, 1) := by decide +kernel
theorem dX9_readFlight_49 : decode cX9_readFlight 49 = .ok (.iload_n 1, 1) := by decide +kernel
theorem dX9_readFlight_50 : decode cX9_readFlight 50 = .ok (.iadd, 1) := by decide +kernel
theorem dX9_readFlight_51 : decode cX9_readFlight 51 = .ok (.aload_n 0, 1) := by decide +kernel
theorem dX9_readFlight_52 : decode cX9_readFlight 52 = .ok (.iconst 0, 1) := by decide +kernel
theorem dX9_readFlight_53 : decode cX9_readFlight 53 = .ok (.sipush 999, 3) := by decide +kernel
theorem dX9_readFlight_56 : decode cX9_readFlight 56 = .ok (.invokevirtual 151, 3) := by decide +kernel
theorem dX9_readFlight_59 : decode cX9_readFlight 59 = .ok (.iastore, 1) := by decide +kernel
theorem dX9_readFlight_60 : decode cX9_readFlight 60 = .ok (.aload_n 0, 1) := by decide +kernel
theorem dX9_readFlight_61 : decode cX9_readFlight 61 = .ok (.getfield 26, 3) := by decide +kernel
theorem dX9_readFlight_64 : decode cX9_readFlight 64 = .ok (.bipush 13, 2) := by decide +kernel
theorem dX9_readFlight_66 : decode cX9_readFlight 66 = .ok (.iload_n 1, 1) := by decide +kernel
theorem dX9_readFlight_67 : decode cX9_readFlight 67 = .ok (.iadd, 1) := by decide +kernel
theorem dX9_readFlight_68 : decode cX9_readFlight 68 = .ok (.aload_n 0, 1) := by decide +kernel
theorem dX9_readFlight_69 : decode cX9_readFlight 69 = .ok (.aload_n 0, 1) := by decide +kernel
theorem dX9_readFlight_70 : decode cX9_readFlight 70 = .ok (.getfield 26, 3) := by decide +kernel
theorem dX9_readFlight_73 : decode cX9_readFlight 73 = .ok (.iconst 5, 1) := by decide +kernel
theorem dX9_readFlight_74 : decode cX9_readFlight 74 = .ok (.iload_n 1, 1) := by decide +kernel
theorem dX9_readFlight_75 : decode cX9_readFlight 75 = .ok (.iadd, 1) := by decide +kernel
theorem dX9_readFlight_76 : decode cX9_readFlight 76 = .ok (.iaload, 1) := by decide +kernel
theorem dX9_readFlight_77 : decode cX9_readFlight 77 = .ok (.iconst 1, 1) := by decide +kernel
theorem dX9_readFlight_78 : decode cX9_readFlight 78 = .ok (.iadd, 1) := by decide +kernel
theorem dX9_readFlight_79 : decode cX9_readFlight 79 = .ok (.sipush 1999, 3) := by decide +kernel
theorem dX9_readFlight_82 : decode cX9_readFlight 82 = .ok (.invokevirtual 151, 3) := by decide +kernel
theorem dX9_readFlight_85 : decode cX9_readFlight 85 = .ok (.iastore, 1) := by decide +kernel
theorem dX9_readFlight_86 : decode cX9_readFlight 86 = .ok (.aload_n 0, 1) := by decide +kernel
theorem dX9_readFlight_87 : decode cX9_readFlight 87 = .ok (.getfield 20, 3) := by decide +kernel
theorem dX9_readFlight_90 : decode cX9_readFlight 90 = .ok (.bipush 12, 2) := by decide +kernel
theorem dX9_readFlight_92 : decode cX9_readFlight 92 = .ok (.dup2, 1) := by decide +kernel
theorem dX9_readFlight_93 : decode cX9_readFlight 93 = .ok (.iaload, 1) := by decide +kernel
theorem dX9_readFlight_94 : decode cX9_readFlight 94 = .ok (.iconst 1, 1) := by decide +kernel
theorem dX9_readFlight_95 : decode cX9_readFlight 95 = .ok (.iadd, 1) := by decide +kernel
theorem dX9_readFlight_96 : decode cX9_readFlight 96 = .ok (.iastore, 1) := by decide +kernel
theorem dX9_readFlight_97 : decode cX9_readFlight 97 = .ok (.return_, 1) := by decide +kernel
theorem dX9_readLane_0 : decode cX9_readLane 0 = .ok (.aload_n 0, 1) := by decide +kernel
theorem dX9_readLane_1 : decode cX9_readLane 1 = .ok (.getfield 20, 3) := by decide +kernel
theorem dX9_readLane_4 : decode cX9_readLane 4 = .ok (.bipush 13, 2) := by decide +kernel
theorem dX9_readLane_6 : decode cX9_readLane 6 = .ok (.iaload, 1) := by decide +kernel
theorem dX9_readLane_7 : decode cX9_readLane 7 = .ok (.istore_n 1, 1) := by decide +kernel
theorem dX9_readLane_8 : decode cX9_readLane 8 = .ok (.iload_n 1, 1) := by decide +kernel
theorem dX9_readLane_9 : decode cX9_readLane 9 = .ok (.iconst 4, 1) := by decide +kernel
theorem dX9_readLane_10 : decode cX9_readLane 10 = .ok (.if_icmp .ne 8, 3) := by decide +kernel
theorem dX9_readLane_13 : decode cX9_readLane 13 = .ok (.aload_n 0, 1) := by decide +kernel
theorem dX9_readLane_14 : decode cX9_readLane 14 = .ok (.iconst 4, 1) := by decide +kernel
theorem dX9_readLane_15 : decode cX9_readLane 15 = .ok (.invokevirtual 140, 3) := by decide +kernel
theorem dX9_readLane_18 : decode cX9_readLane 18 = .ok (.aload_n 0, 1) := by decide +kernel
theorem dX9_readLane_19 : decode cX9_readLane 19 = .ok (.invokevirtual 134, 3) := by decide +kernel
theorem dX9_readLane_22 : decode cX9_readLane 22 = .ok (.aload_n 0, 1) := by decide +kernel
theorem dX9_readLane_23 : decode cX9_readLane 23 = .ok (.getfield 92, 3) := by decide +kernel
theorem dX9_readLane_26 : decode cX9_readLane 26 = .ok (.ifCond .le 4, 3) := by decide +kernel
theorem dX9_readLane_29 : decode cX9_readLane 29 = .ok (.return_, 1) := by decide +kernel
theorem dX9_readLane_30 : decode cX9_readLane 30 = .ok (.aload_n 0, 1) := by decide +kernel
theorem dX9_readLane_31 : decode cX9_readLane 31 = .ok (.getfield 20, 3) := by decide +kernel
theorem dX9_readLane_34 : decode cX9_readLane 34 = .ok (.bipush 23, 2) := by decide +kernel
theorem dX9_readLane_36 : decode cX9_readLane 36 = .ok (.iload_n 1, 1) := by decide +kernel
theorem dX9_readLane_37 : decode cX9_readLane 37 = .ok (.iadd, 1) := by decide +kernel
theorem dX9_readLane_38 : decode cX9_readLane 38 = .ok (.aload_n 0, 1) := by decide +kernel
theorem dX9_readLane_39 : decode cX9_readLane 39 = .ok (.invokevirtual 165, 3) := by decide +kernel
theorem dX9_readLane_42 : decode cX9_readLane 42 = .ok (.iastore, 1) := by decide +kernel
theorem dX9_readLane_43 : decode cX9_readLane 43 = .ok (.aload_n 0, 1) := by decide +kernel
theorem dX9_readLane_44 : decode cX9_readLane 44 = .ok (.getfield 20, 3) := by decide +kernel
theorem dX9_readLane_47 : decode cX9_readLane 47 = .ok (.bipush 27, 2) := by decide +kernel
theorem dX9_readLane_49 : decode cX9_readLane 49 = .ok (.iload_n 1, 1) := by decide +kernel
theorem dX9_readLane_50 : decode cX9_readLane 50 = .ok (.iadd, 1) := by decide +kernel
theorem dX9_readLane_51 : decode cX9_readLane 51 = .ok (.aload_n 0, 1) := by decide +kernel
theorem dX9_readLane_52 : decode cX9_readLane 52 = .ok (.iconst 1, 1) := by decide +kernel
theorem dX9_readLane_53 : decode cX9_readLane 53 = .ok (.bipush 20, 2) := by decide +kernel
theorem dX9_readLane_55 : decode cX9_readLane 55 = .ok (.invokevirtual 151, 3) := by decide +kernel
theorem dX9_readLane_58 : decode cX9_readLane 58 = .ok (.iastore, 1) := by decide +kernel
theorem dX9_readLane_59 : decode cX9_readLane 59 = .ok (.aload_n 0, 1) := by decide +kernel
theorem dX9_readLane_60 : decode cX9_readLane 60 = .ok (.getfield 20, 3) := by decide +kernel
theorem dX9_readLane_63 : decode cX9_readLane 63 = .ok (.bipush 13, 2) := by decide +kernel
theorem dX9_readLane_65 : decode cX9_readLane 65 = .ok (.dup2, 1) := by decide +kernel
theorem dX9_readLane_66 : decode cX9_readLane 66 = .ok (.iaload, 1) := by decide +kernel
theorem dX9_readLane_67 : decode cX9_readLane 67 = .ok (.iconst 1, 1) := by decide +kernel
theorem dX9_readLane_68 : decode cX9_readLane 68 = .ok (.iadd, 1) := by decide +kernel
theorem dX9_readLane_69 : decode cX9_readLane 69 = .ok (.iastore, 1) := by decide +kernel
theorem dX9_readLane_70 : decode cX9_readLane 70 = .ok (.return_, 1) := by decide +kernel
theorem dX9_adds_0 : decode cX9_adds 0 = .ok (.iconst 0, 1) := by decide +kernel
theorem dX9_adds_1 : decode cX9_adds 1 = .ok (.istore 4, 2) := by decide +kernel
theorem dX9_adds_3 : decode cX9_adds 3 = .ok (.iload 4, 2) := by decide +kernel
theorem dX9_adds_5 : decode cX9_adds 5 = .ok (.iload_n 2, 1) := by decide +kernel
theorem dX9_adds_6 : decode cX9_adds 6 = .ok (.if_icmp .ge 95, 3) := by decide +kernel
theorem dX9_adds_9 : decode cX9_adds 9 = .ok (.aload_n 0, 1) := by decide +kernel
theorem dX9_adds_10 : decode cX9_adds 10 = .ok (.iconst 2, 1) := by decide +kernel
theorem dX9_adds_11 : decode cX9_adds 11 = .ok (.iaload, 1) := by decide +kernel
theorem dX9_adds_12 : decode cX9_adds 12 = .ok (.istore 5, 2) := by decide +kernel
theorem dX9_adds_14 : decode cX9_adds 14 = .ok (.aload_n 0, 1) := by decide +kernel
theorem dX9_adds_15 : decode cX9_adds 15 = .ok (.sipush 173, 3) := by decide +kernel
theorem dX9_adds_18 : decode cX9_adds 18 = .ok (.iload 5, 2) := by decide +kernel
theorem dX9_adds_20 : decode cX9_adds 20 = .ok (.iadd, 1) := by decide +kernel
theorem dX9_adds_21 : decode cX9_adds 21 = .ok (.iload_n 3, 1) := by decide +kernel
theorem dX9_adds_22 : decode cX9_adds 22 = .ok (.iastore, 1) := by decide +kernel
theorem dX9_adds_23 : decode cX9_adds 23 = .ok (.aload_n 0, 1) := by decide +kernel
theorem dX9_adds_24 : decode cX9_adds 24 = .ok (.sipush 273, 3) := by decide +kernel
theorem dX9_adds_27 : decode cX9_adds 27 = .ok (.iload 5, 2) := by decide +kernel
theorem dX9_adds_29 : decode cX9_adds 29 = .ok (.iadd, 1) := by decide +kernel
theorem dX9_adds_30 : decode cX9_adds 30 = .ok (.iload_n 1, 1) := by decide +kernel
theorem dX9_adds_31 : decode cX9_adds 31 = .ok (.iastore, 1) := by decide +kernel
theorem dX9_adds_32 : decode cX9_adds 32 = .ok (.aload_n 0, 1) := by decide +kernel
theorem dX9_adds_33 : decode cX9_adds 33 = .ok (.sipush 373, 3) := by decide +kernel
theorem dX9_adds_36 : decode cX9_adds 36 = .ok (.iload 5, 2) := by decide +kernel
theorem dX9_adds_38 : decode cX9_adds 38 = .ok (.iadd, 1) := by decide +kernel
theorem dX9_adds_39 : decode cX9_adds 39 = .ok (.iload_n 1, 1) := by decide +kernel
theorem dX9_adds_40 : decode cX9_adds 40 = .ok (.aload_n 0, 1) := by decide +kernel
theorem dX9_adds_41 : decode cX9_adds 41 = .ok (.iconst 0, 1) := by decide +kernel
theorem dX9_adds_42 : decode cX9_adds 42 = .ok (.iaload, 1) := by decide +kernel
theorem dX9_adds_43 : decode cX9_adds 43 = .ok (.if_icmp .gt 7, 3) := by decide +kernel
theorem dX9_adds_46 : decode cX9_adds 46 = .ok (.iconst 1, 1) := by decide +kernel
theorem dX9_adds_47 : decode cX9_adds 47 = .ok (.goto 4, 3) := by decide +kernel
theorem dX9_adds_50 : decode cX9_adds 50 = .ok (.iconst 0, 1) := by decide +kernel
theorem dX9_adds_51 : decode cX9_adds 51 = .ok (.iastore, 1) := by decide +kernel
theorem dX9_adds_52 : decode cX9_adds 52 = .ok (.aload_n 0, 1) := by decide +kernel
theorem dX9_adds_53 : decode cX9_adds 53 = .ok (.sipush 473, 3) := by decide +kernel
theorem dX9_adds_56 : decode cX9_adds 56 = .ok (.iload 5, 2) := by decide +kernel
theorem dX9_adds_58 : decode cX9_adds 58 = .ok (.iadd, 1) := by decide +kernel
theorem dX9_adds_59 : decode cX9_adds 59 = .ok (.iconst (-1), 1) := by decide +kernel
theorem dX9_adds_60 : decode cX9_adds 60 = .ok (.iastore, 1) := by decide +kernel
theorem dX9_adds_61 : decode cX9_adds 61 = .ok (.aload_n 0, 1) := by decide +kernel
theorem dX9_adds_62 : decode cX9_adds 62 = .ok (.sipush 573, 3) := by decide +kernel
theorem dX9_adds_65 : decode cX9_adds 65 = .ok (.iload 5, 2) := by decide +kernel
theorem dX9_adds_67 : decode cX9_adds 67 = .ok (.iadd, 1) := by decide +kernel
theorem dX9_adds_68 : decode cX9_adds 68 = .ok (.iconst 0, 1) := by decide +kernel
theorem dX9_adds_69 : decode cX9_adds 69 = .ok (.iastore, 1) := by decide +kernel
theorem dX9_adds_70 : decode cX9_adds 70 = .ok (.aload_n 0, 1) := by decide +kernel
theorem dX9_adds_71 : decode cX9_adds 71 = .ok (.sipush 673, 3) := by decide +kernel
theorem dX9_adds_74 : decode cX9_adds 74 = .ok (.iload 5, 2) := by decide +kernel
theorem dX9_adds_76 : decode cX9_adds 76 = .ok (.iadd, 1) := by decide +kernel
theorem dX9_adds_77 : decode cX9_adds 77 = .ok (.iconst 0, 1) := by decide +kernel
theorem dX9_adds_78 : decode cX9_adds 78 = .ok (.iastore, 1) := by decide +kernel
theorem dX9_adds_79 : decode cX9_adds 79 = .ok (.aload_n 0, 1) := by decide +kernel
theorem dX9_adds_80 : decode cX9_adds 80 = .ok (.sipush 773, 3) := by decide +kernel
theorem dX9_adds_83 : decode cX9_adds 83 = .ok (.iload 5, 2) := by decide +kernel
theorem dX9_adds_85 : decode cX9_adds 85 = .ok (.iadd, 1) := by decide +kernel
theorem dX9_adds_86 : decode cX9_adds 86 = .ok (.iconst (-1), 1) := by decide +kernel
theorem dX9_adds_87 : decode cX9_adds 87 = .ok (.iastore, 1) := by decide +kernel
theorem dX9_adds_88 : decode cX9_adds 88 = .ok (.aload_n 0, 1) := by decide +kernel
theorem dX9_adds_89 : decode cX9_adds 89 = .ok (.iconst 2, 1) := by decide +kernel
theorem dX9_adds_90 : decode cX9_adds 90 = .ok (.dup2, 1) := by decide +kernel
theorem dX9_adds_91 : decode cX9_adds 91 = .ok (.iaload, 1) := by decide +kernel
theorem dX9_adds_92 : decode cX9_adds 92 = .ok (.iconst 1, 1) := by decide +kernel
theorem dX9_adds_93 : decode cX9_adds 93 = .ok (.iadd, 1) := by decide +kernel
theorem dX9_adds_94 : decode cX9_adds 94 = .ok (.iastore, 1) := by decide +kernel
theorem dX9_adds_95 : decode cX9_adds 95 = .ok (.iinc 4 1, 3) := by decide +kernel
theorem dX9_adds_98 : decode cX9_adds 98 = .ok (.goto (-95), 3) := by decide +kernel
theorem dX9_adds_101 : decode cX9_adds 101 = .ok (.return_, 1) := by decide +kernel
theorem dX9_readBags_0 : decode cX9_readBags 0 = .ok (.aload_n 0, 1) := by decide +kernel
theorem dX9_readBags_1 : decode cX9_readBags 1 = .ok (.invokevirtual 134, 3) := by decide +kernel
theorem dX9_readBags_4 : decode cX9_readBags 4 = .ok (.aload_n 0, 1) := by decide +kernel
theorem dX9_readBags_5 : decode cX9_readBags 5 = .ok (.iconst 0, 1) := by decide +kernel
theorem dX9_readBags_6 : decode cX9_readBags 6 = .ok (.sipush 999, 3) := by decide +kernel
theorem dX9_readBags_9 : decode cX9_readBags 9 = .ok (.invokevirtual 151, 3) := by decide +kernel
theorem dX9_readBags_12 : decode cX9_readBags 12 = .ok (.istore_n 1, 1) := by decide +kernel
theorem dX9_readBags_13 : decode cX9_readBags 13 = .ok (.aload_n 0, 1) := by decide +kernel
theorem dX9_readBags_14 : decode cX9_readBags 14 = .ok (.iconst 1, 1) := by decide +kernel
theorem dX9_readBags_15 : decode cX9_readBags 15 = .ok (.bipush 100, 2) := by decide +kernel
theorem dX9_readBags_17 : decode cX9_readBags 17 = .ok (.aload_n 0, 1) := by decide +kernel
theorem dX9_readBags_18 : decode cX9_readBags 18 = .ok (.getfield 26, 3) := by decide +kernel
theorem dX9_readBags_21 : decode cX9_readBags 21 = .ok (.iconst 2, 1) := by decide +kernel
theorem dX9_readBags_22 : decode cX9_readBags 22 = .ok (.iaload, 1) := by decide +kernel
theorem dX9_readBags_23 : decode cX9_readBags 23 = .ok (.isub, 1) := by decide +kernel
theorem dX9_readBags_24 : decode cX9_readBags 24 = .ok (.invokevirtual 151, 3) := by decide +kernel
theorem dX9_readBags_27 : decode cX9_readBags 27 = .ok (.istore_n 2, 1) := by decide +kernel
theorem dX9_readBags_28 : decode cX9_readBags 28 = .ok (.aload_n 0, 1) := by decide +kernel
theorem dX9_readBags_29 : decode cX9_readBags 29 = .ok (.iconst 0, 1) := by decide +kernel
theorem dX9_readBags_30 : decode cX9_readBags 30 = .ok (.aload_n 0, 1) := by decide +kernel
theorem dX9_readBags_31 : decode cX9_readBags 31 = .ok (.getfield 20, 3) := by decide +kernel
theorem dX9_readBags_34 : decode cX9_readBags 34 = .ok (.bipush 12, 2) := by decide +kernel
theorem dX9_readBags_36 : decode cX9_readBags 36 = .ok (.iaload, 1) := by decide +kernel
theorem dX9_readBags_37 : decode cX9_readBags 37 = .ok (.iconst 1, 1) := by decide +kernel
theorem dX9_readBags_38 : decode cX9_readBags 38 = .ok (.isub, 1) := by decide +kernel
theorem dX9_readBags_39 : decode cX9_readBags 39 = .ok (.invokevirtual 151, 3) := by decide +kernel
theorem dX9_readBags_42 : decode cX9_readBags 42 = .ok (.istore_n 3, 1) := by decide +kernel
theorem dX9_readBags_43 : decode cX9_readBags 43 = .ok (.aload_n 0, 1) := by decide +kernel
theorem dX9_readBags_44 : decode cX9_readBags 44 = .ok (.getfield 92, 3) := by decide +kernel
theorem dX9_readBags_47 : decode cX9_readBags 47 = .ok (.ifCond .ne 13, 3) := by decide +kernel
theorem dX9_readBags_50 : decode cX9_readBags 50 = .ok (.aload_n 0, 1) := by decide +kernel
theorem dX9_readBags_51 : decode cX9_readBags 51 = .ok (.getfield 26, 3) := by decide +kernel
theorem dX9_readBags_54 : decode cX9_readBags 54 = .ok (.iload_n 1, 1) := by decide +kernel
theorem dX9_readBags_55 : decode cX9_readBags 55 = .ok (.iload_n 2, 1) := by decide +kernel
theorem dX9_readBags_56 : decode cX9_readBags 56 = .ok (.iload_n 3, 1) := by decide +kernel
theorem dX9_readBags_57 : decode cX9_readBags 57 = .ok (.invokestatic 168, 3) := by decide +kernel
theorem dX9_readBags_60 : decode cX9_readBags 60 = .ok (.return_, 1) := by decide +kernel
theorem dX9_node_0 : decode cX9_node 0 = .ok (.iconst 1, 1) := by decide +kernel
theorem dX9_node_1 : decode cX9_node 1 = .ok (.aload_n 0, 1) := by decide +kernel
theorem dX9_node_2 : decode cX9_node 2 = .ok (.getfield 172, 3) := by decide +kernel
theorem dX9_node_5 : decode cX9_node 5 = .ok (.isub, 1) := by decide +kernel
theorem dX9_node_6 : decode cX9_node 6 = .ok (.sipush 700, 3) := by decide +kernel
theorem dX9_node_9 : decode cX9_node 9 = .ok (.imul, 1) := by decide +kernel
theorem dX9_node_10 : decode cX9_node 10 = .ok (.aload_n 0, 1) := by decide +kernel
theorem dX9_node_11 : decode cX9_node 11 = .ok (.getfield 175, 3) := by decide +kernel
theorem dX9_node_14 : decode cX9_node 14 = .ok (.iadd, 1) := by decide +kernel
theorem dX9_node_15 : decode cX9_node 15 = .ok (.istore 4, 2) := by decide +kernel
theorem dX9_node_17 : decode cX9_node 17 = .ok (.aload_n 0, 1) := by decide +kernel
theorem dX9_node_18 : decode cX9_node 18 = .ok (.getfield 58, 3) := by decide +kernel
theorem dX9_node_21 : decode cX9_node 21 = .ok (.iload 4, 2) := by decide +kernel
theorem dX9_node_23 : decode cX9_node 23 = .ok (.iload_n 1, 1) := by decide +kernel
theorem dX9_node_24 : decode cX9_node 24 = .ok (.iastore, 1) := by decide +kernel
theorem dX9_node_25 : decode cX9_node 25 = .ok (.aload_n 0, 1) := by decide +kernel
theorem dX9_node_26 : decode cX9_node 26 = .ok (.getfield 61, 3) := by decide +kernel
theorem dX9_node_29 : decode cX9_node 29 = .ok (.iload 4, 2) := by decide +kernel
theorem dX9_node_31 : decode cX9_node 31 = .ok (.iload_n 2, 1) := by decide +kernel
theorem dX9_node_32 : decode cX9_node 32 = .ok (.iastore, 1) := by decide +kernel
theorem dX9_node_33 : decode cX9_node 33 = .ok (.aload_n 0, 1) := by decide +kernel
theorem dX9_node_34 : decode cX9_node 34 = .ok (.getfield 64, 3) := by decide +kernel
theorem dX9_node_37 : decode cX9_node 37 = .ok (.iload 4, 2) := by decide +kernel
theorem dX9_node_39 : decode cX9_node 39 = .ok (.iload_n 3, 1) := by decide +kernel
theorem dX9_node_40 : decode cX9_node 40 = .ok (.iastore, 1) := by decide +kernel
theorem dX9_node_41 : decode cX9_node 41 = .ok (.aload_n 0, 1) := by decide +kernel
theorem dX9_node_42 : decode cX9_node 42 = .ok (.dup, 1) := by decide +kernel
theorem dX9_node_43 : decode cX9_node 43 = .ok (.getfield 175, 3) := by decide +kernel
theorem dX9_node_46 : decode cX9_node 46 = .ok (.iconst 1, 1) := by decide +kernel
theorem dX9_node_47 : decode cX9_node 47 = .ok (.iadd, 1) := by decide +kernel
theorem dX9_node_48 : decode cX9_node 48 = .ok (.putfield 175, 3) := by decide +kernel
theorem dX9_node_51 : decode cX9_node 51 = .ok (.iload 4, 2) := by decide +kernel
theorem dX9_node_53 : decode cX9_node 53 = .ok (.ireturn, 1) := by decide +kernel
theorem dX9_test_0 : decode cX9_test 0 = .ok (.aload_n 0, 1) := by decide +kernel
theorem dX9_test_1 : decode cX9_test 1 = .ok (.invokevirtual 178, 3) := by decide +kernel
theorem dX9_test_4 : decode cX9_test 4 = .ok (.istore_n 1, 1) := by decide +kernel
theorem dX9_test_5 : decode cX9_test 5 = .ok (.aload_n 0, 1) := by decide +kernel
theorem dX9_test_6 : decode cX9_test 6 = .ok (.ldc 181, 2) := by decide +kernel
theorem dX9_test_8 : decode cX9_test 8 = .ok (.invokevirtual 130, 3) := by decide +kernel
theorem dX9_test_11 : decode cX9_test 11 = .ok (.ifCond .ne 12, 3) := by decide +kernel
theorem dX9_test_14 : decode cX9_test 14 = .ok (.aload_n 0, 1) := by decide +kernel
theorem dX9_test_15 : decode cX9_test 15 = .ok (.ldc 183, 2) := by decide +kernel
theorem dX9_test_17 : decode cX9_test 17 = .ok (.invokevirtual 130, 3) := by decide +kernel
theorem dX9_test_20 : decode cX9_test 20 = .ok (.ifCond .eq 50, 3) := by decide +kernel
theorem dX9_test_23 : decode cX9_test 23 = .ok (.aload_n 0, 1) := by decide +kernel
theorem dX9_test_24 : decode cX9_test 24 = .ok (.ldc 181, 2) := by decide +kernel
theorem dX9_test_26 : decode cX9_test 26 = .ok (.invokevirtual 130, 3) := by decide +kernel
theorem dX9_test_29 : decode cX9_test 29 = .ok (.ifCond .eq 7, 3) := by decide +kernel
theorem dX9_test_32 : decode cX9_test 32 = .ok (.iconst 0, 1) := by decide +kernel
theorem dX9_test_33 : decode cX9_test 33 = .ok (.goto 4, 3) := by decide +kernel
theorem dX9_test_36 : decode cX9_test 36 = .ok (.iconst 1, 1) := by decide +kernel
theorem dX9_test_37 : decode cX9_test 37 = .ok (.istore_n 2, 1) := by decide +kernel
theorem dX9_test_38 : decode cX9_test 38 = .ok (.aload_n 0, 1) := by decide +kernel
theorem dX9_test_39 : decode cX9_test 39 = .ok (.invokevirtual 134, 3) := by decide +kernel
theorem dX9_test_42 : decode cX9_test 42 = .ok (.aload_n 0, 1) := by decide +kernel
theorem dX9_test_43 : decode cX9_test 43 = .ok (.invokevirtual 178, 3) := by decide +kernel
theorem dX9_test_46 : decode cX9_test 46 = .ok (.istore_n 3, 1) := by decide +kernel
theorem dX9_test_47 : decode cX9_test 47 = .ok (.aload_n 0, 1) := by decide +kernel
theorem dX9_test_48 : decode cX9_test 48 = .ok (.getfield 67, 3) := by decide +kernel
theorem dX9_test_51 : decode cX9_test 51 = .ok (.iload_n 1, 1) := by decide +kernel
theorem dX9_test_52 : decode cX9_test 52 = .ok (.aload_n 0, 1) := by decide +kernel
theorem dX9_test_53 : decode cX9_test 53 = .ok (.iload_n 2, 1) := by decide +kernel
theorem dX9_test_54 : decode cX9_test 54 = .ok (.iload_n 1, 1) := by decide +kernel
theorem dX9_test_55 : decode cX9_test 55 = .ok (.iload_n 3, 1) := by decide +kernel
theorem dX9_test_56 : decode cX9_test 56 = .ok (.invokevirtual 185, 3) := by decide +kernel
theorem dX9_test_59 : decode cX9_test 59 = .ok (.iastore, 1) := by decide +kernel
theorem dX9_test_60 : decode cX9_test 60 = .ok (.aload_n 0, 1) := by decide +kernel
theorem dX9_test_61 : decode cX9_test 61 = .ok (.getfield 67, 3) := by decide +kernel
theorem dX9_test_64 : decode cX9_test 64 = .ok (.iload_n 1, 1) := by decide +kernel
theorem dX9_test_65 : decode cX9_test 65 = .ok (.iaload, 1) := by decide +kernel
theorem dX9_test_66 : decode cX9_test 66 = .ok (.istore_n 1, 1) := by decide +kernel
theorem dX9_test_67 : decode cX9_test 67 = .ok (.goto (-62), 3) := by decide +kernel
theorem dX9_test_70 : decode cX9_test 70 = .ok (.iload_n 1, 1) := by decide +kernel
theorem dX9_test_71 : decode cX9_test 71 = .ok (.ireturn, 1) := by decide +kernel
theorem dX9_valueHere_0 : decode cX9_valueHere 0 = .ok (.iconst 0, 1) := by decide +kernel
theorem dX9_valueHere_1 : decode cX9_valueHere 1 = .ok (.istore_n 1, 1) := by decide +kernel
theorem dX9_valueHere_2 : decode cX9_valueHere 2 = .ok (.iload_n 1, 1) := by decide +kernel
theorem dX9_valueHere_3 : decode cX9_valueHere 3 = .ok (.aload_n 0, 1) := by decide +kernel
theorem dX9_valueHere_4 : decode cX9_valueHere 4 = .ok (.getfield 54, 3) := by decide +kernel
theorem dX9_valueHere_7 : decode cX9_valueHere 7 = .ok (.arraylength, 1) := by decide +kernel
theorem dX9_valueHere_8 : decode cX9_valueHere 8 = .ok (.if_icmp .ge 24, 3) := by decide +kernel
theorem dX9_valueHere_11 : decode cX9_valueHere 11 = .ok (.aload_n 0, 1) := by decide +kernel
theorem dX9_valueHere_12 : decode cX9_valueHere 12 = .ok (.aload_n 0, 1) := by decide +kernel
theorem dX9_valueHere_13 : decode cX9_valueHere 13 = .ok (.getfield 54, 3) := by decide +kernel
theorem dX9_valueHere_16 : decode cX9_valueHere 16 = .ok (.iload_n 1, 1) := by decide +kernel
theorem dX9_valueHere_17 : decode cX9_valueHere 17 = .ok (.aaload, 1) := by decide +kernel
theorem dX9_valueHere_18 : decode cX9_valueHere 18 = .ok (.invokevirtual 130, 3) := by decide +kernel
theorem dX9_valueHere_21 : decode cX9_valueHere 21 = .ok (.ifCond .eq 5, 3) := by decide +kernel
theorem dX9_valueHere_24 : decode cX9_valueHere 24 = .ok (.iload_n 1, 1) := by decide +kernel
theorem dX9_valueHere_25 : decode cX9_valueHere 25 = .ok (.ireturn, 1) := by decide +kernel
theorem dX9_valueHere_26 : decode cX9_valueHere 26 = .ok (.iinc 1 1, 3) := by decide +kernel
theorem dX9_valueHere_29 : decode cX9_valueHere 29 = .ok (.goto (-27), 3) := by decide +kernel
theorem dX9_valueHere_32 : decode cX9_valueHere 32 = .ok (.iconst (-1), 1) := by decide +kernel
theorem dX9_valueHere_33 : decode cX9_valueHere 33 = .ok (.ireturn, 1) := by decide +kernel
theorem dX9_unit_0 : decode cX9_unit 0 = .ok (.aload_n 0, 1) := by decide +kernel
theorem dX9_unit_1 : decode cX9_unit 1 = .ok (.invokevirtual 189, 3) := by decide +kernel
theorem dX9_unit_4 : decode cX9_unit 4 = .ok (.istore_n 1, 1) := by decide +kernel
theorem dX9_unit_5 : decode cX9_unit 5 = .ok (.iload_n 1, 1) := by decide +kernel
theorem dX9_unit_6 : decode cX9_unit 6 = .ok (.iconst (-1), 1) := by decide +kernel
theorem dX9_unit_7 : decode cX9_unit 7 = .ok (.if_icmp .ne 26, 3) := by decide +kernel
theorem dX9_unit_10 : decode cX9_unit 10 = .ok (.aload_n 0, 1) := by decide +kernel
theorem dX9_unit_11 : decode cX9_unit 11 = .ok (.ldc 192, 2) := by decide +kernel
theorem dX9_unit_13 : decode cX9_unit 13 = .ok (.invokevirtual 130, 3) := by decide +kernel
theorem dX9_unit_16 : decode cX9_unit 16 = .ok (.ifCond .ne 17, 3) := by decide +kernel
theorem dX9_unit_19 : decode cX9_unit 19 = .ok (.aload_n 0, 1) := by decide +kernel
theorem dX9_unit_20 : decode cX9_unit 20 = .ok (.bipush 40, 2) := by decide +kernel
theorem dX9_unit_22 : decode cX9_unit 22 = .ok (.invokevirtual 194, 3) := by decide +kernel
theorem dX9_unit_25 : decode cX9_unit 25 = .ok (.ifCond .ne 8, 3) := by decide +kernel
theorem dX9_unit_28 : decode cX9_unit 28 = .ok (.aload_n 0, 1) := by decide +kernel
theorem dX9_unit_29 : decode cX9_unit 29 = .ok (.iconst 1, 1) := by decide +kernel
theorem dX9_unit_30 : decode cX9_unit 30 = .ok (.invokevirtual 140, 3) := by decide +kernel
theorem dX9_unit_33 : decode cX9_unit 33 = .ok (.aload_n 0, 1) := by decide +kernel
theorem dX9_unit_34 : decode cX9_unit 34 = .ok (.getfield 197, 3) := by decide +kernel
theorem dX9_unit_37 : decode cX9_unit 37 = .ok (.bipush 9, 2) := by decide +kernel
theorem dX9_unit_39 : decode cX9_unit 39 = .ok (.if_icmp .le 9, 3) := by decide +kernel
theorem dX9_unit_42 : decode cX9_unit 42 = .ok (.aload_n 0, 1) := by decide +kernel
theorem dX9_unit_43 : decode cX9_unit 43 = .ok (.bipush 6, 2) := by decide +kernel
theorem dX9_unit_45 : decode cX9_unit 45 = .ok (.invokevirtual 140, 3) := by decide +kernel
theorem dX9_unit_48 : decode cX9_unit 48 = .ok (.aload_n 0, 1) := by decide +kernel
theorem dX9_unit_49 : decode cX9_unit 49 = .ok (.getfield 92, 3) := by decide +kernel
theorem dX9_unit_52 : decode cX9_unit 52 = .ok (.ifCond .le 5, 3) := by decide +kernel
theorem dX9_unit_55 : decode cX9_unit 55 = .ok (.iconst 0, 1) := by decide +kernel
theorem dX9_unit_56 : decode cX9_unit 56 = .ok (.ireturn, 1) := by decide +kernel
theorem dX9_unit_57 : decode cX9_unit 57 = .ok (.aload_n 0, 1) := by decide +kernel
theorem dX9_unit_58 : decode cX9_unit 58 = .ok (.dup, 1) := by decide +kernel
theorem dX9_unit_59 : decode cX9_unit 59 = .ok (.getfield 197, 3) := by decide +kernel
theorem dX9_unit_62 : decode cX9_unit 62 = .ok (.iconst 1, 1) := by decide +kernel
theorem dX9_unit_63 : decode cX9_unit 63 = .ok (.iadd, 1) := by decide +kernel
theorem dX9_unit_64 : decode cX9_unit 64 = .ok (.putfield 197, 3) := by decide +kernel
theorem dX9_unit_67 : decode cX9_unit 67 = .ok (.aload_n 0, 1) := by decide +kernel
theorem dX9_unit_68 : decode cX9_unit 68 = .ok (.ldc 192, 2) := by decide +kernel
theorem dX9_unit_70 : decode cX9_unit 70 = .ok (.invokevirtual 137, 3) := by decide +kernel
theorem dX9_unit_73 : decode cX9_unit 73 = .ok (.ifCond .eq 17, 3) := by decide +kernel
theorem dX9_unit_76 : decode cX9_unit 76 = .ok (.aload_n 0, 1) := by decide +kernel
theorem dX9_unit_77 : decode cX9_unit 77 = .ok (.iconst 2, 1) := by decide +kernel
theorem dX9_unit_78 : decode cX9_unit 78 = .ok (.aload_n 0, 1) := by decide +kernel
theorem dX9_unit_79 : decode cX9_unit 79 = .ok (.invokevirtual 178, 3) := by decide +kernel
theorem dX9_unit_82 : decode cX9_unit 82 = .ok (.iconst 0, 1) := by decide +kernel
theorem dX9_unit_83 : decode cX9_unit 83 = .ok (.invokevirtual 185, 3) := by decide +kernel
theorem dX9_unit_86 : decode cX9_unit 86 = .ok (.istore_n 2, 1) := by decide +kernel
theorem dX9_unit_87 : decode cX9_unit 87 = .ok (.goto 21, 3) := by decide +kernel
theorem dX9_unit_90 : decode cX9_unit 90 = .ok (.iload_n 1, 1) := by decide +kernel
theorem dX9_unit_91 : decode cX9_unit 91 = .ok (.iconst (-1), 1) := by decide +kernel
theorem dX9_unit_92 : decode cX9_unit 92 = .ok (.if_icmp .ne 10, 3) := by decide +kernel
theorem dX9_unit_95 : decode cX9_unit 95 = .ok (.aload_n 0, 1) := by decide +kernel
theorem dX9_unit_96 : decode cX9_unit 96 = .ok (.invokevirtual 200, 3) := by decide +kernel
theorem dX9_unit_99 : decode cX9_unit 99 = .ok (.goto 8, 3) := by decide +kernel
theorem dX9_unit_102 : decode cX9_unit 102 = .ok (.aload_n 0, 1) := by decide +kernel
theorem dX9_unit_103 : decode cX9_unit 103 = .ok (.iload_n 1, 1) := by decide +kernel
theorem dX9_unit_104 : decode cX9_unit 104 = .ok (.invokevirtual 203, 3) := by decide +kernel
theorem dX9_unit_107 : decode cX9_unit 107 = .ok (.istore_n 2, 1) := by decide +kernel
theorem dX9_unit_108 : decode cX9_unit 108 = .ok (.aload_n 0, 1) := by decide +kernel
theorem dX9_unit_109 : decode cX9_unit 109 = .ok (.dup, 1) := by decide +kernel
theorem dX9_unit_110 : decode cX9_unit 110 = .ok (.getfield 197, 3) := by decide +kernel
theorem dX9_unit_113 : decode cX9_unit 113 = .ok (.iconst 1, 1) := by decide +kernel
theorem dX9_unit_114 : decode cX9_unit 114 = .ok (.isub, 1) := by decide +kernel
theorem dX9_unit_115 : decode cX9_unit 115 = .ok (.putfield 197, 3) := by decide +kernel
theorem dX9_unit_118 : decode cX9_unit 118 = .ok (.iload_n 2, 1) := by decide +kernel
theorem dX9_unit_119 : decode cX9_unit 119 = .ok (.ireturn, 1) := by decide +kernel
theorem dX9_inner_0 : decode cX9_inner 0 = .ok (.aload_n 0, 1) := by decide +kernel
theorem dX9_inner_1 : decode cX9_inner 1 = .ok (.invokevirtual 134, 3) := by decide +kernel
theorem dX9_inner_4 : decode cX9_inner 4 = .ok (.aload_n 0, 1) := by decide +kernel
theorem dX9_inner_5 : decode cX9_inner 5 = .ok (.invokevirtual 206, 3) := by decide +kernel
theorem dX9_inner_8 : decode cX9_inner 8 = .ok (.istore_n 1, 1) := by decide +kernel
theorem dX9_inner_9 : decode cX9_inner 9 = .ok (.aload_n 0, 1) := by decide +kernel
theorem dX9_inner_10 : decode cX9_inner 10 = .ok (.bipush 41, 2) := by decide +kernel
theorem dX9_inner_12 : decode cX9_inner 12 = .ok (.invokevirtual 194, 3) := by decide +kernel
theorem dX9_inner_15 : decode cX9_inner 15 = .ok (.ifCond .ne 8, 3) := by decide +kernel
theorem dX9_inner_18 : decode cX9_inner 18 = .ok (.aload_n 0, 1) := by decide +kernel
theorem dX9_inner_19 : decode cX9_inner 19 = .ok (.iconst 1, 1) := by decide +kernel
theorem dX9_inner_20 : decode cX9_inner 20 = .ok (.invokevirtual 140, 3) := by decide +kernel
theorem dX9_inner_23 : decode cX9_inner 23 = .ok (.aload_n 0, 1) := by decide +kernel
theorem dX9_inner_24 : decode cX9_inner 24 = .ok (.invokevirtual 134, 3) := by decide +kernel
theorem dX9_inner_27 : decode cX9_inner 27 = .ok (.iload_n 1, 1) := by decide +kernel
theorem dX9_inner_28 : decode cX9_inner 28 = .ok (.ireturn, 1) := by decide +kernel
theorem dX9_comparison_0 : decode cX9_comparison 0 = .ok (.aload_n 0, 1) := by decide +kernel
theorem dX9_comparison_1 : decode cX9_comparison 1 = .ok (.invokevirtual 134, 3) := by decide +kernel
theorem dX9_comparison_4 : decode cX9_comparison 4 = .ok (.aload_n 0, 1) := by decide +kernel
theorem dX9_comparison_5 : decode cX9_comparison 5 = .ok (.bipush 60, 2) := by decide +kernel
theorem dX9_comparison_7 : decode cX9_comparison 7 = .ok (.invokevirtual 194, 3) := by decide +kernel
theorem dX9_comparison_10 : decode cX9_comparison 10 = .ok (.ifCond .eq 7, 3) := by decide +kernel
theorem dX9_comparison_13 : decode cX9_comparison 13 = .ok (.iconst 3, 1) := by decide +kernel
theorem dX9_comparison_14 : decode cX9_comparison 14 = .ok (.goto 17, 3) := by decide +kernel
theorem dX9_comparison_17 : decode cX9_comparison 17 = .ok (.aload_n 0, 1) := by decide +kernel
theorem dX9_comparison_18 : decode cX9_comparison 18 = .ok (.bipush 62, 2) := by decide +kernel
theorem dX9_comparison_20 : decode cX9_comparison 20 = .ok (.invokevirtual 194, 3) := by decide +kernel
theorem dX9_comparison_23 : decode cX9_comparison 23 = .ok (.ifCond .eq 7, 3) := by decide +kernel
theorem dX9_comparison_26 : decode cX9_comparison 26 = .ok (.iconst 4, 1) := by decide +kernel
theorem dX9_comparison_27 : decode cX9_comparison 27 = .ok (.goto 4, 3) := by decide +kernel
theorem dX9_comparison_30 : decode cX9_comparison 30 = .ok (.iconst 5, 1) := by decide +kernel
theorem dX9_comparison_31 : decode cX9_comparison 31 = .ok (.istore_n 2, 1) := by decide +kernel
theorem dX9_comparison_32 : decode cX9_comparison 32 = .ok (.iload_n 2, 1) := by decide +kernel
theorem dX9_comparison_33 : decode cX9_comparison 33 = .ok (.iconst 5, 1) := by decide +kernel
theorem dX9_comparison_34 : decode cX9_comparison 34 = .ok (.if_icmp .ne 17, 3) := by decide +kernel
theorem dX9_comparison_37 : decode cX9_comparison 37 = .ok (.aload_n 0, 1) := by decide +kernel
theorem dX9_comparison_38 : decode cX9_comparison 38 = .ok (.bipush 61, 2) := by decide +kernel
theorem dX9_comparison_40 : decode cX9_comparison 40 = .ok (.invokevirtual 194, 3) := by decide +kernel
theorem dX9_comparison_43 : decode cX9_comparison 43 = .ok (.ifCond .ne 8, 3) := by decide +kernel
theorem dX9_comparison_46 : decode cX9_comparison 46 = .ok (.aload_n 0, 1) := by decide +kernel
theorem dX9_comparison_47 : decode cX9_comparison 47 = .ok (.iconst 1, 1) := by decide +kernel
theorem dX9_comparison_48 : decode cX9_comparison 48 = .ok (.invokevirtual 140, 3) := by decide +kernel
theorem dX9_comparison_51 : decode cX9_comparison 51 = .ok (.aload_n 0, 1) := by decide +kernel
theorem dX9_comparison_52 : decode cX9_comparison 52 = .ok (.invokevirtual 134, 3) := by decide +kernel
theorem dX9_comparison_55 : decode cX9_comparison 55 = .ok (.aload_n 0, 1) := by decide +kernel
theorem dX9_comparison_56 : decode cX9_comparison 56 = .ok (.iload_n 2, 1) := by decide +kernel
theorem dX9_comparison_57 : decode cX9_comparison 57 = .ok (.iload_n 1, 1) := by decide +kernel
theorem dX9_comparison_58 : decode cX9_comparison 58 = .ok (.aload_n 0, 1) := by decide +kernel
theorem dX9_comparison_59 : decode cX9_comparison 59 = .ok (.iconst 0, 1) := by decide +kernel
theorem dX9_comparison_60 : decode cX9_comparison 60 = .ok (.sipush 9999, 3) := by decide +kernel
theorem dX9_comparison_63 : decode cX9_comparison 63 = .ok (.invokevirtual 151, 3) := by decide +kernel
theorem dX9_comparison_66 : decode cX9_comparison 66 = .ok (.invokevirtual 185, 3) := by decide +kernel
theorem dX9_comparison_69 : decode cX9_comparison 69 = .ok (.ireturn, 1) := by decide +kernel
theorem dX9_readKeep_0 : decode cX9_readKeep 0 = .ok (.aload_n 0, 1) := by decide +kernel
theorem dX9_readKeep_1 : decode cX9_readKeep 1 = .ok (.getfield 20, 3) := by decide +kernel
theorem dX9_readKeep_4 : decode cX9_readKeep 4 = .ok (.bipush 14, 2) := by decide +kernel
theorem dX9_readKeep_6 : decode cX9_readKeep 6 = .ok (.iaload, 1) := by decide +kernel
theorem dX9_readKeep_7 : decode cX9_readKeep 7 = .ok (.iconst 3, 1) := by decide +kernel
theorem dX9_readKeep_8 : decode cX9_readKeep 8 = .ok (.if_icmp .ne 8, 3) := by decide +kernel
theorem dX9_readKeep_11 : decode cX9_readKeep 11 = .ok (.aload_n 0, 1) := by decide +kernel
theorem dX9_readKeep_12 : decode cX9_readKeep 12 = .ok (.iconst 4, 1) := by decide +kernel
theorem dX9_readKeep_13 : decode cX9_readKeep 13 = .ok (.invokevirtual 140, 3) := by decide +kernel
theorem dX9_readKeep_16 : decode cX9_readKeep 16 = .ok (.aload_n 0, 1) := by decide +kernel
theorem dX9_readKeep_17 : decode cX9_readKeep 17 = .ok (.invokevirtual 134, 3) := by decide +kernel
theorem dX9_readKeep_20 : decode cX9_readKeep 20 = .ok (.aload_n 0, 1) := by decide +kernel
theorem dX9_readKeep_21 : decode cX9_readKeep 21 = .ok (.iconst 0, 1) := by decide +kernel
theorem dX9_readKeep_22 : decode cX9_readKeep 22 = .ok (.putfield 197, 3) := by decide +kernel
theorem dX9_readKeep_25 : decode cX9_readKeep 25 = .ok (.aload_n 0, 1) := by decide +kernel
theorem dX9_readKeep_26 : decode cX9_readKeep 26 = .ok (.invokevirtual 206, 3) := by decide +kernel
theorem dX9_readKeep_29 : decode cX9_readKeep 29 = .ok (.istore_n 1, 1) := by decide +kernel
theorem dX9_readKeep_30 : decode cX9_readKeep 30 = .ok (.aload_n 0, 1) := by decide +kernel
theorem dX9_readKeep_31 : decode cX9_readKeep 31 = .ok (.getfield 92, 3) := by decide +kernel
theorem dX9_readKeep_34 : decode cX9_readKeep 34 = .ok (.ifCond .le 4, 3) := by decide +kernel
theorem dX9_readKeep_37 : decode cX9_readKeep 37 = .ok (.return_, 1) := by decide +kernel
theorem dX9_readKeep_38 : decode cX9_readKeep 38 = .ok (.aload_n 0, 1) := by decide +kernel
theorem dX9_readKeep_39 : decode cX9_readKeep 39 = .ok (.getfield 20, 3) := by decide +kernel
theorem dX9_readKeep_42 : decode cX9_readKeep 42 = .ok (.bipush 31, 2) := by decide +kernel
theorem dX9_readKeep_44 : decode cX9_readKeep 44 = .ok (.aload_n 0, 1) := by decide +kernel
theorem dX9_readKeep_45 : decode cX9_readKeep 45 = .ok (.getfield 20, 3) := by decide +kernel
theorem dX9_readKeep_48 : decode cX9_readKeep 48 = .ok (.bipush 14, 2) := by decide +kernel
theorem dX9_readKeep_50 : decode cX9_readKeep 50 = .ok (.iaload, 1) := by decide +kernel
theorem dX9_readKeep_51 : decode cX9_readKeep 51 = .ok (.iadd, 1) := by decide +kernel
theorem dX9_readKeep_52 : decode cX9_readKeep 52 = .ok (.iload_n 1, 1) := by decide +kernel
theorem dX9_readKeep_53 : decode cX9_readKeep 53 = .ok (.iastore, 1) := by decide +kernel
theorem dX9_readKeep_54 : decode cX9_readKeep 54 = .ok (.aload_n 0, 1) := by decide +kernel
theorem dX9_readKeep_55 : decode cX9_readKeep 55 = .ok (.getfield 20, 3) := by decide +kernel
theorem dX9_readKeep_58 : decode cX9_readKeep 58 = .ok (.bipush 14, 2) := by decide +kernel
theorem dX9_readKeep_60 : decode cX9_readKeep 60 = .ok (.dup2, 1) := by decide +kernel
theorem dX9_readKeep_61 : decode cX9_readKeep 61 = .ok (.iaload, 1) := by decide +kernel
theorem dX9_readKeep_62 : decode cX9_readKeep 62 = .ok (.iconst 1, 1) := by decide +kernel
theorem dX9_readKeep_63 : decode cX9_readKeep 63 = .ok (.iadd, 1) := by decide +kernel
theorem dX9_readKeep_64 : decode cX9_readKeep 64 = .ok (.iastore, 1) := by decide +kernel
theorem dX9_readKeep_65 : decode cX9_readKeep 65 = .ok (.return_, 1) := by decide +kernel
theorem dX9_readShift_0 : decode cX9_readShift 0 = .ok (.aload_n 0, 1) := by decide +kernel
theorem dX9_readShift_1 : decode cX9_readShift 1 = .ok (.getfield 20, 3) := by decide +kernel
theorem dX9_readShift_4 : decode cX9_readShift 4 = .ok (.bipush 34, 2) := by decide +kernel
theorem dX9_readShift_6 : decode cX9_readShift 6 = .ok (.iaload, 1) := by decide +kernel
theorem dX9_readShift_7 : decode cX9_readShift 7 = .ok (.istore_n 1, 1) := by decide +kernel
theorem dX9_readShift_8 : decode cX9_readShift 8 = .ok (.iload_n 1, 1) := by decide +kernel
theorem dX9_readShift_9 : decode cX9_readShift 9 = .ok (.iconst 4, 1) := by decide +kernel
theorem dX9_readShift_10 : decode cX9_readShift 10 = .ok (.if_icmp .ne 8, 3) := by decide +kernel
theorem dX9_readShift_13 : decode cX9_readShift 13 = .ok (.aload_n 0, 1) := by decide +kernel
theorem dX9_readShift_14 : decode cX9_readShift 14 = .ok (.iconst 4, 1) := by decide +kernel
theorem dX9_readShift_15 : decode cX9_readShift 15 = .ok (.invokevirtual 140, 3) := by decide +kernel
theorem dX9_readShift_18 : decode cX9_readShift 18 = .ok (.aload_n 0, 1) := by decide +kernel
theorem dX9_readShift_19 : decode cX9_readShift 19 = .ok (.invokevirtual 134, 3) := by decide +kernel
theorem dX9_readShift_22 : decode cX9_readShift 22 = .ok (.aload_n 0, 1) := by decide +kernel
theorem dX9_readShift_23 : decode cX9_readShift 23 = .ok (.getfield 92, 3) := by decide +kernel
theorem dX9_readShift_26 : decode cX9_readShift 26 = .ok (.ifCond .le 4, 3) := by decide +kernel
theorem dX9_readShift_29 : decode cX9_readShift 29 = .ok (.return_, 1) := by decide +kernel
theorem dX9_readShift_30 : decode cX9_readShift 30 = .ok (.bipush 35, 2) := by decide +kernel
theorem dX9_readShift_32 : decode cX9_readShift 32 = .ok (.iconst 4, 1) := by decide +kernel
theorem dX9_readShift_33 : decode cX9_readShift 33 = .ok (.iload_n 1, 1) := by decide +kernel
theorem dX9_readShift_34 : decode cX9_readShift 34 = .ok (.imul, 1) := by decide +kernel
theorem dX9_readShift_35 : decode cX9_readShift 35 = .ok (.iadd, 1) := by decide +kernel
theorem dX9_readShift_36 : decode cX9_readShift 36 = .ok (.istore_n 2, 1) := by decide +kernel
theorem dX9_readShift_37 : decode cX9_readShift 37 = .ok (.aload_n 0, 1) := by decide +kernel
theorem dX9_readShift_38 : decode cX9_readShift 38 = .ok (.getfield 20, 3) := by decide +kernel
theorem dX9_readShift_41 : decode cX9_readShift 41 = .ok (.iload_n 2, 1) := by decide +kernel
theorem dX9_readShift_42 : decode cX9_readShift 42 = .ok (.aload_n 0, 1) := by decide +kernel
theorem dX9_readShift_43 : decode cX9_readShift 43 = .ok (.iconst 1, 1) := by decide +kernel
theorem dX9_readShift_44 : decode cX9_readShift 44 = .ok (.iconst 3, 1) := by decide +kernel
theorem dX9_readShift_45 : decode cX9_readShift 45 = .ok (.invokevirtual 151, 3) := by decide +kernel
theorem dX9_readShift_48 : decode cX9_readShift 48 = .ok (.iconst 1, 1) := by decide +kernel
theorem dX9_readShift_49 : decode cX9_readShift 49 = .ok (.isub, 1) := by decide +kernel
theorem dX9_readShift_50 : decode cX9_readShift 50 = .ok (.iastore, 1) := by decide +kernel
theorem dX9_readShift_51 : decode cX9_readShift 51 = .ok (.aload_n 0, 1) := by decide +kernel
theorem dX9_readShift_52 : decode cX9_readShift 52 = .ok (.getfield 20, 3) := by decide +kernel
theorem dX9_readShift_55 : decode cX9_readShift 55 = .ok (.iload_n 2, 1) := by decide +kernel
theorem dX9_readShift_56 : decode cX9_readShift 56 = .ok (.iconst 1, 1) := by decide +kernel
theorem dX9_readShift_57 : decode cX9_readShift 57 = .ok (.iadd, 1) := by decide +kernel
theorem dX9_readShift_58 : decode cX9_readShift 58 = .ok (.aload_n 0, 1) := by decide +kernel
theorem dX9_readShift_59 : decode cX9_readShift 59 = .ok (.iconst 0, 1) := by decide +kernel
theorem dX9_readShift_60 : decode cX9_readShift 60 = .ok (.iconst 3, 1) := by decide +kernel
theorem dX9_readShift_61 : decode cX9_readShift 61 = .ok (.invokevirtual 151, 3) := by decide +kernel
theorem dX9_readShift_64 : decode cX9_readShift 64 = .ok (.iastore, 1) := by decide +kernel
theorem dX9_readShift_65 : decode cX9_readShift 65 = .ok (.aload_n 0, 1) := by decide +kernel
theorem dX9_readShift_66 : decode cX9_readShift 66 = .ok (.getfield 20, 3) := by decide +kernel
theorem dX9_readShift_69 : decode cX9_readShift 69 = .ok (.iload_n 2, 1) := by decide +kernel
theorem dX9_readShift_70 : decode cX9_readShift 70 = .ok (.iconst 2, 1) := by decide +kernel
theorem dX9_readShift_71 : decode cX9_readShift 71 = .ok (.iadd, 1) := by decide +kernel
theorem dX9_readShift_72 : decode cX9_readShift 72 = .ok (.aload_n 0, 1) := by decide +kernel
theorem dX9_readShift_73 : decode cX9_readShift 73 = .ok (.iconst 0, 1) := by decide +kernel
theorem dX9_readShift_74 : decode cX9_readShift 74 = .ok (.sipush 999, 3) := by decide +kernel
theorem dX9_readShift_77 : decode cX9_readShift 77 = .ok (.invokevirtual 151, 3) := by decide +kernel
theorem dX9_readShift_80 : decode cX9_readShift 80 = .ok (.iastore, 1) := by decide +kernel
theorem dX9_readShift_81 : decode cX9_readShift 81 = .ok (.aload_n 0, 1) := by decide +kernel
theorem dX9_readShift_82 : decode cX9_readShift 82 = .ok (.getfield 20, 3) := by decide +kernel
theorem dX9_readShift_85 : decode cX9_readShift 85 = .ok (.iload_n 2, 1) := by decide +kernel
theorem dX9_readShift_86 : decode cX9_readShift 86 = .ok (.iconst 3, 1) := by decide +kernel
theorem dX9_readShift_87 : decode cX9_readShift 87 = .ok (.iadd, 1) := by decide +kernel
theorem dX9_readShift_88 : decode cX9_readShift 88 = .ok (.aload_n 0, 1) := by decide +kernel
theorem dX9_readShift_89 : decode cX9_readShift 89 = .ok (.aload_n 0, 1) := by decide +kernel
theorem dX9_readShift_90 : decode cX9_readShift 90 = .ok (.getfield 20, 3) := by decide +kernel
theorem dX9_readShift_93 : decode cX9_readShift 93 = .ok (.iload_n 2, 1) := by decide +kernel
theorem dX9_readShift_94 : decode cX9_readShift 94 = .ok (.iconst 2, 1) := by decide +kernel
theorem dX9_readShift_95 : decode cX9_readShift 95 = .ok (.iadd, 1) := by decide +kernel
theorem dX9_readShift_96 : decode cX9_readShift 96 = .ok (.iaload, 1) := by decide +kernel
theorem dX9_readShift_97 : decode cX9_readShift 97 = .ok (.sipush 1999, 3) := by decide +kernel
theorem dX9_readShift_100 : decode cX9_readShift 100 = .ok (.invokevirtual 151, 3) := by decide +kernel
theorem dX9_readShift_103 : decode cX9_readShift 103 = .ok (.iastore, 1) := by decide +kernel
theorem dX9_readShift_104 : decode cX9_readShift 104 = .ok (.aload_n 0, 1) := by decide +kernel
theorem dX9_readShift_105 : decode cX9_readShift 105 = .ok (.getfield 20, 3) := by decide +kernel
theorem dX9_readShift_108 : decode cX9_readShift 108 = .ok (.bipush 34, 2) := by decide +kernel
theorem dX9_readShift_110 : decode cX9_readShift 110 = .ok (.dup2, 1) := by decide +kernel
theorem dX9_readShift_111 : decode cX9_readShift 111 = .ok (.iaload, 1) := by decide +kernel
theorem dX9_readShift_112 : decode cX9_readShift 112 = .ok (.iconst 1, 1) := by decide +kernel
theorem dX9_readShift_113 : decode cX9_readShift 113 = .ok (.iadd, 1) := by decide +kernel
theorem dX9_readShift_114 : decode cX9_readShift 114 = .ok (.iastore, 1) := by decide +kernel
theorem dX9_readShift_115 : decode cX9_readShift 115 = .ok (.return_, 1) := by decide +kernel
theorem dX9_readLine_0 : decode cX9_readLine 0 = .ok (.aload_n 0, 1) := by decide +kernel
theorem dX9_readLine_1 : decode cX9_readLine 1 = .ok (.ldc 209, 2) := by decide +kernel
theorem dX9_readLine_3 : decode cX9_readLine 3 = .ok (.invokevirtual 130, 3) := by decide +kernel
theorem dX9_readLine_6 : decode cX9_readLine 6 = .ok (.ifCond .eq 10, 3) := by decide +kernel
theorem dX9_readLine_9 : decode cX9_readLine 9 = .ok (.aload_n 0, 1) := by decide +kernel
theorem dX9_readLine_10 : decode cX9_readLine 10 = .ok (.invokevirtual 211, 3) := by decide +kernel
theorem dX9_readLine_13 : decode cX9_readLine 13 = .ok (.goto 72, 3) := by decide +kernel
theorem dX9_readLine_16 : decode cX9_readLine 16 = .ok (.aload_n 0, 1) := by decide +kernel
theorem dX9_readLine_17 : decode cX9_readLine 17 = .ok (.ldc 214, 2) := by decide +kernel
theorem dX9_readLine_19 : decode cX9_readLine 19 = .ok (.invokevirtual 130, 3) := by decide +kernel
theorem dX9_readLine_22 : decode cX9_readLine 22 = .ok (.ifCond .eq 10, 3) := by decide +kernel
theorem dX9_readLine_25 : decode cX9_readLine 25 = .ok (.aload_n 0, 1) := by decide +kernel
theorem dX9_readLine_26 : decode cX9_readLine 26 = .ok (.invokevirtual 216, 3) := by decide +kernel
theorem dX9_readLine_29 : decode cX9_readLine 29 = .ok (.goto 56, 3) := by decide +kernel
theorem dX9_readLine_32 : decode cX9_readLine 32 = .ok (.aload_n 0, 1) := by decide +kernel
theorem dX9_readLine_33 : decode cX9_readLine 33 = .ok (.ldc 219, 2) := by decide +kernel
theorem dX9_readLine_35 : decode cX9_readLine 35 = .ok (.invokevirtual 130, 3) := by decide +kernel
theorem dX9_readLine_38 : decode cX9_readLine 38 = .ok (.ifCond .eq 10, 3) := by decide +kernel
theorem dX9_readLine_41 : decode cX9_readLine 41 = .ok (.aload_n 0, 1) := by decide +kernel
theorem dX9_readLine_42 : decode cX9_readLine 42 = .ok (.invokevirtual 221, 3) := by decide +kernel
theorem dX9_readLine_45 : decode cX9_readLine 45 = .ok (.goto 40, 3) := by decide +kernel
theorem dX9_readLine_48 : decode cX9_readLine 48 = .ok (.aload_n 0, 1) := by decide +kernel
theorem dX9_readLine_49 : decode cX9_readLine 49 = .ok (.ldc 224, 2) := by decide +kernel
theorem dX9_readLine_51 : decode cX9_readLine 51 = .ok (.invokevirtual 130, 3) := by decide +kernel
theorem dX9_readLine_54 : decode cX9_readLine 54 = .ok (.ifCond .eq 10, 3) := by decide +kernel
theorem dX9_readLine_57 : decode cX9_readLine 57 = .ok (.aload_n 0, 1) := by decide +kernel
theorem dX9_readLine_58 : decode cX9_readLine 58 = .ok (.invokevirtual 226, 3) := by decide +kernel
theorem dX9_readLine_61 : decode cX9_readLine 61 = .ok (.goto 24, 3) := by decide +kernel
theorem dX9_readLine_64 : decode cX9_readLine 64 = .ok (.aload_n 0, 1) := by decide +kernel
theorem dX9_readLine_65 : decode cX9_readLine 65 = .ok (.ldc 229, 2) := by decide +kernel
theorem dX9_readLine_67 : decode cX9_readLine 67 = .ok (.invokevirtual 130, 3) := by decide +kernel
theorem dX9_readLine_70 : decode cX9_readLine 70 = .ok (.ifCond .eq 10, 3) := by decide +kernel
theorem dX9_readLine_73 : decode cX9_readLine 73 = .ok (.aload_n 0, 1) := by decide +kernel
theorem dX9_readLine_74 : decode cX9_readLine 74 = .ok (.invokevirtual 231, 3) := by decide +kernel
theorem dX9_readLine_77 : decode cX9_readLine 77 = .ok (.goto 8, 3) := by decide +kernel
theorem dX9_readLine_80 : decode cX9_readLine 80 = .ok (.aload_n 0, 1) := by decide +kernel
theorem dX9_readLine_81 : decode cX9_readLine 81 = .ok (.iconst 1, 1) := by decide +kernel
theorem dX9_readLine_82 : decode cX9_readLine 82 = .ok (.invokevirtual 140, 3) := by decide +kernel
theorem dX9_readLine_85 : decode cX9_readLine 85 = .ok (.return_, 1) := by decide +kernel
theorem dX9_readText_0 : decode cX9_readText 0 = .ok (.iconst 0, 1) := by decide +kernel
theorem dX9_readText_1 : decode cX9_readText 1 = .ok (.istore_n 1, 1) := by decide +kernel
theorem dX9_readText_2 : decode cX9_readText 2 = .ok (.iload_n 1, 1) := by decide +kernel
theorem dX9_readText_3 : decode cX9_readText 3 = .ok (.sipush 2086, 3) := by decide +kernel
theorem dX9_readText_6 : decode cX9_readText 6 = .ok (.if_icmp .ge 16, 3) := by decide +kernel
theorem dX9_readText_9 : decode cX9_readText 9 = .ok (.aload_n 0, 1) := by decide +kernel
theorem dX9_readText_10 : decode cX9_readText 10 = .ok (.getfield 26, 3) := by decide +kernel
theorem dX9_readText_13 : decode cX9_readText 13 = .ok (.iload_n 1, 1) := by decide +kernel
theorem dX9_readText_14 : decode cX9_readText 14 = .ok (.iconst 0, 1) := by decide +kernel
theorem dX9_readText_15 : decode cX9_readText 15 = .ok (.iastore, 1) := by decide +kernel
theorem dX9_readText_16 : decode cX9_readText 16 = .ok (.iinc 1 1, 3) := by decide +kernel
theorem dX9_readText_19 : decode cX9_readText 19 = .ok (.goto (-17), 3) := by decide +kernel
theorem dX9_readText_22 : decode cX9_readText 22 = .ok (.iconst 0, 1) := by decide +kernel
theorem dX9_readText_23 : decode cX9_readText 23 = .ok (.istore_n 1, 1) := by decide +kernel
theorem dX9_readText_24 : decode cX9_readText 24 = .ok (.iload_n 1, 1) := by decide +kernel
theorem dX9_readText_25 : decode cX9_readText 25 = .ok (.bipush 51, 2) := by decide +kernel
theorem dX9_readText_27 : decode cX9_readText 27 = .ok (.if_icmp .ge 16, 3) := by decide +kernel
theorem dX9_readText_30 : decode cX9_readText 30 = .ok (.aload_n 0, 1) := by decide +kernel
theorem dX9_readText_31 : decode cX9_readText 31 = .ok (.getfield 20, 3) := by decide +kernel
theorem dX9_readText_34 : decode cX9_readText 34 = .ok (.iload_n 1, 1) := by decide +kernel
theorem dX9_readText_35 : decode cX9_readText 35 = .ok (.iconst 0, 1) := by decide +kernel
theorem dX9_readText_36 : decode cX9_readText 36 = .ok (.iastore, 1) := by decide +kernel
theorem dX9_readText_37 : decode cX9_readText 37 = .ok (.iinc 1 1, 3) := by decide +kernel
theorem dX9_readText_40 : decode cX9_readText 40 = .ok (.goto (-16), 3) := by decide +kernel
theorem dX9_readText_43 : decode cX9_readText 43 = .ok (.iconst 0, 1) := by decide +kernel
theorem dX9_readText_44 : decode cX9_readText 44 = .ok (.istore_n 1, 1) := by decide +kernel
theorem dX9_readText_45 : decode cX9_readText 45 = .ok (.iload_n 1, 1) := by decide +kernel
theorem dX9_readText_46 : decode cX9_readText 46 = .ok (.bipush 12, 2) := by decide +kernel
theorem dX9_readText_48 : decode cX9_readText 48 = .ok (.if_icmp .ge 19, 3) := by decide +kernel
theorem dX9_readText_51 : decode cX9_readText 51 = .ok (.aload_n 0, 1) := by decide +kernel
theorem dX9_readText_52 : decode cX9_readText 52 = .ok (.getfield 26, 3) := by decide +kernel
theorem dX9_readText_55 : decode cX9_readText 55 = .ok (.bipush 109, 2) := by decide +kernel
theorem dX9_readText_57 : decode cX9_readText 57 = .ok (.iload_n 1, 1) := by decide +kernel
theorem dX9_readText_58 : decode cX9_readText 58 = .ok (.iadd, 1) := by decide +kernel
theorem dX9_readText_59 : decode cX9_readText 59 = .ok (.iconst (-1), 1) := by decide +kernel
theorem dX9_readText_60 : decode cX9_readText 60 = .ok (.iastore, 1) := by decide +kernel
theorem dX9_readText_61 : decode cX9_readText 61 = .ok (.iinc 1 1, 3) := by decide +kernel
theorem dX9_readText_64 : decode cX9_readText 64 = .ok (.goto (-19), 3) := by decide +kernel
theorem dX9_readText_67 : decode cX9_readText 67 = .ok (.iconst 0, 1) := by decide +kernel
theorem dX9_readText_68 : decode cX9_readText 68 = .ok (.istore_n 1, 1) := by decide +kernel
theorem dX9_readText_69 : decode cX9_readText 69 = .ok (.iload_n 1, 1) := by decide +kernel
theorem dX9_readText_70 : decode cX9_readText 70 = .ok (.bipush 40, 2) := by decide +kernel
theorem dX9_readText_72 : decode cX9_readText 72 = .ok (.if_icmp .ge 20, 3) := by decide +kernel
theorem dX9_readText_75 : decode cX9_readText 75 = .ok (.aload_n 0, 1) := by decide +kernel
theorem dX9_readText_76 : decode cX9_readText 76 = .ok (.getfield 26, 3) := by decide +kernel
theorem dX9_readText_79 : decode cX9_readText 79 = .ok (.sipush 133, 3) := by decide +kernel
theorem dX9_readText_82 : decode cX9_readText 82 = .ok (.iload_n 1, 1) := by decide +kernel
theorem dX9_readText_83 : decode cX9_readText 83 = .ok (.iadd, 1) := by decide +kernel
theorem dX9_readText_84 : decode cX9_readText 84 = .ok (.iconst (-1), 1) := by decide +kernel
theorem dX9_readText_85 : decode cX9_readText 85 = .ok (.iastore, 1) := by decide +kernel
theorem dX9_readText_86 : decode cX9_readText 86 = .ok (.iinc 1 1, 3) := by decide +kernel
theorem dX9_readText_89 : decode cX9_readText 89 = .ok (.goto (-20), 3) := by decide +kernel
theorem dX9_readText_92 : decode cX9_readText 92 = .ok (.aload_n 0, 1) := by decide +kernel
theorem dX9_readText_93 : decode cX9_readText 93 = .ok (.iconst 0, 1) := by decide +kernel
theorem dX9_readText_94 : decode cX9_readText 94 = .ok (.putfield 175, 3) := by decide +kernel
theorem dX9_readText_97 : decode cX9_readText 97 = .ok (.aload_n 0, 1) := by decide +kernel
theorem dX9_readText_98 : decode cX9_readText 98 = .ok (.invokevirtual 134, 3) := by decide +kernel
theorem dX9_readText_101 : decode cX9_readText 101 = .ok (.aload_n 0, 1) := by decide +kernel
theorem dX9_readText_102 : decode cX9_readText 102 = .ok (.invokevirtual 234, 3) := by decide +kernel
theorem dX9_readText_105 : decode cX9_readText 105 = .ok (.aload_n 0, 1) := by decide +kernel
theorem dX9_readText_106 : decode cX9_readText 106 = .ok (.bipush 59, 2) := by decide +kernel
theorem dX9_readText_108 : decode cX9_readText 108 = .ok (.invokevirtual 194, 3) := by decide +kernel
theorem dX9_readText_111 : decode cX9_readText 111 = .ok (.ifCond .eq 14, 3) := by decide +kernel
theorem dX9_readText_114 : decode cX9_readText 114 = .ok (.aload_n 0, 1) := by decide +kernel
theorem dX9_readText_115 : decode cX9_readText 115 = .ok (.invokevirtual 134, 3) := by decide +kernel
theorem dX9_readText_118 : decode cX9_readText 118 = .ok (.aload_n 0, 1) := by decide +kernel
theorem dX9_readText_119 : decode cX9_readText 119 = .ok (.invokevirtual 237, 3) := by decide +kernel
theorem dX9_readText_122 : decode cX9_readText 122 = .ok (.goto (-17), 3) := by decide +kernel
theorem dX9_readText_125 : decode cX9_readText 125 = .ok (.aload_n 0, 1) := by decide +kernel
theorem dX9_readText_126 : decode cX9_readText 126 = .ok (.getfield 92, 3) := by decide +kernel
theorem dX9_readText_129 : decode cX9_readText 129 = .ok (.ifCond .ne 16, 3) := by decide +kernel
theorem dX9_readText_132 : decode cX9_readText 132 = .ok (.aload_n 0, 1) := by decide +kernel
theorem dX9_readText_133 : decode cX9_readText 133 = .ok (.getfield 108, 3) := by decide +kernel
theorem dX9_readText_136 : decode cX9_readText 136 = .ok (.iconst 1, 1) := by decide +kernel
theorem dX9_readText_137 : decode cX9_readText 137 = .ok (.if_icmp .eq 8, 3) := by decide +kernel
theorem dX9_readText_140 : decode cX9_readText 140 = .ok (.aload_n 0, 1) := by decide +kernel
theorem dX9_readText_141 : decode cX9_readText 141 = .ok (.iconst 1, 1) := by decide +kernel
theorem dX9_readText_142 : decode cX9_readText 142 = .ok (.invokevirtual 140, 3) := by decide +kernel
theorem dX9_readText_145 : decode cX9_readText 145 = .ok (.aload_n 0, 1) := by decide +kernel
theorem dX9_readText_146 : decode cX9_readText 146 = .ok (.getfield 20, 3) := by decide +kernel
theorem dX9_readText_149 : decode cX9_readText 149 = .ok (.bipush 12, 2) := by decide +kernel
theorem dX9_readText_151 : decode cX9_readText 151 = .ok (.iaload, 1) := by decide +kernel
theorem dX9_readText_152 : decode cX9_readText 152 = .ok (.ifCond .ne 8, 3) := by decide +kernel
theorem dX9_readText_155 : decode cX9_readText 155 = .ok (.aload_n 0, 1) := by decide +kernel
theorem dX9_readText_156 : decode cX9_readText 156 = .ok (.iconst 5, 1) := by decide +kernel
theorem dX9_readText_157 : decode cX9_readText 157 = .ok (.invokevirtual 140, 3) := by decide +kernel
theorem dX9_readText_160 : decode cX9_readText 160 = .ok (.return_, 1) := by decide +kernel
theorem dX9_load_0 : decode cX9_load 0 = .ok (.aload_n 0, 1) := by decide +kernel
theorem dX9_load_1 : decode cX9_load 1 = .ok (.iconst 0, 1) := by decide +kernel
theorem dX9_load_2 : decode cX9_load 2 = .ok (.putfield 82, 3) := by decide +kernel
theorem dX9_load_5 : decode cX9_load 5 = .ok (.iload_n 1, 1) := by decide +kernel
theorem dX9_load_6 : decode cX9_load 6 = .ok (.iconst 0, 1) := by decide +kernel
theorem dX9_load_7 : decode cX9_load 7 = .ok (.aload_n 0, 1) := by decide +kernel
theorem dX9_load_8 : decode cX9_load 8 = .ok (.getfield 85, 3) := by decide +kernel
theorem dX9_load_11 : decode cX9_load 11 = .ok (.invokestatic 111, 3) := by decide +kernel
theorem dX9_load_14 : decode cX9_load 14 = .ok (.ifCond .ne 9, 3) := by decide +kernel
theorem dX9_load_17 : decode cX9_load 17 = .ok (.aload_n 0, 1) := by decide +kernel
theorem dX9_load_18 : decode cX9_load 18 = .ok (.iconst 1, 1) := by decide +kernel
theorem dX9_load_19 : decode cX9_load 19 = .ok (.invokevirtual 240, 3) := by decide +kernel
theorem dX9_load_22 : decode cX9_load 22 = .ok (.ireturn, 1) := by decide +kernel
theorem dX9_load_23 : decode cX9_load 23 = .ok (.aload_n 0, 1) := by decide +kernel
theorem dX9_load_24 : decode cX9_load 24 = .ok (.iload_n 1, 1) := by decide +kernel
theorem dX9_load_25 : decode cX9_load 25 = .ok (.putfield 95, 3) := by decide +kernel
theorem dX9_load_28 : decode cX9_load 28 = .ok (.aload_n 0, 1) := by decide +kernel
theorem dX9_load_29 : decode cX9_load 29 = .ok (.iconst 0, 1) := by decide +kernel
theorem dX9_load_30 : decode cX9_load 30 = .ok (.putfield 85, 3) := by decide +kernel
theorem dX9_load_33 : decode cX9_load 33 = .ok (.aload_n 0, 1) := by decide +kernel
theorem dX9_load_34 : decode cX9_load 34 = .ok (.iconst 0, 1) := by decide +kernel
theorem dX9_load_35 : decode cX9_load 35 = .ok (.putfield 101, 3) := by decide +kernel
theorem dX9_load_38 : decode cX9_load 38 = .ok (.aload_n 0, 1) := by decide +kernel
theorem dX9_load_39 : decode cX9_load 39 = .ok (.iconst 0, 1) := by decide +kernel
theorem dX9_load_40 : decode cX9_load 40 = .ok (.putfield 92, 3) := by decide +kernel
theorem dX9_load_43 : decode cX9_load 43 = .ok (.aload_n 0, 1) := by decide +kernel
theorem dX9_load_44 : decode cX9_load 44 = .ok (.iconst (-1), 1) := by decide +kernel
theorem dX9_load_45 : decode cX9_load 45 = .ok (.putfield 13, 3) := by decide +kernel
theorem dX9_load_48 : decode cX9_load 48 = .ok (.aload_n 0, 1) := by decide +kernel
theorem dX9_load_49 : decode cX9_load 49 = .ok (.invokevirtual 243, 3) := by decide +kernel
theorem dX9_load_52 : decode cX9_load 52 = .ok (.aload_n 0, 1) := by decide +kernel
theorem dX9_load_53 : decode cX9_load 53 = .ok (.getfield 92, 3) := by decide +kernel
theorem dX9_load_56 : decode cX9_load 56 = .ok (.ifCond .le 9, 3) := by decide +kernel
theorem dX9_load_59 : decode cX9_load 59 = .ok (.aload_n 0, 1) := by decide +kernel
theorem dX9_load_60 : decode cX9_load 60 = .ok (.iconst 2, 1) := by decide +kernel
theorem dX9_load_61 : decode cX9_load 61 = .ok (.invokevirtual 240, 3) := by decide +kernel
theorem dX9_load_64 : decode cX9_load 64 = .ok (.ireturn, 1) := by decide +kernel
theorem dX9_load_65 : decode cX9_load 65 = .ok (.aload_n 0, 1) := by decide +kernel
theorem dX9_load_66 : decode cX9_load 66 = .ok (.getfield 26, 3) := by decide +kernel
theorem dX9_load_69 : decode cX9_load 69 = .ok (.iconst 0, 1) := by decide +kernel
theorem dX9_load_70 : decode cX9_load 70 = .ok (.aload_n 0, 1) := by decide +kernel
theorem dX9_load_71 : decode cX9_load 71 = .ok (.getfield 23, 3) := by decide +kernel
theorem dX9_load_74 : decode cX9_load 74 = .ok (.iconst 0, 1) := by decide +kernel
theorem dX9_load_75 : decode cX9_load 75 = .ok (.invokestatic 246, 3) := by decide +kernel
theorem dX9_load_78 : decode cX9_load 78 = .ok (.iconst 0, 1) := by decide +kernel
theorem dX9_load_79 : decode cX9_load 79 = .ok (.istore_n 2, 1) := by decide +kernel
theorem dX9_load_80 : decode cX9_load 80 = .ok (.iload_n 2, 1) := by decide +kernel
theorem dX9_load_81 : decode cX9_load 81 = .ok (.bipush 51, 2) := by decide +kernel
theorem dX9_load_83 : decode cX9_load 83 = .ok (.if_icmp .ge 21, 3) := by decide +kernel
theorem dX9_load_86 : decode cX9_load 86 = .ok (.aload_n 0, 1) := by decide +kernel
theorem dX9_load_87 : decode cX9_load 87 = .ok (.getfield 17, 3) := by decide +kernel
theorem dX9_load_90 : decode cX9_load 90 = .ok (.iload_n 2, 1) := by decide +kernel
theorem dX9_load_91 : decode cX9_load 91 = .ok (.aload_n 0, 1) := by decide +kernel
theorem dX9_load_92 : decode cX9_load 92 = .ok (.getfield 20, 3) := by decide +kernel
theorem dX9_load_95 : decode cX9_load 95 = .ok (.iload_n 2, 1) := by decide +kernel
theorem dX9_load_96 : decode cX9_load 96 = .ok (.iaload, 1) := by decide +kernel
theorem dX9_load_97 : decode cX9_load 97 = .ok (.iastore, 1) := by decide +kernel
theorem dX9_load_98 : decode cX9_load 98 = .ok (.iinc 2 1, 3) := by decide +kernel
theorem dX9_load_101 : decode cX9_load 101 = .ok (.goto (-21), 3) := by decide +kernel
theorem dX9_load_104 : decode cX9_load 104 = .ok (.aload_n 0, 1) := by decide +kernel
theorem dX9_load_105 : decode cX9_load 105 = .ok (.iconst 1, 1) := by decide +kernel
theorem dX9_load_106 : decode cX9_load 106 = .ok (.aload_n 0, 1) := by decide +kernel
theorem dX9_load_107 : decode cX9_load 107 = .ok (.getfield 172, 3) := by decide +kernel
theorem dX9_load_110 : decode cX9_load 110 = .ok (.isub, 1) := by decide +kernel
theorem dX9_load_111 : decode cX9_load 111 = .ok (.putfield 172, 3) := by decide +kernel
theorem dX9_load_114 : decode cX9_load 114 = .ok (.aload_n 0, 1) := by decide +kernel
theorem dX9_load_115 : decode cX9_load 115 = .ok (.iconst 1, 1) := by decide +kernel
theorem dX9_load_116 : decode cX9_load 116 = .ok (.putfield 250, 3) := by decide +kernel
theorem dX9_load_119 : decode cX9_load 119 = .ok (.aload_n 0, 1) := by decide +kernel
theorem dX9_load_120 : decode cX9_load 120 = .ok (.getfield 38, 3) := by decide +kernel
theorem dX9_load_123 : decode cX9_load 123 = .ok (.iconst 0, 1) := by decide +kernel
theorem dX9_load_124 : decode cX9_load 124 = .ok (.iconst 0, 1) := by decide +kernel
theorem dX9_load_125 : decode cX9_load 125 = .ok (.bastore, 1) := by decide +kernel
theorem dX9_load_126 : decode cX9_load 126 = .ok (.aload_n 0, 1) := by decide +kernel
theorem dX9_load_127 : decode cX9_load 127 = .ok (.getfield 38, 3) := by decide +kernel
theorem dX9_load_130 : decode cX9_load 130 = .ok (.iconst 1, 1) := by decide +kernel
theorem dX9_load_131 : decode cX9_load 131 = .ok (.iconst 0, 1) := by decide +kernel
theorem dX9_load_132 : decode cX9_load 132 = .ok (.bastore, 1) := by decide +kernel
theorem dX9_load_133 : decode cX9_load 133 = .ok (.aload_n 0, 1) := by decide +kernel
theorem dX9_load_134 : decode cX9_load 134 = .ok (.iconst 0, 1) := by decide +kernel
theorem dX9_load_135 : decode cX9_load 135 = .ok (.putfield 254, 3) := by decide +kernel
theorem dX9_load_138 : decode cX9_load 138 = .ok (.aload_n 0, 1) := by decide +kernel
theorem dX9_load_139 : decode cX9_load 139 = .ok (.getfield 23, 3) := by decide +kernel
theorem dX9_load_142 : decode cX9_load 142 = .ok (.iconst 2, 1) := by decide +kernel
theorem dX9_load_143 : decode cX9_load 143 = .ok (.iaload, 1) := by decide +kernel
theorem dX9_load_144 : decode cX9_load 144 = .ok (.ireturn, 1) := by decide +kernel
theorem dX9_copy_0 : decode cX9_copy 0 = .ok (.iconst 0, 1) := by decide +kernel
theorem dX9_copy_1 : decode cX9_copy 1 = .ok (.istore 4, 2) := by decide +kernel
theorem dX9_copy_3 : decode cX9_copy 3 = .ok (.iload 4, 2) := by decide +kernel
theorem dX9_copy_5 : decode cX9_copy 5 = .ok (.sipush 2086, 3) := by decide +kernel
theorem dX9_copy_8 : decode cX9_copy 8 = .ok (.if_icmp .ge 21, 3) := by decide +kernel
theorem dX9_copy_11 : decode cX9_copy 11 = .ok (.aload_n 2, 1) := by decide +kernel
theorem dX9_copy_12 : decode cX9_copy 12 = .ok (.iload_n 3, 1) := by decide +kernel
theorem dX9_copy_13 : decode cX9_copy 13 = .ok (.iload 4, 2) := by decide +kernel
theorem dX9_copy_15 : decode cX9_copy 15 = .ok (.iadd, 1) := by decide +kernel
theorem dX9_copy_16 : decode cX9_copy 16 = .ok (.aload_n 0, 1) := by decide +kernel
theorem dX9_copy_17 : decode cX9_copy 17 = .ok (.iload_n 1, 1) := by decide +kernel
theorem dX9_copy_18 : decode cX9_copy 18 = .ok (.iload 4, 2) := by decide +kernel
theorem dX9_copy_20 : decode cX9_copy 20 = .ok (.iadd, 1) := by decide +kernel
theorem dX9_copy_21 : decode cX9_copy 21 = .ok (.iaload, 1) := by decide +kernel
theorem dX9_copy_22 : decode cX9_copy 22 = .ok (.iastore, 1) := by decide +kernel
theorem dX9_copy_23 : decode cX9_copy 23 = .ok (.iinc 4 1, 3) := by decide +kernel
theorem dX9_copy_26 : decode cX9_copy 26 = .ok (.goto (-23), 3) := by decide +kernel
theorem dX9_copy_29 : decode cX9_copy 29 = .ok (.return_, 1) := by decide +kernel
theorem dX9_remember_0 : decode cX9_remember 0 = .ok (.aload_n 0, 1) := by decide +kernel
theorem dX9_remember_1 : decode cX9_remember 1 = .ok (.getfield 254, 3) := by decide +kernel
theorem dX9_remember_4 : decode cX9_remember 4 = .ok (.bipush 6, 2) := by decide +kernel
theorem dX9_remember_6 : decode cX9_remember 6 = .ok (.if_icmp .ne 48, 3) := by decide +kernel
theorem dX9_remember_9 : decode cX9_remember 9 = .ok (.sipush 2086, 3) := by decide +kernel
theorem dX9_remember_12 : decode cX9_remember 12 = .ok (.istore_n 1, 1) := by decide +kernel
theorem dX9_remember_13 : decode cX9_remember 13 = .ok (.iload_n 1, 1) := by decide +kernel
theorem dX9_remember_14 : decode cX9_remember 14 = .ok (.aload_n 0, 1) := by decide +kernel
theorem dX9_remember_15 : decode cX9_remember 15 = .ok (.getfield 32, 3) := by decide +kernel
theorem dX9_remember_18 : decode cX9_remember 18 = .ok (.arraylength, 1) := by decide +kernel
theorem dX9_remember_19 : decode cX9_remember 19 = .ok (.if_icmp .ge 25, 3) := by decide +kernel
theorem dX9_remember_22 : decode cX9_remember 22 = .ok (.aload_n 0, 1) := by decide +kernel
theorem dX9_remember_23 : decode cX9_remember 23 = .ok (.getfield 32, 3) := by decide +kernel
theorem dX9_remember_26 : decode cX9_remember 26 = .ok (.iload_n 1, 1) := by decide +kernel
theorem dX9_remember_27 : decode cX9_remember 27 = .ok (.sipush 2086, 3) := by decide +kernel
theorem dX9_remember_30 : decode cX9_remember 30 = .ok (.isub, 1) := by decide +kernel
theorem dX9_remember_31 : decode cX9_remember 31 = .ok (.aload_n 0, 1) := by decide +kernel
theorem dX9_remember_32 : decode cX9_remember 32 = .ok (.getfield 32, 3) := by decide +kernel
theorem dX9_remember_35 : decode cX9_remember 35 = .ok (.iload_n 1, 1) := by decide +kernel
theorem dX9_remember_36 : decode cX9_remember 36 = .ok (.iaload, 1) := by decide +kernel
theorem dX9_remember_37 : decode cX9_remember 37 = .ok (.iastore, 1) := by decide +kernel
theorem dX9_remember_38 : decode cX9_remember 38 = .ok (.iinc 1 1, 3) := by decide +kernel
theorem dX9_remember_41 : decode cX9_remember 41 = .ok (.goto (-28), 3) := by decide +kernel
theorem dX9_remember_44 : decode cX9_remember 44 = .ok (.aload_n 0, 1) := by decide +kernel
theorem dX9_remember_45 : decode cX9_remember 45 = .ok (.dup, 1) := by decide +kernel
theorem dX9_remember_46 : decode cX9_remember 46 = .ok (.getfield 254, 3) := by decide +kernel
theorem dX9_remember_49 : decode cX9_remember 49 = .ok (.iconst 1, 1) := by decide +kernel
theorem dX9_remember_50 : decode cX9_remember 50 = .ok (.isub, 1) := by decide +kernel
theorem dX9_remember_51 : decode cX9_remember 51 = .ok (.putfield 254, 3) := by decide +kernel
theorem dX9_remember_54 : decode cX9_remember 54 = .ok (.aload_n 0, 1) := by decide +kernel
theorem dX9_remember_55 : decode cX9_remember 55 = .ok (.getfield 23, 3) := by decide +kernel
theorem dX9_remember_58 : decode cX9_remember 58 = .ok (.iconst 0, 1) := by decide +kernel
theorem dX9_remember_59 : decode cX9_remember 59 = .ok (.aload_n 0, 1) := by decide +kernel
theorem dX9_remember_60 : decode cX9_remember 60 = .ok (.getfield 32, 3) := by decide +kernel
theorem dX9_remember_63 : decode cX9_remember 63 = .ok (.sipush 2086, 3) := by decide +kernel
theorem dX9_remember_66 : decode cX9_remember 66 = .ok (.aload_n 0, 1) := by decide +kernel
theorem dX9_remember_67 : decode cX9_remember 67 = .ok (.getfield 254, 3) := by decide +kernel
theorem dX9_remember_70 : decode cX9_remember 70 = .ok (.imul, 1) := by decide +kernel
theorem dX9_remember_71 : decode cX9_remember 71 = .ok (.invokestatic 246, 3) := by decide +kernel
theorem dX9_remember_74 : decode cX9_remember 74 = .ok (.aload_n 0, 1) := by decide +kernel
theorem dX9_remember_75 : decode cX9_remember 75 = .ok (.dup, 1) := by decide +kernel
theorem dX9_remember_76 : decode cX9_remember 76 = .ok (.getfield 254, 3) := by decide +kernel
theorem dX9_remember_79 : decode cX9_remember 79 = .ok (.iconst 1, 1) := by decide +kernel
theorem dX9_remember_80 : decode cX9_remember 80 = .ok (.iadd, 1) := by decide +kernel
theorem dX9_remember_81 : decode cX9_remember 81 = .ok (.putfield 254, 3) := by decide +kernel
theorem dX9_remember_84 : decode cX9_remember 84 = .ok (.return_, 1) := by decide +kernel
theorem dX9_flightIs_0 : decode cX9_flightIs 0 = .ok (.aload_n 0, 1) := by decide +kernel
theorem dX9_flightIs_1 : decode cX9_flightIs 1 = .ok (.iconst 0, 1) := by decide +kernel
theorem dX9_flightIs_2 : decode cX9_flightIs 2 = .ok (.iaload, 1) := by decide +kernel
theorem dX9_flightIs_3 : decode cX9_flightIs 3 = .ok (.aload_n 0, 1) := by decide +kernel
theorem dX9_flightIs_4 : decode cX9_flightIs 4 = .ok (.iconst 5, 1) := by decide +kernel
theorem dX9_flightIs_5 : decode cX9_flightIs 5 = .ok (.iload_n 1, 1) := by decide +kernel
theorem dX9_flightIs_6 : decode cX9_flightIs 6 = .ok (.iadd, 1) := by decide +kernel
theorem dX9_flightIs_7 : decode cX9_flightIs 7 = .ok (.iaload, 1) := by decide +kernel
theorem dX9_flightIs_8 : decode cX9_flightIs 8 = .ok (.if_icmp .ge 7, 3) := by decide +kernel
theorem dX9_flightIs_11 : decode cX9_flightIs 11 = .ok (.iconst 0, 1) := by decide +kernel
theorem dX9_flightIs_12 : decode cX9_flightIs 12 = .ok (.goto 20, 3) := by decide +kernel
theorem dX9_flightIs_15 : decode cX9_flightIs 15 = .ok (.aload_n 0, 1) := by decide +kernel
theorem dX9_flightIs_16 : decode cX9_flightIs 16 = .ok (.iconst 0, 1) := by decide +kernel
theorem dX9_flightIs_17 : decode cX9_flightIs 17 = .ok (.iaload, 1) := by decide +kernel
theorem dX9_flightIs_18 : decode cX9_flightIs 18 = .ok (.aload_n 0, 1) := by decide +kernel
theorem dX9_flightIs_19 : decode cX9_flightIs 19 = .ok (.bipush 13, 2) := by decide +kernel
theorem dX9_flightIs_21 : decode cX9_flightIs 21 = .ok (.iload_n 1, 1) := by decide +kernel
theorem dX9_flightIs_22 : decode cX9_flightIs 22 = .ok (.iadd, 1) := by decide +kernel
theorem dX9_flightIs_23 : decode cX9_flightIs 23 = .ok (.iaload, 1) := by decide +kernel
theorem dX9_flightIs_24 : decode cX9_flightIs 24 = .ok (.if_icmp .ge 7, 3) := by decide +kernel
theorem dX9_flightIs_27 : decode cX9_flightIs 27 = .ok (.iconst 1, 1) := by decide +kernel
theorem dX9_flightIs_28 : decode cX9_flightIs 28 = .ok (.goto 4, 3) := by decide +kernel
theorem dX9_flightIs_31 : decode cX9_flightIs 31 = .ok (.iconst 2, 1) := by decide +kernel
theorem dX9_flightIs_32 : decode cX9_flightIs 32 = .ok (.ireturn, 1) := by decide +kernel
theorem dX9_isOf_0 : decode cX9_isOf 0 = .ok (.aload_n 0, 1) := by decide +kernel
theorem dX9_isOf_1 : decode cX9_isOf 1 = .ok (.aload_n 0, 1) := by decide +kernel
theorem dX9_isOf_2 : decode cX9_isOf 2 = .ok (.sipush 173, 3) := by decide +kernel
theorem dX9_isOf_5 : decode cX9_isOf 5 = .ok (.iload_n 1, 1) := by decide +kernel
theorem dX9_isOf_6 : decode cX9_isOf 6 = .ok (.iadd, 1) := by decide +kernel
theorem dX9_isOf_7 : decode cX9_isOf 7 = .ok (.iaload, 1) := by decide +kernel
theorem dX9_isOf_8 : decode cX9_isOf 8 = .ok (.invokestatic 257, 3) := by decide +kernel
theorem dX9_isOf_11 : decode cX9_isOf 11 = .ok (.ireturn, 1) := by decide +kernel
theorem dX9_hot_0 : decode cX9_hot 0 = .ok (.aload_n 0, 1) := by decide +kernel
theorem dX9_hot_1 : decode cX9_hot 1 = .ok (.bipush 13, 2) := by decide +kernel
theorem dX9_hot_3 : decode cX9_hot 3 = .ok (.aload_n 0, 1) := by decide +kernel
theorem dX9_hot_4 : decode cX9_hot 4 = .ok (.sipush 173, 3) := by decide +kernel
theorem dX9_hot_7 : decode cX9_hot 7 = .ok (.iload_n 1, 1) := by decide +kernel
theorem dX9_hot_8 : decode cX9_hot 8 = .ok (.iadd, 1) := by decide +kernel
theorem dX9_hot_9 : decode cX9_hot 9 = .ok (.iaload, 1) := by decide +kernel
theorem dX9_hot_10 : decode cX9_hot 10 = .ok (.iadd, 1) := by decide +kernel
theorem dX9_hot_11 : decode cX9_hot 11 = .ok (.iaload, 1) := by decide +kernel
theorem dX9_hot_12 : decode cX9_hot 12 = .ok (.aload_n 0, 1) := by decide +kernel
theorem dX9_hot_13 : decode cX9_hot 13 = .ok (.iconst 0, 1) := by decide +kernel
theorem dX9_hot_14 : decode cX9_hot 14 = .ok (.iaload, 1) := by decide +kernel
theorem dX9_hot_15 : decode cX9_hot 15 = .ok (.isub, 1) := by decide +kernel
theorem dX9_hot_16 : decode cX9_hot 16 = .ok (.aload_n 0, 1) := by decide +kernel
theorem dX9_hot_17 : decode cX9_hot 17 = .ok (.iconst 4, 1) := by decide +kernel
theorem dX9_hot_18 : decode cX9_hot 18 = .ok (.iaload, 1) := by decide +kernel
theorem dX9_hot_19 : decode cX9_hot 19 = .ok (.if_icmp .gt 7, 3) := by decide +kernel
theorem dX9_hot_22 : decode cX9_hot 22 = .ok (.iconst 1, 1) := by decide +kernel
theorem dX9_hot_23 : decode cX9_hot 23 = .ok (.goto 4, 3) := by decide +kernel
theorem dX9_hot_26 : decode cX9_hot 26 = .ok (.iconst 0, 1) := by decide +kernel
theorem dX9_hot_27 : decode cX9_hot 27 = .ok (.ireturn, 1) := by decide +kernel
theorem dX9_isAhead_0 : decode cX9_isAhead 0 = .ok (.aload_n 0, 1) := by decide +kernel
theorem dX9_isAhead_1 : decode cX9_isAhead 1 = .ok (.iload_n 1, 1) := by decide +kernel
theorem dX9_isAhead_2 : decode cX9_isAhead 2 = .ok (.invokestatic 261, 3) := by decide +kernel
theorem dX9_isAhead_5 : decode cX9_isAhead 5 = .ok (.aload_n 0, 1) := by decide +kernel
theorem dX9_isAhead_6 : decode cX9_isAhead 6 = .ok (.iload_n 2, 1) := by decide +kernel
theorem dX9_isAhead_7 : decode cX9_isAhead 7 = .ok (.invokestatic 261, 3) := by decide +kernel
theorem dX9_isAhead_10 : decode cX9_isAhead 10 = .ok (.if_icmp .eq 9, 3) := by decide +kernel
theorem dX9_isAhead_13 : decode cX9_isAhead 13 = .ok (.aload_n 0, 1) := by decide +kernel
theorem dX9_isAhead_14 : decode cX9_isAhead 14 = .ok (.iload_n 1, 1) := by decide +kernel
theorem dX9_isAhead_15 : decode cX9_isAhead 15 = .ok (.invokestatic 261, 3) := by decide +kernel
theorem dX9_isAhead_18 : decode cX9_isAhead 18 = .ok (.ireturn, 1) := by decide +kernel
theorem dX9_isAhead_19 : decode cX9_isAhead 19 = .ok (.aload_n 0, 1) := by decide +kernel
theorem dX9_isAhead_20 : decode cX9_isAhead 20 = .ok (.bipush 13, 2) := by decide +kernel
theorem dX9_isAhead_22 : decode cX9_isAhead 22 = .ok (.aload_n 0, 1) := by decide +kernel
theorem dX9_isAhead_23 : decode cX9_isAhead 23 = .ok (.sipush 173, 3) := by decide +kernel
theorem dX9_isAhead_26 : decode cX9_isAhead 26 = .ok (.iload_n 1, 1) := by decide +kernel
theorem dX9_isAhead_27 : decode cX9_isAhead 27 = .ok (.iadd, 1) := by decide +kernel
theorem dX9_isAhead_28 : decode cX9_isAhead 28 = .ok (.iaload, 1) := by decide +kernel
theorem dX9_isAhead_29 : decode cX9_isAhead 29 = .ok (.iadd, 1) := by decide +kernel
theorem dX9_isAhead_30 : decode cX9_isAhead 30 = .ok (.iaload, 1) := by decide +kernel
theorem dX9_isAhead_31 : decode cX9_isAhead 31 = .ok (.aload_n 0, 1) := by decide +kernel
theorem dX9_isAhead_32 : decode cX9_isAhead 32 = .ok (.bipush 13, 2) := by decide +kernel
theorem dX9_isAhead_34 : decode cX9_isAhead 34 = .ok (.aload_n 0, 1) := by decide +kernel
theorem dX9_isAhead_35 : decode cX9_isAhead 35 = .ok (.sipush 173, 3) := by decide +kernel
theorem dX9_isAhead_38 : decode cX9_isAhead 38 = .ok (.iload_n 2, 1) := by decide +kernel
theorem dX9_isAhead_39 : decode cX9_isAhead 39 = .ok (.iadd, 1) := by decide +kernel
theorem dX9_isAhead_40 : decode cX9_isAhead 40 = .ok (.iaload, 1) := by decide +kernel
theorem dX9_isAhead_41 : decode cX9_isAhead 41 = .ok (.iadd, 1) := by decide +kernel
theorem dX9_isAhead_42 : decode cX9_isAhead 42 = .ok (.iaload, 1) := by decide +kernel
theorem dX9_isAhead_43 : decode cX9_isAhead 43 = .ok (.isub, 1) := by decide +kernel
theorem dX9_isAhead_44 : decode cX9_isAhead 44 = .ok (.istore_n 3, 1) := by decide +kernel
theorem dX9_isAhead_45 : decode cX9_isAhead 45 = .ok (.iload_n 3, 1) := by decide +kernel
theorem dX9_isAhead_46 : decode cX9_isAhead 46 = .ok (.ifCond .eq 13, 3) := by decide +kernel
theorem dX9_isAhead_49 : decode cX9_isAhead 49 = .ok (.iload_n 3, 1) := by decide +kernel
theorem dX9_isAhead_50 : decode cX9_isAhead 50 = .ok (.ifCond .ge 7, 3) := by decide +kernel
theorem dX9_isAhead_53 : decode cX9_isAhead 53 = .ok (.iconst 1, 1) := by decide +kernel
theorem dX9_isAhead_54 : decode cX9_isAhead 54 = .ok (.goto 4, 3) := by decide +kernel
theorem dX9_isAhead_57 : decode cX9_isAhead 57 = .ok (.iconst 0, 1) := by decide +kernel
theorem dX9_isAhead_58 : decode cX9_isAhead 58 = .ok (.ireturn, 1) := by decide +kernel
theorem dX9_isAhead_59 : decode cX9_isAhead 59 = .ok (.aload_n 0, 1) := by decide +kernel
theorem dX9_isAhead_60 : decode cX9_isAhead 60 = .ok (.sipush 273, 3) := by decide +kernel
theorem dX9_isAhead_63 : decode cX9_isAhead 63 = .ok (.iload_n 1, 1) := by decide +kernel
theorem dX9_isAhead_64 : decode cX9_isAhead 64 = .ok (.iadd, 1) := by decide +kernel
theorem dX9_isAhead_65 : decode cX9_isAhead 65 = .ok (.iaload, 1) := by decide +kernel
theorem dX9_isAhead_66 : decode cX9_isAhead 66 = .ok (.aload_n 0, 1) := by decide +kernel
theorem dX9_isAhead_67 : decode cX9_isAhead 67 = .ok (.sipush 273, 3) := by decide +kernel
theorem dX9_isAhead_70 : decode cX9_isAhead 70 = .ok (.iload_n 2, 1) := by decide +kernel
theorem dX9_isAhead_71 : decode cX9_isAhead 71 = .ok (.iadd, 1) := by decide +kernel
theorem dX9_isAhead_72 : decode cX9_isAhead 72 = .ok (.iaload, 1) := by decide +kernel
theorem dX9_isAhead_73 : decode cX9_isAhead 73 = .ok (.if_icmp .eq 28, 3) := by decide +kernel
theorem dX9_isAhead_76 : decode cX9_isAhead 76 = .ok (.aload_n 0, 1) := by decide +kernel
theorem dX9_isAhead_77 : decode cX9_isAhead 77 = .ok (.sipush 273, 3) := by decide +kernel
theorem dX9_isAhead_80 : decode cX9_isAhead 80 = .ok (.iload_n 1, 1) := by decide +kernel
theorem dX9_isAhead_81 : decode cX9_isAhead 81 = .ok (.iadd, 1) := by decide +kernel
theorem dX9_isAhead_82 : decode cX9_isAhead 82 = .ok (.iaload, 1) := by decide +kernel
theorem dX9_isAhead_83 : decode cX9_isAhead 83 = .ok (.aload_n 0, 1) := by decide +kernel
theorem dX9_isAhead_84 : decode cX9_isAhead 84 = .ok (.sipush 273, 3) := by decide +kernel
theorem dX9_isAhead_87 : decode cX9_isAhead 87 = .ok (.iload_n 2, 1) := by decide +kernel
theorem dX9_isAhead_88 : decode cX9_isAhead 88 = .ok (.iadd, 1) := by decide +kernel
theorem dX9_isAhead_89 : decode cX9_isAhead 89 = .ok (.iaload, 1) := by decide +kernel
theorem dX9_isAhead_90 : decode cX9_isAhead 90 = .ok (.if_icmp .ge 7, 3) := by decide +kernel
theorem dX9_isAhead_93 : decode cX9_isAhead 93 = .ok (.iconst 1, 1) := by decide +kernel
theorem dX9_isAhead_94 : decode cX9_isAhead 94 = .ok (.goto 17, 3) := by decide +kernel
theorem dX9_isAhead_97 : decode cX9_isAhead 97 = .ok (.iconst 0, 1) := by decide +kernel
theorem dX9_isAhead_98 : decode cX9_isAhead 98 = .ok (.goto 13, 3) := by decide +kernel
theorem dX9_isAhead_101 : decode cX9_isAhead 101 = .ok (.iload_n 1, 1) := by decide +kernel
theorem dX9_isAhead_102 : decode cX9_isAhead 102 = .ok (.iload_n 2, 1) := by decide +kernel
theorem dX9_isAhead_103 : decode cX9_isAhead 103 = .ok (.if_icmp .ge 7, 3) := by decide +kernel
theorem dX9_isAhead_106 : decode cX9_isAhead 106 = .ok (.iconst 1, 1) := by decide +kernel
theorem dX9_isAhead_107 : decode cX9_isAhead 107 = .ok (.goto 4, 3) := by decide +kernel
theorem dX9_isAhead_110 : decode cX9_isAhead 110 = .ok (.iconst 0, 1) := by decide +kernel
theorem dX9_isAhead_111 : decode cX9_isAhead 111 = .ok (.ireturn, 1) := by decide +kernel
theorem dX9_firstIn_0 : decode cX9_firstIn 0 = .ok (.iconst (-1), 1) := by decide +kernel
theorem dX9_firstIn_1 : decode cX9_firstIn 1 = .ok (.istore_n 2, 1) := by decide +kernel
theorem dX9_firstIn_2 : decode cX9_firstIn 2 = .ok (.iconst 0, 1) := by decide +kernel
theorem dX9_firstIn_3 : decode cX9_firstIn 3 = .ok (.istore_n 3, 1) := by decide +kernel
theorem dX9_firstIn_4 : decode cX9_firstIn 4 = .ok (.iload_n 3, 1) := by decide +kernel
theorem dX9_firstIn_5 : decode cX9_firstIn 5 = .ok (.aload_n 0, 1) := by decide +kernel
theorem dX9_firstIn_6 : decode cX9_firstIn 6 = .ok (.iconst 2, 1) := by decide +kernel
theorem dX9_firstIn_7 : decode cX9_firstIn 7 = .ok (.iaload, 1) := by decide +kernel
theorem dX9_firstIn_8 : decode cX9_firstIn 8 = .ok (.if_icmp .ge 36, 3) := by decide +kernel
theorem dX9_firstIn_11 : decode cX9_firstIn 11 = .ok (.aload_n 0, 1) := by decide +kernel
theorem dX9_firstIn_12 : decode cX9_firstIn 12 = .ok (.sipush 373, 3) := by decide +kernel
theorem dX9_firstIn_15 : decode cX9_firstIn 15 = .ok (.iload_n 3, 1) := by decide +kernel
theorem dX9_firstIn_16 : decode cX9_firstIn 16 = .ok (.iadd, 1) := by decide +kernel
theorem dX9_firstIn_17 : decode cX9_firstIn 17 = .ok (.iaload, 1) := by decide +kernel
theorem dX9_firstIn_18 : decode cX9_firstIn 18 = .ok (.iload_n 1, 1) := by decide +kernel
theorem dX9_firstIn_19 : decode cX9_firstIn 19 = .ok (.if_icmp .ne 19, 3) := by decide +kernel
theorem dX9_firstIn_22 : decode cX9_firstIn 22 = .ok (.iload_n 2, 1) := by decide +kernel
theorem dX9_firstIn_23 : decode cX9_firstIn 23 = .ok (.iconst (-1), 1) := by decide +kernel
theorem dX9_firstIn_24 : decode cX9_firstIn 24 = .ok (.if_icmp .eq 12, 3) := by decide +kernel
theorem dX9_firstIn_27 : decode cX9_firstIn 27 = .ok (.aload_n 0, 1) := by decide +kernel
theorem dX9_firstIn_28 : decode cX9_firstIn 28 = .ok (.iload_n 3, 1) := by decide +kernel
theorem dX9_firstIn_29 : decode cX9_firstIn 29 = .ok (.iload_n 2, 1) := by decide +kernel
theorem dX9_firstIn_30 : decode cX9_firstIn 30 = .ok (.invokestatic 264, 3) := by decide +kernel
theorem dX9_firstIn_33 : decode cX9_firstIn 33 = .ok (.ifCond .eq 5, 3) := by decide +kernel
theorem dX9_firstIn_36 : decode cX9_firstIn 36 = .ok (.iload_n 3, 1) := by decide +kernel
theorem dX9_firstIn_37 : decode cX9_firstIn 37 = .ok (.istore_n 2, 1) := by decide +kernel
theorem dX9_firstIn_38 : decode cX9_firstIn 38 = .ok (.iinc 3 1, 3) := by decide +kernel
theorem dX9_firstIn_41 : decode cX9_firstIn 41 = .ok (.goto (-37), 3) := by decide +kernel
theorem dX9_firstIn_44 : decode cX9_firstIn 44 = .ok (.iload_n 2, 1) := by decide +kernel
theorem dX9_firstIn_45 : decode cX9_firstIn 45 = .ok (.ireturn, 1) := by decide +kernel
theorem dX9_inState_0 : decode cX9_inState 0 = .ok (.iconst 0, 1) := by decide +kernel
theorem dX9_inState_1 : decode cX9_inState 1 = .ok (.istore_n 2, 1) := by decide +kernel
theorem dX9_inState_2 : decode cX9_inState 2 = .ok (.iconst 0, 1) := by decide +kernel
theorem dX9_inState_3 : decode cX9_inState 3 = .ok (.istore_n 3, 1) := by decide +kernel
theorem dX9_inState_4 : decode cX9_inState 4 = .ok (.iload_n 3, 1) := by decide +kernel
theorem dX9_inState_5 : decode cX9_inState 5 = .ok (.aload_n 0, 1) := by decide +kernel
theorem dX9_inState_6 : decode cX9_inState 6 = .ok (.iconst 2, 1) := by decide +kernel
theorem dX9_inState_7 : decode cX9_inState 7 = .ok (.iaload, 1) := by decide +kernel
theorem dX9_inState_8 : decode cX9_inState 8 = .ok (.if_icmp .ge 28, 3) := by decide +kernel
theorem dX9_inState_11 : decode cX9_inState 11 = .ok (.iload_n 2, 1) := by decide +kernel
theorem dX9_inState_12 : decode cX9_inState 12 = .ok (.aload_n 0, 1) := by decide +kernel
theorem dX9_inState_13 : decode cX9_inState 13 = .ok (.sipush 373, 3) := by decide +kernel
theorem dX9_inState_16 : decode cX9_inState 16 = .ok (.iload_n 3, 1) := by decide +kernel
theorem dX9_inState_17 : decode cX9_inState 17 = .ok (.iadd, 1) := by decide +kernel
theorem dX9_inState_18 : decode cX9_inState 18 = .ok (.iaload, 1) := by decide +kernel
theorem dX9_inState_19 : decode cX9_inState 19 = .ok (.iload_n 1, 1) := by decide +kernel
theorem dX9_inState_20 : decode cX9_inState 20 = .ok (.if_icmp .ne 7, 3) := by decide +kernel
theorem dX9_inState_23 : decode cX9_inState 23 = .ok (.iconst 1, 1) := by decide +kernel
theorem dX9_inState_24 : decode cX9_inState 24 = .ok (.goto 4, 3) := by decide +kernel
theorem dX9_inState_27 : decode cX9_inState 27 = .ok (.iconst 0, 1) := by decide +kernel
theorem dX9_inState_28 : decode cX9_inState 28 = .ok (.iadd, 1) := by decide +kernel
theorem dX9_inState_29 : decode cX9_inState 29 = .ok (.istore_n 2, 1) := by decide +kernel
theorem dX9_inState_30 : decode cX9_inState 30 = .ok (.iinc 3 1, 3) := by decide +kernel
theorem dX9_inState_33 : decode cX9_inState 33 = .ok (.goto (-29), 3) := by decide +kernel
theorem dX9_inState_36 : decode cX9_inState 36 = .ok (.iload_n 2, 1) := by decide +kernel
theorem dX9_inState_37 : decode cX9_inState 37 = .ok (.ireturn, 1) := by decide +kernel
theorem dX9_asked_0 : decode cX9_asked 0 = .ok (.iload_n 2, 1) := by decide +kernel
theorem dX9_asked_1 : decode cX9_asked 1 = .ok (.tableswitch 83 0 3 #[31, 54, 65, 76], 31) := by decide +kernel
theorem dX9_asked_32 : decode cX9_asked 32 = .ok (.iconst 0, 1) := by decide +kernel
theorem dX9_asked_33 : decode cX9_asked 33 = .ok (.aload_n 1, 1) := by decide +kernel
theorem dX9_asked_34 : decode cX9_asked 34 = .ok (.iconst 5, 1) := by decide +kernel
theorem dX9_asked_35 : decode cX9_asked 35 = .ok (.aload_n 1, 1) := by decide +kernel
theorem dX9_asked_36 : decode cX9_asked 36 = .ok (.sipush 173, 3) := by decide +kernel
theorem dX9_asked_39 : decode cX9_asked 39 = .ok (.aload_n 0, 1) := by decide +kernel
theorem dX9_asked_40 : decode cX9_asked 40 = .ok (.getfield 268, 3) := by decide +kernel
theorem dX9_asked_43 : decode cX9_asked 43 = .ok (.iadd, 1) := by decide +kernel
theorem dX9_asked_44 : decode cX9_asked 44 = .ok (.iaload, 1) := by decide +kernel
theorem dX9_asked_45 : decode cX9_asked 45 = .ok (.iadd, 1) := by decide +kernel
theorem dX9_asked_46 : decode cX9_asked 46 = .ok (.iaload, 1) := by decide +kernel
theorem dX9_asked_47 : decode cX9_asked 47 = .ok (.aload_n 1, 1) := by decide +kernel
theorem dX9_asked_48 : decode cX9_asked 48 = .ok (.iconst 0, 1) := by decide +kernel
theorem dX9_asked_49 : decode cX9_asked 49 = .ok (.iaload, 1) := by decide +kernel
theorem dX9_asked_50 : decode cX9_asked 50 = .ok (.isub, 1) := by decide +kernel
theorem dX9_asked_51 : decode cX9_asked 51 = .ok (.invokestatic 271, 3) := by decide +kernel
theorem dX9_asked_54 : decode cX9_asked 54 = .ok (.ireturn, 1) := by decide +kernel
theorem dX9_asked_55 : decode cX9_asked 55 = .ok (.aload_n 1, 1) := by decide +kernel
theorem dX9_asked_56 : decode cX9_asked 56 = .ok (.sipush 573, 3) := by decide +kernel
theorem dX9_asked_59 : decode cX9_asked 59 = .ok (.aload_n 0, 1) := by decide +kernel
theorem dX9_asked_60 : decode cX9_asked 60 = .ok (.getfield 268, 3) := by decide +kernel
theorem dX9_asked_63 : decode cX9_asked 63 = .ok (.iadd, 1) := by decide +kernel
theorem dX9_asked_64 : decode cX9_asked 64 = .ok (.iaload, 1) := by decide +kernel
theorem dX9_asked_65 : decode cX9_asked 65 = .ok (.ireturn, 1) := by decide +kernel
theorem dX9_asked_66 : decode cX9_asked 66 = .ok (.aload_n 1, 1) := by decide +kernel
theorem dX9_asked_67 : decode cX9_asked 67 = .ok (.sipush 673, 3) := by decide +kernel
theorem dX9_asked_70 : decode cX9_asked 70 = .ok (.aload_n 0, 1) := by decide +kernel
theorem dX9_asked_71 : decode cX9_asked 71 = .ok (.getfield 268, 3) := by decide +kernel
theorem dX9_asked_74 : decode cX9_asked 74 = .ok (.iadd, 1) := by decide +kernel
theorem dX9_asked_75 : decode cX9_asked 75 = .ok (.iaload, 1) := by decide +kernel
theorem dX9_asked_76 : decode cX9_asked 76 = .ok (.ireturn, 1) := by decide +kernel
theorem dX9_asked_77 : decode cX9_asked 77 = .ok (.aload_n 1, 1) := by decide +kernel
theorem dX9_asked_78 : decode cX9_asked 78 = .ok (.bipush 8, 2) := by decide +kernel
theorem dX9_asked_80 : decode cX9_asked 80 = .ok (.invokestatic 276, 3) := by decide +kernel
theorem dX9_asked_83 : decode cX9_asked 83 = .ok (.ireturn, 1) := by decide +kernel
theorem dX9_asked_84 : decode cX9_asked 84 = .ok (.aload_n 1, 1) := by decide +kernel
theorem dX9_asked_85 : decode cX9_asked 85 = .ok (.iconst 0, 1) := by decide +kernel
theorem dX9_asked_86 : decode cX9_asked 86 = .ok (.iaload, 1) := by decide +kernel
theorem dX9_asked_87 : decode cX9_asked 87 = .ok (.ireturn, 1) := by decide +kernel
theorem dX9_holds_0 : decode cX9_holds 0 = .ok (.iload_n 2, 1) := by decide +kernel
theorem dX9_holds_1 : decode cX9_holds 1 = .ok (.istore_n 3, 1) := by decide +kernel
theorem dX9_holds_2 : decode cX9_holds 2 = .ok (.aload_n 0, 1) := by decide +kernel
theorem dX9_holds_3 : decode cX9_holds 3 = .ok (.getfield 58, 3) := by decide +kernel
theorem dX9_holds_6 : decode cX9_holds 6 = .ok (.iload_n 3, 1) := by decide +kernel
theorem dX9_holds_7 : decode cX9_holds 7 = .ok (.iaload, 1) := by decide +kernel
theorem dX9_holds_8 : decode cX9_holds 8 = .ok (.ifCond .eq 13, 3) := by decide +kernel
theorem dX9_holds_11 : decode cX9_holds 11 = .ok (.aload_n 0, 1) := by decide +kernel
theorem dX9_holds_12 : decode cX9_holds 12 = .ok (.getfield 58, 3) := by decide +kernel
theorem dX9_holds_15 : decode cX9_holds 15 = .ok (.iload_n 3, 1) := by decide +kernel
theorem dX9_holds_16 : decode cX9_holds 16 = .ok (.iaload, 1) := by decide +kernel
theorem dX9_holds_17 : decode cX9_holds 17 = .ok (.iconst 1, 1) := by decide +kernel
theorem dX9_holds_18 : decode cX9_holds 18 = .ok (.if_icmp .ne 13, 3) := by decide +kernel
theorem dX9_holds_21 : decode cX9_holds 21 = .ok (.aload_n 0, 1) := by decide +kernel
theorem dX9_holds_22 : decode cX9_holds 22 = .ok (.getfield 61, 3) := by decide +kernel
theorem dX9_holds_25 : decode cX9_holds 25 = .ok (.iload_n 3, 1) := by decide +kernel
theorem dX9_holds_26 : decode cX9_holds 26 = .ok (.iaload, 1) := by decide +kernel
theorem dX9_holds_27 : decode cX9_holds 27 = .ok (.istore_n 3, 1) := by decide +kernel
theorem dX9_holds_28 : decode cX9_holds 28 = .ok (.goto (-26), 3) := by decide +kernel
theorem dX9_holds_31 : decode cX9_holds 31 = .ok (.aload_n 0, 1) := by decide +kernel
theorem dX9_holds_32 : decode cX9_holds 32 = .ok (.aload_n 1, 1) := by decide +kernel
theorem dX9_holds_33 : decode cX9_holds 33 = .ok (.iload_n 3, 1) := by decide +kernel
theorem dX9_holds_34 : decode cX9_holds 34 = .ok (.invokevirtual 279, 3) := by decide +kernel
theorem dX9_holds_37 : decode cX9_holds 37 = .ok (.istore 4, 2) := by decide +kernel
theorem dX9_holds_39 : decode cX9_holds 39 = .ok (.iload_n 3, 1) := by decide +kernel
theorem dX9_holds_40 : decode cX9_holds 40 = .ok (.iload_n 2, 1) := by decide +kernel
theorem dX9_holds_41 : decode cX9_holds 41 = .ok (.if_icmp .eq 75, 3) := by decide +kernel
theorem dX9_holds_44 : decode cX9_holds 44 = .ok (.aload_n 0, 1) := by decide +kernel
theorem dX9_holds_45 : decode cX9_holds 45 = .ok (.getfield 67, 3) := by decide +kernel
theorem dX9_holds_48 : decode cX9_holds 48 = .ok (.iload_n 3, 1) := by decide +kernel
theorem dX9_holds_49 : decode cX9_holds 49 = .ok (.iaload, 1) := by decide +kernel
theorem dX9_holds_50 : decode cX9_holds 50 = .ok (.istore_n 3, 1) := by decide +kernel
theorem dX9_holds_51 : decode cX9_holds 51 = .ok (.aload_n 0, 1) := by decide +kernel
theorem dX9_holds_52 : decode cX9_holds 52 = .ok (.getfield 58, 3) := by decide +kernel
theorem dX9_holds_55 : decode cX9_holds 55 = .ok (.iload_n 3, 1) := by decide +kernel
theorem dX9_holds_56 : decode cX9_holds 56 = .ok (.iaload, 1) := by decide +kernel
theorem dX9_holds_57 : decode cX9_holds 57 = .ok (.ifCond .ne 30, 3) := by decide +kernel
theorem dX9_holds_60 : decode cX9_holds 60 = .ok (.iload 4, 2) := by decide +kernel
theorem dX9_holds_62 : decode cX9_holds 62 = .ok (.ifCond .eq 21, 3) := by decide +kernel
theorem dX9_holds_65 : decode cX9_holds 65 = .ok (.aload_n 0, 1) := by decide +kernel
theorem dX9_holds_66 : decode cX9_holds 66 = .ok (.aload_n 1, 1) := by decide +kernel
theorem dX9_holds_67 : decode cX9_holds 67 = .ok (.aload_n 0, 1) := by decide +kernel
theorem dX9_holds_68 : decode cX9_holds 68 = .ok (.getfield 64, 3) := by decide +kernel
theorem dX9_holds_71 : decode cX9_holds 71 = .ok (.iload_n 3, 1) := by decide +kernel
theorem dX9_holds_72 : decode cX9_holds 72 = .ok (.iaload, 1) := by decide +kernel
theorem dX9_holds_73 : decode cX9_holds 73 = .ok (.invokevirtual 282, 3) := by decide +kernel
theorem dX9_holds_76 : decode cX9_holds 76 = .ok (.ifCond .eq 7, 3) := by decide +kernel
theorem dX9_holds_79 : decode cX9_holds 79 = .ok (.iconst 1, 1) := by decide +kernel
theorem dX9_holds_80 : decode cX9_holds 80 = .ok (.goto 31, 3) := by decide +kernel
theorem dX9_holds_83 : decode cX9_holds 83 = .ok (.iconst 0, 1) := by decide +kernel
theorem dX9_holds_84 : decode cX9_holds 84 = .ok (.goto 27, 3) := by decide +kernel
theorem dX9_holds_87 : decode cX9_holds 87 = .ok (.iload 4, 2) := by decide +kernel
theorem dX9_holds_89 : decode cX9_holds 89 = .ok (.ifCond .ne 17, 3) := by decide +kernel
theorem dX9_holds_92 : decode cX9_holds 92 = .ok (.aload_n 0, 1) := by decide +kernel
theorem dX9_holds_93 : decode cX9_holds 93 = .ok (.aload_n 1, 1) := by decide +kernel
theorem dX9_holds_94 : decode cX9_holds 94 = .ok (.aload_n 0, 1) := by decide +kernel
theorem dX9_holds_95 : decode cX9_holds 95 = .ok (.getfield 64, 3) := by decide +kernel
theorem dX9_holds_98 : decode cX9_holds 98 = .ok (.iload_n 3, 1) := by decide +kernel
theorem dX9_holds_99 : decode cX9_holds 99 = .ok (.iaload, 1) := by decide +kernel
theorem dX9_holds_100 : decode cX9_holds 100 = .ok (.invokevirtual 282, 3) := by decide +kernel
theorem dX9_holds_103 : decode cX9_holds 103 = .ok (.ifCond .eq 7, 3) := by decide +kernel
theorem dX9_holds_106 : decode cX9_holds 106 = .ok (.iconst 1, 1) := by decide +kernel
theorem dX9_holds_107 : decode cX9_holds 107 = .ok (.goto 4, 3) := by decide +kernel
theorem dX9_holds_110 : decode cX9_holds 110 = .ok (.iconst 0, 1) := by decide +kernel
theorem dX9_holds_111 : decode cX9_holds 111 = .ok (.istore 4, 2) := by decide +kernel
theorem dX9_holds_113 : decode cX9_holds 113 = .ok (.goto (-74), 3) := by decide +kernel
theorem dX9_holds_116 : decode cX9_holds 116 = .ok (.iload 4, 2) := by decide +kernel
theorem dX9_holds_118 : decode cX9_holds 118 = .ok (.ireturn, 1) := by decide +kernel
theorem dX9_holdsOne_0 : decode cX9_holdsOne 0 = .ok (.aload_n 0, 1) := by decide +kernel
theorem dX9_holdsOne_1 : decode cX9_holdsOne 1 = .ok (.getfield 58, 3) := by decide +kernel
theorem dX9_holdsOne_4 : decode cX9_holdsOne 4 = .ok (.iload_n 2, 1) := by decide +kernel
theorem dX9_holdsOne_5 : decode cX9_holdsOne 5 = .ok (.iaload, 1) := by decide +kernel
theorem dX9_holdsOne_6 : decode cX9_holdsOne 6 = .ok (.tableswitch 98 2 4 #[26, 46, 72], 26) := by decide +kernel
theorem dX9_holdsOne_32 : decode cX9_holdsOne 32 = .ok (.aload_n 0, 1) := by decide +kernel
theorem dX9_holdsOne_33 : decode cX9_holdsOne 33 = .ok (.aload_n 1, 1) := by decide +kernel
theorem dX9_holdsOne_34 : decode cX9_holdsOne 34 = .ok (.aload_n 0, 1) := by decide +kernel
theorem dX9_holdsOne_35 : decode cX9_holdsOne 35 = .ok (.getfield 61, 3) := by decide +kernel
theorem dX9_holdsOne_38 : decode cX9_holdsOne 38 = .ok (.iload_n 2, 1) := by decide +kernel
theorem dX9_holdsOne_39 : decode cX9_holdsOne 39 = .ok (.iaload, 1) := by decide +kernel
theorem dX9_holdsOne_40 : decode cX9_holdsOne 40 = .ok (.invokevirtual 282, 3) := by decide +kernel
theorem dX9_holdsOne_43 : decode cX9_holdsOne 43 = .ok (.ifCond .ne 7, 3) := by decide +kernel
theorem dX9_holdsOne_46 : decode cX9_holdsOne 46 = .ok (.iconst 1, 1) := by decide +kernel
theorem dX9_holdsOne_47 : decode cX9_holdsOne 47 = .ok (.goto 4, 3) := by decide +kernel
theorem dX9_holdsOne_50 : decode cX9_holdsOne 50 = .ok (.iconst 0, 1) := by decide +kernel
theorem dX9_holdsOne_51 : decode cX9_holdsOne 51 = .ok (.ireturn, 1) := by decide +kernel
theorem dX9_holdsOne_52 : decode cX9_holdsOne 52 = .ok (.aload_n 0, 1) := by decide +kernel
theorem dX9_holdsOne_53 : decode cX9_holdsOne 53 = .ok (.aload_n 1, 1) := by decide +kernel
theorem dX9_holdsOne_54 : decode cX9_holdsOne 54 = .ok (.aload_n 0, 1) := by decide +kernel
theorem dX9_holdsOne_55 : decode cX9_holdsOne 55 = .ok (.getfield 61, 3) := by decide +kernel
theorem dX9_holdsOne_58 : decode cX9_holdsOne 58 = .ok (.iload_n 2, 1) := by decide +kernel
theorem dX9_holdsOne_59 : decode cX9_holdsOne 59 = .ok (.iaload, 1) := by decide +kernel
theorem dX9_holdsOne_60 : decode cX9_holdsOne 60 = .ok (.invokevirtual 285, 3) := by decide +kernel
theorem dX9_holdsOne_63 : decode cX9_holdsOne 63 = .ok (.aload_n 0, 1) := by decide +kernel
theorem dX9_holdsOne_64 : decode cX9_holdsOne 64 = .ok (.getfield 64, 3) := by decide +kernel
theorem dX9_holdsOne_67 : decode cX9_holdsOne 67 = .ok (.iload_n 2, 1) := by decide +kernel
theorem dX9_holdsOne_68 : decode cX9_holdsOne 68 = .ok (.iaload, 1) := by decide +kernel
theorem dX9_holdsOne_69 : decode cX9_holdsOne 69 = .ok (.if_icmp .ge 7, 3) := by decide +kernel
theorem dX9_holdsOne_72 : decode cX9_holdsOne 72 = .ok (.iconst 1, 1) := by decide +kernel
theorem dX9_holdsOne_73 : decode cX9_holdsOne 73 = .ok (.goto 4, 3) := by decide +kernel
theorem dX9_holdsOne_76 : decode cX9_holdsOne 76 = .ok (.iconst 0, 1) := by decide +kernel
theorem dX9_holdsOne_77 : decode cX9_holdsOne 77 = .ok (.ireturn, 1) := by decide +kernel
theorem dX9_holdsOne_78 : decode cX9_holdsOne 78 = .ok (.aload_n 0, 1) := by decide +kernel
theorem dX9_holdsOne_79 : decode cX9_holdsOne 79 = .ok (.aload_n 1, 1) := by decide +kernel
theorem dX9_holdsOne_80 : decode cX9_holdsOne 80 = .ok (.aload_n 0, 1) := by decide +kernel
theorem dX9_holdsOne_81 : decode cX9_holdsOne 81 = .ok (.getfield 61, 3) := by decide +kernel
theorem dX9_holdsOne_84 : decode cX9_holdsOne 84 = .ok (.iload_n 2, 1) := by decide +kernel
theorem dX9_holdsOne_85 : decode cX9_holdsOne 85 = .ok (.iaload, 1) := by decide +kernel
theorem dX9_holdsOne_86 : decode cX9_holdsOne 86 = .ok (.invokevirtual 285, 3) := by decide +kernel
theorem dX9_holdsOne_89 : decode cX9_holdsOne 89 = .ok (.aload_n 0, 1) := by decide +kernel
theorem dX9_holdsOne_90 : decode cX9_holdsOne 90 = .ok (.getfield 64, 3) := by decide +kernel
theorem dX9_holdsOne_93 : decode cX9_holdsOne 93 = .ok (.iload_n 2, 1) := by decide +kernel
theorem dX9_holdsOne_94 : decode cX9_holdsOne 94 = .ok (.iaload, 1) := by decide +kernel
theorem dX9_holdsOne_95 : decode cX9_holdsOne 95 = .ok (.if_icmp .le 7, 3) := by decide +kernel
theorem dX9_holdsOne_98 : decode cX9_holdsOne 98 = .ok (.iconst 1, 1) := by decide +kernel
theorem dX9_holdsOne_99 : decode cX9_holdsOne 99 = .ok (.goto 4, 3) := by decide +kernel
theorem dX9_holdsOne_102 : decode cX9_holdsOne 102 = .ok (.iconst 0, 1) := by decide +kernel
theorem dX9_holdsOne_103 : decode cX9_holdsOne 103 = .ok (.ireturn, 1) := by decide +kernel
theorem dX9_holdsOne_104 : decode cX9_holdsOne 104 = .ok (.aload_n 0, 1) := by decide +kernel
theorem dX9_holdsOne_105 : decode cX9_holdsOne 105 = .ok (.aload_n 1, 1) := by decide +kernel
theorem dX9_holdsOne_106 : decode cX9_holdsOne 106 = .ok (.aload_n 0, 1) := by decide +kernel
theorem dX9_holdsOne_107 : decode cX9_holdsOne 107 = .ok (.getfield 61, 3) := by decide +kernel
theorem dX9_holdsOne_110 : decode cX9_holdsOne 110 = .ok (.iload_n 2, 1) := by decide +kernel
theorem dX9_holdsOne_111 : decode cX9_holdsOne 111 = .ok (.iaload, 1) := by decide +kernel
theorem dX9_holdsOne_112 : decode cX9_holdsOne 112 = .ok (.invokevirtual 285, 3) := by decide +kernel
theorem dX9_holdsOne_115 : decode cX9_holdsOne 115 = .ok (.aload_n 0, 1) := by decide +kernel
theorem dX9_holdsOne_116 : decode cX9_holdsOne 116 = .ok (.getfield 64, 3) := by decide +kernel
theorem dX9_holdsOne_119 : decode cX9_holdsOne 119 = .ok (.iload_n 2, 1) := by decide +kernel
theorem dX9_holdsOne_120 : decode cX9_holdsOne 120 = .ok (.iaload, 1) := by decide +kernel
theorem dX9_holdsOne_121 : decode cX9_holdsOne 121 = .ok (.if_icmp .ne 7, 3) := by decide +kernel
theorem dX9_holdsOne_124 : decode cX9_holdsOne 124 = .ok (.iconst 1, 1) := by decide +kernel
theorem dX9_holdsOne_125 : decode cX9_holdsOne 125 = .ok (.goto 4, 3) := by decide +kernel
theorem dX9_holdsOne_128 : decode cX9_holdsOne 128 = .ok (.iconst 0, 1) := by decide +kernel
theorem dX9_holdsOne_129 : decode cX9_holdsOne 129 = .ok (.ireturn, 1) := by decide +kernel
theorem dX9_isHeldBack_0 : decode cX9_isHeldBack 0 = .ok (.aload_n 0, 1) := by decide +kernel
theorem dX9_isHeldBack_1 : decode cX9_isHeldBack 1 = .ok (.iload_n 2, 1) := by decide +kernel
theorem dX9_isHeldBack_2 : decode cX9_isHeldBack 2 = .ok (.putfield 268, 3) := by decide +kernel
theorem dX9_isHeldBack_5 : decode cX9_isHeldBack 5 = .ok (.iconst 0, 1) := by decide +kernel
theorem dX9_isHeldBack_6 : decode cX9_isHeldBack 6 = .ok (.istore_n 3, 1) := by decide +kernel
theorem dX9_isHeldBack_7 : decode cX9_isHeldBack 7 = .ok (.iload_n 3, 1) := by decide +kernel
theorem dX9_isHeldBack_8 : decode cX9_isHeldBack 8 = .ok (.aload_n 0, 1) := by decide +kernel
theorem dX9_isHeldBack_9 : decode cX9_isHeldBack 9 = .ok (.getfield 17, 3) := by decide +kernel
theorem dX9_isHeldBack_12 : decode cX9_isHeldBack 12 = .ok (.bipush 14, 2) := by decide +kernel
theorem dX9_isHeldBack_14 : decode cX9_isHeldBack 14 = .ok (.iaload, 1) := by decide +kernel
theorem dX9_isHeldBack_15 : decode cX9_isHeldBack 15 = .ok (.if_icmp .ge 28, 3) := by decide +kernel
theorem dX9_isHeldBack_18 : decode cX9_isHeldBack 18 = .ok (.aload_n 0, 1) := by decide +kernel
theorem dX9_isHeldBack_19 : decode cX9_isHeldBack 19 = .ok (.aload_n 1, 1) := by decide +kernel
theorem dX9_isHeldBack_20 : decode cX9_isHeldBack 20 = .ok (.aload_n 0, 1) := by decide +kernel
theorem dX9_isHeldBack_21 : decode cX9_isHeldBack 21 = .ok (.getfield 17, 3) := by decide +kernel
theorem dX9_isHeldBack_24 : decode cX9_isHeldBack 24 = .ok (.bipush 31, 2) := by decide +kernel
theorem dX9_isHeldBack_26 : decode cX9_isHeldBack 26 = .ok (.iload_n 3, 1) := by decide +kernel
theorem dX9_isHeldBack_27 : decode cX9_isHeldBack 27 = .ok (.iadd, 1) := by decide +kernel
theorem dX9_isHeldBack_28 : decode cX9_isHeldBack 28 = .ok (.iaload, 1) := by decide +kernel
theorem dX9_isHeldBack_29 : decode cX9_isHeldBack 29 = .ok (.invokevirtual 282, 3) := by decide +kernel
theorem dX9_isHeldBack_32 : decode cX9_isHeldBack 32 = .ok (.ifCond .eq 5, 3) := by decide +kernel
theorem dX9_isHeldBack_35 : decode cX9_isHeldBack 35 = .ok (.iconst 1, 1) := by decide +kernel
theorem dX9_isHeldBack_36 : decode cX9_isHeldBack 36 = .ok (.ireturn, 1) := by decide +kernel
theorem dX9_isHeldBack_37 : decode cX9_isHeldBack 37 = .ok (.iinc 3 1, 3) := by decide +kernel
theorem dX9_isHeldBack_40 : decode cX9_isHeldBack 40 = .ok (.goto (-33), 3) := by decide +kernel
theorem dX9_isHeldBack_43 : decode cX9_isHeldBack 43 = .ok (.iconst 0, 1) := by decide +kernel
theorem dX9_isHeldBack_44 : decode cX9_isHeldBack 44 = .ok (.ireturn, 1) := by decide +kernel
theorem dX9_becomes_0 : decode cX9_becomes 0 = .ok (.aload_n 0, 1) := by decide +kernel
theorem dX9_becomes_1 : decode cX9_becomes 1 = .ok (.sipush 373, 3) := by decide +kernel
theorem dX9_becomes_4 : decode cX9_becomes 4 = .ok (.iload_n 1, 1) := by decide +kernel
theorem dX9_becomes_5 : decode cX9_becomes 5 = .ok (.iadd, 1) := by decide +kernel
theorem dX9_becomes_6 : decode cX9_becomes 6 = .ok (.iload_n 2, 1) := by decide +kernel
theorem dX9_becomes_7 : decode cX9_becomes 7 = .ok (.iastore, 1) := by decide +kernel
theorem dX9_becomes_8 : decode cX9_becomes 8 = .ok (.aload_n 0, 1) := by decide +kernel
theorem dX9_becomes_9 : decode cX9_becomes 9 = .ok (.sipush 773, 3) := by decide +kernel
theorem dX9_becomes_12 : decode cX9_becomes 12 = .ok (.iload_n 1, 1) := by decide +kernel
theorem dX9_becomes_13 : decode cX9_becomes 13 = .ok (.iadd, 1) := by decide +kernel
theorem dX9_becomes_14 : decode cX9_becomes 14 = .ok (.iload_n 2, 1) := by decide +kernel
theorem dX9_becomes_15 : decode cX9_becomes 15 = .ok (.bipush 9, 2) := by decide +kernel
theorem dX9_becomes_17 : decode cX9_becomes 17 = .ok (.if_icmp .ne 7, 3) := by decide +kernel
theorem dX9_becomes_20 : decode cX9_becomes 20 = .ok (.iconst (-1), 1) := by decide +kernel
theorem dX9_becomes_21 : decode cX9_becomes 21 = .ok (.goto 6, 3) := by decide +kernel
theorem dX9_becomes_24 : decode cX9_becomes 24 = .ok (.aload_n 0, 1) := by decide +kernel
theorem dX9_becomes_25 : decode cX9_becomes 25 = .ok (.iconst 0, 1) := by decide +kernel
theorem dX9_becomes_26 : decode cX9_becomes 26 = .ok (.iaload, 1) := by decide +kernel
theorem dX9_becomes_27 : decode cX9_becomes 27 = .ok (.iastore, 1) := by decide +kernel
theorem dX9_becomes_28 : decode cX9_becomes 28 = .ok (.aload_n 0, 1) := by decide +kernel
theorem dX9_becomes_29 : decode cX9_becomes 29 = .ok (.iconst 3, 1) := by decide +kernel
theorem dX9_becomes_30 : decode cX9_becomes 30 = .ok (.iaload, 1) := by decide +kernel
theorem dX9_becomes_31 : decode cX9_becomes 31 = .ok (.sipush 300, 3) := by decide +kernel
theorem dX9_becomes_34 : decode cX9_becomes 34 = .ok (.if_icmp .ne 4, 3) := by decide +kernel
theorem dX9_becomes_37 : decode cX9_becomes 37 = .ok (.return_, 1) := by decide +kernel
theorem dX9_becomes_38 : decode cX9_becomes 38 = .ok (.sipush 873, 3) := by decide +kernel
theorem dX9_becomes_41 : decode cX9_becomes 41 = .ok (.iconst 4, 1) := by decide +kernel
theorem dX9_becomes_42 : decode cX9_becomes 42 = .ok (.aload_n 0, 1) := by decide +kernel
theorem dX9_becomes_43 : decode cX9_becomes 43 = .ok (.iconst 3, 1) := by decide +kernel
theorem dX9_becomes_44 : decode cX9_becomes 44 = .ok (.iaload, 1) := by decide +kernel
theorem dX9_becomes_45 : decode cX9_becomes 45 = .ok (.imul, 1) := by decide +kernel
theorem dX9_becomes_46 : decode cX9_becomes 46 = .ok (.iadd, 1) := by decide +kernel
theorem dX9_becomes_47 : decode cX9_becomes 47 = .ok (.istore_n 3, 1) := by decide +kernel
theorem dX9_becomes_48 : decode cX9_becomes 48 = .ok (.aload_n 0, 1) := by decide +kernel
theorem dX9_becomes_49 : decode cX9_becomes 49 = .ok (.iload_n 3, 1) := by decide +kernel
theorem dX9_becomes_50 : decode cX9_becomes 50 = .ok (.aload_n 0, 1) := by decide +kernel
theorem dX9_becomes_51 : decode cX9_becomes 51 = .ok (.iconst 0, 1) := by decide +kernel
theorem dX9_becomes_52 : decode cX9_becomes 52 = .ok (.iaload, 1) := by decide +kernel
theorem dX9_becomes_53 : decode cX9_becomes 53 = .ok (.iastore, 1) := by decide +kernel
theorem dX9_becomes_54 : decode cX9_becomes 54 = .ok (.aload_n 0, 1) := by decide +kernel
theorem dX9_becomes_55 : decode cX9_becomes 55 = .ok (.iload_n 3, 1) := by decide +kernel
theorem dX9_becomes_56 : decode cX9_becomes 56 = .ok (.iconst 1, 1) := by decide +kernel
theorem dX9_becomes_57 : decode cX9_becomes 57 = .ok (.iadd, 1) := by decide +kernel
theorem dX9_becomes_58 : decode cX9_becomes 58 = .ok (.iload_n 2, 1) := by decide +kernel
theorem dX9_becomes_59 : decode cX9_becomes 59 = .ok (.iastore, 1) := by decide +kernel
theorem dX9_becomes_60 : decode cX9_becomes 60 = .ok (.aload_n 0, 1) := by decide +kernel
theorem dX9_becomes_61 : decode cX9_becomes 61 = .ok (.iload_n 3, 1) := by decide +kernel
theorem dX9_becomes_62 : decode cX9_becomes 62 = .ok (.iconst 2, 1) := by decide +kernel
theorem dX9_becomes_63 : decode cX9_becomes 63 = .ok (.iadd, 1) := by decide +kernel
theorem dX9_becomes_64 : decode cX9_becomes 64 = .ok (.iload_n 1, 1) := by decide +kernel
theorem dX9_becomes_65 : decode cX9_becomes 65 = .ok (.iastore, 1) := by decide +kernel
theorem dX9_becomes_66 : decode cX9_becomes 66 = .ok (.aload_n 0, 1) := by decide +kernel
theorem dX9_becomes_67 : decode cX9_becomes 67 = .ok (.iload_n 3, 1) := by decide +kernel
theorem dX9_becomes_68 : decode cX9_becomes 68 = .ok (.iconst 3, 1) := by decide +kernel
theorem dX9_becomes_69 : decode cX9_becomes 69 = .ok (.iadd, 1) := by decide +kernel
theorem dX9_becomes_70 : decode cX9_becomes 70 = .ok (.aload_n 0, 1) := by decide +kernel
theorem dX9_becomes_71 : decode cX9_becomes 71 = .ok (.sipush 173, 3) := by decide +kernel
theorem dX9_becomes_74 : decode cX9_becomes 74 = .ok (.iload_n 1, 1) := by decide +kernel
theorem dX9_becomes_75 : decode cX9_becomes 75 = .ok (.iadd, 1) := by decide +kernel
theorem dX9_becomes_76 : decode cX9_becomes 76 = .ok (.iaload, 1) := by decide +kernel
theorem dX9_becomes_77 : decode cX9_becomes 77 = .ok (.iastore, 1) := by decide +kernel
theorem dX9_becomes_78 : decode cX9_becomes 78 = .ok (.aload_n 0, 1) := by decide +kernel
theorem dX9_becomes_79 : decode cX9_becomes 79 = .ok (.iconst 3, 1) := by decide +kernel
theorem dX9_becomes_80 : decode cX9_becomes 80 = .ok (.dup2, 1) := by decide +kernel
theorem dX9_becomes_81 : decode cX9_becomes 81 = .ok (.iaload, 1) := by decide +kernel
theorem dX9_becomes_82 : decode cX9_becomes 82 = .ok (.iconst 1, 1) := by decide +kernel
theorem dX9_becomes_83 : decode cX9_becomes 83 = .ok (.iadd, 1) := by decide +kernel
theorem dX9_becomes_84 : decode cX9_becomes 84 = .ok (.iastore, 1) := by decide +kernel
theorem dX9_becomes_85 : decode cX9_becomes 85 = .ok (.return_, 1) := by decide +kernel
theorem dX9_moves_0 : decode cX9_moves 0 = .ok (.aload_n 0, 1) := by decide +kernel
theorem dX9_moves_1 : decode cX9_moves 1 = .ok (.getfield 17, 3) := by decide +kernel
theorem dX9_moves_4 : decode cX9_moves 4 = .ok (.iconst 0, 1) := by decide +kernel
theorem dX9_moves_5 : decode cX9_moves 5 = .ok (.iaload, 1) := by decide +kernel
theorem dX9_moves_6 : decode cX9_moves 6 = .ok (.iconst 1, 1) := by decide +kernel
theorem dX9_moves_7 : decode cX9_moves 7 = .ok (.isub, 1) := by decide +kernel
theorem dX9_moves_8 : decode cX9_moves 8 = .ok (.istore_n 2, 1) := by decide +kernel
theorem dX9_moves_9 : decode cX9_moves 9 = .ok (.aload_n 1, 1) := by decide +kernel
theorem dX9_moves_10 : decode cX9_moves 10 = .ok (.sipush 133, 3) := by decide +kernel
theorem dX9_moves_13 : decode cX9_moves 13 = .ok (.iload_n 2, 1) := by decide +kernel
theorem dX9_moves_14 : decode cX9_moves 14 = .ok (.iadd, 1) := by decide +kernel
theorem dX9_moves_15 : decode cX9_moves 15 = .ok (.iaload, 1) := by decide +kernel
theorem dX9_moves_16 : decode cX9_moves 16 = .ok (.istore_n 3, 1) := by decide +kernel
theorem dX9_moves_17 : decode cX9_moves 17 = .ok (.iload_n 2, 1) := by decide +kernel
theorem dX9_moves_18 : decode cX9_moves 18 = .ok (.istore 4, 2) := by decide +kernel
theorem dX9_moves_20 : decode cX9_moves 20 = .ok (.iload 4, 2) := by decide +kernel
theorem dX9_moves_22 : decode cX9_moves 22 = .ok (.ifCond .le 27, 3) := by decide +kernel
theorem dX9_moves_25 : decode cX9_moves 25 = .ok (.aload_n 1, 1) := by decide +kernel
theorem dX9_moves_26 : decode cX9_moves 26 = .ok (.sipush 133, 3) := by decide +kernel
theorem dX9_moves_29 : decode cX9_moves 29 = .ok (.iload 4, 2) := by decide +kernel
theorem dX9_moves_31 : decode cX9_moves 31 = .ok (.iadd, 1) := by decide +kernel
theorem dX9_moves_32 : decode cX9_moves 32 = .ok (.aload_n 1, 1) := by decide +kernel
theorem dX9_moves_33 : decode cX9_moves 33 = .ok (.sipush 133, 3) := by decide +kernel
theorem dX9_moves_36 : decode cX9_moves 36 = .ok (.iload 4, 2) := by decide +kernel
theorem dX9_moves_38 : decode cX9_moves 38 = .ok (.iadd, 1) := by decide +kernel
theorem dX9_moves_39 : decode cX9_moves 39 = .ok (.iconst 1, 1) := by decide +kernel
theorem dX9_moves_40 : decode cX9_moves 40 = .ok (.isub, 1) := by decide +kernel
theorem dX9_moves_41 : decode cX9_moves 41 = .ok (.iaload, 1) := by decide +kernel
theorem dX9_moves_42 : decode cX9_moves 42 = .ok (.iastore, 1) := by decide +kernel
theorem dX9_moves_43 : decode cX9_moves 43 = .ok (.iinc 4 (-1), 3) := by decide +kernel
theorem dX9_moves_46 : decode cX9_moves 46 = .ok (.goto (-26), 3) := by decide +kernel
theorem dX9_moves_49 : decode cX9_moves 49 = .ok (.aload_n 1, 1) := by decide +kernel
theorem dX9_moves_50 : decode cX9_moves 50 = .ok (.sipush 133, 3) := by decide +kernel
theorem dX9_moves_53 : decode cX9_moves 53 = .ok (.iload_n 3, 1) := by decide +kernel
theorem dX9_moves_54 : decode cX9_moves 54 = .ok (.iastore, 1) := by decide +kernel
theorem dX9_moves_55 : decode cX9_moves 55 = .ok (.iconst 0, 1) := by decide +kernel
theorem dX9_moves_56 : decode cX9_moves 56 = .ok (.istore 4, 2) := by decide +kernel
theorem dX9_moves_58 : decode cX9_moves 58 = .ok (.iload 4, 2) := by decide +kernel
theorem dX9_moves_60 : decode cX9_moves 60 = .ok (.iload_n 2, 1) := by decide +kernel
theorem dX9_moves_61 : decode cX9_moves 61 = .ok (.if_icmp .gt 37, 3) := by decide +kernel
theorem dX9_moves_64 : decode cX9_moves 64 = .ok (.aload_n 1, 1) := by decide +kernel
theorem dX9_moves_65 : decode cX9_moves 65 = .ok (.sipush 133, 3) := by decide +kernel
theorem dX9_moves_68 : decode cX9_moves 68 = .ok (.iload 4, 2) := by decide +kernel
theorem dX9_moves_70 : decode cX9_moves 70 = .ok (.iadd, 1) := by decide +kernel
theorem dX9_moves_71 : decode cX9_moves 71 = .ok (.iaload, 1) := by decide +kernel
theorem dX9_moves_72 : decode cX9_moves 72 = .ok (.iconst (-1), 1) := by decide +kernel
theorem dX9_moves_73 : decode cX9_moves 73 = .ok (.if_icmp .eq 19, 3) := by decide +kernel
theorem dX9_moves_76 : decode cX9_moves 76 = .ok (.aload_n 1, 1) := by decide +kernel
theorem dX9_moves_77 : decode cX9_moves 77 = .ok (.sipush 473, 3) := by decide +kernel
theorem dX9_moves_80 : decode cX9_moves 80 = .ok (.aload_n 1, 1) := by decide +kernel
theorem dX9_moves_81 : decode cX9_moves 81 = .ok (.sipush 133, 3) := by decide +kernel
theorem dX9_moves_84 : decode cX9_moves 84 = .ok (.iload 4, 2) := by decide +kernel
theorem dX9_moves_86 : decode cX9_moves 86 = .ok (.iadd, 1) := by decide +kernel
theorem dX9_moves_87 : decode cX9_moves 87 = .ok (.iaload, 1) := by decide +kernel
theorem dX9_moves_88 : decode cX9_moves 88 = .ok (.iadd, 1) := by decide +kernel
theorem dX9_moves_89 : decode cX9_moves 89 = .ok (.iload 4, 2) := by decide +kernel
theorem dX9_moves_91 : decode cX9_moves 91 = .ok (.iastore, 1) := by decide +kernel
theorem dX9_moves_92 : decode cX9_moves 92 = .ok (.iinc 4 1, 3) := by decide +kernel
theorem dX9_moves_95 : decode cX9_moves 95 = .ok (.goto (-37), 3) := by decide +kernel
theorem dX9_moves_98 : decode cX9_moves 98 = .ok (.aload_n 1, 1) := by decide +kernel
theorem dX9_moves_99 : decode cX9_moves 99 = .ok (.sipush 133, 3) := by decide +kernel
theorem dX9_moves_102 : decode cX9_moves 102 = .ok (.aload_n 0, 1) := by decide +kernel
theorem dX9_moves_103 : decode cX9_moves 103 = .ok (.getfield 17, 3) := by decide +kernel
theorem dX9_moves_106 : decode cX9_moves 106 = .ok (.iconst 1, 1) := by decide +kernel
theorem dX9_moves_107 : decode cX9_moves 107 = .ok (.iaload, 1) := by decide +kernel
theorem dX9_moves_108 : decode cX9_moves 108 = .ok (.iadd, 1) := by decide +kernel
theorem dX9_moves_109 : decode cX9_moves 109 = .ok (.iaload, 1) := by decide +kernel
theorem dX9_moves_110 : decode cX9_moves 110 = .ok (.istore 4, 2) := by decide +kernel
theorem dX9_moves_112 : decode cX9_moves 112 = .ok (.iload 4, 2) := by decide +kernel
theorem dX9_moves_114 : decode cX9_moves 114 = .ok (.iconst (-1), 1) := by decide +kernel
theorem dX9_moves_115 : decode cX9_moves 115 = .ok (.if_icmp .eq 15, 3) := by decide +kernel
theorem dX9_moves_118 : decode cX9_moves 118 = .ok (.aload_n 1, 1) := by decide +kernel
theorem dX9_moves_119 : decode cX9_moves 119 = .ok (.sipush 573, 3) := by decide +kernel
theorem dX9_moves_122 : decode cX9_moves 122 = .ok (.iload 4, 2) := by decide +kernel
theorem dX9_moves_124 : decode cX9_moves 124 = .ok (.iadd, 1) := by decide +kernel
theorem dX9_moves_125 : decode cX9_moves 125 = .ok (.dup2, 1) := by decide +kernel
theorem dX9_moves_126 : decode cX9_moves 126 = .ok (.iaload, 1) := by decide +kernel
theorem dX9_moves_127 : decode cX9_moves 127 = .ok (.iconst 1, 1) := by decide +kernel
theorem dX9_moves_128 : decode cX9_moves 128 = .ok (.iadd, 1) := by decide +kernel
theorem dX9_moves_129 : decode cX9_moves 129 = .ok (.iastore, 1) := by decide +kernel
theorem dX9_moves_130 : decode cX9_moves 130 = .ok (.return_, 1) := by decide +kernel
theorem dX9_leavesLoop_0 : decode cX9_leavesLoop 0 = .ok (.aload_n 0, 1) := by decide +kernel
theorem dX9_leavesLoop_1 : decode cX9_leavesLoop 1 = .ok (.sipush 133, 3) := by decide +kernel
theorem dX9_leavesLoop_4 : decode cX9_leavesLoop 4 = .ok (.iload_n 1, 1) := by decide +kernel
theorem dX9_leavesLoop_5 : decode cX9_leavesLoop 5 = .ok (.iadd, 1) := by decide +kernel
theorem dX9_leavesLoop_6 : decode cX9_leavesLoop 6 = .ok (.iaload, 1) := by decide +kernel
theorem dX9_leavesLoop_7 : decode cX9_leavesLoop 7 = .ok (.istore_n 2, 1) := by decide +kernel
theorem dX9_leavesLoop_8 : decode cX9_leavesLoop 8 = .ok (.aload_n 0, 1) := by decide +kernel
theorem dX9_leavesLoop_9 : decode cX9_leavesLoop 9 = .ok (.sipush 133, 3) := by decide +kernel
theorem dX9_leavesLoop_12 : decode cX9_leavesLoop 12 = .ok (.iload_n 1, 1) := by decide +kernel
theorem dX9_leavesLoop_13 : decode cX9_leavesLoop 13 = .ok (.iadd, 1) := by decide +kernel
theorem dX9_leavesLoop_14 : decode cX9_leavesLoop 14 = .ok (.iconst (-1), 1) := by decide +kernel
theorem dX9_leavesLoop_15 : decode cX9_leavesLoop 15 = .ok (.iastore, 1) := by decide +kernel
theorem dX9_leavesLoop_16 : decode cX9_leavesLoop 16 = .ok (.aload_n 0, 1) := by decide +kernel
theorem dX9_leavesLoop_17 : decode cX9_leavesLoop 17 = .ok (.sipush 473, 3) := by decide +kernel
theorem dX9_leavesLoop_20 : decode cX9_leavesLoop 20 = .ok (.iload_n 2, 1) := by decide +kernel
theorem dX9_leavesLoop_21 : decode cX9_leavesLoop 21 = .ok (.iadd, 1) := by decide +kernel
theorem dX9_leavesLoop_22 : decode cX9_leavesLoop 22 = .ok (.iconst (-1), 1) := by decide +kernel
theorem dX9_leavesLoop_23 : decode cX9_leavesLoop 23 = .ok (.iastore, 1) := by decide +kernel
theorem dX9_leavesLoop_24 : decode cX9_leavesLoop 24 = .ok (.iload_n 2, 1) := by decide +kernel
theorem dX9_leavesLoop_25 : decode cX9_leavesLoop 25 = .ok (.ireturn, 1) := by decide +kernel
theorem dX9_laneHere_0 : decode cX9_laneHere 0 = .ok (.iconst 0, 1) := by decide +kernel
theorem dX9_laneHere_1 : decode cX9_laneHere 1 = .ok (.istore_n 2, 1) := by decide +kernel
theorem dX9_laneHere_2 : decode cX9_laneHere 2 = .ok (.iload_n 2, 1) := by decide +kernel
theorem dX9_laneHere_3 : decode cX9_laneHere 3 = .ok (.aload_n 0, 1) := by decide +kernel
theorem dX9_laneHere_4 : decode cX9_laneHere 4 = .ok (.getfield 17, 3) := by decide +kernel
theorem dX9_laneHere_7 : decode cX9_laneHere 7 = .ok (.bipush 13, 2) := by decide +kernel
theorem dX9_laneHere_9 : decode cX9_laneHere 9 = .ok (.iaload, 1) := by decide +kernel
theorem dX9_laneHere_10 : decode cX9_laneHere 10 = .ok (.if_icmp .ge 24, 3) := by decide +kernel
theorem dX9_laneHere_13 : decode cX9_laneHere 13 = .ok (.aload_n 0, 1) := by decide +kernel
theorem dX9_laneHere_14 : decode cX9_laneHere 14 = .ok (.getfield 17, 3) := by decide +kernel
theorem dX9_laneHere_17 : decode cX9_laneHere 17 = .ok (.bipush 23, 2) := by decide +kernel
theorem dX9_laneHere_19 : decode cX9_laneHere 19 = .ok (.iload_n 2, 1) := by decide +kernel
theorem dX9_laneHere_20 : decode cX9_laneHere 20 = .ok (.iadd, 1) := by decide +kernel
theorem dX9_laneHere_21 : decode cX9_laneHere 21 = .ok (.iaload, 1) := by decide +kernel
theorem dX9_laneHere_22 : decode cX9_laneHere 22 = .ok (.iload_n 1, 1) := by decide +kernel
theorem dX9_laneHere_23 : decode cX9_laneHere 23 = .ok (.if_icmp .ne 5, 3) := by decide +kernel
theorem dX9_laneHere_26 : decode cX9_laneHere 26 = .ok (.iload_n 2, 1) := by decide +kernel
theorem dX9_laneHere_27 : decode cX9_laneHere 27 = .ok (.ireturn, 1) := by decide +kernel
theorem dX9_laneHere_28 : decode cX9_laneHere 28 = .ok (.iinc 2 1, 3) := by decide +kernel
theorem dX9_laneHere_31 : decode cX9_laneHere 31 = .ok (.goto (-29), 3) := by decide +kernel
theorem dX9_laneHere_34 : decode cX9_laneHere 34 = .ok (.iconst (-1), 1) := by decide +kernel
theorem dX9_laneHere_35 : decode cX9_laneHere 35 = .ok (.ireturn, 1) := by decide +kernel
theorem dX9_hasRoom_0 : decode cX9_hasRoom 0 = .ok (.aload_n 1, 1) := by decide +kernel
theorem dX9_hasRoom_1 : decode cX9_hasRoom 1 = .ok (.bipush 25, 2) := by decide +kernel
theorem dX9_hasRoom_3 : decode cX9_hasRoom 3 = .ok (.iload_n 2, 1) := by decide +kernel
theorem dX9_hasRoom_4 : decode cX9_hasRoom 4 = .ok (.iadd, 1) := by decide +kernel
theorem dX9_hasRoom_5 : decode cX9_hasRoom 5 = .ok (.iaload, 1) := by decide +kernel
theorem dX9_hasRoom_6 : decode cX9_hasRoom 6 = .ok (.iconst 1, 1) := by decide +kernel
theorem dX9_hasRoom_7 : decode cX9_hasRoom 7 = .ok (.if_icmp .eq 21, 3) := by decide +kernel
theorem dX9_hasRoom_10 : decode cX9_hasRoom 10 = .ok (.aload_n 1, 1) := by decide +kernel
theorem dX9_hasRoom_11 : decode cX9_hasRoom 11 = .ok (.bipush 21, 2) := by decide +kernel
theorem dX9_hasRoom_13 : decode cX9_hasRoom 13 = .ok (.iload_n 2, 1) := by decide +kernel
theorem dX9_hasRoom_14 : decode cX9_hasRoom 14 = .ok (.iadd, 1) := by decide +kernel
theorem dX9_hasRoom_15 : decode cX9_hasRoom 15 = .ok (.iaload, 1) := by decide +kernel
theorem dX9_hasRoom_16 : decode cX9_hasRoom 16 = .ok (.aload_n 0, 1) := by decide +kernel
theorem dX9_hasRoom_17 : decode cX9_hasRoom 17 = .ok (.getfield 17, 3) := by decide +kernel
theorem dX9_hasRoom_20 : decode cX9_hasRoom 20 = .ok (.bipush 27, 2) := by decide +kernel
theorem dX9_hasRoom_22 : decode cX9_hasRoom 22 = .ok (.iload_n 2, 1) := by decide +kernel
theorem dX9_hasRoom_23 : decode cX9_hasRoom 23 = .ok (.iadd, 1) := by decide +kernel
theorem dX9_hasRoom_24 : decode cX9_hasRoom 24 = .ok (.iaload, 1) := by decide +kernel
theorem dX9_hasRoom_25 : decode cX9_hasRoom 25 = .ok (.if_icmp .ne 5, 3) := by decide +kernel
theorem dX9_hasRoom_28 : decode cX9_hasRoom 28 = .ok (.iconst 0, 1) := by decide +kernel
theorem dX9_hasRoom_29 : decode cX9_hasRoom 29 = .ok (.ireturn, 1) := by decide +kernel
theorem dX9_hasRoom_30 : decode cX9_hasRoom 30 = .ok (.aload_n 1, 1) := by decide +kernel
theorem dX9_hasRoom_31 : decode cX9_hasRoom 31 = .ok (.bipush 21, 2) := by decide +kernel
theorem dX9_hasRoom_33 : decode cX9_hasRoom 33 = .ok (.iload_n 2, 1) := by decide +kernel
theorem dX9_hasRoom_34 : decode cX9_hasRoom 34 = .ok (.iadd, 1) := by decide +kernel
theorem dX9_hasRoom_35 : decode cX9_hasRoom 35 = .ok (.iaload, 1) := by decide +kernel
theorem dX9_hasRoom_36 : decode cX9_hasRoom 36 = .ok (.ifCond .ne 5, 3) := by decide +kernel
theorem dX9_hasRoom_39 : decode cX9_hasRoom 39 = .ok (.iconst 1, 1) := by decide +kernel
theorem dX9_hasRoom_40 : decode cX9_hasRoom 40 = .ok (.ireturn, 1) := by decide +kernel
theorem dX9_hasRoom_41 : decode cX9_hasRoom 41 = .ok (.aload_n 1, 1) := by decide +kernel
theorem dX9_hasRoom_42 : decode cX9_hasRoom 42 = .ok (.bipush 29, 2) := by decide +kernel
theorem dX9_hasRoom_44 : decode cX9_hasRoom 44 = .ok (.bipush 20, 2) := by decide +kernel
theorem dX9_hasRoom_46 : decode cX9_hasRoom 46 = .ok (.iload_n 2, 1) := by decide +kernel
theorem dX9_hasRoom_47 : decode cX9_hasRoom 47 = .ok (.imul, 1) := by decide +kernel
theorem dX9_hasRoom_48 : decode cX9_hasRoom 48 = .ok (.iadd, 1) := by decide +kernel
theorem dX9_hasRoom_49 : decode cX9_hasRoom 49 = .ok (.aload_n 1, 1) := by decide +kernel
theorem dX9_hasRoom_50 : decode cX9_hasRoom 50 = .ok (.bipush 21, 2) := by decide +kernel
theorem dX9_hasRoom_52 : decode cX9_hasRoom 52 = .ok (.iload_n 2, 1) := by decide +kernel
theorem dX9_hasRoom_53 : decode cX9_hasRoom 53 = .ok (.iadd, 1) := by decide +kernel
theorem dX9_hasRoom_54 : decode cX9_hasRoom 54 = .ok (.iaload, 1) := by decide +kernel
theorem dX9_hasRoom_55 : decode cX9_hasRoom 55 = .ok (.iadd, 1) := by decide +kernel
theorem dX9_hasRoom_56 : decode cX9_hasRoom 56 = .ok (.iconst 1, 1) := by decide +kernel
theorem dX9_hasRoom_57 : decode cX9_hasRoom 57 = .ok (.isub, 1) := by decide +kernel
theorem dX9_hasRoom_58 : decode cX9_hasRoom 58 = .ok (.iaload, 1) := by decide +kernel
theorem dX9_hasRoom_59 : decode cX9_hasRoom 59 = .ok (.istore 4, 2) := by decide +kernel
theorem dX9_hasRoom_61 : decode cX9_hasRoom 61 = .ok (.aload_n 1, 1) := by decide +kernel
theorem dX9_hasRoom_62 : decode cX9_hasRoom 62 = .ok (.iconst 5, 1) := by decide +kernel
theorem dX9_hasRoom_63 : decode cX9_hasRoom 63 = .ok (.aload_n 1, 1) := by decide +kernel
theorem dX9_hasRoom_64 : decode cX9_hasRoom 64 = .ok (.sipush 173, 3) := by decide +kernel
theorem dX9_hasRoom_67 : decode cX9_hasRoom 67 = .ok (.iload 4, 2) := by decide +kernel
theorem dX9_hasRoom_69 : decode cX9_hasRoom 69 = .ok (.iadd, 1) := by decide +kernel
theorem dX9_hasRoom_70 : decode cX9_hasRoom 70 = .ok (.iaload, 1) := by decide +kernel
theorem dX9_hasRoom_71 : decode cX9_hasRoom 71 = .ok (.iadd, 1) := by decide +kernel
theorem dX9_hasRoom_72 : decode cX9_hasRoom 72 = .ok (.iaload, 1) := by decide +kernel
theorem dX9_hasRoom_73 : decode cX9_hasRoom 73 = .ok (.aload_n 1, 1) := by decide +kernel
theorem dX9_hasRoom_74 : decode cX9_hasRoom 74 = .ok (.iconst 5, 1) := by decide +kernel
theorem dX9_hasRoom_75 : decode cX9_hasRoom 75 = .ok (.aload_n 1, 1) := by decide +kernel
theorem dX9_hasRoom_76 : decode cX9_hasRoom 76 = .ok (.sipush 173, 3) := by decide +kernel
theorem dX9_hasRoom_79 : decode cX9_hasRoom 79 = .ok (.iload_n 3, 1) := by decide +kernel
theorem dX9_hasRoom_80 : decode cX9_hasRoom 80 = .ok (.iadd, 1) := by decide +kernel
theorem dX9_hasRoom_81 : decode cX9_hasRoom 81 = .ok (.iaload, 1) := by decide +kernel
theorem dX9_hasRoom_82 : decode cX9_hasRoom 82 = .ok (.iadd, 1) := by decide +kernel
theorem dX9_hasRoom_83 : decode cX9_hasRoom 83 = .ok (.iaload, 1) := by decide +kernel
theorem dX9_hasRoom_84 : decode cX9_hasRoom 84 = .ok (.if_icmp .gt 7, 3) := by decide +kernel
theorem dX9_hasRoom_87 : decode cX9_hasRoom 87 = .ok (.iconst 1, 1) := by decide +kernel
theorem dX9_hasRoom_88 : decode cX9_hasRoom 88 = .ok (.goto 4, 3) := by decide +kernel
theorem dX9_hasRoom_91 : decode cX9_hasRoom 91 = .ok (.iconst 0, 1) := by decide +kernel
theorem dX9_hasRoom_92 : decode cX9_hasRoom 92 = .ok (.ireturn, 1) := by decide +kernel
theorem dX9_looksAt_0 : decode cX9_looksAt 0 = .ok (.aload_n 1, 1) := by decide +kernel
theorem dX9_looksAt_1 : decode cX9_looksAt 1 = .ok (.sipush 133, 3) := by decide +kernel
theorem dX9_looksAt_4 : decode cX9_looksAt 4 = .ok (.iload_n 2, 1) := by decide +kernel
theorem dX9_looksAt_5 : decode cX9_looksAt 5 = .ok (.iadd, 1) := by decide +kernel
theorem dX9_looksAt_6 : decode cX9_looksAt 6 = .ok (.iaload, 1) := by decide +kernel
theorem dX9_looksAt_7 : decode cX9_looksAt 7 = .ok (.istore_n 3, 1) := by decide +kernel
theorem dX9_looksAt_8 : decode cX9_looksAt 8 = .ok (.aload_n 0, 1) := by decide +kernel
theorem dX9_looksAt_9 : decode cX9_looksAt 9 = .ok (.iload_n 2, 1) := by decide +kernel
theorem dX9_looksAt_10 : decode cX9_looksAt 10 = .ok (.invokevirtual 288, 3) := by decide +kernel
theorem dX9_looksAt_13 : decode cX9_looksAt 13 = .ok (.istore 4, 2) := by decide +kernel
theorem dX9_looksAt_15 : decode cX9_looksAt 15 = .ok (.aload_n 0, 1) := by decide +kernel
theorem dX9_looksAt_16 : decode cX9_looksAt 16 = .ok (.getfield 17, 3) := by decide +kernel
theorem dX9_looksAt_19 : decode cX9_looksAt 19 = .ok (.bipush 15, 2) := by decide +kernel
theorem dX9_looksAt_21 : decode cX9_looksAt 21 = .ok (.aload_n 1, 1) := by decide +kernel
theorem dX9_looksAt_22 : decode cX9_looksAt 22 = .ok (.sipush 173, 3) := by decide +kernel
theorem dX9_looksAt_25 : decode cX9_looksAt 25 = .ok (.iload_n 3, 1) := by decide +kernel
theorem dX9_looksAt_26 : decode cX9_looksAt 26 = .ok (.iadd, 1) := by decide +kernel
theorem dX9_looksAt_27 : decode cX9_looksAt 27 = .ok (.iaload, 1) := by decide +kernel
theorem dX9_looksAt_28 : decode cX9_looksAt 28 = .ok (.iadd, 1) := by decide +kernel
theorem dX9_looksAt_29 : decode cX9_looksAt 29 = .ok (.iaload, 1) := by decide +kernel
theorem dX9_looksAt_30 : decode cX9_looksAt 30 = .ok (.iload_n 2, 1) := by decide +kernel
theorem dX9_looksAt_31 : decode cX9_looksAt 31 = .ok (.if_icmp .ne 26, 3) := by decide +kernel
theorem dX9_looksAt_34 : decode cX9_looksAt 34 = .ok (.aload_n 1, 1) := by decide +kernel
theorem dX9_looksAt_35 : decode cX9_looksAt 35 = .ok (.iload_n 3, 1) := by decide +kernel
theorem dX9_looksAt_36 : decode cX9_looksAt 36 = .ok (.invokestatic 291, 3) := by decide +kernel
theorem dX9_looksAt_39 : decode cX9_looksAt 39 = .ok (.iconst 1, 1) := by decide +kernel
theorem dX9_looksAt_40 : decode cX9_looksAt 40 = .ok (.if_icmp .ne 17, 3) := by decide +kernel
theorem dX9_looksAt_43 : decode cX9_looksAt 43 = .ok (.aload_n 1, 1) := by decide +kernel
theorem dX9_looksAt_44 : decode cX9_looksAt 44 = .ok (.aload_n 1, 1) := by decide +kernel
theorem dX9_looksAt_45 : decode cX9_looksAt 45 = .ok (.iload_n 2, 1) := by decide +kernel
theorem dX9_looksAt_46 : decode cX9_looksAt 46 = .ok (.invokestatic 294, 3) := by decide +kernel
theorem dX9_looksAt_49 : decode cX9_looksAt 49 = .ok (.bipush 10, 2) := by decide +kernel
theorem dX9_looksAt_51 : decode cX9_looksAt 51 = .ok (.invokestatic 297, 3) := by decide +kernel
theorem dX9_looksAt_54 : decode cX9_looksAt 54 = .ok (.goto 120, 3) := by decide +kernel
theorem dX9_looksAt_57 : decode cX9_looksAt 57 = .ok (.iload_n 2, 1) := by decide +kernel
theorem dX9_looksAt_58 : decode cX9_looksAt 58 = .ok (.aload_n 0, 1) := by decide +kernel
theorem dX9_looksAt_59 : decode cX9_looksAt 59 = .ok (.getfield 17, 3) := by decide +kernel
theorem dX9_looksAt_62 : decode cX9_looksAt 62 = .ok (.iconst 2, 1) := by decide +kernel
theorem dX9_looksAt_63 : decode cX9_looksAt 63 = .ok (.iaload, 1) := by decide +kernel
theorem dX9_looksAt_64 : decode cX9_looksAt 64 = .ok (.if_icmp .ne 26, 3) := by decide +kernel
theorem dX9_looksAt_67 : decode cX9_looksAt 67 = .ok (.aload_n 1, 1) := by decide +kernel
theorem dX9_looksAt_68 : decode cX9_looksAt 68 = .ok (.iload_n 3, 1) := by decide +kernel
theorem dX9_looksAt_69 : decode cX9_looksAt 69 = .ok (.invokestatic 291, 3) := by decide +kernel
theorem dX9_looksAt_72 : decode cX9_looksAt 72 = .ok (.iconst 2, 1) := by decide +kernel
theorem dX9_looksAt_73 : decode cX9_looksAt 73 = .ok (.if_icmp .ne 17, 3) := by decide +kernel
theorem dX9_looksAt_76 : decode cX9_looksAt 76 = .ok (.aload_n 1, 1) := by decide +kernel
theorem dX9_looksAt_77 : decode cX9_looksAt 77 = .ok (.aload_n 1, 1) := by decide +kernel
theorem dX9_looksAt_78 : decode cX9_looksAt 78 = .ok (.iload_n 2, 1) := by decide +kernel
theorem dX9_looksAt_79 : decode cX9_looksAt 79 = .ok (.invokestatic 294, 3) := by decide +kernel
theorem dX9_looksAt_82 : decode cX9_looksAt 82 = .ok (.bipush 11, 2) := by decide +kernel
theorem dX9_looksAt_84 : decode cX9_looksAt 84 = .ok (.invokestatic 297, 3) := by decide +kernel
theorem dX9_looksAt_87 : decode cX9_looksAt 87 = .ok (.goto 87, 3) := by decide +kernel
theorem dX9_looksAt_90 : decode cX9_looksAt 90 = .ok (.iload 4, 2) := by decide +kernel
theorem dX9_looksAt_92 : decode cX9_looksAt 92 = .ok (.iconst (-1), 1) := by decide +kernel
theorem dX9_looksAt_93 : decode cX9_looksAt 93 = .ok (.if_icmp .eq 81, 3) := by decide +kernel
theorem dX9_looksAt_96 : decode cX9_looksAt 96 = .ok (.aload_n 1, 1) := by decide +kernel
theorem dX9_looksAt_97 : decode cX9_looksAt 97 = .ok (.iload_n 3, 1) := by decide +kernel
theorem dX9_looksAt_98 : decode cX9_looksAt 98 = .ok (.invokestatic 291, 3) := by decide +kernel
theorem dX9_looksAt_101 : decode cX9_looksAt 101 = .ok (.ifCond .ne 73, 3) := by decide +kernel
theorem dX9_looksAt_104 : decode cX9_looksAt 104 = .ok (.aload_n 0, 1) := by decide +kernel
theorem dX9_looksAt_105 : decode cX9_looksAt 105 = .ok (.aload_n 1, 1) := by decide +kernel
theorem dX9_looksAt_106 : decode cX9_looksAt 106 = .ok (.iload 4, 2) := by decide +kernel
theorem dX9_looksAt_108 : decode cX9_looksAt 108 = .ok (.iload_n 3, 1) := by decide +kernel
theorem dX9_looksAt_109 : decode cX9_looksAt 109 = .ok (.invokevirtual 301, 3) := by decide +kernel
theorem dX9_looksAt_112 : decode cX9_looksAt 112 = .ok (.ifCond .eq 62, 3) := by decide +kernel
theorem dX9_looksAt_115 : decode cX9_looksAt 115 = .ok (.aload_n 0, 1) := by decide +kernel
theorem dX9_looksAt_116 : decode cX9_looksAt 116 = .ok (.aload_n 1, 1) := by decide +kernel
theorem dX9_looksAt_117 : decode cX9_looksAt 117 = .ok (.iload_n 3, 1) := by decide +kernel
theorem dX9_looksAt_118 : decode cX9_looksAt 118 = .ok (.invokevirtual 304, 3) := by decide +kernel
theorem dX9_looksAt_121 : decode cX9_looksAt 121 = .ok (.ifCond .ne 53, 3) := by decide +kernel
theorem dX9_looksAt_124 : decode cX9_looksAt 124 = .ok (.aload_n 1, 1) := by decide +kernel
theorem dX9_looksAt_125 : decode cX9_looksAt 125 = .ok (.aload_n 1, 1) := by decide +kernel
theorem dX9_looksAt_126 : decode cX9_looksAt 126 = .ok (.iload_n 2, 1) := by decide +kernel
theorem dX9_looksAt_127 : decode cX9_looksAt 127 = .ok (.invokestatic 294, 3) := by decide +kernel
theorem dX9_looksAt_130 : decode cX9_looksAt 130 = .ok (.bipush 9, 2) := by decide +kernel
theorem dX9_looksAt_132 : decode cX9_looksAt 132 = .ok (.invokestatic 297, 3) := by decide +kernel
theorem dX9_looksAt_135 : decode cX9_looksAt 135 = .ok (.aload_n 1, 1) := by decide +kernel
theorem dX9_looksAt_136 : decode cX9_looksAt 136 = .ok (.bipush 29, 2) := by decide +kernel
theorem dX9_looksAt_138 : decode cX9_looksAt 138 = .ok (.bipush 20, 2) := by decide +kernel
theorem dX9_looksAt_140 : decode cX9_looksAt 140 = .ok (.iload 4, 2) := by decide +kernel
theorem dX9_looksAt_142 : decode cX9_looksAt 142 = .ok (.imul, 1) := by decide +kernel
theorem dX9_looksAt_143 : decode cX9_looksAt 143 = .ok (.iadd, 1) := by decide +kernel
theorem dX9_looksAt_144 : decode cX9_looksAt 144 = .ok (.aload_n 1, 1) := by decide +kernel
theorem dX9_looksAt_145 : decode cX9_looksAt 145 = .ok (.bipush 21, 2) := by decide +kernel
theorem dX9_looksAt_147 : decode cX9_looksAt 147 = .ok (.iload 4, 2) := by decide +kernel
theorem dX9_looksAt_149 : decode cX9_looksAt 149 = .ok (.iadd, 1) := by decide +kernel
theorem dX9_looksAt_150 : decode cX9_looksAt 150 = .ok (.iaload, 1) := by decide +kernel
theorem dX9_looksAt_151 : decode cX9_looksAt 151 = .ok (.iadd, 1) := by decide +kernel
theorem dX9_looksAt_152 : decode cX9_looksAt 152 = .ok (.iload_n 3, 1) := by decide +kernel
theorem dX9_looksAt_153 : decode cX9_looksAt 153 = .ok (.iastore, 1) := by decide +kernel
theorem dX9_looksAt_154 : decode cX9_looksAt 154 = .ok (.aload_n 1, 1) := by decide +kernel
theorem dX9_looksAt_155 : decode cX9_looksAt 155 = .ok (.bipush 21, 2) := by decide +kernel
theorem dX9_looksAt_157 : decode cX9_looksAt 157 = .ok (.iload 4, 2) := by decide +kernel
theorem dX9_looksAt_159 : decode cX9_looksAt 159 = .ok (.iadd, 1) := by decide +kernel
theorem dX9_looksAt_160 : decode cX9_looksAt 160 = .ok (.dup2, 1) := by decide +kernel
theorem dX9_looksAt_161 : decode cX9_looksAt 161 = .ok (.iaload, 1) := by decide +kernel
theorem dX9_looksAt_162 : decode cX9_looksAt 162 = .ok (.iconst 1, 1) := by decide +kernel
theorem dX9_looksAt_163 : decode cX9_looksAt 163 = .ok (.iadd, 1) := by decide +kernel
theorem dX9_looksAt_164 : decode cX9_looksAt 164 = .ok (.iastore, 1) := by decide +kernel
theorem dX9_looksAt_165 : decode cX9_looksAt 165 = .ok (.aload_n 1, 1) := by decide +kernel
theorem dX9_looksAt_166 : decode cX9_looksAt 166 = .ok (.sipush 473, 3) := by decide +kernel
theorem dX9_looksAt_169 : decode cX9_looksAt 169 = .ok (.iload_n 3, 1) := by decide +kernel
theorem dX9_looksAt_170 : decode cX9_looksAt 170 = .ok (.iadd, 1) := by decide +kernel
theorem dX9_looksAt_171 : decode cX9_looksAt 171 = .ok (.iload 4, 2) := by decide +kernel
theorem dX9_looksAt_173 : decode cX9_looksAt 173 = .ok (.iastore, 1) := by decide +kernel
theorem dX9_looksAt_174 : decode cX9_looksAt 174 = .ok (.return_, 1) := by decide +kernel
theorem dX9_comesOn_0 : decode cX9_comesOn 0 = .ok (.aload_n 0, 1) := by decide +kernel
theorem dX9_comesOn_1 : decode cX9_comesOn 1 = .ok (.sipush 133, 3) := by decide +kernel
theorem dX9_comesOn_4 : decode cX9_comesOn 4 = .ok (.iload_n 2, 1) := by decide +kernel
theorem dX9_comesOn_5 : decode cX9_comesOn 5 = .ok (.iadd, 1) := by decide +kernel
theorem dX9_comesOn_6 : decode cX9_comesOn 6 = .ok (.iload_n 1, 1) := by decide +kernel
theorem dX9_comesOn_7 : decode cX9_comesOn 7 = .ok (.iastore, 1) := by decide +kernel
theorem dX9_comesOn_8 : decode cX9_comesOn 8 = .ok (.aload_n 0, 1) := by decide +kernel
theorem dX9_comesOn_9 : decode cX9_comesOn 9 = .ok (.sipush 473, 3) := by decide +kernel
theorem dX9_comesOn_12 : decode cX9_comesOn 12 = .ok (.iload_n 1, 1) := by decide +kernel
theorem dX9_comesOn_13 : decode cX9_comesOn 13 = .ok (.iadd, 1) := by decide +kernel
theorem dX9_comesOn_14 : decode cX9_comesOn 14 = .ok (.iload_n 2, 1) := by decide +kernel
theorem dX9_comesOn_15 : decode cX9_comesOn 15 = .ok (.iastore, 1) := by decide +kernel
theorem dX9_comesOn_16 : decode cX9_comesOn 16 = .ok (.aload_n 0, 1) := by decide +kernel
theorem dX9_comesOn_17 : decode cX9_comesOn 17 = .ok (.sipush 373, 3) := by decide +kernel
theorem dX9_comesOn_20 : decode cX9_comesOn 20 = .ok (.iload_n 1, 1) := by decide +kernel
theorem dX9_comesOn_21 : decode cX9_comesOn 21 = .ok (.iadd, 1) := by decide +kernel
theorem dX9_comesOn_22 : decode cX9_comesOn 22 = .ok (.bipush 8, 2) := by decide +kernel
theorem dX9_comesOn_24 : decode cX9_comesOn 24 = .ok (.iastore, 1) := by decide +kernel
theorem dX9_comesOn_25 : decode cX9_comesOn 25 = .ok (.return_, 1) := by decide +kernel
theorem dX9_letsOut_0 : decode cX9_letsOut 0 = .ok (.bipush 29, 2) := by decide +kernel
theorem dX9_letsOut_2 : decode cX9_letsOut 2 = .ok (.bipush 20, 2) := by decide +kernel
theorem dX9_letsOut_4 : decode cX9_letsOut 4 = .ok (.iload_n 2, 1) := by decide +kernel
theorem dX9_letsOut_5 : decode cX9_letsOut 5 = .ok (.imul, 1) := by decide +kernel
theorem dX9_letsOut_6 : decode cX9_letsOut 6 = .ok (.iadd, 1) := by decide +kernel
theorem dX9_letsOut_7 : decode cX9_letsOut 7 = .ok (.istore_n 3, 1) := by decide +kernel
theorem dX9_letsOut_8 : decode cX9_letsOut 8 = .ok (.aload_n 1, 1) := by decide +kernel
theorem dX9_letsOut_9 : decode cX9_letsOut 9 = .ok (.bipush 21, 2) := by decide +kernel
theorem dX9_letsOut_11 : decode cX9_letsOut 11 = .ok (.iload_n 2, 1) := by decide +kernel
theorem dX9_letsOut_12 : decode cX9_letsOut 12 = .ok (.iadd, 1) := by decide +kernel
theorem dX9_letsOut_13 : decode cX9_letsOut 13 = .ok (.iaload, 1) := by decide +kernel
theorem dX9_letsOut_14 : decode cX9_letsOut 14 = .ok (.ifCond .eq 32, 3) := by decide +kernel
theorem dX9_letsOut_17 : decode cX9_letsOut 17 = .ok (.aload_n 1, 1) := by decide +kernel
theorem dX9_letsOut_18 : decode cX9_letsOut 18 = .ok (.aload_n 1, 1) := by decide +kernel
theorem dX9_letsOut_19 : decode cX9_letsOut 19 = .ok (.iload_n 3, 1) := by decide +kernel
theorem dX9_letsOut_20 : decode cX9_letsOut 20 = .ok (.iaload, 1) := by decide +kernel
theorem dX9_letsOut_21 : decode cX9_letsOut 21 = .ok (.invokestatic 291, 3) := by decide +kernel
theorem dX9_letsOut_24 : decode cX9_letsOut 24 = .ok (.ifCond .eq 22, 3) := by decide +kernel
theorem dX9_letsOut_27 : decode cX9_letsOut 27 = .ok (.aload_n 1, 1) := by decide +kernel
theorem dX9_letsOut_28 : decode cX9_letsOut 28 = .ok (.sipush 133, 3) := by decide +kernel
theorem dX9_letsOut_31 : decode cX9_letsOut 31 = .ok (.aload_n 0, 1) := by decide +kernel
theorem dX9_letsOut_32 : decode cX9_letsOut 32 = .ok (.getfield 17, 3) := by decide +kernel
theorem dX9_letsOut_35 : decode cX9_letsOut 35 = .ok (.bipush 23, 2) := by decide +kernel
theorem dX9_letsOut_37 : decode cX9_letsOut 37 = .ok (.iload_n 2, 1) := by decide +kernel
theorem dX9_letsOut_38 : decode cX9_letsOut 38 = .ok (.iadd, 1) := by decide +kernel
theorem dX9_letsOut_39 : decode cX9_letsOut 39 = .ok (.iaload, 1) := by decide +kernel
theorem dX9_letsOut_40 : decode cX9_letsOut 40 = .ok (.iadd, 1) := by decide +kernel
theorem dX9_letsOut_41 : decode cX9_letsOut 41 = .ok (.iaload, 1) := by decide +kernel
theorem dX9_letsOut_42 : decode cX9_letsOut 42 = .ok (.iconst (-1), 1) := by decide +kernel
theorem dX9_letsOut_43 : decode cX9_letsOut 43 = .ok (.if_icmp .eq 4, 3) := by decide +kernel
theorem dX9_letsOut_46 : decode cX9_letsOut 46 = .ok (.return_, 1) := by decide +kernel
theorem dX9_letsOut_47 : decode cX9_letsOut 47 = .ok (.aload_n 1, 1) := by decide +kernel
theorem dX9_letsOut_48 : decode cX9_letsOut 48 = .ok (.aload_n 1, 1) := by decide +kernel
theorem dX9_letsOut_49 : decode cX9_letsOut 49 = .ok (.iload_n 3, 1) := by decide +kernel
theorem dX9_letsOut_50 : decode cX9_letsOut 50 = .ok (.iaload, 1) := by decide +kernel
theorem dX9_letsOut_51 : decode cX9_letsOut 51 = .ok (.aload_n 0, 1) := by decide +kernel
theorem dX9_letsOut_52 : decode cX9_letsOut 52 = .ok (.getfield 17, 3) := by decide +kernel
theorem dX9_letsOut_55 : decode cX9_letsOut 55 = .ok (.bipush 23, 2) := by decide +kernel
theorem dX9_letsOut_57 : decode cX9_letsOut 57 = .ok (.iload_n 2, 1) := by decide +kernel
theorem dX9_letsOut_58 : decode cX9_letsOut 58 = .ok (.iadd, 1) := by decide +kernel
theorem dX9_letsOut_59 : decode cX9_letsOut 59 = .ok (.iaload, 1) := by decide +kernel
theorem dX9_letsOut_60 : decode cX9_letsOut 60 = .ok (.invokestatic 307, 3) := by decide +kernel
theorem dX9_letsOut_63 : decode cX9_letsOut 63 = .ok (.aload_n 1, 1) := by decide +kernel
theorem dX9_letsOut_64 : decode cX9_letsOut 64 = .ok (.bipush 21, 2) := by decide +kernel
theorem dX9_letsOut_66 : decode cX9_letsOut 66 = .ok (.iload_n 2, 1) := by decide +kernel
theorem dX9_letsOut_67 : decode cX9_letsOut 67 = .ok (.iadd, 1) := by decide +kernel
theorem dX9_letsOut_68 : decode cX9_letsOut 68 = .ok (.dup2, 1) := by decide +kernel
theorem dX9_letsOut_69 : decode cX9_letsOut 69 = .ok (.iaload, 1) := by decide +kernel
theorem dX9_letsOut_70 : decode cX9_letsOut 70 = .ok (.iconst 1, 1) := by decide +kernel
theorem dX9_letsOut_71 : decode cX9_letsOut 71 = .ok (.isub, 1) := by decide +kernel
theorem dX9_letsOut_72 : decode cX9_letsOut 72 = .ok (.iastore, 1) := by decide +kernel
theorem dX9_letsOut_73 : decode cX9_letsOut 73 = .ok (.iconst 0, 1) := by decide +kernel
theorem dX9_letsOut_74 : decode cX9_letsOut 74 = .ok (.istore 4, 2) := by decide +kernel
theorem dX9_letsOut_76 : decode cX9_letsOut 76 = .ok (.iload 4, 2) := by decide +kernel
theorem dX9_letsOut_78 : decode cX9_letsOut 78 = .ok (.aload_n 1, 1) := by decide +kernel
theorem dX9_letsOut_79 : decode cX9_letsOut 79 = .ok (.bipush 21, 2) := by decide +kernel
theorem dX9_letsOut_81 : decode cX9_letsOut 81 = .ok (.iload_n 2, 1) := by decide +kernel
theorem dX9_letsOut_82 : decode cX9_letsOut 82 = .ok (.iadd, 1) := by decide +kernel
theorem dX9_letsOut_83 : decode cX9_letsOut 83 = .ok (.iaload, 1) := by decide +kernel
theorem dX9_letsOut_84 : decode cX9_letsOut 84 = .ok (.if_icmp .ge 23, 3) := by decide +kernel
theorem dX9_letsOut_87 : decode cX9_letsOut 87 = .ok (.aload_n 1, 1) := by decide +kernel
theorem dX9_letsOut_88 : decode cX9_letsOut 88 = .ok (.iload_n 3, 1) := by decide +kernel
theorem dX9_letsOut_89 : decode cX9_letsOut 89 = .ok (.iload 4, 2) := by decide +kernel
theorem dX9_letsOut_91 : decode cX9_letsOut 91 = .ok (.iadd, 1) := by decide +kernel
theorem dX9_letsOut_92 : decode cX9_letsOut 92 = .ok (.aload_n 1, 1) := by decide +kernel
theorem dX9_letsOut_93 : decode cX9_letsOut 93 = .ok (.iload_n 3, 1) := by decide +kernel
theorem dX9_letsOut_94 : decode cX9_letsOut 94 = .ok (.iload 4, 2) := by decide +kernel
theorem dX9_letsOut_96 : decode cX9_letsOut 96 = .ok (.iadd, 1) := by decide +kernel
theorem dX9_letsOut_97 : decode cX9_letsOut 97 = .ok (.iconst 1, 1) := by decide +kernel
theorem dX9_letsOut_98 : decode cX9_letsOut 98 = .ok (.iadd, 1) := by decide +kernel
theorem dX9_letsOut_99 : decode cX9_letsOut 99 = .ok (.iaload, 1) := by decide +kernel
theorem dX9_letsOut_100 : decode cX9_letsOut 100 = .ok (.iastore, 1) := by decide +kernel
theorem dX9_letsOut_101 : decode cX9_letsOut 101 = .ok (.iinc 4 1, 3) := by decide +kernel
theorem dX9_letsOut_104 : decode cX9_letsOut 104 = .ok (.goto (-28), 3) := by decide +kernel
theorem dX9_letsOut_107 : decode cX9_letsOut 107 = .ok (.return_, 1) := by decide +kernel
theorem dX9_draws_0 : decode cX9_draws 0 = .ok (.aload_n 0, 1) := by decide +kernel
theorem dX9_draws_1 : decode cX9_draws 1 = .ok (.iconst 1, 1) := by decide +kernel
theorem dX9_draws_2 : decode cX9_draws 2 = .ok (.aload_n 0, 1) := by decide +kernel
theorem dX9_draws_3 : decode cX9_draws 3 = .ok (.iconst 1, 1) := by decide +kernel
theorem dX9_draws_4 : decode cX9_draws 4 = .ok (.iaload, 1) := by decide +kernel
theorem dX9_draws_5 : decode cX9_draws 5 = .ok (.i2l, 1) := by decide +kernel
theorem dX9_draws_6 : decode cX9_draws 6 = .ok (.ldc2_w 310, 3) := by decide +kernel
theorem dX9_draws_9 : decode cX9_draws 9 = .ok (.lmul, 1) := by decide +kernel
theorem dX9_draws_10 : decode cX9_draws 10 = .ok (.ldc2_w 312, 3) := by decide +kernel
theorem dX9_draws_13 : decode cX9_draws 13 = .ok (.ladd, 1) := by decide +kernel
theorem dX9_draws_14 : decode cX9_draws 14 = .ok (.ldc2_w 314, 3) := by decide +kernel
theorem dX9_draws_17 : decode cX9_draws 17 = .ok (.lrem, 1) := by decide +kernel
theorem dX9_draws_18 : decode cX9_draws 18 = .ok (.l2i, 1) := by decide +kernel
theorem dX9_draws_19 : decode cX9_draws 19 = .ok (.iastore, 1) := by decide +kernel
theorem dX9_draws_20 : decode cX9_draws 20 = .ok (.aload_n 0, 1) := by decide +kernel
theorem dX9_draws_21 : decode cX9_draws 21 = .ok (.iconst 1, 1) := by decide +kernel
theorem dX9_draws_22 : decode cX9_draws 22 = .ok (.iaload, 1) := by decide +kernel
theorem dX9_draws_23 : decode cX9_draws 23 = .ok (.ldc_w 316, 3) := by decide +kernel
theorem dX9_draws_26 : decode cX9_draws 26 = .ok (.idiv, 1) := by decide +kernel
theorem dX9_draws_27 : decode cX9_draws 27 = .ok (.sipush 1000, 3) := by decide +kernel
theorem dX9_draws_30 : decode cX9_draws 30 = .ok (.irem, 1) := by decide +kernel
theorem dX9_draws_31 : decode cX9_draws 31 = .ok (.ireturn, 1) := by decide +kernel
theorem dX9_isOut_0 : decode cX9_isOut 0 = .ok (.aload_n 1, 1) := by decide +kernel
theorem dX9_isOut_1 : decode cX9_isOut 1 = .ok (.iconst 0, 1) := by decide +kernel
theorem dX9_isOut_2 : decode cX9_isOut 2 = .ok (.iaload, 1) := by decide +kernel
theorem dX9_isOut_3 : decode cX9_isOut 3 = .ok (.aload_n 1, 1) := by decide +kernel
theorem dX9_isOut_4 : decode cX9_isOut 4 = .ok (.sipush 2073, 3) := by decide +kernel
theorem dX9_isOut_7 : decode cX9_isOut 7 = .ok (.iconst 4, 1) := by decide +kernel
theorem dX9_isOut_8 : decode cX9_isOut 8 = .ok (.iload_n 2, 1) := by decide +kernel
theorem dX9_isOut_9 : decode cX9_isOut 9 = .ok (.imul, 1) := by decide +kernel
theorem dX9_isOut_10 : decode cX9_isOut 10 = .ok (.iadd, 1) := by decide +kernel
theorem dX9_isOut_11 : decode cX9_isOut 11 = .ok (.iload_n 3, 1) := by decide +kernel
theorem dX9_isOut_12 : decode cX9_isOut 12 = .ok (.iadd, 1) := by decide +kernel
theorem dX9_isOut_13 : decode cX9_isOut 13 = .ok (.iaload, 1) := by decide +kernel
theorem dX9_isOut_14 : decode cX9_isOut 14 = .ok (.if_icmp .gt 7, 3) := by decide +kernel
theorem dX9_isOut_17 : decode cX9_isOut 17 = .ok (.iconst 1, 1) := by decide +kernel
theorem dX9_isOut_18 : decode cX9_isOut 18 = .ok (.goto 4, 3) := by decide +kernel
theorem dX9_isOut_21 : decode cX9_isOut 21 = .ok (.iconst 0, 1) := by decide +kernel
theorem dX9_isOut_22 : decode cX9_isOut 22 = .ok (.istore 4, 2) := by decide +kernel
theorem dX9_isOut_24 : decode cX9_isOut 24 = .ok (.iconst 0, 1) := by decide +kernel
theorem dX9_isOut_25 : decode cX9_isOut 25 = .ok (.istore 5, 2) := by decide +kernel
theorem dX9_isOut_27 : decode cX9_isOut 27 = .ok (.iload 5, 2) := by decide +kernel
theorem dX9_isOut_29 : decode cX9_isOut 29 = .ok (.aload_n 0, 1) := by decide +kernel
theorem dX9_isOut_30 : decode cX9_isOut 30 = .ok (.getfield 17, 3) := by decide +kernel
theorem dX9_isOut_33 : decode cX9_isOut 33 = .ok (.bipush 34, 2) := by decide +kernel
theorem dX9_isOut_35 : decode cX9_isOut 35 = .ok (.iaload, 1) := by decide +kernel
theorem dX9_isOut_36 : decode cX9_isOut 36 = .ok (.if_icmp .ge 81, 3) := by decide +kernel
theorem dX9_isOut_39 : decode cX9_isOut 39 = .ok (.bipush 35, 2) := by decide +kernel
theorem dX9_isOut_41 : decode cX9_isOut 41 = .ok (.iconst 4, 1) := by decide +kernel
theorem dX9_isOut_42 : decode cX9_isOut 42 = .ok (.iload 5, 2) := by decide +kernel
theorem dX9_isOut_44 : decode cX9_isOut 44 = .ok (.imul, 1) := by decide +kernel
theorem dX9_isOut_45 : decode cX9_isOut 45 = .ok (.iadd, 1) := by decide +kernel
theorem dX9_isOut_46 : decode cX9_isOut 46 = .ok (.istore 6, 2) := by decide +kernel
theorem dX9_isOut_48 : decode cX9_isOut 48 = .ok (.iload 4, 2) := by decide +kernel
theorem dX9_isOut_50 : decode cX9_isOut 50 = .ok (.ifCond .ne 54, 3) := by decide +kernel
theorem dX9_isOut_53 : decode cX9_isOut 53 = .ok (.aload_n 0, 1) := by decide +kernel
theorem dX9_isOut_54 : decode cX9_isOut 54 = .ok (.getfield 17, 3) := by decide +kernel
theorem dX9_isOut_57 : decode cX9_isOut 57 = .ok (.iload 6, 2) := by decide +kernel
theorem dX9_isOut_59 : decode cX9_isOut 59 = .ok (.iaload, 1) := by decide +kernel
theorem dX9_isOut_60 : decode cX9_isOut 60 = .ok (.iload_n 2, 1) := by decide +kernel
theorem dX9_isOut_61 : decode cX9_isOut 61 = .ok (.if_icmp .ne 47, 3) := by decide +kernel
theorem dX9_isOut_64 : decode cX9_isOut 64 = .ok (.iload_n 3, 1) := by decide +kernel
theorem dX9_isOut_65 : decode cX9_isOut 65 = .ok (.aload_n 0, 1) := by decide +kernel
theorem dX9_isOut_66 : decode cX9_isOut 66 = .ok (.getfield 17, 3) := by decide +kernel
theorem dX9_isOut_69 : decode cX9_isOut 69 = .ok (.iload 6, 2) := by decide +kernel
theorem dX9_isOut_71 : decode cX9_isOut 71 = .ok (.iconst 1, 1) := by decide +kernel
theorem dX9_isOut_72 : decode cX9_isOut 72 = .ok (.iadd, 1) := by decide +kernel
theorem dX9_isOut_73 : decode cX9_isOut 73 = .ok (.iaload, 1) := by decide +kernel
theorem dX9_isOut_74 : decode cX9_isOut 74 = .ok (.if_icmp .lt 34, 3) := by decide +kernel
theorem dX9_isOut_77 : decode cX9_isOut 77 = .ok (.aload_n 1, 1) := by decide +kernel
theorem dX9_isOut_78 : decode cX9_isOut 78 = .ok (.iconst 0, 1) := by decide +kernel
theorem dX9_isOut_79 : decode cX9_isOut 79 = .ok (.iaload, 1) := by decide +kernel
theorem dX9_isOut_80 : decode cX9_isOut 80 = .ok (.aload_n 0, 1) := by decide +kernel
theorem dX9_isOut_81 : decode cX9_isOut 81 = .ok (.getfield 17, 3) := by decide +kernel
theorem dX9_isOut_84 : decode cX9_isOut 84 = .ok (.iload 6, 2) := by decide +kernel
theorem dX9_isOut_86 : decode cX9_isOut 86 = .ok (.iconst 2, 1) := by decide +kernel
theorem dX9_isOut_87 : decode cX9_isOut 87 = .ok (.iadd, 1) := by decide +kernel
theorem dX9_isOut_88 : decode cX9_isOut 88 = .ok (.iaload, 1) := by decide +kernel
theorem dX9_isOut_89 : decode cX9_isOut 89 = .ok (.aload_n 0, 1) := by decide +kernel
theorem dX9_isOut_90 : decode cX9_isOut 90 = .ok (.getfield 17, 3) := by decide +kernel
theorem dX9_isOut_93 : decode cX9_isOut 93 = .ok (.iload 6, 2) := by decide +kernel
theorem dX9_isOut_95 : decode cX9_isOut 95 = .ok (.iconst 3, 1) := by decide +kernel
theorem dX9_isOut_96 : decode cX9_isOut 96 = .ok (.iadd, 1) := by decide +kernel
theorem dX9_isOut_97 : decode cX9_isOut 97 = .ok (.iaload, 1) := by decide +kernel
theorem dX9_isOut_98 : decode cX9_isOut 98 = .ok (.invokestatic 111, 3) := by decide +kernel
theorem dX9_isOut_101 : decode cX9_isOut 101 = .ok (.ifCond .eq 7, 3) := by decide +kernel
theorem dX9_isOut_104 : decode cX9_isOut 104 = .ok (.iconst 1, 1) := by decide +kernel
theorem dX9_isOut_105 : decode cX9_isOut 105 = .ok (.goto 4, 3) := by decide +kernel
theorem dX9_isOut_108 : decode cX9_isOut 108 = .ok (.iconst 0, 1) := by decide +kernel
theorem dX9_isOut_109 : decode cX9_isOut 109 = .ok (.istore 4, 2) := by decide +kernel
theorem dX9_isOut_111 : decode cX9_isOut 111 = .ok (.iinc 5 1, 3) := by decide +kernel
theorem dX9_isOut_114 : decode cX9_isOut 114 = .ok (.goto (-87), 3) := by decide +kernel
theorem dX9_isOut_117 : decode cX9_isOut 117 = .ok (.iload 4, 2) := by decide +kernel
theorem dX9_isOut_119 : decode cX9_isOut 119 = .ok (.ireturn, 1) := by decide +kernel
theorem dX9_goesOn_0 : decode cX9_goesOn 0 = .ok (.iconst 4, 1) := by decide +kernel
theorem dX9_goesOn_1 : decode cX9_goesOn 1 = .ok (.iload_n 2, 1) := by decide +kernel
theorem dX9_goesOn_2 : decode cX9_goesOn 2 = .ok (.imul, 1) := by decide +kernel
theorem dX9_goesOn_3 : decode cX9_goesOn 3 = .ok (.iload_n 3, 1) := by decide +kernel
theorem dX9_goesOn_4 : decode cX9_goesOn 4 = .ok (.iadd, 1) := by decide +kernel
theorem dX9_goesOn_5 : decode cX9_goesOn 5 = .ok (.istore 4, 2) := by decide +kernel
theorem dX9_goesOn_7 : decode cX9_goesOn 7 = .ok (.aload_n 1, 1) := by decide +kernel
theorem dX9_goesOn_8 : decode cX9_goesOn 8 = .ok (.bipush 109, 2) := by decide +kernel
theorem dX9_goesOn_10 : decode cX9_goesOn 10 = .ok (.iload 4, 2) := by decide +kernel
theorem dX9_goesOn_12 : decode cX9_goesOn 12 = .ok (.iadd, 1) := by decide +kernel
theorem dX9_goesOn_13 : decode cX9_goesOn 13 = .ok (.iaload, 1) := by decide +kernel
theorem dX9_goesOn_14 : decode cX9_goesOn 14 = .ok (.iconst (-1), 1) := by decide +kernel
theorem dX9_goesOn_15 : decode cX9_goesOn 15 = .ok (.if_icmp .eq 13, 3) := by decide +kernel
theorem dX9_goesOn_18 : decode cX9_goesOn 18 = .ok (.aload_n 0, 1) := by decide +kernel
theorem dX9_goesOn_19 : decode cX9_goesOn 19 = .ok (.aload_n 1, 1) := by decide +kernel
theorem dX9_goesOn_20 : decode cX9_goesOn 20 = .ok (.iload_n 2, 1) := by decide +kernel
theorem dX9_goesOn_21 : decode cX9_goesOn 21 = .ok (.iload_n 3, 1) := by decide +kernel
theorem dX9_goesOn_22 : decode cX9_goesOn 22 = .ok (.invokevirtual 317, 3) := by decide +kernel
theorem dX9_goesOn_25 : decode cX9_goesOn 25 = .ok (.ifCond .eq 4, 3) := by decide +kernel
theorem dX9_goesOn_28 : decode cX9_goesOn 28 = .ok (.return_, 1) := by decide +kernel
theorem dX9_goesOn_29 : decode cX9_goesOn 29 = .ok (.aload_n 1, 1) := by decide +kernel
theorem dX9_goesOn_30 : decode cX9_goesOn 30 = .ok (.bipush 121, 2) := by decide +kernel
theorem dX9_goesOn_32 : decode cX9_goesOn 32 = .ok (.iload 4, 2) := by decide +kernel
theorem dX9_goesOn_34 : decode cX9_goesOn 34 = .ok (.iadd, 1) := by decide +kernel
theorem dX9_goesOn_35 : decode cX9_goesOn 35 = .ok (.dup2, 1) := by decide +kernel
theorem dX9_goesOn_36 : decode cX9_goesOn 36 = .ok (.iaload, 1) := by decide +kernel
theorem dX9_goesOn_37 : decode cX9_goesOn 37 = .ok (.iconst 1, 1) := by decide +kernel
theorem dX9_goesOn_38 : decode cX9_goesOn 38 = .ok (.isub, 1) := by decide +kernel
theorem dX9_goesOn_39 : decode cX9_goesOn 39 = .ok (.iastore, 1) := by decide +kernel
theorem dX9_goesOn_40 : decode cX9_goesOn 40 = .ok (.aload_n 1, 1) := by decide +kernel
theorem dX9_goesOn_41 : decode cX9_goesOn 41 = .ok (.bipush 121, 2) := by decide +kernel
theorem dX9_goesOn_43 : decode cX9_goesOn 43 = .ok (.iload 4, 2) := by decide +kernel
theorem dX9_goesOn_45 : decode cX9_goesOn 45 = .ok (.iadd, 1) := by decide +kernel
theorem dX9_goesOn_46 : decode cX9_goesOn 46 = .ok (.iaload, 1) := by decide +kernel
theorem dX9_goesOn_47 : decode cX9_goesOn 47 = .ok (.ifCond .le 4, 3) := by decide +kernel
theorem dX9_goesOn_50 : decode cX9_goesOn 50 = .ok (.return_, 1) := by decide +kernel
theorem dX9_goesOn_51 : decode cX9_goesOn 51 = .ok (.aload_n 1, 1) := by decide +kernel
theorem dX9_goesOn_52 : decode cX9_goesOn 52 = .ok (.bipush 109, 2) := by decide +kernel
theorem dX9_goesOn_54 : decode cX9_goesOn 54 = .ok (.iload 4, 2) := by decide +kernel
theorem dX9_goesOn_56 : decode cX9_goesOn 56 = .ok (.iadd, 1) := by decide +kernel
theorem dX9_goesOn_57 : decode cX9_goesOn 57 = .ok (.iaload, 1) := by decide +kernel
theorem dX9_goesOn_58 : decode cX9_goesOn 58 = .ok (.istore 5, 2) := by decide +kernel
theorem dX9_goesOn_60 : decode cX9_goesOn 60 = .ok (.aload_n 1, 1) := by decide +kernel
theorem dX9_goesOn_61 : decode cX9_goesOn 61 = .ok (.bipush 109, 2) := by decide +kernel
theorem dX9_goesOn_63 : decode cX9_goesOn 63 = .ok (.iload 4, 2) := by decide +kernel
theorem dX9_goesOn_65 : decode cX9_goesOn 65 = .ok (.iadd, 1) := by decide +kernel
theorem dX9_goesOn_66 : decode cX9_goesOn 66 = .ok (.iconst (-1), 1) := by decide +kernel
theorem dX9_goesOn_67 : decode cX9_goesOn 67 = .ok (.iastore, 1) := by decide +kernel
theorem dX9_goesOn_68 : decode cX9_goesOn 68 = .ok (.aload_n 1, 1) := by decide +kernel
theorem dX9_goesOn_69 : decode cX9_goesOn 69 = .ok (.invokestatic 320, 3) := by decide +kernel
theorem dX9_goesOn_72 : decode cX9_goesOn 72 = .ok (.aload_n 0, 1) := by decide +kernel
theorem dX9_goesOn_73 : decode cX9_goesOn 73 = .ok (.getfield 17, 3) := by decide +kernel
theorem dX9_goesOn_76 : decode cX9_goesOn 76 = .ok (.bipush 9, 2) := by decide +kernel
theorem dX9_goesOn_78 : decode cX9_goesOn 78 = .ok (.iload_n 2, 1) := by decide +kernel
theorem dX9_goesOn_79 : decode cX9_goesOn 79 = .ok (.iadd, 1) := by decide +kernel
theorem dX9_goesOn_80 : decode cX9_goesOn 80 = .ok (.iaload, 1) := by decide +kernel
theorem dX9_goesOn_81 : decode cX9_goesOn 81 = .ok (.if_icmp .ge 7, 3) := by decide +kernel
theorem dX9_goesOn_84 : decode cX9_goesOn 84 = .ok (.iconst 1, 1) := by decide +kernel
theorem dX9_goesOn_85 : decode cX9_goesOn 85 = .ok (.goto 4, 3) := by decide +kernel
theorem dX9_goesOn_88 : decode cX9_goesOn 88 = .ok (.iconst 0, 1) := by decide +kernel
theorem dX9_goesOn_89 : decode cX9_goesOn 89 = .ok (.istore 6, 2) := by decide +kernel
theorem dX9_goesOn_91 : decode cX9_goesOn 91 = .ok (.iload 6, 2) := by decide +kernel
theorem dX9_goesOn_93 : decode cX9_goesOn 93 = .ok (.ifCond .ne 16, 3) := by decide +kernel
theorem dX9_goesOn_96 : decode cX9_goesOn 96 = .ok (.aload_n 1, 1) := by decide +kernel
theorem dX9_goesOn_97 : decode cX9_goesOn 97 = .ok (.sipush 373, 3) := by decide +kernel
theorem dX9_goesOn_100 : decode cX9_goesOn 100 = .ok (.iload 5, 2) := by decide +kernel
theorem dX9_goesOn_102 : decode cX9_goesOn 102 = .ok (.iadd, 1) := by decide +kernel
theorem dX9_goesOn_103 : decode cX9_goesOn 103 = .ok (.bipush 7, 2) := by decide +kernel
theorem dX9_goesOn_105 : decode cX9_goesOn 105 = .ok (.iastore, 1) := by decide +kernel
theorem dX9_goesOn_106 : decode cX9_goesOn 106 = .ok (.goto 32, 3) := by decide +kernel
theorem dX9_goesOn_109 : decode cX9_goesOn 109 = .ok (.iload_n 2, 1) := by decide +kernel
theorem dX9_goesOn_110 : decode cX9_goesOn 110 = .ok (.iconst 2, 1) := by decide +kernel
theorem dX9_goesOn_111 : decode cX9_goesOn 111 = .ok (.if_icmp .ne 14, 3) := by decide +kernel
theorem dX9_goesOn_114 : decode cX9_goesOn 114 = .ok (.aload_n 1, 1) := by decide +kernel
theorem dX9_goesOn_115 : decode cX9_goesOn 115 = .ok (.iload 5, 2) := by decide +kernel
theorem dX9_goesOn_117 : decode cX9_goesOn 117 = .ok (.bipush 12, 2) := by decide +kernel
theorem dX9_goesOn_119 : decode cX9_goesOn 119 = .ok (.invokestatic 297, 3) := by decide +kernel
theorem dX9_goesOn_122 : decode cX9_goesOn 122 = .ok (.goto 16, 3) := by decide +kernel
theorem dX9_goesOn_125 : decode cX9_goesOn 125 = .ok (.aload_n 1, 1) := by decide +kernel
theorem dX9_goesOn_126 : decode cX9_goesOn 126 = .ok (.sipush 373, 3) := by decide +kernel
theorem dX9_goesOn_129 : decode cX9_goesOn 129 = .ok (.iload 5, 2) := by decide +kernel
theorem dX9_goesOn_131 : decode cX9_goesOn 131 = .ok (.iadd, 1) := by decide +kernel
theorem dX9_goesOn_132 : decode cX9_goesOn 132 = .ok (.iconst 2, 1) := by decide +kernel
theorem dX9_goesOn_133 : decode cX9_goesOn 133 = .ok (.iload_n 2, 1) := by decide +kernel
theorem dX9_goesOn_134 : decode cX9_goesOn 134 = .ok (.imul, 1) := by decide +kernel
theorem dX9_goesOn_135 : decode cX9_goesOn 135 = .ok (.iconst 3, 1) := by decide +kernel
theorem dX9_goesOn_136 : decode cX9_goesOn 136 = .ok (.iadd, 1) := by decide +kernel
theorem dX9_goesOn_137 : decode cX9_goesOn 137 = .ok (.iastore, 1) := by decide +kernel
theorem dX9_goesOn_138 : decode cX9_goesOn 138 = .ok (.return_, 1) := by decide +kernel
theorem dX9_occupies_0 : decode cX9_occupies 0 = .ok (.iconst 4, 1) := by decide +kernel
theorem dX9_occupies_1 : decode cX9_occupies 1 = .ok (.iload_n 2, 1) := by decide +kernel
theorem dX9_occupies_2 : decode cX9_occupies 2 = .ok (.imul, 1) := by decide +kernel
theorem dX9_occupies_3 : decode cX9_occupies 3 = .ok (.iload_n 3, 1) := by decide +kernel
theorem dX9_occupies_4 : decode cX9_occupies 4 = .ok (.iadd, 1) := by decide +kernel
theorem dX9_occupies_5 : decode cX9_occupies 5 = .ok (.istore 4, 2) := by decide +kernel
theorem dX9_occupies_7 : decode cX9_occupies 7 = .ok (.aload_n 1, 1) := by decide +kernel
theorem dX9_occupies_8 : decode cX9_occupies 8 = .ok (.bipush 109, 2) := by decide +kernel
theorem dX9_occupies_10 : decode cX9_occupies 10 = .ok (.iload 4, 2) := by decide +kernel
theorem dX9_occupies_12 : decode cX9_occupies 12 = .ok (.iadd, 1) := by decide +kernel
theorem dX9_occupies_13 : decode cX9_occupies 13 = .ok (.iaload, 1) := by decide +kernel
theorem dX9_occupies_14 : decode cX9_occupies 14 = .ok (.iconst (-1), 1) := by decide +kernel
theorem dX9_occupies_15 : decode cX9_occupies 15 = .ok (.if_icmp .ne 25, 3) := by decide +kernel
theorem dX9_occupies_18 : decode cX9_occupies 18 = .ok (.aload_n 0, 1) := by decide +kernel
theorem dX9_occupies_19 : decode cX9_occupies 19 = .ok (.aload_n 1, 1) := by decide +kernel
theorem dX9_occupies_20 : decode cX9_occupies 20 = .ok (.iload_n 2, 1) := by decide +kernel
theorem dX9_occupies_21 : decode cX9_occupies 21 = .ok (.iload_n 3, 1) := by decide +kernel
theorem dX9_occupies_22 : decode cX9_occupies 22 = .ok (.invokevirtual 317, 3) := by decide +kernel
theorem dX9_occupies_25 : decode cX9_occupies 25 = .ok (.ifCond .ne 15, 3) := by decide +kernel
theorem dX9_occupies_28 : decode cX9_occupies 28 = .ok (.aload_n 1, 1) := by decide +kernel
theorem dX9_occupies_29 : decode cX9_occupies 29 = .ok (.iconst 2, 1) := by decide +kernel
theorem dX9_occupies_30 : decode cX9_occupies 30 = .ok (.iload_n 2, 1) := by decide +kernel
theorem dX9_occupies_31 : decode cX9_occupies 31 = .ok (.imul, 1) := by decide +kernel
theorem dX9_occupies_32 : decode cX9_occupies 32 = .ok (.iconst 1, 1) := by decide +kernel
theorem dX9_occupies_33 : decode cX9_occupies 33 = .ok (.iadd, 1) := by decide +kernel
theorem dX9_occupies_34 : decode cX9_occupies 34 = .ok (.invokestatic 324, 3) := by decide +kernel
theorem dX9_occupies_37 : decode cX9_occupies 37 = .ok (.goto 4, 3) := by decide +kernel
theorem dX9_occupies_40 : decode cX9_occupies 40 = .ok (.iconst (-1), 1) := by decide +kernel
theorem dX9_occupies_41 : decode cX9_occupies 41 = .ok (.istore 5, 2) := by decide +kernel
theorem dX9_occupies_43 : decode cX9_occupies 43 = .ok (.iload 5, 2) := by decide +kernel
theorem dX9_occupies_45 : decode cX9_occupies 45 = .ok (.iconst (-1), 1) := by decide +kernel
theorem dX9_occupies_46 : decode cX9_occupies 46 = .ok (.if_icmp .ne 4, 3) := by decide +kernel
theorem dX9_occupies_49 : decode cX9_occupies 49 = .ok (.return_, 1) := by decide +kernel
theorem dX9_occupies_50 : decode cX9_occupies 50 = .ok (.aload_n 1, 1) := by decide +kernel
theorem dX9_occupies_51 : decode cX9_occupies 51 = .ok (.bipush 109, 2) := by decide +kernel
theorem dX9_occupies_53 : decode cX9_occupies 53 = .ok (.iload 4, 2) := by decide +kernel
theorem dX9_occupies_55 : decode cX9_occupies 55 = .ok (.iadd, 1) := by decide +kernel
theorem dX9_occupies_56 : decode cX9_occupies 56 = .ok (.iload 5, 2) := by decide +kernel
theorem dX9_occupies_58 : decode cX9_occupies 58 = .ok (.iastore, 1) := by decide +kernel
theorem dX9_occupies_59 : decode cX9_occupies 59 = .ok (.aload_n 1, 1) := by decide +kernel
theorem dX9_occupies_60 : decode cX9_occupies 60 = .ok (.bipush 121, 2) := by decide +kernel
theorem dX9_occupies_62 : decode cX9_occupies 62 = .ok (.iload 4, 2) := by decide +kernel
theorem dX9_occupies_64 : decode cX9_occupies 64 = .ok (.iadd, 1) := by decide +kernel
theorem dX9_occupies_65 : decode cX9_occupies 65 = .ok (.aload_n 0, 1) := by decide +kernel
theorem dX9_occupies_66 : decode cX9_occupies 66 = .ok (.getfield 17, 3) := by decide +kernel
theorem dX9_occupies_69 : decode cX9_occupies 69 = .ok (.bipush 6, 2) := by decide +kernel
theorem dX9_occupies_71 : decode cX9_occupies 71 = .ok (.iload_n 2, 1) := by decide +kernel
theorem dX9_occupies_72 : decode cX9_occupies 72 = .ok (.iadd, 1) := by decide +kernel
theorem dX9_occupies_73 : decode cX9_occupies 73 = .ok (.iaload, 1) := by decide +kernel
theorem dX9_occupies_74 : decode cX9_occupies 74 = .ok (.iastore, 1) := by decide +kernel
theorem dX9_occupies_75 : decode cX9_occupies 75 = .ok (.aload_n 1, 1) := by decide +kernel
theorem dX9_occupies_76 : decode cX9_occupies 76 = .ok (.sipush 373, 3) := by decide +kernel
theorem dX9_occupies_79 : decode cX9_occupies 79 = .ok (.iload 5, 2) := by decide +kernel
theorem dX9_occupies_81 : decode cX9_occupies 81 = .ok (.iadd, 1) := by decide +kernel
theorem dX9_occupies_82 : decode cX9_occupies 82 = .ok (.iconst 2, 1) := by decide +kernel
theorem dX9_occupies_83 : decode cX9_occupies 83 = .ok (.iload_n 2, 1) := by decide +kernel
theorem dX9_occupies_84 : decode cX9_occupies 84 = .ok (.imul, 1) := by decide +kernel
theorem dX9_occupies_85 : decode cX9_occupies 85 = .ok (.iconst 2, 1) := by decide +kernel
theorem dX9_occupies_86 : decode cX9_occupies 86 = .ok (.iadd, 1) := by decide +kernel
theorem dX9_occupies_87 : decode cX9_occupies 87 = .ok (.iastore, 1) := by decide +kernel
theorem dX9_occupies_88 : decode cX9_occupies 88 = .ok (.aload_n 1, 1) := by decide +kernel
theorem dX9_occupies_89 : decode cX9_occupies 89 = .ok (.sipush 673, 3) := by decide +kernel
theorem dX9_occupies_92 : decode cX9_occupies 92 = .ok (.iload 5, 2) := by decide +kernel
theorem dX9_occupies_94 : decode cX9_occupies 94 = .ok (.iadd, 1) := by decide +kernel
theorem dX9_occupies_95 : decode cX9_occupies 95 = .ok (.iload_n 2, 1) := by decide +kernel
theorem dX9_occupies_96 : decode cX9_occupies 96 = .ok (.iconst 1, 1) := by decide +kernel
theorem dX9_occupies_97 : decode cX9_occupies 97 = .ok (.iadd, 1) := by decide +kernel
theorem dX9_occupies_98 : decode cX9_occupies 98 = .ok (.iastore, 1) := by decide +kernel
theorem dX9_occupies_99 : decode cX9_occupies 99 = .ok (.return_, 1) := by decide +kernel
theorem dX9_tick_0 : decode cX9_tick 0 = .ok (.aload_n 1, 1) := by decide +kernel
theorem dX9_tick_1 : decode cX9_tick 1 = .ok (.iconst 0, 1) := by decide +kernel
theorem dX9_tick_2 : decode cX9_tick 2 = .ok (.dup2, 1) := by decide +kernel
theorem dX9_tick_3 : decode cX9_tick 3 = .ok (.iaload, 1) := by decide +kernel
theorem dX9_tick_4 : decode cX9_tick 4 = .ok (.iconst 1, 1) := by decide +kernel
theorem dX9_tick_5 : decode cX9_tick 5 = .ok (.iadd, 1) := by decide +kernel
theorem dX9_tick_6 : decode cX9_tick 6 = .ok (.iastore, 1) := by decide +kernel
theorem dX9_tick_7 : decode cX9_tick 7 = .ok (.iconst 0, 1) := by decide +kernel
theorem dX9_tick_8 : decode cX9_tick 8 = .ok (.istore_n 2, 1) := by decide +kernel
theorem dX9_tick_9 : decode cX9_tick 9 = .ok (.iload_n 2, 1) := by decide +kernel
theorem dX9_tick_10 : decode cX9_tick 10 = .ok (.aload_n 1, 1) := by decide +kernel
theorem dX9_tick_11 : decode cX9_tick 11 = .ok (.iconst 2, 1) := by decide +kernel
theorem dX9_tick_12 : decode cX9_tick 12 = .ok (.iaload, 1) := by decide +kernel
theorem dX9_tick_13 : decode cX9_tick 13 = .ok (.if_icmp .ge 40, 3) := by decide +kernel
theorem dX9_tick_16 : decode cX9_tick 16 = .ok (.aload_n 1, 1) := by decide +kernel
theorem dX9_tick_17 : decode cX9_tick 17 = .ok (.sipush 373, 3) := by decide +kernel
theorem dX9_tick_20 : decode cX9_tick 20 = .ok (.iload_n 2, 1) := by decide +kernel
theorem dX9_tick_21 : decode cX9_tick 21 = .ok (.iadd, 1) := by decide +kernel
theorem dX9_tick_22 : decode cX9_tick 22 = .ok (.iaload, 1) := by decide +kernel
theorem dX9_tick_23 : decode cX9_tick 23 = .ok (.ifCond .ne 24, 3) := by decide +kernel
theorem dX9_tick_26 : decode cX9_tick 26 = .ok (.aload_n 1, 1) := by decide +kernel
theorem dX9_tick_27 : decode cX9_tick 27 = .ok (.sipush 273, 3) := by decide +kernel
theorem dX9_tick_30 : decode cX9_tick 30 = .ok (.iload_n 2, 1) := by decide +kernel
theorem dX9_tick_31 : decode cX9_tick 31 = .ok (.iadd, 1) := by decide +kernel
theorem dX9_tick_32 : decode cX9_tick 32 = .ok (.iaload, 1) := by decide +kernel
theorem dX9_tick_33 : decode cX9_tick 33 = .ok (.aload_n 1, 1) := by decide +kernel
theorem dX9_tick_34 : decode cX9_tick 34 = .ok (.iconst 0, 1) := by decide +kernel
theorem dX9_tick_35 : decode cX9_tick 35 = .ok (.iaload, 1) := by decide +kernel
theorem dX9_tick_36 : decode cX9_tick 36 = .ok (.if_icmp .ne 11, 3) := by decide +kernel
theorem dX9_tick_39 : decode cX9_tick 39 = .ok (.aload_n 1, 1) := by decide +kernel
theorem dX9_tick_40 : decode cX9_tick 40 = .ok (.sipush 373, 3) := by decide +kernel
theorem dX9_tick_43 : decode cX9_tick 43 = .ok (.iload_n 2, 1) := by decide +kernel
theorem dX9_tick_44 : decode cX9_tick 44 = .ok (.iadd, 1) := by decide +kernel
theorem dX9_tick_45 : decode cX9_tick 45 = .ok (.iconst 1, 1) := by decide +kernel
theorem dX9_tick_46 : decode cX9_tick 46 = .ok (.iastore, 1) := by decide +kernel
theorem dX9_tick_47 : decode cX9_tick 47 = .ok (.iinc 2 1, 3) := by decide +kernel
theorem dX9_tick_50 : decode cX9_tick 50 = .ok (.goto (-41), 3) := by decide +kernel
theorem dX9_tick_53 : decode cX9_tick 53 = .ok (.aload_n 1, 1) := by decide +kernel
theorem dX9_tick_54 : decode cX9_tick 54 = .ok (.iconst 0, 1) := by decide +kernel
theorem dX9_tick_55 : decode cX9_tick 55 = .ok (.iaload, 1) := by decide +kernel
theorem dX9_tick_56 : decode cX9_tick 56 = .ok (.aload_n 1, 1) := by decide +kernel
theorem dX9_tick_57 : decode cX9_tick 57 = .ok (.sipush 2085, 3) := by decide +kernel
theorem dX9_tick_60 : decode cX9_tick 60 = .ok (.iaload, 1) := by decide +kernel
theorem dX9_tick_61 : decode cX9_tick 61 = .ok (.if_icmp .le 8, 3) := by decide +kernel
theorem dX9_tick_64 : decode cX9_tick 64 = .ok (.aload_n 0, 1) := by decide +kernel
theorem dX9_tick_65 : decode cX9_tick 65 = .ok (.aload_n 1, 1) := by decide +kernel
theorem dX9_tick_66 : decode cX9_tick 66 = .ok (.invokevirtual 327, 3) := by decide +kernel
theorem dX9_tick_69 : decode cX9_tick 69 = .ok (.iconst 0, 1) := by decide +kernel
theorem dX9_tick_70 : decode cX9_tick 70 = .ok (.istore_n 2, 1) := by decide +kernel
theorem dX9_tick_71 : decode cX9_tick 71 = .ok (.iload_n 2, 1) := by decide +kernel
theorem dX9_tick_72 : decode cX9_tick 72 = .ok (.aload_n 0, 1) := by decide +kernel
theorem dX9_tick_73 : decode cX9_tick 73 = .ok (.getfield 17, 3) := by decide +kernel
theorem dX9_tick_76 : decode cX9_tick 76 = .ok (.iconst 0, 1) := by decide +kernel
theorem dX9_tick_77 : decode cX9_tick 77 = .ok (.iaload, 1) := by decide +kernel
theorem dX9_tick_78 : decode cX9_tick 78 = .ok (.if_icmp .ge 26, 3) := by decide +kernel
theorem dX9_tick_81 : decode cX9_tick 81 = .ok (.aload_n 1, 1) := by decide +kernel
theorem dX9_tick_82 : decode cX9_tick 82 = .ok (.sipush 133, 3) := by decide +kernel
theorem dX9_tick_85 : decode cX9_tick 85 = .ok (.iload_n 2, 1) := by decide +kernel
theorem dX9_tick_86 : decode cX9_tick 86 = .ok (.iadd, 1) := by decide +kernel
theorem dX9_tick_87 : decode cX9_tick 87 = .ok (.iaload, 1) := by decide +kernel
theorem dX9_tick_88 : decode cX9_tick 88 = .ok (.iconst (-1), 1) := by decide +kernel
theorem dX9_tick_89 : decode cX9_tick 89 = .ok (.if_icmp .eq 9, 3) := by decide +kernel
theorem dX9_tick_92 : decode cX9_tick 92 = .ok (.aload_n 0, 1) := by decide +kernel
theorem dX9_tick_93 : decode cX9_tick 93 = .ok (.aload_n 1, 1) := by decide +kernel
theorem dX9_tick_94 : decode cX9_tick 94 = .ok (.iload_n 2, 1) := by decide +kernel
theorem dX9_tick_95 : decode cX9_tick 95 = .ok (.invokevirtual 331, 3) := by decide +kernel
theorem dX9_tick_98 : decode cX9_tick 98 = .ok (.iinc 2 1, 3) := by decide +kernel
theorem dX9_tick_101 : decode cX9_tick 101 = .ok (.goto (-30), 3) := by decide +kernel
theorem dX9_tick_104 : decode cX9_tick 104 = .ok (.iconst 0, 1) := by decide +kernel
theorem dX9_tick_105 : decode cX9_tick 105 = .ok (.istore_n 2, 1) := by decide +kernel
theorem dX9_tick_106 : decode cX9_tick 106 = .ok (.iload_n 2, 1) := by decide +kernel
theorem dX9_tick_107 : decode cX9_tick 107 = .ok (.aload_n 0, 1) := by decide +kernel
theorem dX9_tick_108 : decode cX9_tick 108 = .ok (.getfield 17, 3) := by decide +kernel
theorem dX9_tick_111 : decode cX9_tick 111 = .ok (.bipush 13, 2) := by decide +kernel
theorem dX9_tick_113 : decode cX9_tick 113 = .ok (.iaload, 1) := by decide +kernel
theorem dX9_tick_114 : decode cX9_tick 114 = .ok (.if_icmp .ge 15, 3) := by decide +kernel
theorem dX9_tick_117 : decode cX9_tick 117 = .ok (.aload_n 0, 1) := by decide +kernel
theorem dX9_tick_118 : decode cX9_tick 118 = .ok (.aload_n 1, 1) := by decide +kernel
theorem dX9_tick_119 : decode cX9_tick 119 = .ok (.iload_n 2, 1) := by decide +kernel
theorem dX9_tick_120 : decode cX9_tick 120 = .ok (.invokevirtual 335, 3) := by decide +kernel
theorem dX9_tick_123 : decode cX9_tick 123 = .ok (.iinc 2 1, 3) := by decide +kernel
theorem dX9_tick_126 : decode cX9_tick 126 = .ok (.goto (-20), 3) := by decide +kernel
theorem dX9_tick_129 : decode cX9_tick 129 = .ok (.iconst 2, 1) := by decide +kernel
theorem dX9_tick_130 : decode cX9_tick 130 = .ok (.istore_n 2, 1) := by decide +kernel
theorem dX9_tick_131 : decode cX9_tick 131 = .ok (.iload_n 2, 1) := by decide +kernel
theorem dX9_tick_132 : decode cX9_tick 132 = .ok (.ifCond .lt 36, 3) := by decide +kernel
theorem dX9_tick_135 : decode cX9_tick 135 = .ok (.iconst 0, 1) := by decide +kernel
theorem dX9_tick_136 : decode cX9_tick 136 = .ok (.istore_n 3, 1) := by decide +kernel
theorem dX9_tick_137 : decode cX9_tick 137 = .ok (.iload_n 3, 1) := by decide +kernel
theorem dX9_tick_138 : decode cX9_tick 138 = .ok (.aload_n 0, 1) := by decide +kernel
theorem dX9_tick_139 : decode cX9_tick 139 = .ok (.getfield 17, 3) := by decide +kernel
theorem dX9_tick_142 : decode cX9_tick 142 = .ok (.iconst 3, 1) := by decide +kernel
theorem dX9_tick_143 : decode cX9_tick 143 = .ok (.iload_n 2, 1) := by decide +kernel
theorem dX9_tick_144 : decode cX9_tick 144 = .ok (.iadd, 1) := by decide +kernel
theorem dX9_tick_145 : decode cX9_tick 145 = .ok (.iaload, 1) := by decide +kernel
theorem dX9_tick_146 : decode cX9_tick 146 = .ok (.if_icmp .ge 16, 3) := by decide +kernel
theorem dX9_tick_149 : decode cX9_tick 149 = .ok (.aload_n 0, 1) := by decide +kernel
theorem dX9_tick_150 : decode cX9_tick 150 = .ok (.aload_n 1, 1) := by decide +kernel
theorem dX9_tick_151 : decode cX9_tick 151 = .ok (.iload_n 2, 1) := by decide +kernel
theorem dX9_tick_152 : decode cX9_tick 152 = .ok (.iload_n 3, 1) := by decide +kernel
theorem dX9_tick_153 : decode cX9_tick 153 = .ok (.invokevirtual 338, 3) := by decide +kernel
theorem dX9_tick_156 : decode cX9_tick 156 = .ok (.iinc 3 1, 3) := by decide +kernel
theorem dX9_tick_159 : decode cX9_tick 159 = .ok (.goto (-22), 3) := by decide +kernel
theorem dX9_tick_162 : decode cX9_tick 162 = .ok (.iinc 2 (-1), 3) := by decide +kernel
theorem dX9_tick_165 : decode cX9_tick 165 = .ok (.goto (-34), 3) := by decide +kernel
theorem dX9_tick_168 : decode cX9_tick 168 = .ok (.iconst 2, 1) := by decide +kernel
theorem dX9_tick_169 : decode cX9_tick 169 = .ok (.istore_n 2, 1) := by decide +kernel
theorem dX9_tick_170 : decode cX9_tick 170 = .ok (.iload_n 2, 1) := by decide +kernel
theorem dX9_tick_171 : decode cX9_tick 171 = .ok (.ifCond .lt 36, 3) := by decide +kernel
theorem dX9_tick_174 : decode cX9_tick 174 = .ok (.iconst 0, 1) := by decide +kernel
theorem dX9_tick_175 : decode cX9_tick 175 = .ok (.istore_n 3, 1) := by decide +kernel
theorem dX9_tick_176 : decode cX9_tick 176 = .ok (.iload_n 3, 1) := by decide +kernel
theorem dX9_tick_177 : decode cX9_tick 177 = .ok (.aload_n 0, 1) := by decide +kernel
theorem dX9_tick_178 : decode cX9_tick 178 = .ok (.getfield 17, 3) := by decide +kernel
theorem dX9_tick_181 : decode cX9_tick 181 = .ok (.iconst 3, 1) := by decide +kernel
theorem dX9_tick_182 : decode cX9_tick 182 = .ok (.iload_n 2, 1) := by decide +kernel
theorem dX9_tick_183 : decode cX9_tick 183 = .ok (.iadd, 1) := by decide +kernel
theorem dX9_tick_184 : decode cX9_tick 184 = .ok (.iaload, 1) := by decide +kernel
theorem dX9_tick_185 : decode cX9_tick 185 = .ok (.if_icmp .ge 16, 3) := by decide +kernel
theorem dX9_tick_188 : decode cX9_tick 188 = .ok (.aload_n 0, 1) := by decide +kernel
theorem dX9_tick_189 : decode cX9_tick 189 = .ok (.aload_n 1, 1) := by decide +kernel
theorem dX9_tick_190 : decode cX9_tick 190 = .ok (.iload_n 2, 1) := by decide +kernel
theorem dX9_tick_191 : decode cX9_tick 191 = .ok (.iload_n 3, 1) := by decide +kernel
theorem dX9_tick_192 : decode cX9_tick 192 = .ok (.invokevirtual 341, 3) := by decide +kernel
theorem dX9_tick_195 : decode cX9_tick 195 = .ok (.iinc 3 1, 3) := by decide +kernel
theorem dX9_tick_198 : decode cX9_tick 198 = .ok (.goto (-22), 3) := by decide +kernel
theorem dX9_tick_201 : decode cX9_tick 201 = .ok (.iinc 2 (-1), 3) := by decide +kernel
theorem dX9_tick_204 : decode cX9_tick 204 = .ok (.goto (-34), 3) := by decide +kernel
theorem dX9_tick_207 : decode cX9_tick 207 = .ok (.aload_n 1, 1) := by decide +kernel
theorem dX9_tick_208 : decode cX9_tick 208 = .ok (.sipush 133, 3) := by decide +kernel
theorem dX9_tick_211 : decode cX9_tick 211 = .ok (.aload_n 0, 1) := by decide +kernel
theorem dX9_tick_212 : decode cX9_tick 212 = .ok (.getfield 17, 3) := by decide +kernel
theorem dX9_tick_215 : decode cX9_tick 215 = .ok (.iconst 1, 1) := by decide +kernel
theorem dX9_tick_216 : decode cX9_tick 216 = .ok (.iaload, 1) := by decide +kernel
theorem dX9_tick_217 : decode cX9_tick 217 = .ok (.iadd, 1) := by decide +kernel
theorem dX9_tick_218 : decode cX9_tick 218 = .ok (.iaload, 1) := by decide +kernel
theorem dX9_tick_219 : decode cX9_tick 219 = .ok (.iconst (-1), 1) := by decide +kernel
theorem dX9_tick_220 : decode cX9_tick 220 = .ok (.if_icmp .ne 12, 3) := by decide +kernel
theorem dX9_tick_223 : decode cX9_tick 223 = .ok (.aload_n 1, 1) := by decide +kernel
theorem dX9_tick_224 : decode cX9_tick 224 = .ok (.bipush 7, 2) := by decide +kernel
theorem dX9_tick_226 : decode cX9_tick 226 = .ok (.invokestatic 324, 3) := by decide +kernel
theorem dX9_tick_229 : decode cX9_tick 229 = .ok (.goto 4, 3) := by decide +kernel
theorem dX9_tick_232 : decode cX9_tick 232 = .ok (.iconst (-1), 1) := by decide +kernel
theorem dX9_tick_233 : decode cX9_tick 233 = .ok (.istore_n 2, 1) := by decide +kernel
theorem dX9_tick_234 : decode cX9_tick 234 = .ok (.iload_n 2, 1) := by decide +kernel
theorem dX9_tick_235 : decode cX9_tick 235 = .ok (.iconst (-1), 1) := by decide +kernel
theorem dX9_tick_236 : decode cX9_tick 236 = .ok (.if_icmp .ne 4, 3) := by decide +kernel
theorem dX9_tick_239 : decode cX9_tick 239 = .ok (.return_, 1) := by decide +kernel
theorem dX9_tick_240 : decode cX9_tick 240 = .ok (.aload_n 1, 1) := by decide +kernel
theorem dX9_tick_241 : decode cX9_tick 241 = .ok (.iload_n 2, 1) := by decide +kernel
theorem dX9_tick_242 : decode cX9_tick 242 = .ok (.aload_n 0, 1) := by decide +kernel
theorem dX9_tick_243 : decode cX9_tick 243 = .ok (.getfield 17, 3) := by decide +kernel
theorem dX9_tick_246 : decode cX9_tick 246 = .ok (.iconst 1, 1) := by decide +kernel
theorem dX9_tick_247 : decode cX9_tick 247 = .ok (.iaload, 1) := by decide +kernel
theorem dX9_tick_248 : decode cX9_tick 248 = .ok (.invokestatic 307, 3) := by decide +kernel
theorem dX9_tick_251 : decode cX9_tick 251 = .ok (.aload_n 1, 1) := by decide +kernel
theorem dX9_tick_252 : decode cX9_tick 252 = .ok (.sipush 573, 3) := by decide +kernel
theorem dX9_tick_255 : decode cX9_tick 255 = .ok (.iload_n 2, 1) := by decide +kernel
theorem dX9_tick_256 : decode cX9_tick 256 = .ok (.iadd, 1) := by decide +kernel
theorem dX9_tick_257 : decode cX9_tick 257 = .ok (.iconst 0, 1) := by decide +kernel
theorem dX9_tick_258 : decode cX9_tick 258 = .ok (.iastore, 1) := by decide +kernel
theorem dX9_tick_259 : decode cX9_tick 259 = .ok (.return_, 1) := by decide +kernel
theorem dX9_ticks_0 : decode cX9_ticks 0 = .ok (.iconst 0, 1) := by decide +kernel
theorem dX9_ticks_1 : decode cX9_ticks 1 = .ok (.istore_n 3, 1) := by decide +kernel
theorem dX9_ticks_2 : decode cX9_ticks 2 = .ok (.iload_n 3, 1) := by decide +kernel
theorem dX9_ticks_3 : decode cX9_ticks 3 = .ok (.iload_n 2, 1) := by decide +kernel
theorem dX9_ticks_4 : decode cX9_ticks 4 = .ok (.if_icmp .ge 14, 3) := by decide +kernel
theorem dX9_ticks_7 : decode cX9_ticks 7 = .ok (.aload_n 0, 1) := by decide +kernel
theorem dX9_ticks_8 : decode cX9_ticks 8 = .ok (.aload_n 1, 1) := by decide +kernel
theorem dX9_ticks_9 : decode cX9_ticks 9 = .ok (.invokevirtual 344, 3) := by decide +kernel
theorem dX9_ticks_12 : decode cX9_ticks 12 = .ok (.iinc 3 1, 3) := by decide +kernel
theorem dX9_ticks_15 : decode cX9_ticks 15 = .ok (.goto (-13), 3) := by decide +kernel
theorem dX9_ticks_18 : decode cX9_ticks 18 = .ok (.return_, 1) := by decide +kernel
theorem dX9_told_0 : decode cX9_told 0 = .ok (.aload_n 0, 1) := by decide +kernel
theorem dX9_told_1 : decode cX9_told 1 = .ok (.iconst 0, 1) := by decide +kernel
theorem dX9_told_2 : decode cX9_told 2 = .ok (.putfield 82, 3) := by decide +kernel
theorem dX9_told_5 : decode cX9_told 5 = .ok (.aload_n 0, 1) := by decide +kernel
theorem dX9_told_6 : decode cX9_told 6 = .ok (.getfield 250, 3) := by decide +kernel
theorem dX9_told_9 : decode cX9_told 9 = .ok (.ifCond .eq 7, 3) := by decide +kernel
theorem dX9_told_12 : decode cX9_told 12 = .ok (.iload_n 1, 1) := by decide +kernel
theorem dX9_told_13 : decode cX9_told 13 = .ok (.goto 4, 3) := by decide +kernel
theorem dX9_told_16 : decode cX9_told 16 = .ok (.iconst 0, 1) := by decide +kernel
theorem dX9_told_17 : decode cX9_told 17 = .ok (.ireturn, 1) := by decide +kernel
theorem dX9_time_0 : decode cX9_time 0 = .ok (.aload_n 0, 1) := by decide +kernel
theorem dX9_time_1 : decode cX9_time 1 = .ok (.aload_n 0, 1) := by decide +kernel
theorem dX9_time_2 : decode cX9_time 2 = .ok (.getfield 23, 3) := by decide +kernel
theorem dX9_time_5 : decode cX9_time 5 = .ok (.iconst 0, 1) := by decide +kernel
theorem dX9_time_6 : decode cX9_time 6 = .ok (.iaload, 1) := by decide +kernel
theorem dX9_time_7 : decode cX9_time 7 = .ok (.invokevirtual 347, 3) := by decide +kernel
theorem dX9_time_10 : decode cX9_time 10 = .ok (.ireturn, 1) := by decide +kernel
theorem dX9_bags_0 : decode cX9_bags 0 = .ok (.aload_n 0, 1) := by decide +kernel
theorem dX9_bags_1 : decode cX9_bags 1 = .ok (.aload_n 0, 1) := by decide +kernel
theorem dX9_bags_2 : decode cX9_bags 2 = .ok (.getfield 23, 3) := by decide +kernel
theorem dX9_bags_5 : decode cX9_bags 5 = .ok (.iconst 2, 1) := by decide +kernel
theorem dX9_bags_6 : decode cX9_bags 6 = .ok (.iaload, 1) := by decide +kernel
theorem dX9_bags_7 : decode cX9_bags 7 = .ok (.invokevirtual 347, 3) := by decide +kernel
theorem dX9_bags_10 : decode cX9_bags 10 = .ok (.ireturn, 1) := by decide +kernel
theorem dX9_flights_0 : decode cX9_flights 0 = .ok (.aload_n 0, 1) := by decide +kernel
theorem dX9_flights_1 : decode cX9_flights 1 = .ok (.aload_n 0, 1) := by decide +kernel
theorem dX9_flights_2 : decode cX9_flights 2 = .ok (.getfield 17, 3) := by decide +kernel
theorem dX9_flights_5 : decode cX9_flights 5 = .ok (.bipush 12, 2) := by decide +kernel
theorem dX9_flights_7 : decode cX9_flights 7 = .ok (.iaload, 1) := by decide +kernel
theorem dX9_flights_8 : decode cX9_flights 8 = .ok (.invokevirtual 347, 3) := by decide +kernel
theorem dX9_flights_11 : decode cX9_flights 11 = .ok (.ireturn, 1) := by decide +kernel
theorem dX9_lanes_0 : decode cX9_lanes 0 = .ok (.aload_n 0, 1) := by decide +kernel
theorem dX9_lanes_1 : decode cX9_lanes 1 = .ok (.aload_n 0, 1) := by decide +kernel
theorem dX9_lanes_2 : decode cX9_lanes 2 = .ok (.getfield 17, 3) := by decide +kernel
theorem dX9_lanes_5 : decode cX9_lanes 5 = .ok (.bipush 13, 2) := by decide +kernel
theorem dX9_lanes_7 : decode cX9_lanes 7 = .ok (.iaload, 1) := by decide +kernel
theorem dX9_lanes_8 : decode cX9_lanes 8 = .ok (.invokevirtual 347, 3) := by decide +kernel
theorem dX9_lanes_11 : decode cX9_lanes 11 = .ok (.ireturn, 1) := by decide +kernel
theorem dX9_keeps_0 : decode cX9_keeps 0 = .ok (.aload_n 0, 1) := by decide +kernel
theorem dX9_keeps_1 : decode cX9_keeps 1 = .ok (.aload_n 0, 1) := by decide +kernel
theorem dX9_keeps_2 : decode cX9_keeps 2 = .ok (.getfield 17, 3) := by decide +kernel
theorem dX9_keeps_5 : decode cX9_keeps 5 = .ok (.bipush 14, 2) := by decide +kernel
theorem dX9_keeps_7 : decode cX9_keeps 7 = .ok (.iaload, 1) := by decide +kernel
theorem dX9_keeps_8 : decode cX9_keeps 8 = .ok (.invokevirtual 347, 3) := by decide +kernel
theorem dX9_keeps_11 : decode cX9_keeps 11 = .ok (.ireturn, 1) := by decide +kernel
theorem dX9_loopLoad_0 : decode cX9_loopLoad 0 = .ok (.aload_n 0, 1) := by decide +kernel
theorem dX9_loopLoad_1 : decode cX9_loopLoad 1 = .ok (.aload_n 0, 1) := by decide +kernel
theorem dX9_loopLoad_2 : decode cX9_loopLoad 2 = .ok (.getfield 23, 3) := by decide +kernel
theorem dX9_loopLoad_5 : decode cX9_loopLoad 5 = .ok (.bipush 8, 2) := by decide +kernel
theorem dX9_loopLoad_7 : decode cX9_loopLoad 7 = .ok (.invokestatic 276, 3) := by decide +kernel
theorem dX9_loopLoad_10 : decode cX9_loopLoad 10 = .ok (.invokevirtual 347, 3) := by decide +kernel
theorem dX9_loopLoad_13 : decode cX9_loopLoad 13 = .ok (.ireturn, 1) := by decide +kernel
theorem dX9_mayAsk_0 : decode cX9_mayAsk 0 = .ok (.aload_n 0, 1) := by decide +kernel
theorem dX9_mayAsk_1 : decode cX9_mayAsk 1 = .ok (.aload_n 0, 1) := by decide +kernel
theorem dX9_mayAsk_2 : decode cX9_mayAsk 2 = .ok (.getfield 250, 3) := by decide +kernel
theorem dX9_mayAsk_5 : decode cX9_mayAsk 5 = .ok (.ifCond .ne 7, 3) := by decide +kernel
theorem dX9_mayAsk_8 : decode cX9_mayAsk 8 = .ok (.iconst 1, 1) := by decide +kernel
theorem dX9_mayAsk_9 : decode cX9_mayAsk 9 = .ok (.goto 12, 3) := by decide +kernel
theorem dX9_mayAsk_12 : decode cX9_mayAsk 12 = .ok (.iload_n 1, 1) := by decide +kernel
theorem dX9_mayAsk_13 : decode cX9_mayAsk 13 = .ok (.ifCond .eq 7, 3) := by decide +kernel
theorem dX9_mayAsk_16 : decode cX9_mayAsk 16 = .ok (.iconst 0, 1) := by decide +kernel
theorem dX9_mayAsk_17 : decode cX9_mayAsk 17 = .ok (.goto 4, 3) := by decide +kernel
theorem dX9_mayAsk_20 : decode cX9_mayAsk 20 = .ok (.iconst 2, 1) := by decide +kernel
theorem dX9_mayAsk_21 : decode cX9_mayAsk 21 = .ok (.putfield 82, 3) := by decide +kernel
theorem dX9_mayAsk_24 : decode cX9_mayAsk 24 = .ok (.aload_n 0, 1) := by decide +kernel
theorem dX9_mayAsk_25 : decode cX9_mayAsk 25 = .ok (.getfield 82, 3) := by decide +kernel
theorem dX9_mayAsk_28 : decode cX9_mayAsk 28 = .ok (.ifCond .ne 7, 3) := by decide +kernel
theorem dX9_mayAsk_31 : decode cX9_mayAsk 31 = .ok (.iconst 1, 1) := by decide +kernel
theorem dX9_mayAsk_32 : decode cX9_mayAsk 32 = .ok (.goto 4, 3) := by decide +kernel
theorem dX9_mayAsk_35 : decode cX9_mayAsk 35 = .ok (.iconst 0, 1) := by decide +kernel
theorem dX9_mayAsk_36 : decode cX9_mayAsk 36 = .ok (.ireturn, 1) := by decide +kernel
theorem dX9_isBag_0 : decode cX9_isBag 0 = .ok (.iload_n 1, 1) := by decide +kernel
theorem dX9_isBag_1 : decode cX9_isBag 1 = .ok (.iconst 0, 1) := by decide +kernel
theorem dX9_isBag_2 : decode cX9_isBag 2 = .ok (.aload_n 0, 1) := by decide +kernel
theorem dX9_isBag_3 : decode cX9_isBag 3 = .ok (.getfield 23, 3) := by decide +kernel
theorem dX9_isBag_6 : decode cX9_isBag 6 = .ok (.iconst 2, 1) := by decide +kernel
theorem dX9_isBag_7 : decode cX9_isBag 7 = .ok (.iaload, 1) := by decide +kernel
theorem dX9_isBag_8 : decode cX9_isBag 8 = .ok (.iconst 1, 1) := by decide +kernel
theorem dX9_isBag_9 : decode cX9_isBag 9 = .ok (.isub, 1) := by decide +kernel
theorem dX9_isBag_10 : decode cX9_isBag 10 = .ok (.invokestatic 111, 3) := by decide +kernel
theorem dX9_isBag_13 : decode cX9_isBag 13 = .ok (.ireturn, 1) := by decide +kernel
theorem dX9_isFlight_0 : decode cX9_isFlight 0 = .ok (.iload_n 1, 1) := by decide +kernel
theorem dX9_isFlight_1 : decode cX9_isFlight 1 = .ok (.iconst 0, 1) := by decide +kernel
theorem dX9_isFlight_2 : decode cX9_isFlight 2 = .ok (.aload_n 0, 1) := by decide +kernel
theorem dX9_isFlight_3 : decode cX9_isFlight 3 = .ok (.getfield 17, 3) := by decide +kernel
theorem dX9_isFlight_6 : decode cX9_isFlight 6 = .ok (.bipush 12, 2) := by decide +kernel
theorem dX9_isFlight_8 : decode cX9_isFlight 8 = .ok (.iaload, 1) := by decide +kernel
theorem dX9_isFlight_9 : decode cX9_isFlight 9 = .ok (.iconst 1, 1) := by decide +kernel
theorem dX9_isFlight_10 : decode cX9_isFlight 10 = .ok (.isub, 1) := by decide +kernel
theorem dX9_isFlight_11 : decode cX9_isFlight 11 = .ok (.invokestatic 111, 3) := by decide +kernel
theorem dX9_isFlight_14 : decode cX9_isFlight 14 = .ok (.ireturn, 1) := by decide +kernel
theorem dX9_isLane_0 : decode cX9_isLane 0 = .ok (.iload_n 1, 1) := by decide +kernel
theorem dX9_isLane_1 : decode cX9_isLane 1 = .ok (.iconst 0, 1) := by decide +kernel
theorem dX9_isLane_2 : decode cX9_isLane 2 = .ok (.aload_n 0, 1) := by decide +kernel
theorem dX9_isLane_3 : decode cX9_isLane 3 = .ok (.getfield 17, 3) := by decide +kernel
theorem dX9_isLane_6 : decode cX9_isLane 6 = .ok (.bipush 13, 2) := by decide +kernel
theorem dX9_isLane_8 : decode cX9_isLane 8 = .ok (.iaload, 1) := by decide +kernel
theorem dX9_isLane_9 : decode cX9_isLane 9 = .ok (.iconst 1, 1) := by decide +kernel
theorem dX9_isLane_10 : decode cX9_isLane 10 = .ok (.isub, 1) := by decide +kernel
theorem dX9_isLane_11 : decode cX9_isLane 11 = .ok (.invokestatic 111, 3) := by decide +kernel
theorem dX9_isLane_14 : decode cX9_isLane 14 = .ok (.ireturn, 1) := by decide +kernel
theorem dX9_ofBag_0 : decode cX9_ofBag 0 = .ok (.aload_n 0, 1) := by decide +kernel
theorem dX9_ofBag_1 : decode cX9_ofBag 1 = .ok (.aload_n 0, 1) := by decide +kernel
theorem dX9_ofBag_2 : decode cX9_ofBag 2 = .ok (.iload_n 1, 1) := by decide +kernel
theorem dX9_ofBag_3 : decode cX9_ofBag 3 = .ok (.invokevirtual 350, 3) := by decide +kernel
theorem dX9_ofBag_6 : decode cX9_ofBag 6 = .ok (.invokevirtual 353, 3) := by decide +kernel
theorem dX9_ofBag_9 : decode cX9_ofBag 9 = .ok (.ifCond .eq 14, 3) := by decide +kernel
theorem dX9_ofBag_12 : decode cX9_ofBag 12 = .ok (.aload_n 0, 1) := by decide +kernel
theorem dX9_ofBag_13 : decode cX9_ofBag 13 = .ok (.getfield 23, 3) := by decide +kernel
theorem dX9_ofBag_16 : decode cX9_ofBag 16 = .ok (.iload_n 2, 1) := by decide +kernel
theorem dX9_ofBag_17 : decode cX9_ofBag 17 = .ok (.iload_n 1, 1) := by decide +kernel
theorem dX9_ofBag_18 : decode cX9_ofBag 18 = .ok (.iadd, 1) := by decide +kernel
theorem dX9_ofBag_19 : decode cX9_ofBag 19 = .ok (.iaload, 1) := by decide +kernel
theorem dX9_ofBag_20 : decode cX9_ofBag 20 = .ok (.goto 4, 3) := by decide +kernel
theorem dX9_ofBag_23 : decode cX9_ofBag 23 = .ok (.iconst 0, 1) := by decide +kernel
theorem dX9_ofBag_24 : decode cX9_ofBag 24 = .ok (.ireturn, 1) := by decide +kernel
theorem dX9_stateOf_0 : decode cX9_stateOf 0 = .ok (.aload_n 0, 1) := by decide +kernel
theorem dX9_stateOf_1 : decode cX9_stateOf 1 = .ok (.iload_n 1, 1) := by decide +kernel
theorem dX9_stateOf_2 : decode cX9_stateOf 2 = .ok (.sipush 373, 3) := by decide +kernel
theorem dX9_stateOf_5 : decode cX9_stateOf 5 = .ok (.invokevirtual 357, 3) := by decide +kernel
theorem dX9_stateOf_8 : decode cX9_stateOf 8 = .ok (.ireturn, 1) := by decide +kernel
theorem dX9_flightOf_0 : decode cX9_flightOf 0 = .ok (.aload_n 0, 1) := by decide +kernel
theorem dX9_flightOf_1 : decode cX9_flightOf 1 = .ok (.iload_n 1, 1) := by decide +kernel
theorem dX9_flightOf_2 : decode cX9_flightOf 2 = .ok (.sipush 173, 3) := by decide +kernel
theorem dX9_flightOf_5 : decode cX9_flightOf 5 = .ok (.invokevirtual 357, 3) := by decide +kernel
theorem dX9_flightOf_8 : decode cX9_flightOf 8 = .ok (.ireturn, 1) := by decide +kernel
theorem dX9_arrivalOf_0 : decode cX9_arrivalOf 0 = .ok (.aload_n 0, 1) := by decide +kernel
theorem dX9_arrivalOf_1 : decode cX9_arrivalOf 1 = .ok (.iload_n 1, 1) := by decide +kernel
theorem dX9_arrivalOf_2 : decode cX9_arrivalOf 2 = .ok (.sipush 273, 3) := by decide +kernel
theorem dX9_arrivalOf_5 : decode cX9_arrivalOf 5 = .ok (.invokevirtual 357, 3) := by decide +kernel
theorem dX9_arrivalOf_8 : decode cX9_arrivalOf 8 = .ok (.ireturn, 1) := by decide +kernel
theorem dX9_placeIn_0 : decode cX9_placeIn 0 = .ok (.aload_n 0, 1) := by decide +kernel
theorem dX9_placeIn_1 : decode cX9_placeIn 1 = .ok (.aload_n 0, 1) := by decide +kernel
theorem dX9_placeIn_2 : decode cX9_placeIn 2 = .ok (.iload_n 1, 1) := by decide +kernel
theorem dX9_placeIn_3 : decode cX9_placeIn 3 = .ok (.invokevirtual 350, 3) := by decide +kernel
theorem dX9_placeIn_6 : decode cX9_placeIn 6 = .ok (.invokevirtual 353, 3) := by decide +kernel
theorem dX9_placeIn_9 : decode cX9_placeIn 9 = .ok (.ifCond .ne 5, 3) := by decide +kernel
theorem dX9_placeIn_12 : decode cX9_placeIn 12 = .ok (.iconst 0, 1) := by decide +kernel
theorem dX9_placeIn_13 : decode cX9_placeIn 13 = .ok (.ireturn, 1) := by decide +kernel
theorem dX9_placeIn_14 : decode cX9_placeIn 14 = .ok (.aload_n 0, 1) := by decide +kernel
theorem dX9_placeIn_15 : decode cX9_placeIn 15 = .ok (.getfield 23, 3) := by decide +kernel
theorem dX9_placeIn_18 : decode cX9_placeIn 18 = .ok (.sipush 373, 3) := by decide +kernel
theorem dX9_placeIn_21 : decode cX9_placeIn 21 = .ok (.iload_n 1, 1) := by decide +kernel
theorem dX9_placeIn_22 : decode cX9_placeIn 22 = .ok (.iadd, 1) := by decide +kernel
theorem dX9_placeIn_23 : decode cX9_placeIn 23 = .ok (.iaload, 1) := by decide +kernel
theorem dX9_placeIn_24 : decode cX9_placeIn 24 = .ok (.iload_n 2, 1) := by decide +kernel
theorem dX9_placeIn_25 : decode cX9_placeIn 25 = .ok (.if_icmp .ne 16, 3) := by decide +kernel
theorem dX9_placeIn_28 : decode cX9_placeIn 28 = .ok (.aload_n 0, 1) := by decide +kernel
theorem dX9_placeIn_29 : decode cX9_placeIn 29 = .ok (.getfield 23, 3) := by decide +kernel
theorem dX9_placeIn_32 : decode cX9_placeIn 32 = .ok (.sipush 473, 3) := by decide +kernel
theorem dX9_placeIn_35 : decode cX9_placeIn 35 = .ok (.iload_n 1, 1) := by decide +kernel
theorem dX9_placeIn_36 : decode cX9_placeIn 36 = .ok (.iadd, 1) := by decide +kernel
theorem dX9_placeIn_37 : decode cX9_placeIn 37 = .ok (.iaload, 1) := by decide +kernel
theorem dX9_placeIn_38 : decode cX9_placeIn 38 = .ok (.goto 4, 3) := by decide +kernel
theorem dX9_placeIn_41 : decode cX9_placeIn 41 = .ok (.iconst (-1), 1) := by decide +kernel
theorem dX9_placeIn_42 : decode cX9_placeIn 42 = .ok (.ireturn, 1) := by decide +kernel
theorem dX9_positionOf_0 : decode cX9_positionOf 0 = .ok (.aload_n 0, 1) := by decide +kernel
theorem dX9_positionOf_1 : decode cX9_positionOf 1 = .ok (.iload_n 1, 1) := by decide +kernel
theorem dX9_positionOf_2 : decode cX9_positionOf 2 = .ok (.bipush 8, 2) := by decide +kernel
theorem dX9_positionOf_4 : decode cX9_positionOf 4 = .ok (.invokevirtual 360, 3) := by decide +kernel
theorem dX9_positionOf_7 : decode cX9_positionOf 7 = .ok (.ireturn, 1) := by decide +kernel
theorem dX9_laneOf_0 : decode cX9_laneOf 0 = .ok (.aload_n 0, 1) := by decide +kernel
theorem dX9_laneOf_1 : decode cX9_laneOf 1 = .ok (.iload_n 1, 1) := by decide +kernel
theorem dX9_laneOf_2 : decode cX9_laneOf 2 = .ok (.bipush 9, 2) := by decide +kernel
theorem dX9_laneOf_4 : decode cX9_laneOf 4 = .ok (.invokevirtual 360, 3) := by decide +kernel
theorem dX9_laneOf_7 : decode cX9_laneOf 7 = .ok (.ireturn, 1) := by decide +kernel
theorem dX9_lapsOf_0 : decode cX9_lapsOf 0 = .ok (.aload_n 0, 1) := by decide +kernel
theorem dX9_lapsOf_1 : decode cX9_lapsOf 1 = .ok (.iload_n 1, 1) := by decide +kernel
theorem dX9_lapsOf_2 : decode cX9_lapsOf 2 = .ok (.sipush 573, 3) := by decide +kernel
theorem dX9_lapsOf_5 : decode cX9_lapsOf 5 = .ok (.invokevirtual 357, 3) := by decide +kernel
theorem dX9_lapsOf_8 : decode cX9_lapsOf 8 = .ok (.ireturn, 1) := by decide +kernel
theorem dX9_levelOf_0 : decode cX9_levelOf 0 = .ok (.aload_n 0, 1) := by decide +kernel
theorem dX9_levelOf_1 : decode cX9_levelOf 1 = .ok (.iload_n 1, 1) := by decide +kernel
theorem dX9_levelOf_2 : decode cX9_levelOf 2 = .ok (.sipush 673, 3) := by decide +kernel
theorem dX9_levelOf_5 : decode cX9_levelOf 5 = .ok (.invokevirtual 357, 3) := by decide +kernel
theorem dX9_levelOf_8 : decode cX9_levelOf 8 = .ok (.ireturn, 1) := by decide +kernel
theorem dX9_finishedAt_0 : decode cX9_finishedAt 0 = .ok (.aload_n 0, 1) := by decide +kernel
theorem dX9_finishedAt_1 : decode cX9_finishedAt 1 = .ok (.iload_n 1, 1) := by decide +kernel
theorem dX9_finishedAt_2 : decode cX9_finishedAt 2 = .ok (.sipush 773, 3) := by decide +kernel
theorem dX9_finishedAt_5 : decode cX9_finishedAt 5 = .ok (.invokevirtual 357, 3) := by decide +kernel
theorem dX9_finishedAt_8 : decode cX9_finishedAt 8 = .ok (.ireturn, 1) := by decide +kernel
theorem dX9_isHot_0 : decode cX9_isHot 0 = .ok (.aload_n 0, 1) := by decide +kernel
theorem dX9_isHot_1 : decode cX9_isHot 1 = .ok (.aload_n 0, 1) := by decide +kernel
theorem dX9_isHot_2 : decode cX9_isHot 2 = .ok (.iload_n 1, 1) := by decide +kernel
theorem dX9_isHot_3 : decode cX9_isHot 3 = .ok (.invokevirtual 350, 3) := by decide +kernel
theorem dX9_isHot_6 : decode cX9_isHot 6 = .ok (.invokevirtual 353, 3) := by decide +kernel
theorem dX9_isHot_9 : decode cX9_isHot 9 = .ok (.ifCond .eq 18, 3) := by decide +kernel
theorem dX9_isHot_12 : decode cX9_isHot 12 = .ok (.aload_n 0, 1) := by decide +kernel
theorem dX9_isHot_13 : decode cX9_isHot 13 = .ok (.getfield 23, 3) := by decide +kernel
theorem dX9_isHot_16 : decode cX9_isHot 16 = .ok (.iload_n 1, 1) := by decide +kernel
theorem dX9_isHot_17 : decode cX9_isHot 17 = .ok (.invokestatic 261, 3) := by decide +kernel
theorem dX9_isHot_20 : decode cX9_isHot 20 = .ok (.ifCond .eq 7, 3) := by decide +kernel
theorem dX9_isHot_23 : decode cX9_isHot 23 = .ok (.iconst 1, 1) := by decide +kernel
theorem dX9_isHot_24 : decode cX9_isHot 24 = .ok (.goto 4, 3) := by decide +kernel
theorem dX9_isHot_27 : decode cX9_isHot 27 = .ok (.iconst 0, 1) := by decide +kernel
theorem dX9_isHot_28 : decode cX9_isHot 28 = .ok (.ireturn, 1) := by decide +kernel
theorem dX9_isKept_0 : decode cX9_isKept 0 = .ok (.aload_n 0, 1) := by decide +kernel
theorem dX9_isKept_1 : decode cX9_isKept 1 = .ok (.aload_n 0, 1) := by decide +kernel
theorem dX9_isKept_2 : decode cX9_isKept 2 = .ok (.iload_n 1, 1) := by decide +kernel
theorem dX9_isKept_3 : decode cX9_isKept 3 = .ok (.invokevirtual 350, 3) := by decide +kernel
theorem dX9_isKept_6 : decode cX9_isKept 6 = .ok (.invokevirtual 353, 3) := by decide +kernel
theorem dX9_isKept_9 : decode cX9_isKept 9 = .ok (.ifCond .eq 19, 3) := by decide +kernel
theorem dX9_isKept_12 : decode cX9_isKept 12 = .ok (.aload_n 0, 1) := by decide +kernel
theorem dX9_isKept_13 : decode cX9_isKept 13 = .ok (.aload_n 0, 1) := by decide +kernel
theorem dX9_isKept_14 : decode cX9_isKept 14 = .ok (.getfield 23, 3) := by decide +kernel
theorem dX9_isKept_17 : decode cX9_isKept 17 = .ok (.iload_n 1, 1) := by decide +kernel
theorem dX9_isKept_18 : decode cX9_isKept 18 = .ok (.invokevirtual 304, 3) := by decide +kernel
theorem dX9_isKept_21 : decode cX9_isKept 21 = .ok (.ifCond .eq 7, 3) := by decide +kernel
theorem dX9_isKept_24 : decode cX9_isKept 24 = .ok (.iconst 1, 1) := by decide +kernel
theorem dX9_isKept_25 : decode cX9_isKept 25 = .ok (.goto 4, 3) := by decide +kernel
theorem dX9_isKept_28 : decode cX9_isKept 28 = .ok (.iconst 0, 1) := by decide +kernel
theorem dX9_isKept_29 : decode cX9_isKept 29 = .ok (.ireturn, 1) := by decide +kernel
theorem dX9_bagAt_0 : decode cX9_bagAt 0 = .ok (.aload_n 0, 1) := by decide +kernel
theorem dX9_bagAt_1 : decode cX9_bagAt 1 = .ok (.iload_n 1, 1) := by decide +kernel
theorem dX9_bagAt_2 : decode cX9_bagAt 2 = .ok (.iconst 0, 1) := by decide +kernel
theorem dX9_bagAt_3 : decode cX9_bagAt 3 = .ok (.aload_n 0, 1) := by decide +kernel
theorem dX9_bagAt_4 : decode cX9_bagAt 4 = .ok (.getfield 17, 3) := by decide +kernel
theorem dX9_bagAt_7 : decode cX9_bagAt 7 = .ok (.iconst 0, 1) := by decide +kernel
theorem dX9_bagAt_8 : decode cX9_bagAt 8 = .ok (.iaload, 1) := by decide +kernel
theorem dX9_bagAt_9 : decode cX9_bagAt 9 = .ok (.iconst 1, 1) := by decide +kernel
theorem dX9_bagAt_10 : decode cX9_bagAt 10 = .ok (.isub, 1) := by decide +kernel
theorem dX9_bagAt_11 : decode cX9_bagAt 11 = .ok (.invokestatic 111, 3) := by decide +kernel
theorem dX9_bagAt_14 : decode cX9_bagAt 14 = .ok (.invokevirtual 353, 3) := by decide +kernel
theorem dX9_bagAt_17 : decode cX9_bagAt 17 = .ok (.ifCond .eq 16, 3) := by decide +kernel
theorem dX9_bagAt_20 : decode cX9_bagAt 20 = .ok (.aload_n 0, 1) := by decide +kernel
theorem dX9_bagAt_21 : decode cX9_bagAt 21 = .ok (.getfield 23, 3) := by decide +kernel
theorem dX9_bagAt_24 : decode cX9_bagAt 24 = .ok (.sipush 133, 3) := by decide +kernel
theorem dX9_bagAt_27 : decode cX9_bagAt 27 = .ok (.iload_n 1, 1) := by decide +kernel
theorem dX9_bagAt_28 : decode cX9_bagAt 28 = .ok (.iadd, 1) := by decide +kernel
theorem dX9_bagAt_29 : decode cX9_bagAt 29 = .ok (.iaload, 1) := by decide +kernel
theorem dX9_bagAt_30 : decode cX9_bagAt 30 = .ok (.goto 4, 3) := by decide +kernel
theorem dX9_bagAt_33 : decode cX9_bagAt 33 = .ok (.iconst 0, 1) := by decide +kernel
theorem dX9_bagAt_34 : decode cX9_bagAt 34 = .ok (.ireturn, 1) := by decide +kernel
theorem dX9_stateOfQueue_0 : decode cX9_stateOfQueue 0 = .ok (.iload_n 0, 1) := by decide +kernel
theorem dX9_stateOfQueue_1 : decode cX9_stateOfQueue 1 = .ok (.iconst 1, 1) := by decide +kernel
theorem dX9_stateOfQueue_2 : decode cX9_stateOfQueue 2 = .ok (.iconst 3, 1) := by decide +kernel
theorem dX9_stateOfQueue_3 : decode cX9_stateOfQueue 3 = .ok (.invokestatic 111, 3) := by decide +kernel
theorem dX9_stateOfQueue_6 : decode cX9_stateOfQueue 6 = .ok (.ifCond .eq 11, 3) := by decide +kernel
theorem dX9_stateOfQueue_9 : decode cX9_stateOfQueue 9 = .ok (.iconst 2, 1) := by decide +kernel
theorem dX9_stateOfQueue_10 : decode cX9_stateOfQueue 10 = .ok (.iload_n 0, 1) := by decide +kernel
theorem dX9_stateOfQueue_11 : decode cX9_stateOfQueue 11 = .ok (.imul, 1) := by decide +kernel
theorem dX9_stateOfQueue_12 : decode cX9_stateOfQueue 12 = .ok (.iconst 1, 1) := by decide +kernel
theorem dX9_stateOfQueue_13 : decode cX9_stateOfQueue 13 = .ok (.isub, 1) := by decide +kernel
theorem dX9_stateOfQueue_14 : decode cX9_stateOfQueue 14 = .ok (.goto 14, 3) := by decide +kernel
theorem dX9_stateOfQueue_17 : decode cX9_stateOfQueue 17 = .ok (.iload_n 0, 1) := by decide +kernel
theorem dX9_stateOfQueue_18 : decode cX9_stateOfQueue 18 = .ok (.iconst 4, 1) := by decide +kernel
theorem dX9_stateOfQueue_19 : decode cX9_stateOfQueue 19 = .ok (.if_icmp .ne 8, 3) := by decide +kernel
theorem dX9_stateOfQueue_22 : decode cX9_stateOfQueue 22 = .ok (.bipush 7, 2) := by decide +kernel
theorem dX9_stateOfQueue_24 : decode cX9_stateOfQueue 24 = .ok (.goto 4, 3) := by decide +kernel
theorem dX9_stateOfQueue_27 : decode cX9_stateOfQueue 27 = .ok (.iconst (-1), 1) := by decide +kernel
theorem dX9_stateOfQueue_28 : decode cX9_stateOfQueue 28 = .ok (.ireturn, 1) := by decide +kernel
theorem dX9_waiting_0 : decode cX9_waiting 0 = .ok (.aload_n 0, 1) := by decide +kernel
theorem dX9_waiting_1 : decode cX9_waiting 1 = .ok (.iconst 1, 1) := by decide +kernel
theorem dX9_waiting_2 : decode cX9_waiting 2 = .ok (.invokevirtual 353, 3) := by decide +kernel
theorem dX9_waiting_5 : decode cX9_waiting 5 = .ok (.ifCond .ne 5, 3) := by decide +kernel
theorem dX9_waiting_8 : decode cX9_waiting 8 = .ok (.iconst 0, 1) := by decide +kernel
theorem dX9_waiting_9 : decode cX9_waiting 9 = .ok (.ireturn, 1) := by decide +kernel
theorem dX9_waiting_10 : decode cX9_waiting 10 = .ok (.iload_n 1, 1) := by decide +kernel
theorem dX9_waiting_11 : decode cX9_waiting 11 = .ok (.iconst 1, 1) := by decide +kernel
theorem dX9_waiting_12 : decode cX9_waiting 12 = .ok (.iconst 4, 1) := by decide +kernel
theorem dX9_waiting_13 : decode cX9_waiting 13 = .ok (.invokestatic 111, 3) := by decide +kernel
theorem dX9_waiting_16 : decode cX9_waiting 16 = .ok (.ifCond .eq 17, 3) := by decide +kernel
theorem dX9_waiting_19 : decode cX9_waiting 19 = .ok (.aload_n 0, 1) := by decide +kernel
theorem dX9_waiting_20 : decode cX9_waiting 20 = .ok (.getfield 23, 3) := by decide +kernel
theorem dX9_waiting_23 : decode cX9_waiting 23 = .ok (.iload_n 1, 1) := by decide +kernel
theorem dX9_waiting_24 : decode cX9_waiting 24 = .ok (.invokestatic 363, 3) := by decide +kernel
theorem dX9_waiting_27 : decode cX9_waiting 27 = .ok (.invokestatic 276, 3) := by decide +kernel
theorem dX9_waiting_30 : decode cX9_waiting 30 = .ok (.goto 8, 3) := by decide +kernel
theorem dX9_waiting_33 : decode cX9_waiting 33 = .ok (.aload_n 0, 1) := by decide +kernel
theorem dX9_waiting_34 : decode cX9_waiting 34 = .ok (.iconst 2, 1) := by decide +kernel
theorem dX9_waiting_35 : decode cX9_waiting 35 = .ok (.invokevirtual 240, 3) := by decide +kernel
theorem dX9_waiting_38 : decode cX9_waiting 38 = .ok (.ireturn, 1) := by decide +kernel
theorem dX9_queueAt_0 : decode cX9_queueAt 0 = .ok (.iload_n 1, 1) := by decide +kernel
theorem dX9_queueAt_1 : decode cX9_queueAt 1 = .ok (.invokestatic 363, 3) := by decide +kernel
theorem dX9_queueAt_4 : decode cX9_queueAt 4 = .ok (.istore_n 3, 1) := by decide +kernel
theorem dX9_queueAt_5 : decode cX9_queueAt 5 = .ok (.aload_n 0, 1) := by decide +kernel
theorem dX9_queueAt_6 : decode cX9_queueAt 6 = .ok (.iload_n 3, 1) := by decide +kernel
theorem dX9_queueAt_7 : decode cX9_queueAt 7 = .ok (.iconst (-1), 1) := by decide +kernel
theorem dX9_queueAt_8 : decode cX9_queueAt 8 = .ok (.if_icmp .eq 25, 3) := by decide +kernel
theorem dX9_queueAt_11 : decode cX9_queueAt 11 = .ok (.iload_n 2, 1) := by decide +kernel
theorem dX9_queueAt_12 : decode cX9_queueAt 12 = .ok (.iconst 0, 1) := by decide +kernel
theorem dX9_queueAt_13 : decode cX9_queueAt 13 = .ok (.aload_n 0, 1) := by decide +kernel
theorem dX9_queueAt_14 : decode cX9_queueAt 14 = .ok (.getfield 23, 3) := by decide +kernel
theorem dX9_queueAt_17 : decode cX9_queueAt 17 = .ok (.iload_n 3, 1) := by decide +kernel
theorem dX9_queueAt_18 : decode cX9_queueAt 18 = .ok (.invokestatic 276, 3) := by decide +kernel
theorem dX9_queueAt_21 : decode cX9_queueAt 21 = .ok (.iconst 1, 1) := by decide +kernel
theorem dX9_queueAt_22 : decode cX9_queueAt 22 = .ok (.isub, 1) := by decide +kernel
theorem dX9_queueAt_23 : decode cX9_queueAt 23 = .ok (.invokestatic 111, 3) := by decide +kernel
theorem dX9_queueAt_26 : decode cX9_queueAt 26 = .ok (.ifCond .eq 7, 3) := by decide +kernel
theorem dX9_queueAt_29 : decode cX9_queueAt 29 = .ok (.iconst 1, 1) := by decide +kernel
theorem dX9_queueAt_30 : decode cX9_queueAt 30 = .ok (.goto 4, 3) := by decide +kernel
theorem dX9_queueAt_33 : decode cX9_queueAt 33 = .ok (.iconst 0, 1) := by decide +kernel
theorem dX9_queueAt_34 : decode cX9_queueAt 34 = .ok (.invokevirtual 353, 3) := by decide +kernel
theorem dX9_queueAt_37 : decode cX9_queueAt 37 = .ok (.ifCond .ne 5, 3) := by decide +kernel
theorem dX9_queueAt_40 : decode cX9_queueAt 40 = .ok (.iconst 0, 1) := by decide +kernel
theorem dX9_queueAt_41 : decode cX9_queueAt 41 = .ok (.ireturn, 1) := by decide +kernel
theorem dX9_queueAt_42 : decode cX9_queueAt 42 = .ok (.iconst 0, 1) := by decide +kernel
theorem dX9_queueAt_43 : decode cX9_queueAt 43 = .ok (.istore 4, 2) := by decide +kernel
theorem dX9_queueAt_45 : decode cX9_queueAt 45 = .ok (.iload 4, 2) := by decide +kernel
theorem dX9_queueAt_47 : decode cX9_queueAt 47 = .ok (.aload_n 0, 1) := by decide +kernel
theorem dX9_queueAt_48 : decode cX9_queueAt 48 = .ok (.getfield 23, 3) := by decide +kernel
theorem dX9_queueAt_51 : decode cX9_queueAt 51 = .ok (.iconst 2, 1) := by decide +kernel
theorem dX9_queueAt_52 : decode cX9_queueAt 52 = .ok (.iaload, 1) := by decide +kernel
theorem dX9_queueAt_53 : decode cX9_queueAt 53 = .ok (.if_icmp .ge 102, 3) := by decide +kernel
theorem dX9_queueAt_56 : decode cX9_queueAt 56 = .ok (.iconst 0, 1) := by decide +kernel
theorem dX9_queueAt_57 : decode cX9_queueAt 57 = .ok (.istore 5, 2) := by decide +kernel
theorem dX9_queueAt_59 : decode cX9_queueAt 59 = .ok (.iconst 0, 1) := by decide +kernel
theorem dX9_queueAt_60 : decode cX9_queueAt 60 = .ok (.istore 6, 2) := by decide +kernel
theorem dX9_queueAt_62 : decode cX9_queueAt 62 = .ok (.iload 6, 2) := by decide +kernel
theorem dX9_queueAt_64 : decode cX9_queueAt 64 = .ok (.aload_n 0, 1) := by decide +kernel
theorem dX9_queueAt_65 : decode cX9_queueAt 65 = .ok (.getfield 23, 3) := by decide +kernel
theorem dX9_queueAt_68 : decode cX9_queueAt 68 = .ok (.iconst 2, 1) := by decide +kernel
theorem dX9_queueAt_69 : decode cX9_queueAt 69 = .ok (.iaload, 1) := by decide +kernel
theorem dX9_queueAt_70 : decode cX9_queueAt 70 = .ok (.if_icmp .ge 55, 3) := by decide +kernel
theorem dX9_queueAt_73 : decode cX9_queueAt 73 = .ok (.iload 5, 2) := by decide +kernel
theorem dX9_queueAt_75 : decode cX9_queueAt 75 = .ok (.iload 6, 2) := by decide +kernel
theorem dX9_queueAt_77 : decode cX9_queueAt 77 = .ok (.iload 4, 2) := by decide +kernel
theorem dX9_queueAt_79 : decode cX9_queueAt 79 = .ok (.if_icmp .eq 36, 3) := by decide +kernel
theorem dX9_queueAt_82 : decode cX9_queueAt 82 = .ok (.aload_n 0, 1) := by decide +kernel
theorem dX9_queueAt_83 : decode cX9_queueAt 83 = .ok (.getfield 23, 3) := by decide +kernel
theorem dX9_queueAt_86 : decode cX9_queueAt 86 = .ok (.sipush 373, 3) := by decide +kernel
theorem dX9_queueAt_89 : decode cX9_queueAt 89 = .ok (.iload 6, 2) := by decide +kernel
theorem dX9_queueAt_91 : decode cX9_queueAt 91 = .ok (.iadd, 1) := by decide +kernel
theorem dX9_queueAt_92 : decode cX9_queueAt 92 = .ok (.iaload, 1) := by decide +kernel
theorem dX9_queueAt_93 : decode cX9_queueAt 93 = .ok (.iload_n 3, 1) := by decide +kernel
theorem dX9_queueAt_94 : decode cX9_queueAt 94 = .ok (.if_icmp .ne 21, 3) := by decide +kernel
theorem dX9_queueAt_97 : decode cX9_queueAt 97 = .ok (.aload_n 0, 1) := by decide +kernel
theorem dX9_queueAt_98 : decode cX9_queueAt 98 = .ok (.getfield 23, 3) := by decide +kernel
theorem dX9_queueAt_101 : decode cX9_queueAt 101 = .ok (.iload 6, 2) := by decide +kernel
theorem dX9_queueAt_103 : decode cX9_queueAt 103 = .ok (.iload 4, 2) := by decide +kernel
theorem dX9_queueAt_105 : decode cX9_queueAt 105 = .ok (.invokestatic 264, 3) := by decide +kernel
theorem dX9_queueAt_108 : decode cX9_queueAt 108 = .ok (.ifCond .eq 7, 3) := by decide +kernel
theorem dX9_queueAt_111 : decode cX9_queueAt 111 = .ok (.iconst 1, 1) := by decide +kernel
theorem dX9_queueAt_112 : decode cX9_queueAt 112 = .ok (.goto 4, 3) := by decide +kernel
theorem dX9_queueAt_115 : decode cX9_queueAt 115 = .ok (.iconst 0, 1) := by decide +kernel
theorem dX9_queueAt_116 : decode cX9_queueAt 116 = .ok (.iadd, 1) := by decide +kernel
theorem dX9_queueAt_117 : decode cX9_queueAt 117 = .ok (.istore 5, 2) := by decide +kernel
theorem dX9_queueAt_119 : decode cX9_queueAt 119 = .ok (.iinc 6 1, 3) := by decide +kernel
theorem dX9_queueAt_122 : decode cX9_queueAt 122 = .ok (.goto (-60), 3) := by decide +kernel
theorem dX9_queueAt_125 : decode cX9_queueAt 125 = .ok (.aload_n 0, 1) := by decide +kernel
theorem dX9_queueAt_126 : decode cX9_queueAt 126 = .ok (.getfield 23, 3) := by decide +kernel
theorem dX9_queueAt_129 : decode cX9_queueAt 129 = .ok (.sipush 373, 3) := by decide +kernel
theorem dX9_queueAt_132 : decode cX9_queueAt 132 = .ok (.iload 4, 2) := by decide +kernel
theorem dX9_queueAt_134 : decode cX9_queueAt 134 = .ok (.iadd, 1) := by decide +kernel
theorem dX9_queueAt_135 : decode cX9_queueAt 135 = .ok (.iaload, 1) := by decide +kernel
theorem dX9_queueAt_136 : decode cX9_queueAt 136 = .ok (.iload_n 3, 1) := by decide +kernel
theorem dX9_queueAt_137 : decode cX9_queueAt 137 = .ok (.if_icmp .ne 12, 3) := by decide +kernel
theorem dX9_queueAt_140 : decode cX9_queueAt 140 = .ok (.iload 5, 2) := by decide +kernel
theorem dX9_queueAt_142 : decode cX9_queueAt 142 = .ok (.iload_n 2, 1) := by decide +kernel
theorem dX9_queueAt_143 : decode cX9_queueAt 143 = .ok (.if_icmp .ne 6, 3) := by decide +kernel
theorem dX9_queueAt_146 : decode cX9_queueAt 146 = .ok (.iload 4, 2) := by decide +kernel
theorem dX9_queueAt_148 : decode cX9_queueAt 148 = .ok (.ireturn, 1) := by decide +kernel
theorem dX9_queueAt_149 : decode cX9_queueAt 149 = .ok (.iinc 4 1, 3) := by decide +kernel
theorem dX9_queueAt_152 : decode cX9_queueAt 152 = .ok (.goto (-107), 3) := by decide +kernel
theorem dX9_queueAt_155 : decode cX9_queueAt 155 = .ok (.iconst (-1), 1) := by decide +kernel
theorem dX9_queueAt_156 : decode cX9_queueAt 156 = .ok (.ireturn, 1) := by decide +kernel
theorem dX9_isMachine_0 : decode cX9_isMachine 0 = .ok (.iload_n 1, 1) := by decide +kernel
theorem dX9_isMachine_1 : decode cX9_isMachine 1 = .ok (.iconst 1, 1) := by decide +kernel
theorem dX9_isMachine_2 : decode cX9_isMachine 2 = .ok (.iconst 3, 1) := by decide +kernel
theorem dX9_isMachine_3 : decode cX9_isMachine 3 = .ok (.invokestatic 111, 3) := by decide +kernel
theorem dX9_isMachine_6 : decode cX9_isMachine 6 = .ok (.ifCond .eq 27, 3) := by decide +kernel
theorem dX9_isMachine_9 : decode cX9_isMachine 9 = .ok (.iload_n 2, 1) := by decide +kernel
theorem dX9_isMachine_10 : decode cX9_isMachine 10 = .ok (.iconst 0, 1) := by decide +kernel
theorem dX9_isMachine_11 : decode cX9_isMachine 11 = .ok (.aload_n 0, 1) := by decide +kernel
theorem dX9_isMachine_12 : decode cX9_isMachine 12 = .ok (.getfield 17, 3) := by decide +kernel
theorem dX9_isMachine_15 : decode cX9_isMachine 15 = .ok (.iconst 3, 1) := by decide +kernel
theorem dX9_isMachine_16 : decode cX9_isMachine 16 = .ok (.iload_n 1, 1) := by decide +kernel
theorem dX9_isMachine_17 : decode cX9_isMachine 17 = .ok (.iadd, 1) := by decide +kernel
theorem dX9_isMachine_18 : decode cX9_isMachine 18 = .ok (.iconst 1, 1) := by decide +kernel
theorem dX9_isMachine_19 : decode cX9_isMachine 19 = .ok (.isub, 1) := by decide +kernel
theorem dX9_isMachine_20 : decode cX9_isMachine 20 = .ok (.iaload, 1) := by decide +kernel
theorem dX9_isMachine_21 : decode cX9_isMachine 21 = .ok (.iconst 1, 1) := by decide +kernel
theorem dX9_isMachine_22 : decode cX9_isMachine 22 = .ok (.isub, 1) := by decide +kernel
theorem dX9_isMachine_23 : decode cX9_isMachine 23 = .ok (.invokestatic 111, 3) := by decide +kernel
theorem dX9_isMachine_26 : decode cX9_isMachine 26 = .ok (.ifCond .eq 7, 3) := by decide +kernel
theorem dX9_isMachine_29 : decode cX9_isMachine 29 = .ok (.iconst 1, 1) := by decide +kernel
theorem dX9_isMachine_30 : decode cX9_isMachine 30 = .ok (.goto 4, 3) := by decide +kernel
theorem dX9_isMachine_33 : decode cX9_isMachine 33 = .ok (.iconst 0, 1) := by decide +kernel
theorem dX9_isMachine_34 : decode cX9_isMachine 34 = .ok (.ireturn, 1) := by decide +kernel
theorem dX9_machineAt_0 : decode cX9_machineAt 0 = .ok (.aload_n 0, 1) := by decide +kernel
theorem dX9_machineAt_1 : decode cX9_machineAt 1 = .ok (.aload_n 0, 1) := by decide +kernel
theorem dX9_machineAt_2 : decode cX9_machineAt 2 = .ok (.iload_n 1, 1) := by decide +kernel
theorem dX9_machineAt_3 : decode cX9_machineAt 3 = .ok (.iload_n 2, 1) := by decide +kernel
theorem dX9_machineAt_4 : decode cX9_machineAt 4 = .ok (.invokevirtual 366, 3) := by decide +kernel
theorem dX9_machineAt_7 : decode cX9_machineAt 7 = .ok (.invokevirtual 353, 3) := by decide +kernel
theorem dX9_machineAt_10 : decode cX9_machineAt 10 = .ok (.ifCond .eq 21, 3) := by decide +kernel
theorem dX9_machineAt_13 : decode cX9_machineAt 13 = .ok (.aload_n 0, 1) := by decide +kernel
theorem dX9_machineAt_14 : decode cX9_machineAt 14 = .ok (.getfield 23, 3) := by decide +kernel
theorem dX9_machineAt_17 : decode cX9_machineAt 17 = .ok (.bipush 109, 2) := by decide +kernel
theorem dX9_machineAt_19 : decode cX9_machineAt 19 = .ok (.iconst 4, 1) := by decide +kernel
theorem dX9_machineAt_20 : decode cX9_machineAt 20 = .ok (.iload_n 1, 1) := by decide +kernel
theorem dX9_machineAt_21 : decode cX9_machineAt 21 = .ok (.iconst 1, 1) := by decide +kernel
theorem dX9_machineAt_22 : decode cX9_machineAt 22 = .ok (.isub, 1) := by decide +kernel
theorem dX9_machineAt_23 : decode cX9_machineAt 23 = .ok (.imul, 1) := by decide +kernel
theorem dX9_machineAt_24 : decode cX9_machineAt 24 = .ok (.iadd, 1) := by decide +kernel
theorem dX9_machineAt_25 : decode cX9_machineAt 25 = .ok (.iload_n 2, 1) := by decide +kernel
theorem dX9_machineAt_26 : decode cX9_machineAt 26 = .ok (.iadd, 1) := by decide +kernel
theorem dX9_machineAt_27 : decode cX9_machineAt 27 = .ok (.iaload, 1) := by decide +kernel
theorem dX9_machineAt_28 : decode cX9_machineAt 28 = .ok (.goto 4, 3) := by decide +kernel
theorem dX9_machineAt_31 : decode cX9_machineAt 31 = .ok (.iconst 0, 1) := by decide +kernel
theorem dX9_machineAt_32 : decode cX9_machineAt 32 = .ok (.ireturn, 1) := by decide +kernel
theorem dX9_brokenUntil_0 : decode cX9_brokenUntil 0 = .ok (.aload_n 0, 1) := by decide +kernel
theorem dX9_brokenUntil_1 : decode cX9_brokenUntil 1 = .ok (.aload_n 0, 1) := by decide +kernel
theorem dX9_brokenUntil_2 : decode cX9_brokenUntil 2 = .ok (.iload_n 1, 1) := by decide +kernel
theorem dX9_brokenUntil_3 : decode cX9_brokenUntil 3 = .ok (.iload_n 2, 1) := by decide +kernel
theorem dX9_brokenUntil_4 : decode cX9_brokenUntil 4 = .ok (.invokevirtual 366, 3) := by decide +kernel
theorem dX9_brokenUntil_7 : decode cX9_brokenUntil 7 = .ok (.invokevirtual 353, 3) := by decide +kernel
theorem dX9_brokenUntil_10 : decode cX9_brokenUntil 10 = .ok (.ifCond .eq 22, 3) := by decide +kernel
theorem dX9_brokenUntil_13 : decode cX9_brokenUntil 13 = .ok (.aload_n 0, 1) := by decide +kernel
theorem dX9_brokenUntil_14 : decode cX9_brokenUntil 14 = .ok (.getfield 23, 3) := by decide +kernel
theorem dX9_brokenUntil_17 : decode cX9_brokenUntil 17 = .ok (.sipush 2073, 3) := by decide +kernel
theorem dX9_brokenUntil_20 : decode cX9_brokenUntil 20 = .ok (.iconst 4, 1) := by decide +kernel
theorem dX9_brokenUntil_21 : decode cX9_brokenUntil 21 = .ok (.iload_n 1, 1) := by decide +kernel
theorem dX9_brokenUntil_22 : decode cX9_brokenUntil 22 = .ok (.iconst 1, 1) := by decide +kernel
theorem dX9_brokenUntil_23 : decode cX9_brokenUntil 23 = .ok (.isub, 1) := by decide +kernel
theorem dX9_brokenUntil_24 : decode cX9_brokenUntil 24 = .ok (.imul, 1) := by decide +kernel
theorem dX9_brokenUntil_25 : decode cX9_brokenUntil 25 = .ok (.iadd, 1) := by decide +kernel
theorem dX9_brokenUntil_26 : decode cX9_brokenUntil 26 = .ok (.iload_n 2, 1) := by decide +kernel
theorem dX9_brokenUntil_27 : decode cX9_brokenUntil 27 = .ok (.iadd, 1) := by decide +kernel
theorem dX9_brokenUntil_28 : decode cX9_brokenUntil 28 = .ok (.iaload, 1) := by decide +kernel
theorem dX9_brokenUntil_29 : decode cX9_brokenUntil 29 = .ok (.goto 4, 3) := by decide +kernel
theorem dX9_brokenUntil_32 : decode cX9_brokenUntil 32 = .ok (.iconst 0, 1) := by decide +kernel
theorem dX9_brokenUntil_33 : decode cX9_brokenUntil 33 = .ok (.ireturn, 1) := by decide +kernel
theorem dX9_stoppedUntil_0 : decode cX9_stoppedUntil 0 = .ok (.aload_n 0, 1) := by decide +kernel
theorem dX9_stoppedUntil_1 : decode cX9_stoppedUntil 1 = .ok (.aload_n 0, 1) := by decide +kernel
theorem dX9_stoppedUntil_2 : decode cX9_stoppedUntil 2 = .ok (.getfield 23, 3) := by decide +kernel
theorem dX9_stoppedUntil_5 : decode cX9_stoppedUntil 5 = .ok (.sipush 2085, 3) := by decide +kernel
theorem dX9_stoppedUntil_8 : decode cX9_stoppedUntil 8 = .ok (.iaload, 1) := by decide +kernel
theorem dX9_stoppedUntil_9 : decode cX9_stoppedUntil 9 = .ok (.invokevirtual 347, 3) := by decide +kernel
theorem dX9_stoppedUntil_12 : decode cX9_stoppedUntil 12 = .ok (.ireturn, 1) := by decide +kernel
theorem dX9_ticksTo_0 : decode cX9_ticksTo 0 = .ok (.aload_n 0, 1) := by decide +kernel
theorem dX9_ticksTo_1 : decode cX9_ticksTo 1 = .ok (.aload_n 0, 1) := by decide +kernel
theorem dX9_ticksTo_2 : decode cX9_ticksTo 2 = .ok (.iload_n 1, 1) := by decide +kernel
theorem dX9_ticksTo_3 : decode cX9_ticksTo 3 = .ok (.invokevirtual 350, 3) := by decide +kernel
theorem dX9_ticksTo_6 : decode cX9_ticksTo 6 = .ok (.invokevirtual 353, 3) := by decide +kernel
theorem dX9_ticksTo_9 : decode cX9_ticksTo 9 = .ok (.ifCond .ne 5, 3) := by decide +kernel
theorem dX9_ticksTo_12 : decode cX9_ticksTo 12 = .ok (.iconst 0, 1) := by decide +kernel
theorem dX9_ticksTo_13 : decode cX9_ticksTo 13 = .ok (.ireturn, 1) := by decide +kernel
theorem dX9_ticksTo_14 : decode cX9_ticksTo 14 = .ok (.aload_n 0, 1) := by decide +kernel
theorem dX9_ticksTo_15 : decode cX9_ticksTo 15 = .ok (.getfield 23, 3) := by decide +kernel
theorem dX9_ticksTo_18 : decode cX9_ticksTo 18 = .ok (.sipush 373, 3) := by decide +kernel
theorem dX9_ticksTo_21 : decode cX9_ticksTo 21 = .ok (.iload_n 1, 1) := by decide +kernel
theorem dX9_ticksTo_22 : decode cX9_ticksTo 22 = .ok (.iadd, 1) := by decide +kernel
theorem dX9_ticksTo_23 : decode cX9_ticksTo 23 = .ok (.iaload, 1) := by decide +kernel
theorem dX9_ticksTo_24 : decode cX9_ticksTo 24 = .ok (.bipush 8, 2) := by decide +kernel
theorem dX9_ticksTo_26 : decode cX9_ticksTo 26 = .ok (.if_icmp .eq 5, 3) := by decide +kernel
theorem dX9_ticksTo_29 : decode cX9_ticksTo 29 = .ok (.iconst (-1), 1) := by decide +kernel
theorem dX9_ticksTo_30 : decode cX9_ticksTo 30 = .ok (.ireturn, 1) := by decide +kernel
theorem dX9_ticksTo_31 : decode cX9_ticksTo 31 = .ok (.aload_n 0, 1) := by decide +kernel
theorem dX9_ticksTo_32 : decode cX9_ticksTo 32 = .ok (.getfield 17, 3) := by decide +kernel
theorem dX9_ticksTo_35 : decode cX9_ticksTo 35 = .ok (.bipush 15, 2) := by decide +kernel
theorem dX9_ticksTo_37 : decode cX9_ticksTo 37 = .ok (.aload_n 0, 1) := by decide +kernel
theorem dX9_ticksTo_38 : decode cX9_ticksTo 38 = .ok (.getfield 23, 3) := by decide +kernel
theorem dX9_ticksTo_41 : decode cX9_ticksTo 41 = .ok (.sipush 173, 3) := by decide +kernel
theorem dX9_ticksTo_44 : decode cX9_ticksTo 44 = .ok (.iload_n 1, 1) := by decide +kernel
theorem dX9_ticksTo_45 : decode cX9_ticksTo 45 = .ok (.iadd, 1) := by decide +kernel
theorem dX9_ticksTo_46 : decode cX9_ticksTo 46 = .ok (.iaload, 1) := by decide +kernel
theorem dX9_ticksTo_47 : decode cX9_ticksTo 47 = .ok (.iadd, 1) := by decide +kernel
theorem dX9_ticksTo_48 : decode cX9_ticksTo 48 = .ok (.iaload, 1) := by decide +kernel
theorem dX9_ticksTo_49 : decode cX9_ticksTo 49 = .ok (.aload_n 0, 1) := by decide +kernel
theorem dX9_ticksTo_50 : decode cX9_ticksTo 50 = .ok (.getfield 23, 3) := by decide +kernel
theorem dX9_ticksTo_53 : decode cX9_ticksTo 53 = .ok (.sipush 473, 3) := by decide +kernel
theorem dX9_ticksTo_56 : decode cX9_ticksTo 56 = .ok (.iload_n 1, 1) := by decide +kernel
theorem dX9_ticksTo_57 : decode cX9_ticksTo 57 = .ok (.iadd, 1) := by decide +kernel
theorem dX9_ticksTo_58 : decode cX9_ticksTo 58 = .ok (.iaload, 1) := by decide +kernel
theorem dX9_ticksTo_59 : decode cX9_ticksTo 59 = .ok (.isub, 1) := by decide +kernel
theorem dX9_ticksTo_60 : decode cX9_ticksTo 60 = .ok (.aload_n 0, 1) := by decide +kernel
theorem dX9_ticksTo_61 : decode cX9_ticksTo 61 = .ok (.getfield 17, 3) := by decide +kernel
theorem dX9_ticksTo_64 : decode cX9_ticksTo 64 = .ok (.iconst 0, 1) := by decide +kernel
theorem dX9_ticksTo_65 : decode cX9_ticksTo 65 = .ok (.iaload, 1) := by decide +kernel
theorem dX9_ticksTo_66 : decode cX9_ticksTo 66 = .ok (.iadd, 1) := by decide +kernel
theorem dX9_ticksTo_67 : decode cX9_ticksTo 67 = .ok (.aload_n 0, 1) := by decide +kernel
theorem dX9_ticksTo_68 : decode cX9_ticksTo 68 = .ok (.getfield 17, 3) := by decide +kernel
theorem dX9_ticksTo_71 : decode cX9_ticksTo 71 = .ok (.iconst 0, 1) := by decide +kernel
theorem dX9_ticksTo_72 : decode cX9_ticksTo 72 = .ok (.iaload, 1) := by decide +kernel
theorem dX9_ticksTo_73 : decode cX9_ticksTo 73 = .ok (.irem, 1) := by decide +kernel
theorem dX9_ticksTo_74 : decode cX9_ticksTo 74 = .ok (.ireturn, 1) := by decide +kernel
theorem dX9_laneSize_0 : decode cX9_laneSize 0 = .ok (.aload_n 0, 1) := by decide +kernel
theorem dX9_laneSize_1 : decode cX9_laneSize 1 = .ok (.aload_n 0, 1) := by decide +kernel
theorem dX9_laneSize_2 : decode cX9_laneSize 2 = .ok (.iload_n 1, 1) := by decide +kernel
theorem dX9_laneSize_3 : decode cX9_laneSize 3 = .ok (.invokevirtual 370, 3) := by decide +kernel
theorem dX9_laneSize_6 : decode cX9_laneSize 6 = .ok (.invokevirtual 353, 3) := by decide +kernel
theorem dX9_laneSize_9 : decode cX9_laneSize 9 = .ok (.ifCond .eq 15, 3) := by decide +kernel
theorem dX9_laneSize_12 : decode cX9_laneSize 12 = .ok (.aload_n 0, 1) := by decide +kernel
theorem dX9_laneSize_13 : decode cX9_laneSize 13 = .ok (.getfield 23, 3) := by decide +kernel
theorem dX9_laneSize_16 : decode cX9_laneSize 16 = .ok (.bipush 21, 2) := by decide +kernel
theorem dX9_laneSize_18 : decode cX9_laneSize 18 = .ok (.iload_n 1, 1) := by decide +kernel
theorem dX9_laneSize_19 : decode cX9_laneSize 19 = .ok (.iadd, 1) := by decide +kernel
theorem dX9_laneSize_20 : decode cX9_laneSize 20 = .ok (.iaload, 1) := by decide +kernel
theorem dX9_laneSize_21 : decode cX9_laneSize 21 = .ok (.goto 4, 3) := by decide +kernel
theorem dX9_laneSize_24 : decode cX9_laneSize 24 = .ok (.iconst 0, 1) := by decide +kernel
theorem dX9_laneSize_25 : decode cX9_laneSize 25 = .ok (.ireturn, 1) := by decide +kernel
theorem dX9_laneAt_0 : decode cX9_laneAt 0 = .ok (.aload_n 0, 1) := by decide +kernel
theorem dX9_laneAt_1 : decode cX9_laneAt 1 = .ok (.aload_n 0, 1) := by decide +kernel
theorem dX9_laneAt_2 : decode cX9_laneAt 2 = .ok (.iload_n 1, 1) := by decide +kernel
theorem dX9_laneAt_3 : decode cX9_laneAt 3 = .ok (.invokevirtual 370, 3) := by decide +kernel
theorem dX9_laneAt_6 : decode cX9_laneAt 6 = .ok (.ifCond .eq 26, 3) := by decide +kernel
theorem dX9_laneAt_9 : decode cX9_laneAt 9 = .ok (.iload_n 2, 1) := by decide +kernel
theorem dX9_laneAt_10 : decode cX9_laneAt 10 = .ok (.iconst 0, 1) := by decide +kernel
theorem dX9_laneAt_11 : decode cX9_laneAt 11 = .ok (.aload_n 0, 1) := by decide +kernel
theorem dX9_laneAt_12 : decode cX9_laneAt 12 = .ok (.getfield 23, 3) := by decide +kernel
theorem dX9_laneAt_15 : decode cX9_laneAt 15 = .ok (.bipush 21, 2) := by decide +kernel
theorem dX9_laneAt_17 : decode cX9_laneAt 17 = .ok (.iload_n 1, 1) := by decide +kernel
theorem dX9_laneAt_18 : decode cX9_laneAt 18 = .ok (.iadd, 1) := by decide +kernel
theorem dX9_laneAt_19 : decode cX9_laneAt 19 = .ok (.iaload, 1) := by decide +kernel
theorem dX9_laneAt_20 : decode cX9_laneAt 20 = .ok (.iconst 1, 1) := by decide +kernel
theorem dX9_laneAt_21 : decode cX9_laneAt 21 = .ok (.isub, 1) := by decide +kernel
theorem dX9_laneAt_22 : decode cX9_laneAt 22 = .ok (.invokestatic 111, 3) := by decide +kernel
theorem dX9_laneAt_25 : decode cX9_laneAt 25 = .ok (.ifCond .eq 7, 3) := by decide +kernel
theorem dX9_laneAt_28 : decode cX9_laneAt 28 = .ok (.iconst 1, 1) := by decide +kernel
theorem dX9_laneAt_29 : decode cX9_laneAt 29 = .ok (.goto 4, 3) := by decide +kernel
theorem dX9_laneAt_32 : decode cX9_laneAt 32 = .ok (.iconst 0, 1) := by decide +kernel
theorem dX9_laneAt_33 : decode cX9_laneAt 33 = .ok (.invokevirtual 353, 3) := by decide +kernel
theorem dX9_laneAt_36 : decode cX9_laneAt 36 = .ok (.ifCond .eq 20, 3) := by decide +kernel
theorem dX9_laneAt_39 : decode cX9_laneAt 39 = .ok (.aload_n 0, 1) := by decide +kernel
theorem dX9_laneAt_40 : decode cX9_laneAt 40 = .ok (.getfield 23, 3) := by decide +kernel
theorem dX9_laneAt_43 : decode cX9_laneAt 43 = .ok (.bipush 29, 2) := by decide +kernel
theorem dX9_laneAt_45 : decode cX9_laneAt 45 = .ok (.bipush 20, 2) := by decide +kernel
theorem dX9_laneAt_47 : decode cX9_laneAt 47 = .ok (.iload_n 1, 1) := by decide +kernel
theorem dX9_laneAt_48 : decode cX9_laneAt 48 = .ok (.imul, 1) := by decide +kernel
theorem dX9_laneAt_49 : decode cX9_laneAt 49 = .ok (.iadd, 1) := by decide +kernel
theorem dX9_laneAt_50 : decode cX9_laneAt 50 = .ok (.iload_n 2, 1) := by decide +kernel
theorem dX9_laneAt_51 : decode cX9_laneAt 51 = .ok (.iadd, 1) := by decide +kernel
theorem dX9_laneAt_52 : decode cX9_laneAt 52 = .ok (.iaload, 1) := by decide +kernel
theorem dX9_laneAt_53 : decode cX9_laneAt 53 = .ok (.goto 4, 3) := by decide +kernel
theorem dX9_laneAt_56 : decode cX9_laneAt 56 = .ok (.iconst 0, 1) := by decide +kernel
theorem dX9_laneAt_57 : decode cX9_laneAt 57 = .ok (.ireturn, 1) := by decide +kernel
theorem dX9_flightState_0 : decode cX9_flightState 0 = .ok (.aload_n 0, 1) := by decide +kernel
theorem dX9_flightState_1 : decode cX9_flightState 1 = .ok (.aload_n 0, 1) := by decide +kernel
theorem dX9_flightState_2 : decode cX9_flightState 2 = .ok (.iload_n 1, 1) := by decide +kernel
theorem dX9_flightState_3 : decode cX9_flightState 3 = .ok (.invokevirtual 373, 3) := by decide +kernel
theorem dX9_flightState_6 : decode cX9_flightState 6 = .ok (.invokevirtual 353, 3) := by decide +kernel
theorem dX9_flightState_9 : decode cX9_flightState 9 = .ok (.ifCond .eq 14, 3) := by decide +kernel
theorem dX9_flightState_12 : decode cX9_flightState 12 = .ok (.aload_n 0, 1) := by decide +kernel
theorem dX9_flightState_13 : decode cX9_flightState 13 = .ok (.getfield 23, 3) := by decide +kernel
theorem dX9_flightState_16 : decode cX9_flightState 16 = .ok (.iload_n 1, 1) := by decide +kernel
theorem dX9_flightState_17 : decode cX9_flightState 17 = .ok (.invokestatic 257, 3) := by decide +kernel
theorem dX9_flightState_20 : decode cX9_flightState 20 = .ok (.goto 4, 3) := by decide +kernel
theorem dX9_flightState_23 : decode cX9_flightState 23 = .ok (.iconst 0, 1) := by decide +kernel
theorem dX9_flightState_24 : decode cX9_flightState 24 = .ok (.ireturn, 1) := by decide +kernel
theorem dX9_openOf_0 : decode cX9_openOf 0 = .ok (.aload_n 0, 1) := by decide +kernel
theorem dX9_openOf_1 : decode cX9_openOf 1 = .ok (.aload_n 0, 1) := by decide +kernel
theorem dX9_openOf_2 : decode cX9_openOf 2 = .ok (.iload_n 1, 1) := by decide +kernel
theorem dX9_openOf_3 : decode cX9_openOf 3 = .ok (.invokevirtual 373, 3) := by decide +kernel
theorem dX9_openOf_6 : decode cX9_openOf 6 = .ok (.invokevirtual 353, 3) := by decide +kernel
theorem dX9_openOf_9 : decode cX9_openOf 9 = .ok (.ifCond .eq 14, 3) := by decide +kernel
theorem dX9_openOf_12 : decode cX9_openOf 12 = .ok (.aload_n 0, 1) := by decide +kernel
theorem dX9_openOf_13 : decode cX9_openOf 13 = .ok (.getfield 23, 3) := by decide +kernel
theorem dX9_openOf_16 : decode cX9_openOf 16 = .ok (.iconst 5, 1) := by decide +kernel
theorem dX9_openOf_17 : decode cX9_openOf 17 = .ok (.iload_n 1, 1) := by decide +kernel
theorem dX9_openOf_18 : decode cX9_openOf 18 = .ok (.iadd, 1) := by decide +kernel
theorem dX9_openOf_19 : decode cX9_openOf 19 = .ok (.iaload, 1) := by decide +kernel
theorem dX9_openOf_20 : decode cX9_openOf 20 = .ok (.goto 4, 3) := by decide +kernel
theorem dX9_openOf_23 : decode cX9_openOf 23 = .ok (.iconst 0, 1) := by decide +kernel
theorem dX9_openOf_24 : decode cX9_openOf 24 = .ok (.ireturn, 1) := by decide +kernel
theorem dX9_closeOf_0 : decode cX9_closeOf 0 = .ok (.aload_n 0, 1) := by decide +kernel
theorem dX9_closeOf_1 : decode cX9_closeOf 1 = .ok (.aload_n 0, 1) := by decide +kernel
theorem dX9_closeOf_2 : decode cX9_closeOf 2 = .ok (.iload_n 1, 1) := by decide +kernel
theorem dX9_closeOf_3 : decode cX9_closeOf 3 = .ok (.invokevirtual 373, 3) := by decide +kernel
theorem dX9_closeOf_6 : decode cX9_closeOf 6 = .ok (.invokevirtual 353, 3) := by decide +kernel
theorem dX9_closeOf_9 : decode cX9_closeOf 9 = .ok (.ifCond .eq 15, 3) := by decide +kernel
theorem dX9_closeOf_12 : decode cX9_closeOf 12 = .ok (.aload_n 0, 1) := by decide +kernel
theorem dX9_closeOf_13 : decode cX9_closeOf 13 = .ok (.getfield 23, 3) := by decide +kernel
theorem dX9_closeOf_16 : decode cX9_closeOf 16 = .ok (.bipush 13, 2) := by decide +kernel
theorem dX9_closeOf_18 : decode cX9_closeOf 18 = .ok (.iload_n 1, 1) := by decide +kernel
theorem dX9_closeOf_19 : decode cX9_closeOf 19 = .ok (.iadd, 1) := by decide +kernel
theorem dX9_closeOf_20 : decode cX9_closeOf 20 = .ok (.iaload, 1) := by decide +kernel
theorem dX9_closeOf_21 : decode cX9_closeOf 21 = .ok (.goto 4, 3) := by decide +kernel
theorem dX9_closeOf_24 : decode cX9_closeOf 24 = .ok (.iconst 0, 1) := by decide +kernel
theorem dX9_closeOf_25 : decode cX9_closeOf 25 = .ok (.ireturn, 1) := by decide +kernel
theorem dX9_bagsOf_0 : decode cX9_bagsOf 0 = .ok (.iconst 0, 1) := by decide +kernel
theorem dX9_bagsOf_1 : decode cX9_bagsOf 1 = .ok (.istore 4, 2) := by decide +kernel
theorem dX9_bagsOf_3 : decode cX9_bagsOf 3 = .ok (.iconst 0, 1) := by decide +kernel
theorem dX9_bagsOf_4 : decode cX9_bagsOf 4 = .ok (.istore 5, 2) := by decide +kernel
theorem dX9_bagsOf_6 : decode cX9_bagsOf 6 = .ok (.iload 5, 2) := by decide +kernel
theorem dX9_bagsOf_8 : decode cX9_bagsOf 8 = .ok (.aload_n 0, 1) := by decide +kernel
theorem dX9_bagsOf_9 : decode cX9_bagsOf 9 = .ok (.getfield 23, 3) := by decide +kernel
theorem dX9_bagsOf_12 : decode cX9_bagsOf 12 = .ok (.iconst 2, 1) := by decide +kernel
theorem dX9_bagsOf_13 : decode cX9_bagsOf 13 = .ok (.iaload, 1) := by decide +kernel
theorem dX9_bagsOf_14 : decode cX9_bagsOf 14 = .ok (.if_icmp .ge 53, 3) := by decide +kernel
theorem dX9_bagsOf_17 : decode cX9_bagsOf 17 = .ok (.iload 4, 2) := by decide +kernel
theorem dX9_bagsOf_19 : decode cX9_bagsOf 19 = .ok (.aload_n 0, 1) := by decide +kernel
theorem dX9_bagsOf_20 : decode cX9_bagsOf 20 = .ok (.getfield 23, 3) := by decide +kernel
theorem dX9_bagsOf_23 : decode cX9_bagsOf 23 = .ok (.sipush 173, 3) := by decide +kernel
theorem dX9_bagsOf_26 : decode cX9_bagsOf 26 = .ok (.iload 5, 2) := by decide +kernel
theorem dX9_bagsOf_28 : decode cX9_bagsOf 28 = .ok (.iadd, 1) := by decide +kernel
theorem dX9_bagsOf_29 : decode cX9_bagsOf 29 = .ok (.iaload, 1) := by decide +kernel
theorem dX9_bagsOf_30 : decode cX9_bagsOf 30 = .ok (.iload_n 1, 1) := by decide +kernel
theorem dX9_bagsOf_31 : decode cX9_bagsOf 31 = .ok (.if_icmp .ne 26, 3) := by decide +kernel
theorem dX9_bagsOf_34 : decode cX9_bagsOf 34 = .ok (.aload_n 0, 1) := by decide +kernel
theorem dX9_bagsOf_35 : decode cX9_bagsOf 35 = .ok (.getfield 23, 3) := by decide +kernel
theorem dX9_bagsOf_38 : decode cX9_bagsOf 38 = .ok (.sipush 373, 3) := by decide +kernel
theorem dX9_bagsOf_41 : decode cX9_bagsOf 41 = .ok (.iload 5, 2) := by decide +kernel
theorem dX9_bagsOf_43 : decode cX9_bagsOf 43 = .ok (.iadd, 1) := by decide +kernel
theorem dX9_bagsOf_44 : decode cX9_bagsOf 44 = .ok (.iaload, 1) := by decide +kernel
theorem dX9_bagsOf_45 : decode cX9_bagsOf 45 = .ok (.iload_n 2, 1) := by decide +kernel
theorem dX9_bagsOf_46 : decode cX9_bagsOf 46 = .ok (.iload_n 3, 1) := by decide +kernel
theorem dX9_bagsOf_47 : decode cX9_bagsOf 47 = .ok (.invokestatic 111, 3) := by decide +kernel
theorem dX9_bagsOf_50 : decode cX9_bagsOf 50 = .ok (.ifCond .eq 7, 3) := by decide +kernel
theorem dX9_bagsOf_53 : decode cX9_bagsOf 53 = .ok (.iconst 1, 1) := by decide +kernel
theorem dX9_bagsOf_54 : decode cX9_bagsOf 54 = .ok (.goto 4, 3) := by decide +kernel
theorem dX9_bagsOf_57 : decode cX9_bagsOf 57 = .ok (.iconst 0, 1) := by decide +kernel
theorem dX9_bagsOf_58 : decode cX9_bagsOf 58 = .ok (.iadd, 1) := by decide +kernel
theorem dX9_bagsOf_59 : decode cX9_bagsOf 59 = .ok (.istore 4, 2) := by decide +kernel
theorem dX9_bagsOf_61 : decode cX9_bagsOf 61 = .ok (.iinc 5 1, 3) := by decide +kernel
theorem dX9_bagsOf_64 : decode cX9_bagsOf 64 = .ok (.goto (-58), 3) := by decide +kernel
theorem dX9_bagsOf_67 : decode cX9_bagsOf 67 = .ok (.iload 4, 2) := by decide +kernel
theorem dX9_bagsOf_69 : decode cX9_bagsOf 69 = .ok (.ireturn, 1) := by decide +kernel
theorem dX9_countOf_0 : decode cX9_countOf 0 = .ok (.aload_n 0, 1) := by decide +kernel
theorem dX9_countOf_1 : decode cX9_countOf 1 = .ok (.aload_n 0, 1) := by decide +kernel
theorem dX9_countOf_2 : decode cX9_countOf 2 = .ok (.iload_n 1, 1) := by decide +kernel
theorem dX9_countOf_3 : decode cX9_countOf 3 = .ok (.invokevirtual 373, 3) := by decide +kernel
theorem dX9_countOf_6 : decode cX9_countOf 6 = .ok (.invokevirtual 353, 3) := by decide +kernel
theorem dX9_countOf_9 : decode cX9_countOf 9 = .ok (.ifCond .ne 5, 3) := by decide +kernel
theorem dX9_countOf_12 : decode cX9_countOf 12 = .ok (.iconst 0, 1) := by decide +kernel
theorem dX9_countOf_13 : decode cX9_countOf 13 = .ok (.ireturn, 1) := by decide +kernel
theorem dX9_countOf_14 : decode cX9_countOf 14 = .ok (.iload_n 2, 1) := by decide +kernel
theorem dX9_countOf_15 : decode cX9_countOf 15 = .ok (.iconst 0, 1) := by decide +kernel
theorem dX9_countOf_16 : decode cX9_countOf 16 = .ok (.bipush 13, 2) := by decide +kernel
theorem dX9_countOf_18 : decode cX9_countOf 18 = .ok (.invokestatic 111, 3) := by decide +kernel
theorem dX9_countOf_21 : decode cX9_countOf 21 = .ok (.ifCond .eq 13, 3) := by decide +kernel
theorem dX9_countOf_24 : decode cX9_countOf 24 = .ok (.aload_n 0, 1) := by decide +kernel
theorem dX9_countOf_25 : decode cX9_countOf 25 = .ok (.iload_n 1, 1) := by decide +kernel
theorem dX9_countOf_26 : decode cX9_countOf 26 = .ok (.iload_n 2, 1) := by decide +kernel
theorem dX9_countOf_27 : decode cX9_countOf 27 = .ok (.iload_n 2, 1) := by decide +kernel
theorem dX9_countOf_28 : decode cX9_countOf 28 = .ok (.invokevirtual 376, 3) := by decide +kernel
theorem dX9_countOf_31 : decode cX9_countOf 31 = .ok (.goto 8, 3) := by decide +kernel
theorem dX9_countOf_34 : decode cX9_countOf 34 = .ok (.aload_n 0, 1) := by decide +kernel
theorem dX9_countOf_35 : decode cX9_countOf 35 = .ok (.iconst 3, 1) := by decide +kernel
theorem dX9_countOf_36 : decode cX9_countOf 36 = .ok (.invokevirtual 240, 3) := by decide +kernel
theorem dX9_countOf_39 : decode cX9_countOf 39 = .ok (.ireturn, 1) := by decide +kernel
theorem dX9_missing_0 : decode cX9_missing 0 = .ok (.aload_n 0, 1) := by decide +kernel
theorem dX9_missing_1 : decode cX9_missing 1 = .ok (.aload_n 0, 1) := by decide +kernel
theorem dX9_missing_2 : decode cX9_missing 2 = .ok (.iload_n 1, 1) := by decide +kernel
theorem dX9_missing_3 : decode cX9_missing 3 = .ok (.invokevirtual 373, 3) := by decide +kernel
theorem dX9_missing_6 : decode cX9_missing 6 = .ok (.invokevirtual 353, 3) := by decide +kernel
theorem dX9_missing_9 : decode cX9_missing 9 = .ok (.ifCond .eq 14, 3) := by decide +kernel
theorem dX9_missing_12 : decode cX9_missing 12 = .ok (.aload_n 0, 1) := by decide +kernel
theorem dX9_missing_13 : decode cX9_missing 13 = .ok (.iload_n 1, 1) := by decide +kernel
theorem dX9_missing_14 : decode cX9_missing 14 = .ok (.iconst 0, 1) := by decide +kernel
theorem dX9_missing_15 : decode cX9_missing 15 = .ok (.bipush 9, 2) := by decide +kernel
theorem dX9_missing_17 : decode cX9_missing 17 = .ok (.invokevirtual 376, 3) := by decide +kernel
theorem dX9_missing_20 : decode cX9_missing 20 = .ok (.goto 4, 3) := by decide +kernel
theorem dX9_missing_23 : decode cX9_missing 23 = .ok (.iconst 0, 1) := by decide +kernel
theorem dX9_missing_24 : decode cX9_missing 24 = .ok (.ireturn, 1) := by decide +kernel
theorem dX9_loadedShare_0 : decode cX9_loadedShare 0 = .ok (.aload_n 0, 1) := by decide +kernel
theorem dX9_loadedShare_1 : decode cX9_loadedShare 1 = .ok (.aload_n 0, 1) := by decide +kernel
theorem dX9_loadedShare_2 : decode cX9_loadedShare 2 = .ok (.iload_n 1, 1) := by decide +kernel
theorem dX9_loadedShare_3 : decode cX9_loadedShare 3 = .ok (.invokevirtual 373, 3) := by decide +kernel
theorem dX9_loadedShare_6 : decode cX9_loadedShare 6 = .ok (.invokevirtual 353, 3) := by decide +kernel
theorem dX9_loadedShare_9 : decode cX9_loadedShare 9 = .ok (.ifCond .ne 5, 3) := by decide +kernel
theorem dX9_loadedShare_12 : decode cX9_loadedShare 12 = .ok (.fconst 0, 1) := by decide +kernel
theorem dX9_loadedShare_13 : decode cX9_loadedShare 13 = .ok (.freturn, 1) := by decide +kernel
theorem dX9_loadedShare_14 : decode cX9_loadedShare 14 = .ok (.aload_n 0, 1) := by decide +kernel
theorem dX9_loadedShare_15 : decode cX9_loadedShare 15 = .ok (.iload_n 1, 1) := by decide +kernel
theorem dX9_loadedShare_16 : decode cX9_loadedShare 16 = .ok (.iconst 0, 1) := by decide +kernel
theorem dX9_loadedShare_17 : decode cX9_loadedShare 17 = .ok (.bipush 13, 2) := by decide +kernel
theorem dX9_loadedShare_19 : decode cX9_loadedShare 19 = .ok (.invokevirtual 376, 3) := by decide +kernel
theorem dX9_loadedShare_22 : decode cX9_loadedShare 22 = .ok (.istore_n 2, 1) := by decide +kernel
theorem dX9_loadedShare_23 : decode cX9_loadedShare 23 = .ok (.iload_n 2, 1) := by decide +kernel
theorem dX9_loadedShare_24 : decode cX9_loadedShare 24 = .ok (.ifCond .ne 7, 3) := by decide +kernel
theorem dX9_loadedShare_27 : decode cX9_loadedShare 27 = .ok (.fconst 0, 1) := by decide +kernel
theorem dX9_loadedShare_28 : decode cX9_loadedShare 28 = .ok (.goto 16, 3) := by decide +kernel
theorem dX9_loadedShare_31 : decode cX9_loadedShare 31 = .ok (.aload_n 0, 1) := by decide +kernel
theorem dX9_loadedShare_32 : decode cX9_loadedShare 32 = .ok (.iload_n 1, 1) := by decide +kernel
theorem dX9_loadedShare_33 : decode cX9_loadedShare 33 = .ok (.bipush 10, 2) := by decide +kernel
theorem dX9_loadedShare_35 : decode cX9_loadedShare 35 = .ok (.bipush 10, 2) := by decide +kernel
theorem dX9_loadedShare_37 : decode cX9_loadedShare 37 = .ok (.invokevirtual 376, 3) := by decide +kernel
theorem dX9_loadedShare_40 : decode cX9_loadedShare 40 = .ok (.i2f, 1) := by decide +kernel
theorem dX9_loadedShare_41 : decode cX9_loadedShare 41 = .ok (.iload_n 2, 1) := by decide +kernel
theorem dX9_loadedShare_42 : decode cX9_loadedShare 42 = .ok (.i2f, 1) := by decide +kernel
theorem dX9_loadedShare_43 : decode cX9_loadedShare 43 = .ok (.fdiv, 1) := by decide +kernel
theorem dX9_loadedShare_44 : decode cX9_loadedShare 44 = .ok (.freturn, 1) := by decide +kernel
theorem dX9_took_0 : decode cX9_took 0 = .ok (.aload_n 0, 1) := by decide +kernel
theorem dX9_took_1 : decode cX9_took 1 = .ok (.getfield 23, 3) := by decide +kernel
theorem dX9_took_4 : decode cX9_took 4 = .ok (.sipush 773, 3) := by decide +kernel
theorem dX9_took_7 : decode cX9_took 7 = .ok (.iload_n 1, 1) := by decide +kernel
theorem dX9_took_8 : decode cX9_took 8 = .ok (.iadd, 1) := by decide +kernel
theorem dX9_took_9 : decode cX9_took 9 = .ok (.iaload, 1) := by decide +kernel
theorem dX9_took_10 : decode cX9_took 10 = .ok (.aload_n 0, 1) := by decide +kernel
theorem dX9_took_11 : decode cX9_took 11 = .ok (.getfield 23, 3) := by decide +kernel
theorem dX9_took_14 : decode cX9_took 14 = .ok (.sipush 273, 3) := by decide +kernel
theorem dX9_took_17 : decode cX9_took 17 = .ok (.iload_n 1, 1) := by decide +kernel
theorem dX9_took_18 : decode cX9_took 18 = .ok (.iadd, 1) := by decide +kernel
theorem dX9_took_19 : decode cX9_took 19 = .ok (.iaload, 1) := by decide +kernel
theorem dX9_took_20 : decode cX9_took 20 = .ok (.isub, 1) := by decide +kernel
theorem dX9_took_21 : decode cX9_took 21 = .ok (.ireturn, 1) := by decide +kernel
theorem dX9_isLoadedOf_0 : decode cX9_isLoadedOf 0 = .ok (.aload_n 0, 1) := by decide +kernel
theorem dX9_isLoadedOf_1 : decode cX9_isLoadedOf 1 = .ok (.getfield 23, 3) := by decide +kernel
theorem dX9_isLoadedOf_4 : decode cX9_isLoadedOf 4 = .ok (.sipush 173, 3) := by decide +kernel
theorem dX9_isLoadedOf_7 : decode cX9_isLoadedOf 7 = .ok (.iload_n 1, 1) := by decide +kernel
theorem dX9_isLoadedOf_8 : decode cX9_isLoadedOf 8 = .ok (.iadd, 1) := by decide +kernel
theorem dX9_isLoadedOf_9 : decode cX9_isLoadedOf 9 = .ok (.iaload, 1) := by decide +kernel
theorem dX9_isLoadedOf_10 : decode cX9_isLoadedOf 10 = .ok (.iload_n 2, 1) := by decide +kernel
theorem dX9_isLoadedOf_11 : decode cX9_isLoadedOf 11 = .ok (.if_icmp .ne 22, 3) := by decide +kernel
theorem dX9_isLoadedOf_14 : decode cX9_isLoadedOf 14 = .ok (.aload_n 0, 1) := by decide +kernel
theorem dX9_isLoadedOf_15 : decode cX9_isLoadedOf 15 = .ok (.getfield 23, 3) := by decide +kernel
theorem dX9_isLoadedOf_18 : decode cX9_isLoadedOf 18 = .ok (.sipush 373, 3) := by decide +kernel
theorem dX9_isLoadedOf_21 : decode cX9_isLoadedOf 21 = .ok (.iload_n 1, 1) := by decide +kernel
theorem dX9_isLoadedOf_22 : decode cX9_isLoadedOf 22 = .ok (.iadd, 1) := by decide +kernel
theorem dX9_isLoadedOf_23 : decode cX9_isLoadedOf 23 = .ok (.iaload, 1) := by decide +kernel
theorem dX9_isLoadedOf_24 : decode cX9_isLoadedOf 24 = .ok (.bipush 10, 2) := by decide +kernel
theorem dX9_isLoadedOf_26 : decode cX9_isLoadedOf 26 = .ok (.if_icmp .ne 7, 3) := by decide +kernel
theorem dX9_isLoadedOf_29 : decode cX9_isLoadedOf 29 = .ok (.iconst 1, 1) := by decide +kernel
theorem dX9_isLoadedOf_30 : decode cX9_isLoadedOf 30 = .ok (.goto 4, 3) := by decide +kernel
theorem dX9_isLoadedOf_33 : decode cX9_isLoadedOf 33 = .ok (.iconst 0, 1) := by decide +kernel
theorem dX9_isLoadedOf_34 : decode cX9_isLoadedOf 34 = .ok (.ireturn, 1) := by decide +kernel
theorem dX9_percentile_0 : decode cX9_percentile 0 = .ok (.aload_n 0, 1) := by decide +kernel
theorem dX9_percentile_1 : decode cX9_percentile 1 = .ok (.aload_n 0, 1) := by decide +kernel
theorem dX9_percentile_2 : decode cX9_percentile 2 = .ok (.iload_n 1, 1) := by decide +kernel
theorem dX9_percentile_3 : decode cX9_percentile 3 = .ok (.invokevirtual 373, 3) := by decide +kernel
theorem dX9_percentile_6 : decode cX9_percentile 6 = .ok (.invokevirtual 353, 3) := by decide +kernel
theorem dX9_percentile_9 : decode cX9_percentile 9 = .ok (.ifCond .ne 5, 3) := by decide +kernel
theorem dX9_percentile_12 : decode cX9_percentile 12 = .ok (.iconst 0, 1) := by decide +kernel
theorem dX9_percentile_13 : decode cX9_percentile 13 = .ok (.ireturn, 1) := by decide +kernel
theorem dX9_percentile_14 : decode cX9_percentile 14 = .ok (.iload_n 2, 1) := by decide +kernel
theorem dX9_percentile_15 : decode cX9_percentile 15 = .ok (.iconst 1, 1) := by decide +kernel
theorem dX9_percentile_16 : decode cX9_percentile 16 = .ok (.bipush 100, 2) := by decide +kernel
theorem dX9_percentile_18 : decode cX9_percentile 18 = .ok (.invokestatic 111, 3) := by decide +kernel
theorem dX9_percentile_21 : decode cX9_percentile 21 = .ok (.ifCond .ne 9, 3) := by decide +kernel
theorem dX9_percentile_24 : decode cX9_percentile 24 = .ok (.aload_n 0, 1) := by decide +kernel
theorem dX9_percentile_25 : decode cX9_percentile 25 = .ok (.iconst 3, 1) := by decide +kernel
theorem dX9_percentile_26 : decode cX9_percentile 26 = .ok (.invokevirtual 240, 3) := by decide +kernel
theorem dX9_percentile_29 : decode cX9_percentile 29 = .ok (.ireturn, 1) := by decide +kernel
theorem dX9_percentile_30 : decode cX9_percentile 30 = .ok (.iload_n 2, 1) := by decide +kernel
theorem dX9_percentile_31 : decode cX9_percentile 31 = .ok (.aload_n 0, 1) := by decide +kernel
theorem dX9_percentile_32 : decode cX9_percentile 32 = .ok (.iload_n 1, 1) := by decide +kernel
theorem dX9_percentile_33 : decode cX9_percentile 33 = .ok (.bipush 10, 2) := by decide +kernel
theorem dX9_percentile_35 : decode cX9_percentile 35 = .ok (.bipush 10, 2) := by decide +kernel
theorem dX9_percentile_37 : decode cX9_percentile 37 = .ok (.invokevirtual 376, 3) := by decide +kernel
theorem dX9_percentile_40 : decode cX9_percentile 40 = .ok (.imul, 1) := by decide +kernel
theorem dX9_percentile_41 : decode cX9_percentile 41 = .ok (.bipush 99, 2) := by decide +kernel
theorem dX9_percentile_43 : decode cX9_percentile 43 = .ok (.iadd, 1) := by decide +kernel
theorem dX9_percentile_44 : decode cX9_percentile 44 = .ok (.bipush 100, 2) := by decide +kernel
theorem dX9_percentile_46 : decode cX9_percentile 46 = .ok (.idiv, 1) := by decide +kernel
theorem dX9_percentile_47 : decode cX9_percentile 47 = .ok (.istore_n 3, 1) := by decide +kernel
theorem dX9_percentile_48 : decode cX9_percentile 48 = .ok (.iconst 0, 1) := by decide +kernel
theorem dX9_percentile_49 : decode cX9_percentile 49 = .ok (.istore 4, 2) := by decide +kernel
theorem dX9_percentile_51 : decode cX9_percentile 51 = .ok (.iload 4, 2) := by decide +kernel
theorem dX9_percentile_53 : decode cX9_percentile 53 = .ok (.aload_n 0, 1) := by decide +kernel
theorem dX9_percentile_54 : decode cX9_percentile 54 = .ok (.getfield 23, 3) := by decide +kernel
theorem dX9_percentile_57 : decode cX9_percentile 57 = .ok (.iconst 2, 1) := by decide +kernel
theorem dX9_percentile_58 : decode cX9_percentile 58 = .ok (.iaload, 1) := by decide +kernel
theorem dX9_percentile_59 : decode cX9_percentile 59 = .ok (.if_icmp .ge 130, 3) := by decide +kernel
theorem dX9_percentile_62 : decode cX9_percentile 62 = .ok (.aload_n 0, 1) := by decide +kernel
theorem dX9_percentile_63 : decode cX9_percentile 63 = .ok (.iload 4, 2) := by decide +kernel
theorem dX9_percentile_65 : decode cX9_percentile 65 = .ok (.iload_n 1, 1) := by decide +kernel
theorem dX9_percentile_66 : decode cX9_percentile 66 = .ok (.invokevirtual 379, 3) := by decide +kernel
theorem dX9_percentile_69 : decode cX9_percentile 69 = .ok (.ifCond .ne 6, 3) := by decide +kernel
theorem dX9_percentile_72 : decode cX9_percentile 72 = .ok (.goto 111, 3) := by decide +kernel
theorem dX9_percentile_75 : decode cX9_percentile 75 = .ok (.iconst 0, 1) := by decide +kernel
theorem dX9_percentile_76 : decode cX9_percentile 76 = .ok (.istore 5, 2) := by decide +kernel
theorem dX9_percentile_78 : decode cX9_percentile 78 = .ok (.iconst 0, 1) := by decide +kernel
theorem dX9_percentile_79 : decode cX9_percentile 79 = .ok (.istore 6, 2) := by decide +kernel
theorem dX9_percentile_81 : decode cX9_percentile 81 = .ok (.iconst 0, 1) := by decide +kernel
theorem dX9_percentile_82 : decode cX9_percentile 82 = .ok (.istore 7, 2) := by decide +kernel
theorem dX9_percentile_84 : decode cX9_percentile 84 = .ok (.iload 7, 2) := by decide +kernel
theorem dX9_percentile_86 : decode cX9_percentile 86 = .ok (.aload_n 0, 1) := by decide +kernel
theorem dX9_percentile_87 : decode cX9_percentile 87 = .ok (.getfield 23, 3) := by decide +kernel
theorem dX9_percentile_90 : decode cX9_percentile 90 = .ok (.iconst 2, 1) := by decide +kernel
theorem dX9_percentile_91 : decode cX9_percentile 91 = .ok (.iaload, 1) := by decide +kernel
theorem dX9_percentile_92 : decode cX9_percentile 92 = .ok (.if_icmp .ge 72, 3) := by decide +kernel
theorem dX9_percentile_95 : decode cX9_percentile 95 = .ok (.aload_n 0, 1) := by decide +kernel
theorem dX9_percentile_96 : decode cX9_percentile 96 = .ok (.iload 7, 2) := by decide +kernel
theorem dX9_percentile_98 : decode cX9_percentile 98 = .ok (.iload_n 1, 1) := by decide +kernel
theorem dX9_percentile_99 : decode cX9_percentile 99 = .ok (.invokevirtual 379, 3) := by decide +kernel
theorem dX9_percentile_102 : decode cX9_percentile 102 = .ok (.ifCond .ne 6, 3) := by decide +kernel
theorem dX9_percentile_105 : decode cX9_percentile 105 = .ok (.goto 53, 3) := by decide +kernel
theorem dX9_percentile_108 : decode cX9_percentile 108 = .ok (.iload 5, 2) := by decide +kernel
theorem dX9_percentile_110 : decode cX9_percentile 110 = .ok (.aload_n 0, 1) := by decide +kernel
theorem dX9_percentile_111 : decode cX9_percentile 111 = .ok (.iload 7, 2) := by decide +kernel
theorem dX9_percentile_113 : decode cX9_percentile 113 = .ok (.invokevirtual 382, 3) := by decide +kernel
theorem dX9_percentile_116 : decode cX9_percentile 116 = .ok (.aload_n 0, 1) := by decide +kernel
theorem dX9_percentile_117 : decode cX9_percentile 117 = .ok (.iload 4, 2) := by decide +kernel
theorem dX9_percentile_119 : decode cX9_percentile 119 = .ok (.invokevirtual 382, 3) := by decide +kernel
theorem dX9_percentile_122 : decode cX9_percentile 122 = .ok (.if_icmp .ge 7, 3) := by decide +kernel
theorem dX9_percentile_125 : decode cX9_percentile 125 = .ok (.iconst 1, 1) := by decide +kernel
theorem dX9_percentile_126 : decode cX9_percentile 126 = .ok (.goto 4, 3) := by decide +kernel
theorem dX9_percentile_129 : decode cX9_percentile 129 = .ok (.iconst 0, 1) := by decide +kernel
theorem dX9_percentile_130 : decode cX9_percentile 130 = .ok (.iadd, 1) := by decide +kernel
theorem dX9_percentile_131 : decode cX9_percentile 131 = .ok (.istore 5, 2) := by decide +kernel
theorem dX9_percentile_133 : decode cX9_percentile 133 = .ok (.iload 6, 2) := by decide +kernel
theorem dX9_percentile_135 : decode cX9_percentile 135 = .ok (.aload_n 0, 1) := by decide +kernel
theorem dX9_percentile_136 : decode cX9_percentile 136 = .ok (.iload 7, 2) := by decide +kernel
theorem dX9_percentile_138 : decode cX9_percentile 138 = .ok (.invokevirtual 382, 3) := by decide +kernel
theorem dX9_percentile_141 : decode cX9_percentile 141 = .ok (.aload_n 0, 1) := by decide +kernel
theorem dX9_percentile_142 : decode cX9_percentile 142 = .ok (.iload 4, 2) := by decide +kernel
theorem dX9_percentile_144 : decode cX9_percentile 144 = .ok (.invokevirtual 382, 3) := by decide +kernel
theorem dX9_percentile_147 : decode cX9_percentile 147 = .ok (.if_icmp .gt 7, 3) := by decide +kernel
theorem dX9_percentile_150 : decode cX9_percentile 150 = .ok (.iconst 1, 1) := by decide +kernel
theorem dX9_percentile_151 : decode cX9_percentile 151 = .ok (.goto 4, 3) := by decide +kernel
theorem dX9_percentile_154 : decode cX9_percentile 154 = .ok (.iconst 0, 1) := by decide +kernel
theorem dX9_percentile_155 : decode cX9_percentile 155 = .ok (.iadd, 1) := by decide +kernel
theorem dX9_percentile_156 : decode cX9_percentile 156 = .ok (.istore 6, 2) := by decide +kernel
theorem dX9_percentile_158 : decode cX9_percentile 158 = .ok (.iinc 7 1, 3) := by decide +kernel
theorem dX9_percentile_161 : decode cX9_percentile 161 = .ok (.goto (-77), 3) := by decide +kernel
theorem dX9_percentile_164 : decode cX9_percentile 164 = .ok (.iload 5, 2) := by decide +kernel
theorem dX9_percentile_166 : decode cX9_percentile 166 = .ok (.iload_n 3, 1) := by decide +kernel
theorem dX9_percentile_167 : decode cX9_percentile 167 = .ok (.if_icmp .ge 16, 3) := by decide +kernel
theorem dX9_percentile_170 : decode cX9_percentile 170 = .ok (.iload_n 3, 1) := by decide +kernel
theorem dX9_percentile_171 : decode cX9_percentile 171 = .ok (.iload 6, 2) := by decide +kernel
theorem dX9_percentile_173 : decode cX9_percentile 173 = .ok (.if_icmp .gt 10, 3) := by decide +kernel
theorem dX9_percentile_176 : decode cX9_percentile 176 = .ok (.aload_n 0, 1) := by decide +kernel
theorem dX9_percentile_177 : decode cX9_percentile 177 = .ok (.iload 4, 2) := by decide +kernel
theorem dX9_percentile_179 : decode cX9_percentile 179 = .ok (.invokevirtual 382, 3) := by decide +kernel
theorem dX9_percentile_182 : decode cX9_percentile 182 = .ok (.ireturn, 1) := by decide +kernel
theorem dX9_percentile_183 : decode cX9_percentile 183 = .ok (.iinc 4 1, 3) := by decide +kernel
theorem dX9_percentile_186 : decode cX9_percentile 186 = .ok (.goto (-135), 3) := by decide +kernel
theorem dX9_percentile_189 : decode cX9_percentile 189 = .ok (.iconst (-1), 1) := by decide +kernel
theorem dX9_percentile_190 : decode cX9_percentile 190 = .ok (.ireturn, 1) := by decide +kernel
theorem dX9_isWorse_0 : decode cX9_isWorse 0 = .ok (.aload_n 0, 1) := by decide +kernel
theorem dX9_isWorse_1 : decode cX9_isWorse 1 = .ok (.iload_n 1, 1) := by decide +kernel
theorem dX9_isWorse_2 : decode cX9_isWorse 2 = .ok (.bipush 11, 2) := by decide +kernel
theorem dX9_isWorse_4 : decode cX9_isWorse 4 = .ok (.bipush 11, 2) := by decide +kernel
theorem dX9_isWorse_6 : decode cX9_isWorse 6 = .ok (.invokevirtual 376, 3) := by decide +kernel
theorem dX9_isWorse_9 : decode cX9_isWorse 9 = .ok (.aload_n 0, 1) := by decide +kernel
theorem dX9_isWorse_10 : decode cX9_isWorse 10 = .ok (.iload_n 2, 1) := by decide +kernel
theorem dX9_isWorse_11 : decode cX9_isWorse 11 = .ok (.bipush 11, 2) := by decide +kernel
theorem dX9_isWorse_13 : decode cX9_isWorse 13 = .ok (.bipush 11, 2) := by decide +kernel
theorem dX9_isWorse_15 : decode cX9_isWorse 15 = .ok (.invokevirtual 376, 3) := by decide +kernel
theorem dX9_isWorse_18 : decode cX9_isWorse 18 = .ok (.isub, 1) := by decide +kernel
theorem dX9_isWorse_19 : decode cX9_isWorse 19 = .ok (.istore_n 3, 1) := by decide +kernel
theorem dX9_isWorse_20 : decode cX9_isWorse 20 = .ok (.iload_n 3, 1) := by decide +kernel
theorem dX9_isWorse_21 : decode cX9_isWorse 21 = .ok (.ifCond .eq 13, 3) := by decide +kernel
theorem dX9_isWorse_24 : decode cX9_isWorse 24 = .ok (.iload_n 3, 1) := by decide +kernel
theorem dX9_isWorse_25 : decode cX9_isWorse 25 = .ok (.ifCond .le 7, 3) := by decide +kernel
theorem dX9_isWorse_28 : decode cX9_isWorse 28 = .ok (.iconst 1, 1) := by decide +kernel
theorem dX9_isWorse_29 : decode cX9_isWorse 29 = .ok (.goto 4, 3) := by decide +kernel
theorem dX9_isWorse_32 : decode cX9_isWorse 32 = .ok (.iconst 0, 1) := by decide +kernel
theorem dX9_isWorse_33 : decode cX9_isWorse 33 = .ok (.ireturn, 1) := by decide +kernel
theorem dX9_isWorse_34 : decode cX9_isWorse 34 = .ok (.aload_n 0, 1) := by decide +kernel
theorem dX9_isWorse_35 : decode cX9_isWorse 35 = .ok (.iload_n 1, 1) := by decide +kernel
theorem dX9_isWorse_36 : decode cX9_isWorse 36 = .ok (.iconst 0, 1) := by decide +kernel
theorem dX9_isWorse_37 : decode cX9_isWorse 37 = .ok (.bipush 9, 2) := by decide +kernel
theorem dX9_isWorse_39 : decode cX9_isWorse 39 = .ok (.invokevirtual 376, 3) := by decide +kernel
theorem dX9_isWorse_42 : decode cX9_isWorse 42 = .ok (.aload_n 0, 1) := by decide +kernel
theorem dX9_isWorse_43 : decode cX9_isWorse 43 = .ok (.iload_n 2, 1) := by decide +kernel
theorem dX9_isWorse_44 : decode cX9_isWorse 44 = .ok (.iconst 0, 1) := by decide +kernel
theorem dX9_isWorse_45 : decode cX9_isWorse 45 = .ok (.bipush 9, 2) := by decide +kernel
theorem dX9_isWorse_47 : decode cX9_isWorse 47 = .ok (.invokevirtual 376, 3) := by decide +kernel
theorem dX9_isWorse_50 : decode cX9_isWorse 50 = .ok (.isub, 1) := by decide +kernel
theorem dX9_isWorse_51 : decode cX9_isWorse 51 = .ok (.istore 4, 2) := by decide +kernel
theorem dX9_isWorse_53 : decode cX9_isWorse 53 = .ok (.iload 4, 2) := by decide +kernel
theorem dX9_isWorse_55 : decode cX9_isWorse 55 = .ok (.ifCond .eq 16, 3) := by decide +kernel
theorem dX9_isWorse_58 : decode cX9_isWorse 58 = .ok (.iload 4, 2) := by decide +kernel
theorem dX9_isWorse_60 : decode cX9_isWorse 60 = .ok (.ifCond .le 7, 3) := by decide +kernel
theorem dX9_isWorse_63 : decode cX9_isWorse 63 = .ok (.iconst 1, 1) := by decide +kernel
theorem dX9_isWorse_64 : decode cX9_isWorse 64 = .ok (.goto 17, 3) := by decide +kernel
theorem dX9_isWorse_67 : decode cX9_isWorse 67 = .ok (.iconst 0, 1) := by decide +kernel
theorem dX9_isWorse_68 : decode cX9_isWorse 68 = .ok (.goto 13, 3) := by decide +kernel
theorem dX9_isWorse_71 : decode cX9_isWorse 71 = .ok (.iload_n 1, 1) := by decide +kernel
theorem dX9_isWorse_72 : decode cX9_isWorse 72 = .ok (.iload_n 2, 1) := by decide +kernel
theorem dX9_isWorse_73 : decode cX9_isWorse 73 = .ok (.if_icmp .ge 7, 3) := by decide +kernel
theorem dX9_isWorse_76 : decode cX9_isWorse 76 = .ok (.iconst 1, 1) := by decide +kernel
theorem dX9_isWorse_77 : decode cX9_isWorse 77 = .ok (.goto 4, 3) := by decide +kernel
theorem dX9_isWorse_80 : decode cX9_isWorse 80 = .ok (.iconst 0, 1) := by decide +kernel
theorem dX9_isWorse_81 : decode cX9_isWorse 81 = .ok (.ireturn, 1) := by decide +kernel
theorem dX9_worstFlight_0 : decode cX9_worstFlight 0 = .ok (.aload_n 0, 1) := by decide +kernel
theorem dX9_worstFlight_1 : decode cX9_worstFlight 1 = .ok (.aload_n 0, 1) := by decide +kernel
theorem dX9_worstFlight_2 : decode cX9_worstFlight 2 = .ok (.iload_n 1, 1) := by decide +kernel
theorem dX9_worstFlight_3 : decode cX9_worstFlight 3 = .ok (.invokevirtual 373, 3) := by decide +kernel
theorem dX9_worstFlight_6 : decode cX9_worstFlight 6 = .ok (.invokevirtual 353, 3) := by decide +kernel
theorem dX9_worstFlight_9 : decode cX9_worstFlight 9 = .ok (.ifCond .ne 5, 3) := by decide +kernel
theorem dX9_worstFlight_12 : decode cX9_worstFlight 12 = .ok (.iconst 0, 1) := by decide +kernel
theorem dX9_worstFlight_13 : decode cX9_worstFlight 13 = .ok (.ireturn, 1) := by decide +kernel
theorem dX9_worstFlight_14 : decode cX9_worstFlight 14 = .ok (.iconst 0, 1) := by decide +kernel
theorem dX9_worstFlight_15 : decode cX9_worstFlight 15 = .ok (.istore_n 2, 1) := by decide +kernel
theorem dX9_worstFlight_16 : decode cX9_worstFlight 16 = .ok (.iload_n 2, 1) := by decide +kernel
theorem dX9_worstFlight_17 : decode cX9_worstFlight 17 = .ok (.aload_n 0, 1) := by decide +kernel
theorem dX9_worstFlight_18 : decode cX9_worstFlight 18 = .ok (.getfield 17, 3) := by decide +kernel
theorem dX9_worstFlight_21 : decode cX9_worstFlight 21 = .ok (.bipush 12, 2) := by decide +kernel
theorem dX9_worstFlight_23 : decode cX9_worstFlight 23 = .ok (.iaload, 1) := by decide +kernel
theorem dX9_worstFlight_24 : decode cX9_worstFlight 24 = .ok (.if_icmp .ge 63, 3) := by decide +kernel
theorem dX9_worstFlight_27 : decode cX9_worstFlight 27 = .ok (.iconst 0, 1) := by decide +kernel
theorem dX9_worstFlight_28 : decode cX9_worstFlight 28 = .ok (.istore_n 3, 1) := by decide +kernel
theorem dX9_worstFlight_29 : decode cX9_worstFlight 29 = .ok (.iconst 0, 1) := by decide +kernel
theorem dX9_worstFlight_30 : decode cX9_worstFlight 30 = .ok (.istore 4, 2) := by decide +kernel
theorem dX9_worstFlight_32 : decode cX9_worstFlight 32 = .ok (.iload 4, 2) := by decide +kernel
theorem dX9_worstFlight_34 : decode cX9_worstFlight 34 = .ok (.aload_n 0, 1) := by decide +kernel
theorem dX9_worstFlight_35 : decode cX9_worstFlight 35 = .ok (.getfield 17, 3) := by decide +kernel
theorem dX9_worstFlight_38 : decode cX9_worstFlight 38 = .ok (.bipush 12, 2) := by decide +kernel
theorem dX9_worstFlight_40 : decode cX9_worstFlight 40 = .ok (.iaload, 1) := by decide +kernel
theorem dX9_worstFlight_41 : decode cX9_worstFlight 41 = .ok (.if_icmp .ge 33, 3) := by decide +kernel
theorem dX9_worstFlight_44 : decode cX9_worstFlight 44 = .ok (.iload_n 3, 1) := by decide +kernel
theorem dX9_worstFlight_45 : decode cX9_worstFlight 45 = .ok (.iload 4, 2) := by decide +kernel
theorem dX9_worstFlight_47 : decode cX9_worstFlight 47 = .ok (.iload_n 2, 1) := by decide +kernel
theorem dX9_worstFlight_48 : decode cX9_worstFlight 48 = .ok (.if_icmp .eq 17, 3) := by decide +kernel
theorem dX9_worstFlight_51 : decode cX9_worstFlight 51 = .ok (.aload_n 0, 1) := by decide +kernel
theorem dX9_worstFlight_52 : decode cX9_worstFlight 52 = .ok (.iload 4, 2) := by decide +kernel
theorem dX9_worstFlight_54 : decode cX9_worstFlight 54 = .ok (.iload_n 2, 1) := by decide +kernel
theorem dX9_worstFlight_55 : decode cX9_worstFlight 55 = .ok (.invokevirtual 385, 3) := by decide +kernel
theorem dX9_worstFlight_58 : decode cX9_worstFlight 58 = .ok (.ifCond .eq 7, 3) := by decide +kernel
theorem dX9_worstFlight_61 : decode cX9_worstFlight 61 = .ok (.iconst 1, 1) := by decide +kernel
theorem dX9_worstFlight_62 : decode cX9_worstFlight 62 = .ok (.goto 4, 3) := by decide +kernel
theorem dX9_worstFlight_65 : decode cX9_worstFlight 65 = .ok (.iconst 0, 1) := by decide +kernel
theorem dX9_worstFlight_66 : decode cX9_worstFlight 66 = .ok (.iadd, 1) := by decide +kernel
theorem dX9_worstFlight_67 : decode cX9_worstFlight 67 = .ok (.istore_n 3, 1) := by decide +kernel
theorem dX9_worstFlight_68 : decode cX9_worstFlight 68 = .ok (.iinc 4 1, 3) := by decide +kernel
theorem dX9_worstFlight_71 : decode cX9_worstFlight 71 = .ok (.goto (-39), 3) := by decide +kernel
theorem dX9_worstFlight_74 : decode cX9_worstFlight 74 = .ok (.iload_n 3, 1) := by decide +kernel
theorem dX9_worstFlight_75 : decode cX9_worstFlight 75 = .ok (.iload_n 1, 1) := by decide +kernel
theorem dX9_worstFlight_76 : decode cX9_worstFlight 76 = .ok (.if_icmp .ne 5, 3) := by decide +kernel
theorem dX9_worstFlight_79 : decode cX9_worstFlight 79 = .ok (.iload_n 2, 1) := by decide +kernel
theorem dX9_worstFlight_80 : decode cX9_worstFlight 80 = .ok (.ireturn, 1) := by decide +kernel
theorem dX9_worstFlight_81 : decode cX9_worstFlight 81 = .ok (.iinc 2 1, 3) := by decide +kernel
theorem dX9_worstFlight_84 : decode cX9_worstFlight 84 = .ok (.goto (-68), 3) := by decide +kernel
theorem dX9_worstFlight_87 : decode cX9_worstFlight 87 = .ok (.iconst (-1), 1) := by decide +kernel
theorem dX9_worstFlight_88 : decode cX9_worstFlight 88 = .ok (.ireturn, 1) := by decide +kernel
theorem dX9_events_0 : decode cX9_events 0 = .ok (.aload_n 0, 1) := by decide +kernel
theorem dX9_events_1 : decode cX9_events 1 = .ok (.aload_n 0, 1) := by decide +kernel
theorem dX9_events_2 : decode cX9_events 2 = .ok (.getfield 23, 3) := by decide +kernel
theorem dX9_events_5 : decode cX9_events 5 = .ok (.iconst 3, 1) := by decide +kernel
theorem dX9_events_6 : decode cX9_events 6 = .ok (.iaload, 1) := by decide +kernel
theorem dX9_events_7 : decode cX9_events 7 = .ok (.invokevirtual 347, 3) := by decide +kernel
theorem dX9_events_10 : decode cX9_events 10 = .ok (.ireturn, 1) := by decide +kernel
theorem dX9_event_0 : decode cX9_event 0 = .ok (.aload_n 0, 1) := by decide +kernel
theorem dX9_event_1 : decode cX9_event 1 = .ok (.iload_n 1, 1) := by decide +kernel
theorem dX9_event_2 : decode cX9_event 2 = .ok (.iconst 0, 1) := by decide +kernel
theorem dX9_event_3 : decode cX9_event 3 = .ok (.aload_n 0, 1) := by decide +kernel
theorem dX9_event_4 : decode cX9_event 4 = .ok (.getfield 23, 3) := by decide +kernel
theorem dX9_event_7 : decode cX9_event 7 = .ok (.iconst 3, 1) := by decide +kernel
theorem dX9_event_8 : decode cX9_event 8 = .ok (.iaload, 1) := by decide +kernel
theorem dX9_event_9 : decode cX9_event 9 = .ok (.iconst 1, 1) := by decide +kernel
theorem dX9_event_10 : decode cX9_event 10 = .ok (.isub, 1) := by decide +kernel
theorem dX9_event_11 : decode cX9_event 11 = .ok (.invokestatic 111, 3) := by decide +kernel
theorem dX9_event_14 : decode cX9_event 14 = .ok (.invokevirtual 353, 3) := by decide +kernel
theorem dX9_event_17 : decode cX9_event 17 = .ok (.ifCond .ne 5, 3) := by decide +kernel
theorem dX9_event_20 : decode cX9_event 20 = .ok (.iconst 0, 1) := by decide +kernel
theorem dX9_event_21 : decode cX9_event 21 = .ok (.ireturn, 1) := by decide +kernel
theorem dX9_event_22 : decode cX9_event 22 = .ok (.iload_n 2, 1) := by decide +kernel
theorem dX9_event_23 : decode cX9_event 23 = .ok (.iconst 0, 1) := by decide +kernel
theorem dX9_event_24 : decode cX9_event 24 = .ok (.iconst 3, 1) := by decide +kernel
theorem dX9_event_25 : decode cX9_event 25 = .ok (.invokestatic 111, 3) := by decide +kernel
theorem dX9_event_28 : decode cX9_event 28 = .ok (.ifCond .eq 20, 3) := by decide +kernel
theorem dX9_event_31 : decode cX9_event 31 = .ok (.aload_n 0, 1) := by decide +kernel
theorem dX9_event_32 : decode cX9_event 32 = .ok (.getfield 23, 3) := by decide +kernel
theorem dX9_event_35 : decode cX9_event 35 = .ok (.sipush 873, 3) := by decide +kernel
theorem dX9_event_38 : decode cX9_event 38 = .ok (.iconst 4, 1) := by decide +kernel
theorem dX9_event_39 : decode cX9_event 39 = .ok (.iload_n 1, 1) := by decide +kernel
theorem dX9_event_40 : decode cX9_event 40 = .ok (.imul, 1) := by decide +kernel
theorem dX9_event_41 : decode cX9_event 41 = .ok (.iadd, 1) := by decide +kernel
theorem dX9_event_42 : decode cX9_event 42 = .ok (.iload_n 2, 1) := by decide +kernel
theorem dX9_event_43 : decode cX9_event 43 = .ok (.iadd, 1) := by decide +kernel
theorem dX9_event_44 : decode cX9_event 44 = .ok (.iaload, 1) := by decide +kernel
theorem dX9_event_45 : decode cX9_event 45 = .ok (.goto 8, 3) := by decide +kernel
theorem dX9_event_48 : decode cX9_event 48 = .ok (.aload_n 0, 1) := by decide +kernel
theorem dX9_event_49 : decode cX9_event 49 = .ok (.iconst 3, 1) := by decide +kernel
theorem dX9_event_50 : decode cX9_event 50 = .ok (.invokevirtual 240, 3) := by decide +kernel
theorem dX9_event_53 : decode cX9_event 53 = .ok (.ireturn, 1) := by decide +kernel
theorem dX9_writes_0 : decode cX9_writes 0 = .ok (.aload_n 0, 1) := by decide +kernel
theorem dX9_writes_1 : decode cX9_writes 1 = .ok (.getfield 76, 3) := by decide +kernel
theorem dX9_writes_4 : decode cX9_writes 4 = .ok (.aload_n 0, 1) := by decide +kernel
theorem dX9_writes_5 : decode cX9_writes 5 = .ok (.getfield 388, 3) := by decide +kernel
theorem dX9_writes_8 : decode cX9_writes 8 = .ok (.iload_n 1, 1) := by decide +kernel
theorem dX9_writes_9 : decode cX9_writes 9 = .ok (.iastore, 1) := by decide +kernel
theorem dX9_writes_10 : decode cX9_writes 10 = .ok (.aload_n 0, 1) := by decide +kernel
theorem dX9_writes_11 : decode cX9_writes 11 = .ok (.dup, 1) := by decide +kernel
theorem dX9_writes_12 : decode cX9_writes 12 = .ok (.getfield 388, 3) := by decide +kernel
theorem dX9_writes_15 : decode cX9_writes 15 = .ok (.iconst 1, 1) := by decide +kernel
theorem dX9_writes_16 : decode cX9_writes 16 = .ok (.iadd, 1) := by decide +kernel
theorem dX9_writes_17 : decode cX9_writes 17 = .ok (.putfield 388, 3) := by decide +kernel
theorem dX9_writes_20 : decode cX9_writes 20 = .ok (.return_, 1) := by decide +kernel
theorem dX9_writesNumber_0 : decode cX9_writesNumber 0 = .ok (.iconst 1, 1) := by decide +kernel
theorem dX9_writesNumber_1 : decode cX9_writesNumber 1 = .ok (.istore_n 2, 1) := by decide +kernel
theorem dX9_writesNumber_2 : decode cX9_writesNumber 2 = .ok (.iload_n 1, 1) := by decide +kernel
theorem dX9_writesNumber_3 : decode cX9_writesNumber 3 = .ok (.iload_n 2, 1) := by decide +kernel
theorem dX9_writesNumber_4 : decode cX9_writesNumber 4 = .ok (.idiv, 1) := by decide +kernel
theorem dX9_writesNumber_5 : decode cX9_writesNumber 5 = .ok (.bipush 10, 2) := by decide +kernel
theorem dX9_writesNumber_7 : decode cX9_writesNumber 7 = .ok (.if_icmp .lt 11, 3) := by decide +kernel
theorem dX9_writesNumber_10 : decode cX9_writesNumber 10 = .ok (.iload_n 2, 1) := by decide +kernel
theorem dX9_writesNumber_11 : decode cX9_writesNumber 11 = .ok (.bipush 10, 2) := by decide +kernel
theorem dX9_writesNumber_13 : decode cX9_writesNumber 13 = .ok (.imul, 1) := by decide +kernel
theorem dX9_writesNumber_14 : decode cX9_writesNumber 14 = .ok (.istore_n 2, 1) := by decide +kernel
theorem dX9_writesNumber_15 : decode cX9_writesNumber 15 = .ok (.goto (-13), 3) := by decide +kernel
theorem dX9_writesNumber_18 : decode cX9_writesNumber 18 = .ok (.iload_n 2, 1) := by decide +kernel
theorem dX9_writesNumber_19 : decode cX9_writesNumber 19 = .ok (.ifCond .le 24, 3) := by decide +kernel
theorem dX9_writesNumber_22 : decode cX9_writesNumber 22 = .ok (.aload_n 0, 1) := by decide +kernel
theorem dX9_writesNumber_23 : decode cX9_writesNumber 23 = .ok (.bipush 48, 2) := by decide +kernel
theorem dX9_writesNumber_25 : decode cX9_writesNumber 25 = .ok (.iload_n 1, 1) := by decide +kernel
theorem dX9_writesNumber_26 : decode cX9_writesNumber 26 = .ok (.iload_n 2, 1) := by decide +kernel
theorem dX9_writesNumber_27 : decode cX9_writesNumber 27 = .ok (.idiv, 1) := by decide +kernel
theorem dX9_writesNumber_28 : decode cX9_writesNumber 28 = .ok (.bipush 10, 2) := by decide +kernel
theorem dX9_writesNumber_30 : decode cX9_writesNumber 30 = .ok (.irem, 1) := by decide +kernel
theorem dX9_writesNumber_31 : decode cX9_writesNumber 31 = .ok (.iadd, 1) := by decide +kernel
theorem dX9_writesNumber_32 : decode cX9_writesNumber 32 = .ok (.invokevirtual 391, 3) := by decide +kernel
theorem dX9_writesNumber_35 : decode cX9_writesNumber 35 = .ok (.iload_n 2, 1) := by decide +kernel
theorem dX9_writesNumber_36 : decode cX9_writesNumber 36 = .ok (.bipush 10, 2) := by decide +kernel
theorem dX9_writesNumber_38 : decode cX9_writesNumber 38 = .ok (.idiv, 1) := by decide +kernel
theorem dX9_writesNumber_39 : decode cX9_writesNumber 39 = .ok (.istore_n 2, 1) := by decide +kernel
theorem dX9_writesNumber_40 : decode cX9_writesNumber 40 = .ok (.goto (-22), 3) := by decide +kernel
theorem dX9_writesNumber_43 : decode cX9_writesNumber 43 = .ok (.return_, 1) := by decide +kernel
theorem dX9_report_0 : decode cX9_report 0 = .ok (.aload_n 0, 1) := by decide +kernel
theorem dX9_report_1 : decode cX9_report 1 = .ok (.iconst 1, 1) := by decide +kernel
theorem dX9_report_2 : decode cX9_report 2 = .ok (.invokevirtual 353, 3) := by decide +kernel
theorem dX9_report_5 : decode cX9_report 5 = .ok (.ifCond .ne 5, 3) := by decide +kernel
theorem dX9_report_8 : decode cX9_report 8 = .ok (.iconst 0, 1) := by decide +kernel
theorem dX9_report_9 : decode cX9_report 9 = .ok (.ireturn, 1) := by decide +kernel
theorem dX9_report_10 : decode cX9_report 10 = .ok (.aload_n 0, 1) := by decide +kernel
theorem dX9_report_11 : decode cX9_report 11 = .ok (.aload_n 0, 1) := by decide +kernel
theorem dX9_report_12 : decode cX9_report 12 = .ok (.getfield 70, 3) := by decide +kernel
theorem dX9_report_15 : decode cX9_report 15 = .ok (.putfield 76, 3) := by decide +kernel
theorem dX9_report_18 : decode cX9_report 18 = .ok (.aload_n 0, 1) := by decide +kernel
theorem dX9_report_19 : decode cX9_report 19 = .ok (.iconst 0, 1) := by decide +kernel
theorem dX9_report_20 : decode cX9_report 20 = .ok (.putfield 388, 3) := by decide +kernel
theorem dX9_report_23 : decode cX9_report 23 = .ok (.iconst 0, 1) := by decide +kernel
theorem dX9_report_24 : decode cX9_report 24 = .ok (.istore_n 1, 1) := by decide +kernel
theorem dX9_report_25 : decode cX9_report 25 = .ok (.iload_n 1, 1) := by decide +kernel
theorem dX9_report_26 : decode cX9_report 26 = .ok (.aload_n 0, 1) := by decide +kernel
theorem dX9_report_27 : decode cX9_report 27 = .ok (.getfield 17, 3) := by decide +kernel
theorem dX9_report_30 : decode cX9_report 30 = .ok (.bipush 12, 2) := by decide +kernel
theorem dX9_report_32 : decode cX9_report 32 = .ok (.iaload, 1) := by decide +kernel
theorem dX9_report_33 : decode cX9_report 33 = .ok (.if_icmp .ge 78, 3) := by decide +kernel
theorem dX9_report_36 : decode cX9_report 36 = .ok (.iload_n 1, 1) := by decide +kernel
theorem dX9_report_37 : decode cX9_report 37 = .ok (.ifCond .le 9, 3) := by decide +kernel
theorem dX9_report_40 : decode cX9_report 40 = .ok (.aload_n 0, 1) := by decide +kernel
theorem dX9_report_41 : decode cX9_report 41 = .ok (.bipush 59, 2) := by decide +kernel
theorem dX9_report_43 : decode cX9_report 43 = .ok (.invokevirtual 391, 3) := by decide +kernel
theorem dX9_report_46 : decode cX9_report 46 = .ok (.aload_n 0, 1) := by decide +kernel
theorem dX9_report_47 : decode cX9_report 47 = .ok (.aload_n 0, 1) := by decide +kernel
theorem dX9_report_48 : decode cX9_report 48 = .ok (.iload_n 1, 1) := by decide +kernel
theorem dX9_report_49 : decode cX9_report 49 = .ok (.bipush 10, 2) := by decide +kernel
theorem dX9_report_51 : decode cX9_report 51 = .ok (.bipush 10, 2) := by decide +kernel
theorem dX9_report_53 : decode cX9_report 53 = .ok (.invokevirtual 376, 3) := by decide +kernel
theorem dX9_report_56 : decode cX9_report 56 = .ok (.invokevirtual 394, 3) := by decide +kernel
theorem dX9_report_59 : decode cX9_report 59 = .ok (.aload_n 0, 1) := by decide +kernel
theorem dX9_report_60 : decode cX9_report 60 = .ok (.bipush 47, 2) := by decide +kernel
theorem dX9_report_62 : decode cX9_report 62 = .ok (.invokevirtual 391, 3) := by decide +kernel
theorem dX9_report_65 : decode cX9_report 65 = .ok (.aload_n 0, 1) := by decide +kernel
theorem dX9_report_66 : decode cX9_report 66 = .ok (.aload_n 0, 1) := by decide +kernel
theorem dX9_report_67 : decode cX9_report 67 = .ok (.iload_n 1, 1) := by decide +kernel
theorem dX9_report_68 : decode cX9_report 68 = .ok (.iconst 0, 1) := by decide +kernel
theorem dX9_report_69 : decode cX9_report 69 = .ok (.bipush 13, 2) := by decide +kernel
theorem dX9_report_71 : decode cX9_report 71 = .ok (.invokevirtual 376, 3) := by decide +kernel
theorem dX9_report_74 : decode cX9_report 74 = .ok (.invokevirtual 394, 3) := by decide +kernel
theorem dX9_report_77 : decode cX9_report 77 = .ok (.aload_n 0, 1) := by decide +kernel
theorem dX9_report_78 : decode cX9_report 78 = .ok (.iload_n 1, 1) := by decide +kernel
theorem dX9_report_79 : decode cX9_report 79 = .ok (.bipush 11, 2) := by decide +kernel
theorem dX9_report_81 : decode cX9_report 81 = .ok (.bipush 11, 2) := by decide +kernel
theorem dX9_report_83 : decode cX9_report 83 = .ok (.invokevirtual 376, 3) := by decide +kernel
theorem dX9_report_86 : decode cX9_report 86 = .ok (.istore_n 2, 1) := by decide +kernel
theorem dX9_report_87 : decode cX9_report 87 = .ok (.iload_n 2, 1) := by decide +kernel
theorem dX9_report_88 : decode cX9_report 88 = .ok (.ifCond .ne 6, 3) := by decide +kernel
theorem dX9_report_91 : decode cX9_report 91 = .ok (.goto 14, 3) := by decide +kernel
theorem dX9_report_94 : decode cX9_report 94 = .ok (.aload_n 0, 1) := by decide +kernel
theorem dX9_report_95 : decode cX9_report 95 = .ok (.bipush 45, 2) := by decide +kernel
theorem dX9_report_97 : decode cX9_report 97 = .ok (.invokevirtual 391, 3) := by decide +kernel
theorem dX9_report_100 : decode cX9_report 100 = .ok (.aload_n 0, 1) := by decide +kernel
theorem dX9_report_101 : decode cX9_report 101 = .ok (.iload_n 2, 1) := by decide +kernel
theorem dX9_report_102 : decode cX9_report 102 = .ok (.invokevirtual 394, 3) := by decide +kernel
theorem dX9_report_105 : decode cX9_report 105 = .ok (.iinc 1 1, 3) := by decide +kernel
theorem dX9_report_108 : decode cX9_report 108 = .ok (.goto (-83), 3) := by decide +kernel
theorem dX9_report_111 : decode cX9_report 111 = .ok (.aload_n 0, 1) := by decide +kernel
theorem dX9_report_112 : decode cX9_report 112 = .ok (.aload_n 0, 1) := by decide +kernel
theorem dX9_report_113 : decode cX9_report 113 = .ok (.getfield 388, 3) := by decide +kernel
theorem dX9_report_116 : decode cX9_report 116 = .ok (.putfield 397, 3) := by decide +kernel
theorem dX9_report_119 : decode cX9_report 119 = .ok (.aload_n 0, 1) := by decide +kernel
theorem dX9_report_120 : decode cX9_report 120 = .ok (.getfield 397, 3) := by decide +kernel
theorem dX9_report_123 : decode cX9_report 123 = .ok (.ireturn, 1) := by decide +kernel
theorem dX9_flightsAhead_0 : decode cX9_flightsAhead 0 = .ok (.iconst 0, 1) := by decide +kernel
theorem dX9_flightsAhead_1 : decode cX9_flightsAhead 1 = .ok (.istore_n 2, 1) := by decide +kernel
theorem dX9_flightsAhead_2 : decode cX9_flightsAhead 2 = .ok (.iconst 0, 1) := by decide +kernel
theorem dX9_flightsAhead_3 : decode cX9_flightsAhead 3 = .ok (.istore_n 3, 1) := by decide +kernel
theorem dX9_flightsAhead_4 : decode cX9_flightsAhead 4 = .ok (.iload_n 3, 1) := by decide +kernel
theorem dX9_flightsAhead_5 : decode cX9_flightsAhead 5 = .ok (.aload_n 0, 1) := by decide +kernel
theorem dX9_flightsAhead_6 : decode cX9_flightsAhead 6 = .ok (.getfield 17, 3) := by decide +kernel
theorem dX9_flightsAhead_9 : decode cX9_flightsAhead 9 = .ok (.bipush 12, 2) := by decide +kernel
theorem dX9_flightsAhead_11 : decode cX9_flightsAhead 11 = .ok (.iaload, 1) := by decide +kernel
theorem dX9_flightsAhead_12 : decode cX9_flightsAhead 12 = .ok (.if_icmp .ge 64, 3) := by decide +kernel
theorem dX9_flightsAhead_15 : decode cX9_flightsAhead 15 = .ok (.iload_n 2, 1) := by decide +kernel
theorem dX9_flightsAhead_16 : decode cX9_flightsAhead 16 = .ok (.aload_n 0, 1) := by decide +kernel
theorem dX9_flightsAhead_17 : decode cX9_flightsAhead 17 = .ok (.getfield 23, 3) := by decide +kernel
theorem dX9_flightsAhead_20 : decode cX9_flightsAhead 20 = .ok (.bipush 13, 2) := by decide +kernel
theorem dX9_flightsAhead_22 : decode cX9_flightsAhead 22 = .ok (.iload_n 3, 1) := by decide +kernel
theorem dX9_flightsAhead_23 : decode cX9_flightsAhead 23 = .ok (.iadd, 1) := by decide +kernel
theorem dX9_flightsAhead_24 : decode cX9_flightsAhead 24 = .ok (.iaload, 1) := by decide +kernel
theorem dX9_flightsAhead_25 : decode cX9_flightsAhead 25 = .ok (.aload_n 0, 1) := by decide +kernel
theorem dX9_flightsAhead_26 : decode cX9_flightsAhead 26 = .ok (.getfield 23, 3) := by decide +kernel
theorem dX9_flightsAhead_29 : decode cX9_flightsAhead 29 = .ok (.bipush 13, 2) := by decide +kernel
theorem dX9_flightsAhead_31 : decode cX9_flightsAhead 31 = .ok (.iload_n 1, 1) := by decide +kernel
theorem dX9_flightsAhead_32 : decode cX9_flightsAhead 32 = .ok (.iadd, 1) := by decide +kernel
theorem dX9_flightsAhead_33 : decode cX9_flightsAhead 33 = .ok (.iaload, 1) := by decide +kernel
theorem dX9_flightsAhead_34 : decode cX9_flightsAhead 34 = .ok (.if_icmp .lt 29, 3) := by decide +kernel
theorem dX9_flightsAhead_37 : decode cX9_flightsAhead 37 = .ok (.aload_n 0, 1) := by decide +kernel
theorem dX9_flightsAhead_38 : decode cX9_flightsAhead 38 = .ok (.getfield 23, 3) := by decide +kernel
theorem dX9_flightsAhead_41 : decode cX9_flightsAhead 41 = .ok (.bipush 13, 2) := by decide +kernel
theorem dX9_flightsAhead_43 : decode cX9_flightsAhead 43 = .ok (.iload_n 3, 1) := by decide +kernel
theorem dX9_flightsAhead_44 : decode cX9_flightsAhead 44 = .ok (.iadd, 1) := by decide +kernel
theorem dX9_flightsAhead_45 : decode cX9_flightsAhead 45 = .ok (.iaload, 1) := by decide +kernel
theorem dX9_flightsAhead_46 : decode cX9_flightsAhead 46 = .ok (.aload_n 0, 1) := by decide +kernel
theorem dX9_flightsAhead_47 : decode cX9_flightsAhead 47 = .ok (.getfield 23, 3) := by decide +kernel
theorem dX9_flightsAhead_50 : decode cX9_flightsAhead 50 = .ok (.bipush 13, 2) := by decide +kernel
theorem dX9_flightsAhead_52 : decode cX9_flightsAhead 52 = .ok (.iload_n 1, 1) := by decide +kernel
theorem dX9_flightsAhead_53 : decode cX9_flightsAhead 53 = .ok (.iadd, 1) := by decide +kernel
theorem dX9_flightsAhead_54 : decode cX9_flightsAhead 54 = .ok (.iaload, 1) := by decide +kernel
theorem dX9_flightsAhead_55 : decode cX9_flightsAhead 55 = .ok (.if_icmp .ne 12, 3) := by decide +kernel
theorem dX9_flightsAhead_58 : decode cX9_flightsAhead 58 = .ok (.iload_n 3, 1) := by decide +kernel
theorem dX9_flightsAhead_59 : decode cX9_flightsAhead 59 = .ok (.iload_n 1, 1) := by decide +kernel
theorem dX9_flightsAhead_60 : decode cX9_flightsAhead 60 = .ok (.if_icmp .ge 7, 3) := by decide +kernel
theorem dX9_flightsAhead_63 : decode cX9_flightsAhead 63 = .ok (.iconst 1, 1) := by decide +kernel
theorem dX9_flightsAhead_64 : decode cX9_flightsAhead 64 = .ok (.goto 4, 3) := by decide +kernel
theorem dX9_flightsAhead_67 : decode cX9_flightsAhead 67 = .ok (.iconst 0, 1) := by decide +kernel
theorem dX9_flightsAhead_68 : decode cX9_flightsAhead 68 = .ok (.iadd, 1) := by decide +kernel
theorem dX9_flightsAhead_69 : decode cX9_flightsAhead 69 = .ok (.istore_n 2, 1) := by decide +kernel
theorem dX9_flightsAhead_70 : decode cX9_flightsAhead 70 = .ok (.iinc 3 1, 3) := by decide +kernel
theorem dX9_flightsAhead_73 : decode cX9_flightsAhead 73 = .ok (.goto (-69), 3) := by decide +kernel
theorem dX9_flightsAhead_76 : decode cX9_flightsAhead 76 = .ok (.iload_n 2, 1) := by decide +kernel
theorem dX9_flightsAhead_77 : decode cX9_flightsAhead 77 = .ok (.ireturn, 1) := by decide +kernel
theorem dX9_heldIn_0 : decode cX9_heldIn 0 = .ok (.iconst 0, 1) := by decide +kernel
theorem dX9_heldIn_1 : decode cX9_heldIn 1 = .ok (.istore_n 3, 1) := by decide +kernel
theorem dX9_heldIn_2 : decode cX9_heldIn 2 = .ok (.iconst 0, 1) := by decide +kernel
theorem dX9_heldIn_3 : decode cX9_heldIn 3 = .ok (.istore 4, 2) := by decide +kernel
theorem dX9_heldIn_5 : decode cX9_heldIn 5 = .ok (.iload 4, 2) := by decide +kernel
theorem dX9_heldIn_7 : decode cX9_heldIn 7 = .ok (.aload_n 0, 1) := by decide +kernel
theorem dX9_heldIn_8 : decode cX9_heldIn 8 = .ok (.getfield 23, 3) := by decide +kernel
theorem dX9_heldIn_11 : decode cX9_heldIn 11 = .ok (.bipush 21, 2) := by decide +kernel
theorem dX9_heldIn_13 : decode cX9_heldIn 13 = .ok (.iload_n 1, 1) := by decide +kernel
theorem dX9_heldIn_14 : decode cX9_heldIn 14 = .ok (.iadd, 1) := by decide +kernel
theorem dX9_heldIn_15 : decode cX9_heldIn 15 = .ok (.iaload, 1) := by decide +kernel
theorem dX9_heldIn_16 : decode cX9_heldIn 16 = .ok (.if_icmp .ge 45, 3) := by decide +kernel
theorem dX9_heldIn_19 : decode cX9_heldIn 19 = .ok (.iload_n 3, 1) := by decide +kernel
theorem dX9_heldIn_20 : decode cX9_heldIn 20 = .ok (.aload_n 0, 1) := by decide +kernel
theorem dX9_heldIn_21 : decode cX9_heldIn 21 = .ok (.getfield 23, 3) := by decide +kernel
theorem dX9_heldIn_24 : decode cX9_heldIn 24 = .ok (.sipush 173, 3) := by decide +kernel
theorem dX9_heldIn_27 : decode cX9_heldIn 27 = .ok (.aload_n 0, 1) := by decide +kernel
theorem dX9_heldIn_28 : decode cX9_heldIn 28 = .ok (.getfield 23, 3) := by decide +kernel
theorem dX9_heldIn_31 : decode cX9_heldIn 31 = .ok (.bipush 29, 2) := by decide +kernel
theorem dX9_heldIn_33 : decode cX9_heldIn 33 = .ok (.bipush 20, 2) := by decide +kernel
theorem dX9_heldIn_35 : decode cX9_heldIn 35 = .ok (.iload_n 1, 1) := by decide +kernel
theorem dX9_heldIn_36 : decode cX9_heldIn 36 = .ok (.imul, 1) := by decide +kernel
theorem dX9_heldIn_37 : decode cX9_heldIn 37 = .ok (.iadd, 1) := by decide +kernel
theorem dX9_heldIn_38 : decode cX9_heldIn 38 = .ok (.iload 4, 2) := by decide +kernel
theorem dX9_heldIn_40 : decode cX9_heldIn 40 = .ok (.iadd, 1) := by decide +kernel
theorem dX9_heldIn_41 : decode cX9_heldIn 41 = .ok (.iaload, 1) := by decide +kernel
theorem dX9_heldIn_42 : decode cX9_heldIn 42 = .ok (.iadd, 1) := by decide +kernel
theorem dX9_heldIn_43 : decode cX9_heldIn 43 = .ok (.iaload, 1) := by decide +kernel
theorem dX9_heldIn_44 : decode cX9_heldIn 44 = .ok (.iload_n 2, 1) := by decide +kernel
theorem dX9_heldIn_45 : decode cX9_heldIn 45 = .ok (.if_icmp .ne 7, 3) := by decide +kernel
theorem dX9_heldIn_48 : decode cX9_heldIn 48 = .ok (.iconst 1, 1) := by decide +kernel
theorem dX9_heldIn_49 : decode cX9_heldIn 49 = .ok (.goto 4, 3) := by decide +kernel
theorem dX9_heldIn_52 : decode cX9_heldIn 52 = .ok (.iconst 0, 1) := by decide +kernel
theorem dX9_heldIn_53 : decode cX9_heldIn 53 = .ok (.iadd, 1) := by decide +kernel
theorem dX9_heldIn_54 : decode cX9_heldIn 54 = .ok (.istore_n 3, 1) := by decide +kernel
theorem dX9_heldIn_55 : decode cX9_heldIn 55 = .ok (.iinc 4 1, 3) := by decide +kernel
theorem dX9_heldIn_58 : decode cX9_heldIn 58 = .ok (.goto (-53), 3) := by decide +kernel
theorem dX9_heldIn_61 : decode cX9_heldIn 61 = .ok (.iload_n 3, 1) := by decide +kernel
theorem dX9_heldIn_62 : decode cX9_heldIn 62 = .ok (.ireturn, 1) := by decide +kernel
theorem dX9_writesFlight_0 : decode cX9_writesFlight 0 = .ok (.aload_n 0, 1) := by decide +kernel
theorem dX9_writesFlight_1 : decode cX9_writesFlight 1 = .ok (.bipush 65, 2) := by decide +kernel
theorem dX9_writesFlight_3 : decode cX9_writesFlight 3 = .ok (.iload_n 1, 1) := by decide +kernel
theorem dX9_writesFlight_4 : decode cX9_writesFlight 4 = .ok (.iadd, 1) := by decide +kernel
theorem dX9_writesFlight_5 : decode cX9_writesFlight 5 = .ok (.invokevirtual 391, 3) := by decide +kernel
theorem dX9_writesFlight_8 : decode cX9_writesFlight 8 = .ok (.aload_n 0, 1) := by decide +kernel
theorem dX9_writesFlight_9 : decode cX9_writesFlight 9 = .ok (.aload_n 0, 1) := by decide +kernel
theorem dX9_writesFlight_10 : decode cX9_writesFlight 10 = .ok (.getfield 23, 3) := by decide +kernel
theorem dX9_writesFlight_13 : decode cX9_writesFlight 13 = .ok (.iconst 5, 1) := by decide +kernel
theorem dX9_writesFlight_14 : decode cX9_writesFlight 14 = .ok (.iload_n 1, 1) := by decide +kernel
theorem dX9_writesFlight_15 : decode cX9_writesFlight 15 = .ok (.iadd, 1) := by decide +kernel
theorem dX9_writesFlight_16 : decode cX9_writesFlight 16 = .ok (.iaload, 1) := by decide +kernel
theorem dX9_writesFlight_17 : decode cX9_writesFlight 17 = .ok (.invokevirtual 394, 3) := by decide +kernel
theorem dX9_writesFlight_20 : decode cX9_writesFlight 20 = .ok (.aload_n 0, 1) := by decide +kernel
theorem dX9_writesFlight_21 : decode cX9_writesFlight 21 = .ok (.bipush 45, 2) := by decide +kernel
theorem dX9_writesFlight_23 : decode cX9_writesFlight 23 = .ok (.invokevirtual 391, 3) := by decide +kernel
theorem dX9_writesFlight_26 : decode cX9_writesFlight 26 = .ok (.aload_n 0, 1) := by decide +kernel
theorem dX9_writesFlight_27 : decode cX9_writesFlight 27 = .ok (.aload_n 0, 1) := by decide +kernel
theorem dX9_writesFlight_28 : decode cX9_writesFlight 28 = .ok (.getfield 23, 3) := by decide +kernel
theorem dX9_writesFlight_31 : decode cX9_writesFlight 31 = .ok (.bipush 13, 2) := by decide +kernel
theorem dX9_writesFlight_33 : decode cX9_writesFlight 33 = .ok (.iload_n 1, 1) := by decide +kernel
theorem dX9_writesFlight_34 : decode cX9_writesFlight 34 = .ok (.iadd, 1) := by decide +kernel
theorem dX9_writesFlight_35 : decode cX9_writesFlight 35 = .ok (.iaload, 1) := by decide +kernel
theorem dX9_writesFlight_36 : decode cX9_writesFlight 36 = .ok (.invokevirtual 394, 3) := by decide +kernel
theorem dX9_writesFlight_39 : decode cX9_writesFlight 39 = .ok (.iconst 0, 1) := by decide +kernel
theorem dX9_writesFlight_40 : decode cX9_writesFlight 40 = .ok (.istore_n 2, 1) := by decide +kernel
theorem dX9_writesFlight_41 : decode cX9_writesFlight 41 = .ok (.iload_n 2, 1) := by decide +kernel
theorem dX9_writesFlight_42 : decode cX9_writesFlight 42 = .ok (.aload_n 0, 1) := by decide +kernel
theorem dX9_writesFlight_43 : decode cX9_writesFlight 43 = .ok (.getfield 17, 3) := by decide +kernel
theorem dX9_writesFlight_46 : decode cX9_writesFlight 46 = .ok (.bipush 13, 2) := by decide +kernel
theorem dX9_writesFlight_48 : decode cX9_writesFlight 48 = .ok (.iaload, 1) := by decide +kernel
theorem dX9_writesFlight_49 : decode cX9_writesFlight 49 = .ok (.if_icmp .ge 48, 3) := by decide +kernel
theorem dX9_writesFlight_52 : decode cX9_writesFlight 52 = .ok (.aload_n 0, 1) := by decide +kernel
theorem dX9_writesFlight_53 : decode cX9_writesFlight 53 = .ok (.iload_n 2, 1) := by decide +kernel
theorem dX9_writesFlight_54 : decode cX9_writesFlight 54 = .ok (.iload_n 1, 1) := by decide +kernel
theorem dX9_writesFlight_55 : decode cX9_writesFlight 55 = .ok (.invokevirtual 400, 3) := by decide +kernel
theorem dX9_writesFlight_58 : decode cX9_writesFlight 58 = .ok (.ifCond .ne 6, 3) := by decide +kernel
theorem dX9_writesFlight_61 : decode cX9_writesFlight 61 = .ok (.goto 30, 3) := by decide +kernel
theorem dX9_writesFlight_64 : decode cX9_writesFlight 64 = .ok (.aload_n 0, 1) := by decide +kernel
theorem dX9_writesFlight_65 : decode cX9_writesFlight 65 = .ok (.bipush 44, 2) := by decide +kernel
theorem dX9_writesFlight_67 : decode cX9_writesFlight 67 = .ok (.invokevirtual 391, 3) := by decide +kernel
theorem dX9_writesFlight_70 : decode cX9_writesFlight 70 = .ok (.aload_n 0, 1) := by decide +kernel
theorem dX9_writesFlight_71 : decode cX9_writesFlight 71 = .ok (.iload_n 2, 1) := by decide +kernel
theorem dX9_writesFlight_72 : decode cX9_writesFlight 72 = .ok (.invokevirtual 394, 3) := by decide +kernel
theorem dX9_writesFlight_75 : decode cX9_writesFlight 75 = .ok (.aload_n 0, 1) := by decide +kernel
theorem dX9_writesFlight_76 : decode cX9_writesFlight 76 = .ok (.bipush 120, 2) := by decide +kernel
theorem dX9_writesFlight_78 : decode cX9_writesFlight 78 = .ok (.invokevirtual 391, 3) := by decide +kernel
theorem dX9_writesFlight_81 : decode cX9_writesFlight 81 = .ok (.aload_n 0, 1) := by decide +kernel
theorem dX9_writesFlight_82 : decode cX9_writesFlight 82 = .ok (.aload_n 0, 1) := by decide +kernel
theorem dX9_writesFlight_83 : decode cX9_writesFlight 83 = .ok (.iload_n 2, 1) := by decide +kernel
theorem dX9_writesFlight_84 : decode cX9_writesFlight 84 = .ok (.iload_n 1, 1) := by decide +kernel
theorem dX9_writesFlight_85 : decode cX9_writesFlight 85 = .ok (.invokevirtual 400, 3) := by decide +kernel
theorem dX9_writesFlight_88 : decode cX9_writesFlight 88 = .ok (.invokevirtual 394, 3) := by decide +kernel
theorem dX9_writesFlight_91 : decode cX9_writesFlight 91 = .ok (.iinc 2 1, 3) := by decide +kernel
theorem dX9_writesFlight_94 : decode cX9_writesFlight 94 = .ok (.goto (-53), 3) := by decide +kernel
theorem dX9_writesFlight_97 : decode cX9_writesFlight 97 = .ok (.return_, 1) := by decide +kernel
theorem dX9_timetable_0 : decode cX9_timetable 0 = .ok (.aload_n 0, 1) := by decide +kernel
theorem dX9_timetable_1 : decode cX9_timetable 1 = .ok (.iconst 1, 1) := by decide +kernel
theorem dX9_timetable_2 : decode cX9_timetable 2 = .ok (.invokevirtual 353, 3) := by decide +kernel
theorem dX9_timetable_5 : decode cX9_timetable 5 = .ok (.ifCond .ne 5, 3) := by decide +kernel
theorem dX9_timetable_8 : decode cX9_timetable 8 = .ok (.iconst 0, 1) := by decide +kernel
theorem dX9_timetable_9 : decode cX9_timetable 9 = .ok (.ireturn, 1) := by decide +kernel
theorem dX9_timetable_10 : decode cX9_timetable 10 = .ok (.aload_n 0, 1) := by decide +kernel
theorem dX9_timetable_11 : decode cX9_timetable 11 = .ok (.aload_n 0, 1) := by decide +kernel
theorem dX9_timetable_12 : decode cX9_timetable 12 = .ok (.getfield 73, 3) := by decide +kernel
theorem dX9_timetable_15 : decode cX9_timetable 15 = .ok (.putfield 76, 3) := by decide +kernel
theorem dX9_timetable_18 : decode cX9_timetable 18 = .ok (.aload_n 0, 1) := by decide +kernel
theorem dX9_timetable_19 : decode cX9_timetable 19 = .ok (.iconst 0, 1) := by decide +kernel
theorem dX9_timetable_20 : decode cX9_timetable 20 = .ok (.putfield 388, 3) := by decide +kernel
theorem dX9_timetable_23 : decode cX9_timetable 23 = .ok (.iconst 0, 1) := by decide +kernel
theorem dX9_timetable_24 : decode cX9_timetable 24 = .ok (.istore_n 1, 1) := by decide +kernel
theorem dX9_timetable_25 : decode cX9_timetable 25 = .ok (.iload_n 1, 1) := by decide +kernel
theorem dX9_timetable_26 : decode cX9_timetable 26 = .ok (.aload_n 0, 1) := by decide +kernel
theorem dX9_timetable_27 : decode cX9_timetable 27 = .ok (.getfield 17, 3) := by decide +kernel
theorem dX9_timetable_30 : decode cX9_timetable 30 = .ok (.bipush 12, 2) := by decide +kernel
theorem dX9_timetable_32 : decode cX9_timetable 32 = .ok (.iaload, 1) := by decide +kernel
theorem dX9_timetable_33 : decode cX9_timetable 33 = .ok (.if_icmp .ge 52, 3) := by decide +kernel
theorem dX9_timetable_36 : decode cX9_timetable 36 = .ok (.iload_n 1, 1) := by decide +kernel
theorem dX9_timetable_37 : decode cX9_timetable 37 = .ok (.ifCond .le 9, 3) := by decide +kernel
theorem dX9_timetable_40 : decode cX9_timetable 40 = .ok (.aload_n 0, 1) := by decide +kernel
theorem dX9_timetable_41 : decode cX9_timetable 41 = .ok (.bipush 59, 2) := by decide +kernel
theorem dX9_timetable_43 : decode cX9_timetable 43 = .ok (.invokevirtual 391, 3) := by decide +kernel
theorem dX9_timetable_46 : decode cX9_timetable 46 = .ok (.iconst 0, 1) := by decide +kernel
theorem dX9_timetable_47 : decode cX9_timetable 47 = .ok (.istore_n 2, 1) := by decide +kernel
theorem dX9_timetable_48 : decode cX9_timetable 48 = .ok (.iload_n 2, 1) := by decide +kernel
theorem dX9_timetable_49 : decode cX9_timetable 49 = .ok (.aload_n 0, 1) := by decide +kernel
theorem dX9_timetable_50 : decode cX9_timetable 50 = .ok (.getfield 17, 3) := by decide +kernel
theorem dX9_timetable_53 : decode cX9_timetable 53 = .ok (.bipush 12, 2) := by decide +kernel
theorem dX9_timetable_55 : decode cX9_timetable 55 = .ok (.iaload, 1) := by decide +kernel
theorem dX9_timetable_56 : decode cX9_timetable 56 = .ok (.if_icmp .ge 23, 3) := by decide +kernel
theorem dX9_timetable_59 : decode cX9_timetable 59 = .ok (.aload_n 0, 1) := by decide +kernel
theorem dX9_timetable_60 : decode cX9_timetable 60 = .ok (.iload_n 2, 1) := by decide +kernel
theorem dX9_timetable_61 : decode cX9_timetable 61 = .ok (.invokevirtual 403, 3) := by decide +kernel
theorem dX9_timetable_64 : decode cX9_timetable 64 = .ok (.iload_n 1, 1) := by decide +kernel
theorem dX9_timetable_65 : decode cX9_timetable 65 = .ok (.if_icmp .ne 8, 3) := by decide +kernel
theorem dX9_timetable_68 : decode cX9_timetable 68 = .ok (.aload_n 0, 1) := by decide +kernel
theorem dX9_timetable_69 : decode cX9_timetable 69 = .ok (.iload_n 2, 1) := by decide +kernel
theorem dX9_timetable_70 : decode cX9_timetable 70 = .ok (.invokevirtual 406, 3) := by decide +kernel
theorem dX9_timetable_73 : decode cX9_timetable 73 = .ok (.iinc 2 1, 3) := by decide +kernel
theorem dX9_timetable_76 : decode cX9_timetable 76 = .ok (.goto (-28), 3) := by decide +kernel
theorem dX9_timetable_79 : decode cX9_timetable 79 = .ok (.iinc 1 1, 3) := by decide +kernel
theorem dX9_timetable_82 : decode cX9_timetable 82 = .ok (.goto (-57), 3) := by decide +kernel
theorem dX9_timetable_85 : decode cX9_timetable 85 = .ok (.aload_n 0, 1) := by decide +kernel
theorem dX9_timetable_86 : decode cX9_timetable 86 = .ok (.aload_n 0, 1) := by decide +kernel
theorem dX9_timetable_87 : decode cX9_timetable 87 = .ok (.getfield 388, 3) := by decide +kernel
theorem dX9_timetable_90 : decode cX9_timetable 90 = .ok (.putfield 409, 3) := by decide +kernel
theorem dX9_timetable_93 : decode cX9_timetable 93 = .ok (.aload_n 0, 1) := by decide +kernel
theorem dX9_timetable_94 : decode cX9_timetable 94 = .ok (.getfield 409, 3) := by decide +kernel
theorem dX9_timetable_97 : decode cX9_timetable 97 = .ok (.ireturn, 1) := by decide +kernel
theorem dX9_timetableByte_0 : decode cX9_timetableByte 0 = .ok (.aload_n 0, 1) := by decide +kernel
theorem dX9_timetableByte_1 : decode cX9_timetableByte 1 = .ok (.iload_n 1, 1) := by decide +kernel
theorem dX9_timetableByte_2 : decode cX9_timetableByte 2 = .ok (.iconst 0, 1) := by decide +kernel
theorem dX9_timetableByte_3 : decode cX9_timetableByte 3 = .ok (.aload_n 0, 1) := by decide +kernel
theorem dX9_timetableByte_4 : decode cX9_timetableByte 4 = .ok (.getfield 409, 3) := by decide +kernel
theorem dX9_timetableByte_7 : decode cX9_timetableByte 7 = .ok (.iconst 1, 1) := by decide +kernel
theorem dX9_timetableByte_8 : decode cX9_timetableByte 8 = .ok (.isub, 1) := by decide +kernel
theorem dX9_timetableByte_9 : decode cX9_timetableByte 9 = .ok (.invokestatic 111, 3) := by decide +kernel
theorem dX9_timetableByte_12 : decode cX9_timetableByte 12 = .ok (.ifCond .eq 7, 3) := by decide +kernel
theorem dX9_timetableByte_15 : decode cX9_timetableByte 15 = .ok (.iconst 0, 1) := by decide +kernel
theorem dX9_timetableByte_16 : decode cX9_timetableByte 16 = .ok (.goto 4, 3) := by decide +kernel
theorem dX9_timetableByte_19 : decode cX9_timetableByte 19 = .ok (.iconst 1, 1) := by decide +kernel
theorem dX9_timetableByte_20 : decode cX9_timetableByte 20 = .ok (.putfield 82, 3) := by decide +kernel
theorem dX9_timetableByte_23 : decode cX9_timetableByte 23 = .ok (.aload_n 0, 1) := by decide +kernel
theorem dX9_timetableByte_24 : decode cX9_timetableByte 24 = .ok (.getfield 82, 3) := by decide +kernel
theorem dX9_timetableByte_27 : decode cX9_timetableByte 27 = .ok (.ifCond .ne 12, 3) := by decide +kernel
theorem dX9_timetableByte_30 : decode cX9_timetableByte 30 = .ok (.aload_n 0, 1) := by decide +kernel
theorem dX9_timetableByte_31 : decode cX9_timetableByte 31 = .ok (.getfield 73, 3) := by decide +kernel
theorem dX9_timetableByte_34 : decode cX9_timetableByte 34 = .ok (.iload_n 1, 1) := by decide +kernel
theorem dX9_timetableByte_35 : decode cX9_timetableByte 35 = .ok (.iaload, 1) := by decide +kernel
theorem dX9_timetableByte_36 : decode cX9_timetableByte 36 = .ok (.goto 4, 3) := by decide +kernel
theorem dX9_timetableByte_39 : decode cX9_timetableByte 39 = .ok (.iconst 0, 1) := by decide +kernel
theorem dX9_timetableByte_40 : decode cX9_timetableByte 40 = .ok (.ireturn, 1) := by decide +kernel
theorem dX9_reportByte_0 : decode cX9_reportByte 0 = .ok (.aload_n 0, 1) := by decide +kernel
theorem dX9_reportByte_1 : decode cX9_reportByte 1 = .ok (.iload_n 1, 1) := by decide +kernel
theorem dX9_reportByte_2 : decode cX9_reportByte 2 = .ok (.iconst 0, 1) := by decide +kernel
theorem dX9_reportByte_3 : decode cX9_reportByte 3 = .ok (.aload_n 0, 1) := by decide +kernel
theorem dX9_reportByte_4 : decode cX9_reportByte 4 = .ok (.getfield 397, 3) := by decide +kernel
theorem dX9_reportByte_7 : decode cX9_reportByte 7 = .ok (.iconst 1, 1) := by decide +kernel
theorem dX9_reportByte_8 : decode cX9_reportByte 8 = .ok (.isub, 1) := by decide +kernel
theorem dX9_reportByte_9 : decode cX9_reportByte 9 = .ok (.invokestatic 111, 3) := by decide +kernel
theorem dX9_reportByte_12 : decode cX9_reportByte 12 = .ok (.ifCond .eq 7, 3) := by decide +kernel
theorem dX9_reportByte_15 : decode cX9_reportByte 15 = .ok (.iconst 0, 1) := by decide +kernel
theorem dX9_reportByte_16 : decode cX9_reportByte 16 = .ok (.goto 4, 3) := by decide +kernel
theorem dX9_reportByte_19 : decode cX9_reportByte 19 = .ok (.iconst 1, 1) := by decide +kernel
theorem dX9_reportByte_20 : decode cX9_reportByte 20 = .ok (.putfield 82, 3) := by decide +kernel
theorem dX9_reportByte_23 : decode cX9_reportByte 23 = .ok (.aload_n 0, 1) := by decide +kernel
theorem dX9_reportByte_24 : decode cX9_reportByte 24 = .ok (.getfield 82, 3) := by decide +kernel
theorem dX9_reportByte_27 : decode cX9_reportByte 27 = .ok (.ifCond .ne 12, 3) := by decide +kernel
theorem dX9_reportByte_30 : decode cX9_reportByte 30 = .ok (.aload_n 0, 1) := by decide +kernel
theorem dX9_reportByte_31 : decode cX9_reportByte 31 = .ok (.getfield 70, 3) := by decide +kernel
theorem dX9_reportByte_34 : decode cX9_reportByte 34 = .ok (.iload_n 1, 1) := by decide +kernel
theorem dX9_reportByte_35 : decode cX9_reportByte 35 = .ok (.iaload, 1) := by decide +kernel
theorem dX9_reportByte_36 : decode cX9_reportByte 36 = .ok (.goto 4, 3) := by decide +kernel
theorem dX9_reportByte_39 : decode cX9_reportByte 39 = .ok (.iconst 0, 1) := by decide +kernel
theorem dX9_reportByte_40 : decode cX9_reportByte 40 = .ok (.ireturn, 1) := by decide +kernel
theorem dX9_map_0 : decode cX9_map 0 = .ok (.aload_n 0, 1) := by decide +kernel
theorem dX9_map_1 : decode cX9_map 1 = .ok (.iconst 1, 1) := by decide +kernel
theorem dX9_map_2 : decode cX9_map 2 = .ok (.invokevirtual 353, 3) := by decide +kernel
theorem dX9_map_5 : decode cX9_map 5 = .ok (.ifCond .ne 5, 3) := by decide +kernel
theorem dX9_map_8 : decode cX9_map 8 = .ok (.iconst 0, 1) := by decide +kernel
theorem dX9_map_9 : decode cX9_map 9 = .ok (.ireturn, 1) := by decide +kernel
theorem dX9_map_10 : decode cX9_map 10 = .ok (.aload_n 0, 1) := by decide +kernel
theorem dX9_map_11 : decode cX9_map 11 = .ok (.aload_n 0, 1) := by decide +kernel
theorem dX9_map_12 : decode cX9_map 12 = .ok (.getfield 17, 3) := by decide +kernel
theorem dX9_map_15 : decode cX9_map 15 = .ok (.iconst 0, 1) := by decide +kernel
theorem dX9_map_16 : decode cX9_map 16 = .ok (.iaload, 1) := by decide +kernel
theorem dX9_map_17 : decode cX9_map 17 = .ok (.putfield 412, 3) := by decide +kernel
theorem dX9_map_20 : decode cX9_map 20 = .ok (.iconst 0, 1) := by decide +kernel
theorem dX9_map_21 : decode cX9_map 21 = .ok (.istore_n 1, 1) := by decide +kernel
theorem dX9_map_22 : decode cX9_map 22 = .ok (.iload_n 1, 1) := by decide +kernel
theorem dX9_map_23 : decode cX9_map 23 = .ok (.aload_n 0, 1) := by decide +kernel
theorem dX9_map_24 : decode cX9_map 24 = .ok (.getfield 412, 3) := by decide +kernel
theorem dX9_map_27 : decode cX9_map 27 = .ok (.if_icmp .ge 56, 3) := by decide +kernel
theorem dX9_map_30 : decode cX9_map 30 = .ok (.aload_n 0, 1) := by decide +kernel
theorem dX9_map_31 : decode cX9_map 31 = .ok (.getfield 79, 3) := by decide +kernel
theorem dX9_map_34 : decode cX9_map 34 = .ok (.iload_n 1, 1) := by decide +kernel
theorem dX9_map_35 : decode cX9_map 35 = .ok (.aload_n 0, 1) := by decide +kernel
theorem dX9_map_36 : decode cX9_map 36 = .ok (.getfield 23, 3) := by decide +kernel
theorem dX9_map_39 : decode cX9_map 39 = .ok (.sipush 133, 3) := by decide +kernel
theorem dX9_map_42 : decode cX9_map 42 = .ok (.iload_n 1, 1) := by decide +kernel
theorem dX9_map_43 : decode cX9_map 43 = .ok (.iadd, 1) := by decide +kernel
theorem dX9_map_44 : decode cX9_map 44 = .ok (.iaload, 1) := by decide +kernel
theorem dX9_map_45 : decode cX9_map 45 = .ok (.iconst (-1), 1) := by decide +kernel
theorem dX9_map_46 : decode cX9_map 46 = .ok (.if_icmp .ne 8, 3) := by decide +kernel
theorem dX9_map_49 : decode cX9_map 49 = .ok (.bipush 46, 2) := by decide +kernel
theorem dX9_map_51 : decode cX9_map 51 = .ok (.goto 25, 3) := by decide +kernel
theorem dX9_map_54 : decode cX9_map 54 = .ok (.bipush 65, 2) := by decide +kernel
theorem dX9_map_56 : decode cX9_map 56 = .ok (.aload_n 0, 1) := by decide +kernel
theorem dX9_map_57 : decode cX9_map 57 = .ok (.getfield 23, 3) := by decide +kernel
theorem dX9_map_60 : decode cX9_map 60 = .ok (.sipush 173, 3) := by decide +kernel
theorem dX9_map_63 : decode cX9_map 63 = .ok (.aload_n 0, 1) := by decide +kernel
theorem dX9_map_64 : decode cX9_map 64 = .ok (.getfield 23, 3) := by decide +kernel
theorem dX9_map_67 : decode cX9_map 67 = .ok (.sipush 133, 3) := by decide +kernel
theorem dX9_map_70 : decode cX9_map 70 = .ok (.iload_n 1, 1) := by decide +kernel
theorem dX9_map_71 : decode cX9_map 71 = .ok (.iadd, 1) := by decide +kernel
theorem dX9_map_72 : decode cX9_map 72 = .ok (.iaload, 1) := by decide +kernel
theorem dX9_map_73 : decode cX9_map 73 = .ok (.iadd, 1) := by decide +kernel
theorem dX9_map_74 : decode cX9_map 74 = .ok (.iaload, 1) := by decide +kernel
theorem dX9_map_75 : decode cX9_map 75 = .ok (.iadd, 1) := by decide +kernel
theorem dX9_map_76 : decode cX9_map 76 = .ok (.iastore, 1) := by decide +kernel
theorem dX9_map_77 : decode cX9_map 77 = .ok (.iinc 1 1, 3) := by decide +kernel
theorem dX9_map_80 : decode cX9_map 80 = .ok (.goto (-58), 3) := by decide +kernel
theorem dX9_map_83 : decode cX9_map 83 = .ok (.aload_n 0, 1) := by decide +kernel
theorem dX9_map_84 : decode cX9_map 84 = .ok (.getfield 412, 3) := by decide +kernel
theorem dX9_map_87 : decode cX9_map 87 = .ok (.ireturn, 1) := by decide +kernel
theorem dX9_mapByte_0 : decode cX9_mapByte 0 = .ok (.aload_n 0, 1) := by decide +kernel
theorem dX9_mapByte_1 : decode cX9_mapByte 1 = .ok (.iload_n 1, 1) := by decide +kernel
theorem dX9_mapByte_2 : decode cX9_mapByte 2 = .ok (.iconst 0, 1) := by decide +kernel
theorem dX9_mapByte_3 : decode cX9_mapByte 3 = .ok (.aload_n 0, 1) := by decide +kernel
theorem dX9_mapByte_4 : decode cX9_mapByte 4 = .ok (.getfield 412, 3) := by decide +kernel
theorem dX9_mapByte_7 : decode cX9_mapByte 7 = .ok (.iconst 1, 1) := by decide +kernel
theorem dX9_mapByte_8 : decode cX9_mapByte 8 = .ok (.isub, 1) := by decide +kernel
theorem dX9_mapByte_9 : decode cX9_mapByte 9 = .ok (.invokestatic 111, 3) := by decide +kernel
theorem dX9_mapByte_12 : decode cX9_mapByte 12 = .ok (.ifCond .eq 7, 3) := by decide +kernel
theorem dX9_mapByte_15 : decode cX9_mapByte 15 = .ok (.iconst 0, 1) := by decide +kernel
theorem dX9_mapByte_16 : decode cX9_mapByte 16 = .ok (.goto 4, 3) := by decide +kernel
theorem dX9_mapByte_19 : decode cX9_mapByte 19 = .ok (.iconst 1, 1) := by decide +kernel
theorem dX9_mapByte_20 : decode cX9_mapByte 20 = .ok (.putfield 82, 3) := by decide +kernel
theorem dX9_mapByte_23 : decode cX9_mapByte 23 = .ok (.aload_n 0, 1) := by decide +kernel
theorem dX9_mapByte_24 : decode cX9_mapByte 24 = .ok (.getfield 82, 3) := by decide +kernel
theorem dX9_mapByte_27 : decode cX9_mapByte 27 = .ok (.ifCond .ne 12, 3) := by decide +kernel
theorem dX9_mapByte_30 : decode cX9_mapByte 30 = .ok (.aload_n 0, 1) := by decide +kernel
theorem dX9_mapByte_31 : decode cX9_mapByte 31 = .ok (.getfield 79, 3) := by decide +kernel
theorem dX9_mapByte_34 : decode cX9_mapByte 34 = .ok (.iload_n 1, 1) := by decide +kernel
theorem dX9_mapByte_35 : decode cX9_mapByte 35 = .ok (.iaload, 1) := by decide +kernel
theorem dX9_mapByte_36 : decode cX9_mapByte 36 = .ok (.goto 4, 3) := by decide +kernel
theorem dX9_mapByte_39 : decode cX9_mapByte 39 = .ok (.iconst 0, 1) := by decide +kernel
theorem dX9_mapByte_40 : decode cX9_mapByte 40 = .ok (.ireturn, 1) := by decide +kernel
theorem dX9_canGo_0 : decode cX9_canGo 0 = .ok (.iload_n 1, 1) := by decide +kernel
theorem dX9_canGo_1 : decode cX9_canGo 1 = .ok (.iconst 1, 1) := by decide +kernel
theorem dX9_canGo_2 : decode cX9_canGo 2 = .ok (.iload_n 2, 1) := by decide +kernel
theorem dX9_canGo_3 : decode cX9_canGo 3 = .ok (.invokestatic 111, 3) := by decide +kernel
theorem dX9_canGo_6 : decode cX9_canGo 6 = .ok (.ifCond .eq 21, 3) := by decide +kernel
theorem dX9_canGo_9 : decode cX9_canGo 9 = .ok (.aload_n 0, 1) := by decide +kernel
theorem dX9_canGo_10 : decode cX9_canGo 10 = .ok (.getfield 23, 3) := by decide +kernel
theorem dX9_canGo_13 : decode cX9_canGo 13 = .ok (.iconst 0, 1) := by decide +kernel
theorem dX9_canGo_14 : decode cX9_canGo 14 = .ok (.iaload, 1) := by decide +kernel
theorem dX9_canGo_15 : decode cX9_canGo 15 = .ok (.iload_n 1, 1) := by decide +kernel
theorem dX9_canGo_16 : decode cX9_canGo 16 = .ok (.iadd, 1) := by decide +kernel
theorem dX9_canGo_17 : decode cX9_canGo 17 = .ok (.sipush 9999, 3) := by decide +kernel
theorem dX9_canGo_20 : decode cX9_canGo 20 = .ok (.if_icmp .gt 7, 3) := by decide +kernel
theorem dX9_canGo_23 : decode cX9_canGo 23 = .ok (.iconst 1, 1) := by decide +kernel
theorem dX9_canGo_24 : decode cX9_canGo 24 = .ok (.goto 4, 3) := by decide +kernel
theorem dX9_canGo_27 : decode cX9_canGo 27 = .ok (.iconst 0, 1) := by decide +kernel
theorem dX9_canGo_28 : decode cX9_canGo 28 = .ok (.ireturn, 1) := by decide +kernel
theorem dX9_areTicks_0 : decode cX9_areTicks 0 = .ok (.aload_n 0, 1) := by decide +kernel
theorem dX9_areTicks_1 : decode cX9_areTicks 1 = .ok (.iconst 1, 1) := by decide +kernel
theorem dX9_areTicks_2 : decode cX9_areTicks 2 = .ok (.invokevirtual 353, 3) := by decide +kernel
theorem dX9_areTicks_5 : decode cX9_areTicks 5 = .ok (.ifCond .ne 5, 3) := by decide +kernel
theorem dX9_areTicks_8 : decode cX9_areTicks 8 = .ok (.iconst 0, 1) := by decide +kernel
theorem dX9_areTicks_9 : decode cX9_areTicks 9 = .ok (.ireturn, 1) := by decide +kernel
theorem dX9_areTicks_10 : decode cX9_areTicks 10 = .ok (.aload_n 0, 1) := by decide +kernel
theorem dX9_areTicks_11 : decode cX9_areTicks 11 = .ok (.aload_n 0, 1) := by decide +kernel
theorem dX9_areTicks_12 : decode cX9_areTicks 12 = .ok (.iload_n 1, 1) := by decide +kernel
theorem dX9_areTicks_13 : decode cX9_areTicks 13 = .ok (.sipush 500, 3) := by decide +kernel
theorem dX9_areTicks_16 : decode cX9_areTicks 16 = .ok (.invokevirtual 415, 3) := by decide +kernel
theorem dX9_areTicks_19 : decode cX9_areTicks 19 = .ok (.ifCond .eq 7, 3) := by decide +kernel
theorem dX9_areTicks_22 : decode cX9_areTicks 22 = .ok (.iconst 0, 1) := by decide +kernel
theorem dX9_areTicks_23 : decode cX9_areTicks 23 = .ok (.goto 4, 3) := by decide +kernel
theorem dX9_areTicks_26 : decode cX9_areTicks 26 = .ok (.iconst 2, 1) := by decide +kernel
theorem dX9_areTicks_27 : decode cX9_areTicks 27 = .ok (.putfield 82, 3) := by decide +kernel
theorem dX9_areTicks_30 : decode cX9_areTicks 30 = .ok (.aload_n 0, 1) := by decide +kernel
theorem dX9_areTicks_31 : decode cX9_areTicks 31 = .ok (.getfield 82, 3) := by decide +kernel
theorem dX9_areTicks_34 : decode cX9_areTicks 34 = .ok (.ifCond .ne 7, 3) := by decide +kernel
theorem dX9_areTicks_37 : decode cX9_areTicks 37 = .ok (.iconst 1, 1) := by decide +kernel
theorem dX9_areTicks_38 : decode cX9_areTicks 38 = .ok (.goto 4, 3) := by decide +kernel
theorem dX9_areTicks_41 : decode cX9_areTicks 41 = .ok (.iconst 0, 1) := by decide +kernel
theorem dX9_areTicks_42 : decode cX9_areTicks 42 = .ok (.ireturn, 1) := by decide +kernel
theorem dX9_tries_0 : decode cX9_tries 0 = .ok (.aload_n 0, 1) := by decide +kernel
theorem dX9_tries_1 : decode cX9_tries 1 = .ok (.getfield 23, 3) := by decide +kernel
theorem dX9_tries_4 : decode cX9_tries 4 = .ok (.iconst 0, 1) := by decide +kernel
theorem dX9_tries_5 : decode cX9_tries 5 = .ok (.aload_n 0, 1) := by decide +kernel
theorem dX9_tries_6 : decode cX9_tries 6 = .ok (.getfield 29, 3) := by decide +kernel
theorem dX9_tries_9 : decode cX9_tries 9 = .ok (.iconst 0, 1) := by decide +kernel
theorem dX9_tries_10 : decode cX9_tries 10 = .ok (.invokestatic 246, 3) := by decide +kernel
theorem dX9_tries_13 : decode cX9_tries 13 = .ok (.aload_n 0, 1) := by decide +kernel
theorem dX9_tries_14 : decode cX9_tries 14 = .ok (.aload_n 0, 1) := by decide +kernel
theorem dX9_tries_15 : decode cX9_tries 15 = .ok (.getfield 29, 3) := by decide +kernel
theorem dX9_tries_18 : decode cX9_tries 18 = .ok (.iload_n 1, 1) := by decide +kernel
theorem dX9_tries_19 : decode cX9_tries 19 = .ok (.invokevirtual 418, 3) := by decide +kernel
theorem dX9_tries_22 : decode cX9_tries 22 = .ok (.return_, 1) := by decide +kernel
theorem dX9_grows_0 : decode cX9_grows 0 = .ok (.aload_n 0, 1) := by decide +kernel
theorem dX9_grows_1 : decode cX9_grows 1 = .ok (.getfield 29, 3) := by decide +kernel
theorem dX9_grows_4 : decode cX9_grows 4 = .ok (.iload_n 1, 1) := by decide +kernel
theorem dX9_grows_5 : decode cX9_grows 5 = .ok (.invokestatic 276, 3) := by decide +kernel
theorem dX9_grows_8 : decode cX9_grows 8 = .ok (.aload_n 0, 1) := by decide +kernel
theorem dX9_grows_9 : decode cX9_grows 9 = .ok (.getfield 23, 3) := by decide +kernel
theorem dX9_grows_12 : decode cX9_grows 12 = .ok (.iload_n 1, 1) := by decide +kernel
theorem dX9_grows_13 : decode cX9_grows 13 = .ok (.invokestatic 276, 3) := by decide +kernel
theorem dX9_grows_16 : decode cX9_grows 16 = .ok (.isub, 1) := by decide +kernel
theorem dX9_grows_17 : decode cX9_grows 17 = .ok (.ireturn, 1) := by decide +kernel
theorem dX9_loadedIn_0 : decode cX9_loadedIn 0 = .ok (.aload_n 0, 1) := by decide +kernel
theorem dX9_loadedIn_1 : decode cX9_loadedIn 1 = .ok (.iload_n 1, 1) := by decide +kernel
theorem dX9_loadedIn_2 : decode cX9_loadedIn 2 = .ok (.invokevirtual 421, 3) := by decide +kernel
theorem dX9_loadedIn_5 : decode cX9_loadedIn 5 = .ok (.ifCond .ne 5, 3) := by decide +kernel
theorem dX9_loadedIn_8 : decode cX9_loadedIn 8 = .ok (.iconst 0, 1) := by decide +kernel
theorem dX9_loadedIn_9 : decode cX9_loadedIn 9 = .ok (.ireturn, 1) := by decide +kernel
theorem dX9_loadedIn_10 : decode cX9_loadedIn 10 = .ok (.aload_n 0, 1) := by decide +kernel
theorem dX9_loadedIn_11 : decode cX9_loadedIn 11 = .ok (.iload_n 1, 1) := by decide +kernel
theorem dX9_loadedIn_12 : decode cX9_loadedIn 12 = .ok (.invokevirtual 424, 3) := by decide +kernel
theorem dX9_loadedIn_15 : decode cX9_loadedIn 15 = .ok (.aload_n 0, 1) := by decide +kernel
theorem dX9_loadedIn_16 : decode cX9_loadedIn 16 = .ok (.bipush 10, 2) := by decide +kernel
theorem dX9_loadedIn_18 : decode cX9_loadedIn 18 = .ok (.invokevirtual 427, 3) := by decide +kernel
theorem dX9_loadedIn_21 : decode cX9_loadedIn 21 = .ok (.ireturn, 1) := by decide +kernel
theorem dX9_shortIn_0 : decode cX9_shortIn 0 = .ok (.aload_n 0, 1) := by decide +kernel
theorem dX9_shortIn_1 : decode cX9_shortIn 1 = .ok (.iload_n 1, 1) := by decide +kernel
theorem dX9_shortIn_2 : decode cX9_shortIn 2 = .ok (.invokevirtual 421, 3) := by decide +kernel
theorem dX9_shortIn_5 : decode cX9_shortIn 5 = .ok (.ifCond .ne 5, 3) := by decide +kernel
theorem dX9_shortIn_8 : decode cX9_shortIn 8 = .ok (.iconst 0, 1) := by decide +kernel
theorem dX9_shortIn_9 : decode cX9_shortIn 9 = .ok (.ireturn, 1) := by decide +kernel
theorem dX9_shortIn_10 : decode cX9_shortIn 10 = .ok (.aload_n 0, 1) := by decide +kernel
theorem dX9_shortIn_11 : decode cX9_shortIn 11 = .ok (.iload_n 1, 1) := by decide +kernel
theorem dX9_shortIn_12 : decode cX9_shortIn 12 = .ok (.invokevirtual 424, 3) := by decide +kernel
theorem dX9_shortIn_15 : decode cX9_shortIn 15 = .ok (.aload_n 0, 1) := by decide +kernel
theorem dX9_shortIn_16 : decode cX9_shortIn 16 = .ok (.bipush 11, 2) := by decide +kernel
theorem dX9_shortIn_18 : decode cX9_shortIn 18 = .ok (.invokevirtual 427, 3) := by decide +kernel
theorem dX9_shortIn_21 : decode cX9_shortIn 21 = .ok (.ireturn, 1) := by decide +kernel
theorem dX9_isClear_0 : decode cX9_isClear 0 = .ok (.iconst 0, 1) := by decide +kernel
theorem dX9_isClear_1 : decode cX9_isClear 1 = .ok (.istore_n 1, 1) := by decide +kernel
theorem dX9_isClear_2 : decode cX9_isClear 2 = .ok (.iload_n 1, 1) := by decide +kernel
theorem dX9_isClear_3 : decode cX9_isClear 3 = .ok (.aload_n 0, 1) := by decide +kernel
theorem dX9_isClear_4 : decode cX9_isClear 4 = .ok (.iconst 2, 1) := by decide +kernel
theorem dX9_isClear_5 : decode cX9_isClear 5 = .ok (.iaload, 1) := by decide +kernel
theorem dX9_isClear_6 : decode cX9_isClear 6 = .ok (.if_icmp .ge 23, 3) := by decide +kernel
theorem dX9_isClear_9 : decode cX9_isClear 9 = .ok (.aload_n 0, 1) := by decide +kernel
theorem dX9_isClear_10 : decode cX9_isClear 10 = .ok (.sipush 373, 3) := by decide +kernel
theorem dX9_isClear_13 : decode cX9_isClear 13 = .ok (.iload_n 1, 1) := by decide +kernel
theorem dX9_isClear_14 : decode cX9_isClear 14 = .ok (.iadd, 1) := by decide +kernel
theorem dX9_isClear_15 : decode cX9_isClear 15 = .ok (.iaload, 1) := by decide +kernel
theorem dX9_isClear_16 : decode cX9_isClear 16 = .ok (.bipush 10, 2) := by decide +kernel
theorem dX9_isClear_18 : decode cX9_isClear 18 = .ok (.if_icmp .ge 5, 3) := by decide +kernel
theorem dX9_isClear_21 : decode cX9_isClear 21 = .ok (.iconst 0, 1) := by decide +kernel
theorem dX9_isClear_22 : decode cX9_isClear 22 = .ok (.ireturn, 1) := by decide +kernel
theorem dX9_isClear_23 : decode cX9_isClear 23 = .ok (.iinc 1 1, 3) := by decide +kernel
theorem dX9_isClear_26 : decode cX9_isClear 26 = .ok (.goto (-24), 3) := by decide +kernel
theorem dX9_isClear_29 : decode cX9_isClear 29 = .ok (.iconst 1, 1) := by decide +kernel
theorem dX9_isClear_30 : decode cX9_isClear 30 = .ok (.ireturn, 1) := by decide +kernel
theorem dX9_timeToClear_0 : decode cX9_timeToClear 0 = .ok (.aload_n 0, 1) := by decide +kernel
theorem dX9_timeToClear_1 : decode cX9_timeToClear 1 = .ok (.iload_n 1, 1) := by decide +kernel
theorem dX9_timeToClear_2 : decode cX9_timeToClear 2 = .ok (.invokevirtual 421, 3) := by decide +kernel
theorem dX9_timeToClear_5 : decode cX9_timeToClear 5 = .ok (.ifCond .ne 5, 3) := by decide +kernel
theorem dX9_timeToClear_8 : decode cX9_timeToClear 8 = .ok (.iconst 0, 1) := by decide +kernel
theorem dX9_timeToClear_9 : decode cX9_timeToClear 9 = .ok (.ireturn, 1) := by decide +kernel
theorem dX9_timeToClear_10 : decode cX9_timeToClear 10 = .ok (.aload_n 0, 1) := by decide +kernel
theorem dX9_timeToClear_11 : decode cX9_timeToClear 11 = .ok (.iconst 0, 1) := by decide +kernel
theorem dX9_timeToClear_12 : decode cX9_timeToClear 12 = .ok (.invokevirtual 424, 3) := by decide +kernel
theorem dX9_timeToClear_15 : decode cX9_timeToClear 15 = .ok (.iconst 0, 1) := by decide +kernel
theorem dX9_timeToClear_16 : decode cX9_timeToClear 16 = .ok (.istore_n 2, 1) := by decide +kernel
theorem dX9_timeToClear_17 : decode cX9_timeToClear 17 = .ok (.iload_n 2, 1) := by decide +kernel
theorem dX9_timeToClear_18 : decode cX9_timeToClear 18 = .ok (.iload_n 1, 1) := by decide +kernel
theorem dX9_timeToClear_19 : decode cX9_timeToClear 19 = .ok (.if_icmp .gt 29, 3) := by decide +kernel
theorem dX9_timeToClear_22 : decode cX9_timeToClear 22 = .ok (.aload_n 0, 1) := by decide +kernel
theorem dX9_timeToClear_23 : decode cX9_timeToClear 23 = .ok (.getfield 29, 3) := by decide +kernel
theorem dX9_timeToClear_26 : decode cX9_timeToClear 26 = .ok (.invokestatic 430, 3) := by decide +kernel
theorem dX9_timeToClear_29 : decode cX9_timeToClear 29 = .ok (.ifCond .eq 5, 3) := by decide +kernel
theorem dX9_timeToClear_32 : decode cX9_timeToClear 32 = .ok (.iload_n 2, 1) := by decide +kernel
theorem dX9_timeToClear_33 : decode cX9_timeToClear 33 = .ok (.ireturn, 1) := by decide +kernel
theorem dX9_timeToClear_34 : decode cX9_timeToClear 34 = .ok (.aload_n 0, 1) := by decide +kernel
theorem dX9_timeToClear_35 : decode cX9_timeToClear 35 = .ok (.aload_n 0, 1) := by decide +kernel
theorem dX9_timeToClear_36 : decode cX9_timeToClear 36 = .ok (.getfield 29, 3) := by decide +kernel
theorem dX9_timeToClear_39 : decode cX9_timeToClear 39 = .ok (.invokevirtual 344, 3) := by decide +kernel
theorem dX9_timeToClear_42 : decode cX9_timeToClear 42 = .ok (.iinc 2 1, 3) := by decide +kernel
theorem dX9_timeToClear_45 : decode cX9_timeToClear 45 = .ok (.goto (-28), 3) := by decide +kernel
theorem dX9_timeToClear_48 : decode cX9_timeToClear 48 = .ok (.iconst (-1), 1) := by decide +kernel
theorem dX9_timeToClear_49 : decode cX9_timeToClear 49 = .ok (.ireturn, 1) := by decide +kernel
theorem dX9_delays_0 : decode cX9_delays 0 = .ok (.aload_n 0, 1) := by decide +kernel
theorem dX9_delays_1 : decode cX9_delays 1 = .ok (.iload_n 1, 1) := by decide +kernel
theorem dX9_delays_2 : decode cX9_delays 2 = .ok (.invokestatic 257, 3) := by decide +kernel
theorem dX9_delays_5 : decode cX9_delays 5 = .ok (.ifCond .ne 12, 3) := by decide +kernel
theorem dX9_delays_8 : decode cX9_delays 8 = .ok (.aload_n 0, 1) := by decide +kernel
theorem dX9_delays_9 : decode cX9_delays 9 = .ok (.iconst 5, 1) := by decide +kernel
theorem dX9_delays_10 : decode cX9_delays 10 = .ok (.iload_n 1, 1) := by decide +kernel
theorem dX9_delays_11 : decode cX9_delays 11 = .ok (.iadd, 1) := by decide +kernel
theorem dX9_delays_12 : decode cX9_delays 12 = .ok (.dup2, 1) := by decide +kernel
theorem dX9_delays_13 : decode cX9_delays 13 = .ok (.iaload, 1) := by decide +kernel
theorem dX9_delays_14 : decode cX9_delays 14 = .ok (.iload_n 2, 1) := by decide +kernel
theorem dX9_delays_15 : decode cX9_delays 15 = .ok (.iadd, 1) := by decide +kernel
theorem dX9_delays_16 : decode cX9_delays 16 = .ok (.iastore, 1) := by decide +kernel
theorem dX9_delays_17 : decode cX9_delays 17 = .ok (.aload_n 0, 1) := by decide +kernel
theorem dX9_delays_18 : decode cX9_delays 18 = .ok (.bipush 13, 2) := by decide +kernel
theorem dX9_delays_20 : decode cX9_delays 20 = .ok (.iload_n 1, 1) := by decide +kernel
theorem dX9_delays_21 : decode cX9_delays 21 = .ok (.iadd, 1) := by decide +kernel
theorem dX9_delays_22 : decode cX9_delays 22 = .ok (.dup2, 1) := by decide +kernel
theorem dX9_delays_23 : decode cX9_delays 23 = .ok (.iaload, 1) := by decide +kernel
theorem dX9_delays_24 : decode cX9_delays 24 = .ok (.iload_n 2, 1) := by decide +kernel
theorem dX9_delays_25 : decode cX9_delays 25 = .ok (.iadd, 1) := by decide +kernel
theorem dX9_delays_26 : decode cX9_delays 26 = .ok (.iastore, 1) := by decide +kernel
theorem dX9_delays_27 : decode cX9_delays 27 = .ok (.return_, 1) := by decide +kernel
theorem dX9_bestDelay_0 : decode cX9_bestDelay 0 = .ok (.aload_n 0, 1) := by decide +kernel
theorem dX9_bestDelay_1 : decode cX9_bestDelay 1 = .ok (.aload_n 0, 1) := by decide +kernel
theorem dX9_bestDelay_2 : decode cX9_bestDelay 2 = .ok (.iload_n 1, 1) := by decide +kernel
theorem dX9_bestDelay_3 : decode cX9_bestDelay 3 = .ok (.invokevirtual 373, 3) := by decide +kernel
theorem dX9_bestDelay_6 : decode cX9_bestDelay 6 = .ok (.invokevirtual 353, 3) := by decide +kernel
theorem dX9_bestDelay_9 : decode cX9_bestDelay 9 = .ok (.ifCond .ne 5, 3) := by decide +kernel
theorem dX9_bestDelay_12 : decode cX9_bestDelay 12 = .ok (.iconst 0, 1) := by decide +kernel
theorem dX9_bestDelay_13 : decode cX9_bestDelay 13 = .ok (.ireturn, 1) := by decide +kernel
theorem dX9_bestDelay_14 : decode cX9_bestDelay 14 = .ok (.aload_n 0, 1) := by decide +kernel
theorem dX9_bestDelay_15 : decode cX9_bestDelay 15 = .ok (.iload_n 2, 1) := by decide +kernel
theorem dX9_bestDelay_16 : decode cX9_bestDelay 16 = .ok (.sipush 200, 3) := by decide +kernel
theorem dX9_bestDelay_19 : decode cX9_bestDelay 19 = .ok (.invokevirtual 415, 3) := by decide +kernel
theorem dX9_bestDelay_22 : decode cX9_bestDelay 22 = .ok (.ifCond .eq 15, 3) := by decide +kernel
theorem dX9_bestDelay_25 : decode cX9_bestDelay 25 = .ok (.aload_n 0, 1) := by decide +kernel
theorem dX9_bestDelay_26 : decode cX9_bestDelay 26 = .ok (.getfield 23, 3) := by decide +kernel
theorem dX9_bestDelay_29 : decode cX9_bestDelay 29 = .ok (.iload_n 1, 1) := by decide +kernel
theorem dX9_bestDelay_30 : decode cX9_bestDelay 30 = .ok (.invokestatic 257, 3) := by decide +kernel
theorem dX9_bestDelay_33 : decode cX9_bestDelay 33 = .ok (.iconst 2, 1) := by decide +kernel
theorem dX9_bestDelay_34 : decode cX9_bestDelay 34 = .ok (.if_icmp .ne 9, 3) := by decide +kernel
theorem dX9_bestDelay_37 : decode cX9_bestDelay 37 = .ok (.aload_n 0, 1) := by decide +kernel
theorem dX9_bestDelay_38 : decode cX9_bestDelay 38 = .ok (.iconst 3, 1) := by decide +kernel
theorem dX9_bestDelay_39 : decode cX9_bestDelay 39 = .ok (.invokevirtual 240, 3) := by decide +kernel
theorem dX9_bestDelay_42 : decode cX9_bestDelay 42 = .ok (.ireturn, 1) := by decide +kernel
theorem dX9_bestDelay_43 : decode cX9_bestDelay 43 = .ok (.iconst (-1), 1) := by decide +kernel
theorem dX9_bestDelay_44 : decode cX9_bestDelay 44 = .ok (.istore_n 3, 1) := by decide +kernel
theorem dX9_bestDelay_45 : decode cX9_bestDelay 45 = .ok (.iconst 0, 1) := by decide +kernel
theorem dX9_bestDelay_46 : decode cX9_bestDelay 46 = .ok (.istore 4, 2) := by decide +kernel
theorem dX9_bestDelay_48 : decode cX9_bestDelay 48 = .ok (.iconst 0, 1) := by decide +kernel
theorem dX9_bestDelay_49 : decode cX9_bestDelay 49 = .ok (.istore 5, 2) := by decide +kernel
theorem dX9_bestDelay_51 : decode cX9_bestDelay 51 = .ok (.iload 5, 2) := by decide +kernel
theorem dX9_bestDelay_53 : decode cX9_bestDelay 53 = .ok (.bipush 50, 2) := by decide +kernel
theorem dX9_bestDelay_55 : decode cX9_bestDelay 55 = .ok (.if_icmp .gt 69, 3) := by decide +kernel
theorem dX9_bestDelay_58 : decode cX9_bestDelay 58 = .ok (.aload_n 0, 1) := by decide +kernel
theorem dX9_bestDelay_59 : decode cX9_bestDelay 59 = .ok (.iconst 0, 1) := by decide +kernel
theorem dX9_bestDelay_60 : decode cX9_bestDelay 60 = .ok (.invokevirtual 424, 3) := by decide +kernel
theorem dX9_bestDelay_63 : decode cX9_bestDelay 63 = .ok (.aload_n 0, 1) := by decide +kernel
theorem dX9_bestDelay_64 : decode cX9_bestDelay 64 = .ok (.getfield 29, 3) := by decide +kernel
theorem dX9_bestDelay_67 : decode cX9_bestDelay 67 = .ok (.iload_n 1, 1) := by decide +kernel
theorem dX9_bestDelay_68 : decode cX9_bestDelay 68 = .ok (.iload 5, 2) := by decide +kernel
theorem dX9_bestDelay_70 : decode cX9_bestDelay 70 = .ok (.invokestatic 434, 3) := by decide +kernel
theorem dX9_bestDelay_73 : decode cX9_bestDelay 73 = .ok (.aload_n 0, 1) := by decide +kernel
theorem dX9_bestDelay_74 : decode cX9_bestDelay 74 = .ok (.aload_n 0, 1) := by decide +kernel
theorem dX9_bestDelay_75 : decode cX9_bestDelay 75 = .ok (.getfield 29, 3) := by decide +kernel
theorem dX9_bestDelay_78 : decode cX9_bestDelay 78 = .ok (.iload_n 2, 1) := by decide +kernel
theorem dX9_bestDelay_79 : decode cX9_bestDelay 79 = .ok (.invokevirtual 418, 3) := by decide +kernel
theorem dX9_bestDelay_82 : decode cX9_bestDelay 82 = .ok (.iload_n 3, 1) := by decide +kernel
theorem dX9_bestDelay_83 : decode cX9_bestDelay 83 = .ok (.iconst (-1), 1) := by decide +kernel
theorem dX9_bestDelay_84 : decode cX9_bestDelay 84 = .ok (.if_icmp .eq 20, 3) := by decide +kernel
theorem dX9_bestDelay_87 : decode cX9_bestDelay 87 = .ok (.aload_n 0, 1) := by decide +kernel
theorem dX9_bestDelay_88 : decode cX9_bestDelay 88 = .ok (.getfield 29, 3) := by decide +kernel
theorem dX9_bestDelay_91 : decode cX9_bestDelay 91 = .ok (.bipush 11, 2) := by decide +kernel
theorem dX9_bestDelay_93 : decode cX9_bestDelay 93 = .ok (.invokestatic 276, 3) := by decide +kernel
theorem dX9_bestDelay_96 : decode cX9_bestDelay 96 = .ok (.iload 4, 2) := by decide +kernel
theorem dX9_bestDelay_98 : decode cX9_bestDelay 98 = .ok (.if_icmp .lt 6, 3) := by decide +kernel
theorem dX9_bestDelay_101 : decode cX9_bestDelay 101 = .ok (.goto 17, 3) := by decide +kernel
theorem dX9_bestDelay_104 : decode cX9_bestDelay 104 = .ok (.iload 5, 2) := by decide +kernel
theorem dX9_bestDelay_106 : decode cX9_bestDelay 106 = .ok (.istore_n 3, 1) := by decide +kernel
theorem dX9_bestDelay_107 : decode cX9_bestDelay 107 = .ok (.aload_n 0, 1) := by decide +kernel
theorem dX9_bestDelay_108 : decode cX9_bestDelay 108 = .ok (.getfield 29, 3) := by decide +kernel
theorem dX9_bestDelay_111 : decode cX9_bestDelay 111 = .ok (.bipush 11, 2) := by decide +kernel
theorem dX9_bestDelay_113 : decode cX9_bestDelay 113 = .ok (.invokestatic 276, 3) := by decide +kernel
theorem dX9_bestDelay_116 : decode cX9_bestDelay 116 = .ok (.istore 4, 2) := by decide +kernel
theorem dX9_bestDelay_118 : decode cX9_bestDelay 118 = .ok (.iinc 5 5, 3) := by decide +kernel
theorem dX9_bestDelay_121 : decode cX9_bestDelay 121 = .ok (.goto (-70), 3) := by decide +kernel
theorem dX9_bestDelay_124 : decode cX9_bestDelay 124 = .ok (.iload_n 3, 1) := by decide +kernel
theorem dX9_bestDelay_125 : decode cX9_bestDelay 125 = .ok (.ireturn, 1) := by decide +kernel
theorem dX9_withoutLane_0 : decode cX9_withoutLane 0 = .ok (.aload_n 0, 1) := by decide +kernel
theorem dX9_withoutLane_1 : decode cX9_withoutLane 1 = .ok (.aload_n 0, 1) := by decide +kernel
theorem dX9_withoutLane_2 : decode cX9_withoutLane 2 = .ok (.iload_n 1, 1) := by decide +kernel
theorem dX9_withoutLane_3 : decode cX9_withoutLane 3 = .ok (.invokevirtual 370, 3) := by decide +kernel
theorem dX9_withoutLane_6 : decode cX9_withoutLane 6 = .ok (.invokevirtual 353, 3) := by decide +kernel
theorem dX9_withoutLane_9 : decode cX9_withoutLane 9 = .ok (.ifCond .ne 5, 3) := by decide +kernel
theorem dX9_withoutLane_12 : decode cX9_withoutLane 12 = .ok (.iconst 0, 1) := by decide +kernel
theorem dX9_withoutLane_13 : decode cX9_withoutLane 13 = .ok (.ireturn, 1) := by decide +kernel
theorem dX9_withoutLane_14 : decode cX9_withoutLane 14 = .ok (.aload_n 0, 1) := by decide +kernel
theorem dX9_withoutLane_15 : decode cX9_withoutLane 15 = .ok (.iload_n 2, 1) := by decide +kernel
theorem dX9_withoutLane_16 : decode cX9_withoutLane 16 = .ok (.sipush 500, 3) := by decide +kernel
theorem dX9_withoutLane_19 : decode cX9_withoutLane 19 = .ok (.invokevirtual 415, 3) := by decide +kernel
theorem dX9_withoutLane_22 : decode cX9_withoutLane 22 = .ok (.ifCond .ne 9, 3) := by decide +kernel
theorem dX9_withoutLane_25 : decode cX9_withoutLane 25 = .ok (.aload_n 0, 1) := by decide +kernel
theorem dX9_withoutLane_26 : decode cX9_withoutLane 26 = .ok (.iconst 3, 1) := by decide +kernel
theorem dX9_withoutLane_27 : decode cX9_withoutLane 27 = .ok (.invokevirtual 240, 3) := by decide +kernel
theorem dX9_withoutLane_30 : decode cX9_withoutLane 30 = .ok (.ireturn, 1) := by decide +kernel
theorem dX9_withoutLane_31 : decode cX9_withoutLane 31 = .ok (.aload_n 0, 1) := by decide +kernel
theorem dX9_withoutLane_32 : decode cX9_withoutLane 32 = .ok (.iconst 0, 1) := by decide +kernel
theorem dX9_withoutLane_33 : decode cX9_withoutLane 33 = .ok (.invokevirtual 424, 3) := by decide +kernel
theorem dX9_withoutLane_36 : decode cX9_withoutLane 36 = .ok (.aload_n 0, 1) := by decide +kernel
theorem dX9_withoutLane_37 : decode cX9_withoutLane 37 = .ok (.getfield 29, 3) := by decide +kernel
theorem dX9_withoutLane_40 : decode cX9_withoutLane 40 = .ok (.bipush 25, 2) := by decide +kernel
theorem dX9_withoutLane_42 : decode cX9_withoutLane 42 = .ok (.iload_n 1, 1) := by decide +kernel
theorem dX9_withoutLane_43 : decode cX9_withoutLane 43 = .ok (.iadd, 1) := by decide +kernel
theorem dX9_withoutLane_44 : decode cX9_withoutLane 44 = .ok (.iconst 1, 1) := by decide +kernel
theorem dX9_withoutLane_45 : decode cX9_withoutLane 45 = .ok (.iastore, 1) := by decide +kernel
theorem dX9_withoutLane_46 : decode cX9_withoutLane 46 = .ok (.aload_n 0, 1) := by decide +kernel
theorem dX9_withoutLane_47 : decode cX9_withoutLane 47 = .ok (.aload_n 0, 1) := by decide +kernel
theorem dX9_withoutLane_48 : decode cX9_withoutLane 48 = .ok (.getfield 29, 3) := by decide +kernel
theorem dX9_withoutLane_51 : decode cX9_withoutLane 51 = .ok (.iload_n 2, 1) := by decide +kernel
theorem dX9_withoutLane_52 : decode cX9_withoutLane 52 = .ok (.invokevirtual 418, 3) := by decide +kernel
theorem dX9_withoutLane_55 : decode cX9_withoutLane 55 = .ok (.aload_n 0, 1) := by decide +kernel
theorem dX9_withoutLane_56 : decode cX9_withoutLane 56 = .ok (.bipush 10, 2) := by decide +kernel
theorem dX9_withoutLane_58 : decode cX9_withoutLane 58 = .ok (.invokevirtual 427, 3) := by decide +kernel
theorem dX9_withoutLane_61 : decode cX9_withoutLane 61 = .ok (.ireturn, 1) := by decide +kernel
theorem dX9_advance_0 : decode cX9_advance 0 = .ok (.aload_n 0, 1) := by decide +kernel
theorem dX9_advance_1 : decode cX9_advance 1 = .ok (.iload_n 1, 1) := by decide +kernel
theorem dX9_advance_2 : decode cX9_advance 2 = .ok (.invokevirtual 421, 3) := by decide +kernel
theorem dX9_advance_5 : decode cX9_advance 5 = .ok (.ifCond .ne 5, 3) := by decide +kernel
theorem dX9_advance_8 : decode cX9_advance 8 = .ok (.iconst 0, 1) := by decide +kernel
theorem dX9_advance_9 : decode cX9_advance 9 = .ok (.ireturn, 1) := by decide +kernel
theorem dX9_advance_10 : decode cX9_advance 10 = .ok (.aload_n 0, 1) := by decide +kernel
theorem dX9_advance_11 : decode cX9_advance 11 = .ok (.invokevirtual 437, 3) := by decide +kernel
theorem dX9_advance_14 : decode cX9_advance 14 = .ok (.aload_n 0, 1) := by decide +kernel
theorem dX9_advance_15 : decode cX9_advance 15 = .ok (.getfield 23, 3) := by decide +kernel
theorem dX9_advance_18 : decode cX9_advance 18 = .ok (.bipush 10, 2) := by decide +kernel
theorem dX9_advance_20 : decode cX9_advance 20 = .ok (.invokestatic 276, 3) := by decide +kernel
theorem dX9_advance_23 : decode cX9_advance 23 = .ok (.istore_n 2, 1) := by decide +kernel
theorem dX9_advance_24 : decode cX9_advance 24 = .ok (.aload_n 0, 1) := by decide +kernel
theorem dX9_advance_25 : decode cX9_advance 25 = .ok (.aload_n 0, 1) := by decide +kernel
theorem dX9_advance_26 : decode cX9_advance 26 = .ok (.getfield 23, 3) := by decide +kernel
theorem dX9_advance_29 : decode cX9_advance 29 = .ok (.iload_n 1, 1) := by decide +kernel
theorem dX9_advance_30 : decode cX9_advance 30 = .ok (.invokevirtual 418, 3) := by decide +kernel
theorem dX9_advance_33 : decode cX9_advance 33 = .ok (.aload_n 0, 1) := by decide +kernel
theorem dX9_advance_34 : decode cX9_advance 34 = .ok (.getfield 23, 3) := by decide +kernel
theorem dX9_advance_37 : decode cX9_advance 37 = .ok (.bipush 10, 2) := by decide +kernel
theorem dX9_advance_39 : decode cX9_advance 39 = .ok (.invokestatic 276, 3) := by decide +kernel
theorem dX9_advance_42 : decode cX9_advance 42 = .ok (.iload_n 2, 1) := by decide +kernel
theorem dX9_advance_43 : decode cX9_advance 43 = .ok (.isub, 1) := by decide +kernel
theorem dX9_advance_44 : decode cX9_advance 44 = .ok (.ireturn, 1) := by decide +kernel
theorem dX9_addBags_0 : decode cX9_addBags 0 = .ok (.aload_n 0, 1) := by decide +kernel
theorem dX9_addBags_1 : decode cX9_addBags 1 = .ok (.aload_n 0, 1) := by decide +kernel
theorem dX9_addBags_2 : decode cX9_addBags 2 = .ok (.iload_n 3, 1) := by decide +kernel
theorem dX9_addBags_3 : decode cX9_addBags 3 = .ok (.invokevirtual 373, 3) := by decide +kernel
theorem dX9_addBags_6 : decode cX9_addBags 6 = .ok (.invokevirtual 353, 3) := by decide +kernel
theorem dX9_addBags_9 : decode cX9_addBags 9 = .ok (.ifCond .ne 5, 3) := by decide +kernel
theorem dX9_addBags_12 : decode cX9_addBags 12 = .ok (.iconst 0, 1) := by decide +kernel
theorem dX9_addBags_13 : decode cX9_addBags 13 = .ok (.ireturn, 1) := by decide +kernel
theorem dX9_addBags_14 : decode cX9_addBags 14 = .ok (.iload_n 1, 1) := by decide +kernel
theorem dX9_addBags_15 : decode cX9_addBags 15 = .ok (.iconst 1, 1) := by decide +kernel
theorem dX9_addBags_16 : decode cX9_addBags 16 = .ok (.sipush 999, 3) := by decide +kernel
theorem dX9_addBags_19 : decode cX9_addBags 19 = .ok (.invokestatic 111, 3) := by decide +kernel
theorem dX9_addBags_22 : decode cX9_addBags 22 = .ok (.ifCond .eq 20, 3) := by decide +kernel
theorem dX9_addBags_25 : decode cX9_addBags 25 = .ok (.iload_n 2, 1) := by decide +kernel
theorem dX9_addBags_26 : decode cX9_addBags 26 = .ok (.iconst 1, 1) := by decide +kernel
theorem dX9_addBags_27 : decode cX9_addBags 27 = .ok (.bipush 100, 2) := by decide +kernel
theorem dX9_addBags_29 : decode cX9_addBags 29 = .ok (.aload_n 0, 1) := by decide +kernel
theorem dX9_addBags_30 : decode cX9_addBags 30 = .ok (.getfield 23, 3) := by decide +kernel
theorem dX9_addBags_33 : decode cX9_addBags 33 = .ok (.iconst 2, 1) := by decide +kernel
theorem dX9_addBags_34 : decode cX9_addBags 34 = .ok (.iaload, 1) := by decide +kernel
theorem dX9_addBags_35 : decode cX9_addBags 35 = .ok (.isub, 1) := by decide +kernel
theorem dX9_addBags_36 : decode cX9_addBags 36 = .ok (.invokestatic 111, 3) := by decide +kernel
theorem dX9_addBags_39 : decode cX9_addBags 39 = .ok (.ifCond .ne 9, 3) := by decide +kernel
theorem dX9_addBags_42 : decode cX9_addBags 42 = .ok (.aload_n 0, 1) := by decide +kernel
theorem dX9_addBags_43 : decode cX9_addBags 43 = .ok (.iconst 3, 1) := by decide +kernel
theorem dX9_addBags_44 : decode cX9_addBags 44 = .ok (.invokevirtual 240, 3) := by decide +kernel
theorem dX9_addBags_47 : decode cX9_addBags 47 = .ok (.ireturn, 1) := by decide +kernel
theorem dX9_addBags_48 : decode cX9_addBags 48 = .ok (.aload_n 0, 1) := by decide +kernel
theorem dX9_addBags_49 : decode cX9_addBags 49 = .ok (.invokevirtual 437, 3) := by decide +kernel
theorem dX9_addBags_52 : decode cX9_addBags 52 = .ok (.aload_n 0, 1) := by decide +kernel
theorem dX9_addBags_53 : decode cX9_addBags 53 = .ok (.getfield 23, 3) := by decide +kernel
theorem dX9_addBags_56 : decode cX9_addBags 56 = .ok (.iconst 2, 1) := by decide +kernel
theorem dX9_addBags_57 : decode cX9_addBags 57 = .ok (.iaload, 1) := by decide +kernel
theorem dX9_addBags_58 : decode cX9_addBags 58 = .ok (.istore 4, 2) := by decide +kernel
theorem dX9_addBags_60 : decode cX9_addBags 60 = .ok (.aload_n 0, 1) := by decide +kernel
theorem dX9_addBags_61 : decode cX9_addBags 61 = .ok (.getfield 23, 3) := by decide +kernel
theorem dX9_addBags_64 : decode cX9_addBags 64 = .ok (.aload_n 0, 1) := by decide +kernel
theorem dX9_addBags_65 : decode cX9_addBags 65 = .ok (.getfield 23, 3) := by decide +kernel
theorem dX9_addBags_68 : decode cX9_addBags 68 = .ok (.iconst 0, 1) := by decide +kernel
theorem dX9_addBags_69 : decode cX9_addBags 69 = .ok (.iaload, 1) := by decide +kernel
theorem dX9_addBags_70 : decode cX9_addBags 70 = .ok (.iload_n 1, 1) := by decide +kernel
theorem dX9_addBags_71 : decode cX9_addBags 71 = .ok (.iadd, 1) := by decide +kernel
theorem dX9_addBags_72 : decode cX9_addBags 72 = .ok (.iload_n 2, 1) := by decide +kernel
theorem dX9_addBags_73 : decode cX9_addBags 73 = .ok (.iload_n 3, 1) := by decide +kernel
theorem dX9_addBags_74 : decode cX9_addBags 74 = .ok (.invokestatic 168, 3) := by decide +kernel
theorem dX9_addBags_77 : decode cX9_addBags 77 = .ok (.iload 4, 2) := by decide +kernel
theorem dX9_addBags_79 : decode cX9_addBags 79 = .ok (.ireturn, 1) := by decide +kernel
theorem dX9_delay_0 : decode cX9_delay 0 = .ok (.aload_n 0, 1) := by decide +kernel
theorem dX9_delay_1 : decode cX9_delay 1 = .ok (.aload_n 0, 1) := by decide +kernel
theorem dX9_delay_2 : decode cX9_delay 2 = .ok (.iload_n 1, 1) := by decide +kernel
theorem dX9_delay_3 : decode cX9_delay 3 = .ok (.invokevirtual 373, 3) := by decide +kernel
theorem dX9_delay_6 : decode cX9_delay 6 = .ok (.invokevirtual 353, 3) := by decide +kernel
theorem dX9_delay_9 : decode cX9_delay 9 = .ok (.ifCond .ne 5, 3) := by decide +kernel
theorem dX9_delay_12 : decode cX9_delay 12 = .ok (.iconst 0, 1) := by decide +kernel
theorem dX9_delay_13 : decode cX9_delay 13 = .ok (.ireturn, 1) := by decide +kernel
theorem dX9_delay_14 : decode cX9_delay 14 = .ok (.iload_n 2, 1) := by decide +kernel
theorem dX9_delay_15 : decode cX9_delay 15 = .ok (.iconst 1, 1) := by decide +kernel
theorem dX9_delay_16 : decode cX9_delay 16 = .ok (.sipush 999, 3) := by decide +kernel
theorem dX9_delay_19 : decode cX9_delay 19 = .ok (.invokestatic 111, 3) := by decide +kernel
theorem dX9_delay_22 : decode cX9_delay 22 = .ok (.ifCond .eq 15, 3) := by decide +kernel
theorem dX9_delay_25 : decode cX9_delay 25 = .ok (.aload_n 0, 1) := by decide +kernel
theorem dX9_delay_26 : decode cX9_delay 26 = .ok (.getfield 23, 3) := by decide +kernel
theorem dX9_delay_29 : decode cX9_delay 29 = .ok (.iload_n 1, 1) := by decide +kernel
theorem dX9_delay_30 : decode cX9_delay 30 = .ok (.invokestatic 257, 3) := by decide +kernel
theorem dX9_delay_33 : decode cX9_delay 33 = .ok (.iconst 2, 1) := by decide +kernel
theorem dX9_delay_34 : decode cX9_delay 34 = .ok (.if_icmp .ne 9, 3) := by decide +kernel
theorem dX9_delay_37 : decode cX9_delay 37 = .ok (.aload_n 0, 1) := by decide +kernel
theorem dX9_delay_38 : decode cX9_delay 38 = .ok (.iconst 3, 1) := by decide +kernel
theorem dX9_delay_39 : decode cX9_delay 39 = .ok (.invokevirtual 240, 3) := by decide +kernel
theorem dX9_delay_42 : decode cX9_delay 42 = .ok (.ireturn, 1) := by decide +kernel
theorem dX9_delay_43 : decode cX9_delay 43 = .ok (.aload_n 0, 1) := by decide +kernel
theorem dX9_delay_44 : decode cX9_delay 44 = .ok (.invokevirtual 437, 3) := by decide +kernel
theorem dX9_delay_47 : decode cX9_delay 47 = .ok (.aload_n 0, 1) := by decide +kernel
theorem dX9_delay_48 : decode cX9_delay 48 = .ok (.getfield 23, 3) := by decide +kernel
theorem dX9_delay_51 : decode cX9_delay 51 = .ok (.iload_n 1, 1) := by decide +kernel
theorem dX9_delay_52 : decode cX9_delay 52 = .ok (.iload_n 2, 1) := by decide +kernel
theorem dX9_delay_53 : decode cX9_delay 53 = .ok (.invokestatic 434, 3) := by decide +kernel
theorem dX9_delay_56 : decode cX9_delay 56 = .ok (.aload_n 0, 1) := by decide +kernel
theorem dX9_delay_57 : decode cX9_delay 57 = .ok (.getfield 23, 3) := by decide +kernel
theorem dX9_delay_60 : decode cX9_delay 60 = .ok (.bipush 13, 2) := by decide +kernel
theorem dX9_delay_62 : decode cX9_delay 62 = .ok (.iload_n 1, 1) := by decide +kernel
theorem dX9_delay_63 : decode cX9_delay 63 = .ok (.iadd, 1) := by decide +kernel
theorem dX9_delay_64 : decode cX9_delay 64 = .ok (.iaload, 1) := by decide +kernel
theorem dX9_delay_65 : decode cX9_delay 65 = .ok (.ireturn, 1) := by decide +kernel
theorem dX9_offload_0 : decode cX9_offload 0 = .ok (.aload_n 0, 1) := by decide +kernel
theorem dX9_offload_1 : decode cX9_offload 1 = .ok (.aload_n 0, 1) := by decide +kernel
theorem dX9_offload_2 : decode cX9_offload 2 = .ok (.iload_n 1, 1) := by decide +kernel
theorem dX9_offload_3 : decode cX9_offload 3 = .ok (.invokevirtual 350, 3) := by decide +kernel
theorem dX9_offload_6 : decode cX9_offload 6 = .ok (.invokevirtual 353, 3) := by decide +kernel
theorem dX9_offload_9 : decode cX9_offload 9 = .ok (.ifCond .ne 5, 3) := by decide +kernel
theorem dX9_offload_12 : decode cX9_offload 12 = .ok (.iconst 0, 1) := by decide +kernel
theorem dX9_offload_13 : decode cX9_offload 13 = .ok (.ireturn, 1) := by decide +kernel
theorem dX9_offload_14 : decode cX9_offload 14 = .ok (.aload_n 0, 1) := by decide +kernel
theorem dX9_offload_15 : decode cX9_offload 15 = .ok (.getfield 23, 3) := by decide +kernel
theorem dX9_offload_18 : decode cX9_offload 18 = .ok (.sipush 373, 3) := by decide +kernel
theorem dX9_offload_21 : decode cX9_offload 21 = .ok (.iload_n 1, 1) := by decide +kernel
theorem dX9_offload_22 : decode cX9_offload 22 = .ok (.iadd, 1) := by decide +kernel
theorem dX9_offload_23 : decode cX9_offload 23 = .ok (.iaload, 1) := by decide +kernel
theorem dX9_offload_24 : decode cX9_offload 24 = .ok (.bipush 10, 2) := by decide +kernel
theorem dX9_offload_26 : decode cX9_offload 26 = .ok (.if_icmp .eq 9, 3) := by decide +kernel
theorem dX9_offload_29 : decode cX9_offload 29 = .ok (.aload_n 0, 1) := by decide +kernel
theorem dX9_offload_30 : decode cX9_offload 30 = .ok (.iconst 3, 1) := by decide +kernel
theorem dX9_offload_31 : decode cX9_offload 31 = .ok (.invokevirtual 240, 3) := by decide +kernel
theorem dX9_offload_34 : decode cX9_offload 34 = .ok (.ireturn, 1) := by decide +kernel
theorem dX9_offload_35 : decode cX9_offload 35 = .ok (.aload_n 0, 1) := by decide +kernel
theorem dX9_offload_36 : decode cX9_offload 36 = .ok (.invokevirtual 437, 3) := by decide +kernel
theorem dX9_offload_39 : decode cX9_offload 39 = .ok (.aload_n 0, 1) := by decide +kernel
theorem dX9_offload_40 : decode cX9_offload 40 = .ok (.getfield 23, 3) := by decide +kernel
theorem dX9_offload_43 : decode cX9_offload 43 = .ok (.iload_n 1, 1) := by decide +kernel
theorem dX9_offload_44 : decode cX9_offload 44 = .ok (.bipush 13, 2) := by decide +kernel
theorem dX9_offload_46 : decode cX9_offload 46 = .ok (.invokestatic 297, 3) := by decide +kernel
theorem dX9_offload_49 : decode cX9_offload 49 = .ok (.aload_n 0, 1) := by decide +kernel
theorem dX9_offload_50 : decode cX9_offload 50 = .ok (.aload_n 0, 1) := by decide +kernel
theorem dX9_offload_51 : decode cX9_offload 51 = .ok (.getfield 23, 3) := by decide +kernel
theorem dX9_offload_54 : decode cX9_offload 54 = .ok (.sipush 173, 3) := by decide +kernel
theorem dX9_offload_57 : decode cX9_offload 57 = .ok (.iload_n 1, 1) := by decide +kernel
theorem dX9_offload_58 : decode cX9_offload 58 = .ok (.iadd, 1) := by decide +kernel
theorem dX9_offload_59 : decode cX9_offload 59 = .ok (.iaload, 1) := by decide +kernel
theorem dX9_offload_60 : decode cX9_offload 60 = .ok (.bipush 10, 2) := by decide +kernel
theorem dX9_offload_62 : decode cX9_offload 62 = .ok (.bipush 10, 2) := by decide +kernel
theorem dX9_offload_64 : decode cX9_offload 64 = .ok (.invokevirtual 376, 3) := by decide +kernel
theorem dX9_offload_67 : decode cX9_offload 67 = .ok (.ireturn, 1) := by decide +kernel
theorem dX9_sets_0 : decode cX9_sets 0 = .ok (.aload_n 0, 1) := by decide +kernel
theorem dX9_sets_1 : decode cX9_sets 1 = .ok (.invokevirtual 437, 3) := by decide +kernel
theorem dX9_sets_4 : decode cX9_sets 4 = .ok (.aload_n 0, 1) := by decide +kernel
theorem dX9_sets_5 : decode cX9_sets 5 = .ok (.getfield 23, 3) := by decide +kernel
theorem dX9_sets_8 : decode cX9_sets 8 = .ok (.iload_n 1, 1) := by decide +kernel
theorem dX9_sets_9 : decode cX9_sets 9 = .ok (.iaload, 1) := by decide +kernel
theorem dX9_sets_10 : decode cX9_sets 10 = .ok (.istore_n 3, 1) := by decide +kernel
theorem dX9_sets_11 : decode cX9_sets 11 = .ok (.aload_n 0, 1) := by decide +kernel
theorem dX9_sets_12 : decode cX9_sets 12 = .ok (.getfield 23, 3) := by decide +kernel
theorem dX9_sets_15 : decode cX9_sets 15 = .ok (.iload_n 1, 1) := by decide +kernel
theorem dX9_sets_16 : decode cX9_sets 16 = .ok (.iload_n 2, 1) := by decide +kernel
theorem dX9_sets_17 : decode cX9_sets 17 = .ok (.iastore, 1) := by decide +kernel
theorem dX9_sets_18 : decode cX9_sets 18 = .ok (.iload_n 3, 1) := by decide +kernel
theorem dX9_sets_19 : decode cX9_sets 19 = .ok (.ireturn, 1) := by decide +kernel
theorem dX9_block_0 : decode cX9_block 0 = .ok (.aload_n 0, 1) := by decide +kernel
theorem dX9_block_1 : decode cX9_block 1 = .ok (.aload_n 0, 1) := by decide +kernel
theorem dX9_block_2 : decode cX9_block 2 = .ok (.iload_n 1, 1) := by decide +kernel
theorem dX9_block_3 : decode cX9_block 3 = .ok (.invokevirtual 370, 3) := by decide +kernel
theorem dX9_block_6 : decode cX9_block 6 = .ok (.invokevirtual 353, 3) := by decide +kernel
theorem dX9_block_9 : decode cX9_block 9 = .ok (.ifCond .eq 28, 3) := by decide +kernel
theorem dX9_block_12 : decode cX9_block 12 = .ok (.aload_n 0, 1) := by decide +kernel
theorem dX9_block_13 : decode cX9_block 13 = .ok (.bipush 25, 2) := by decide +kernel
theorem dX9_block_15 : decode cX9_block 15 = .ok (.iload_n 1, 1) := by decide +kernel
theorem dX9_block_16 : decode cX9_block 16 = .ok (.iadd, 1) := by decide +kernel
theorem dX9_block_17 : decode cX9_block 17 = .ok (.iload_n 2, 1) := by decide +kernel
theorem dX9_block_18 : decode cX9_block 18 = .ok (.ifCond .eq 7, 3) := by decide +kernel
theorem dX9_block_21 : decode cX9_block 21 = .ok (.iconst 1, 1) := by decide +kernel
theorem dX9_block_22 : decode cX9_block 22 = .ok (.goto 4, 3) := by decide +kernel
theorem dX9_block_25 : decode cX9_block 25 = .ok (.iconst 0, 1) := by decide +kernel
theorem dX9_block_26 : decode cX9_block 26 = .ok (.invokevirtual 440, 3) := by decide +kernel
theorem dX9_block_29 : decode cX9_block 29 = .ok (.iconst 1, 1) := by decide +kernel
theorem dX9_block_30 : decode cX9_block 30 = .ok (.if_icmp .ne 7, 3) := by decide +kernel
theorem dX9_block_33 : decode cX9_block 33 = .ok (.iconst 1, 1) := by decide +kernel
theorem dX9_block_34 : decode cX9_block 34 = .ok (.goto 4, 3) := by decide +kernel
theorem dX9_block_37 : decode cX9_block 37 = .ok (.iconst 0, 1) := by decide +kernel
theorem dX9_block_38 : decode cX9_block 38 = .ok (.ireturn, 1) := by decide +kernel
theorem dX9_breakMachine_0 : decode cX9_breakMachine 0 = .ok (.aload_n 0, 1) := by decide +kernel
theorem dX9_breakMachine_1 : decode cX9_breakMachine 1 = .ok (.aload_n 0, 1) := by decide +kernel
theorem dX9_breakMachine_2 : decode cX9_breakMachine 2 = .ok (.iload_n 1, 1) := by decide +kernel
theorem dX9_breakMachine_3 : decode cX9_breakMachine 3 = .ok (.iload_n 2, 1) := by decide +kernel
theorem dX9_breakMachine_4 : decode cX9_breakMachine 4 = .ok (.invokevirtual 366, 3) := by decide +kernel
theorem dX9_breakMachine_7 : decode cX9_breakMachine 7 = .ok (.invokevirtual 353, 3) := by decide +kernel
theorem dX9_breakMachine_10 : decode cX9_breakMachine 10 = .ok (.ifCond .ne 5, 3) := by decide +kernel
theorem dX9_breakMachine_13 : decode cX9_breakMachine 13 = .ok (.iconst 0, 1) := by decide +kernel
theorem dX9_breakMachine_14 : decode cX9_breakMachine 14 = .ok (.ireturn, 1) := by decide +kernel
theorem dX9_breakMachine_15 : decode cX9_breakMachine 15 = .ok (.iload_n 3, 1) := by decide +kernel
theorem dX9_breakMachine_16 : decode cX9_breakMachine 16 = .ok (.iconst 1, 1) := by decide +kernel
theorem dX9_breakMachine_17 : decode cX9_breakMachine 17 = .ok (.sipush 999, 3) := by decide +kernel
theorem dX9_breakMachine_20 : decode cX9_breakMachine 20 = .ok (.invokestatic 111, 3) := by decide +kernel
theorem dX9_breakMachine_23 : decode cX9_breakMachine 23 = .ok (.ifCond .ne 17, 3) := by decide +kernel
theorem dX9_breakMachine_26 : decode cX9_breakMachine 26 = .ok (.aload_n 0, 1) := by decide +kernel
theorem dX9_breakMachine_27 : decode cX9_breakMachine 27 = .ok (.iconst 3, 1) := by decide +kernel
theorem dX9_breakMachine_28 : decode cX9_breakMachine 28 = .ok (.invokevirtual 240, 3) := by decide +kernel
theorem dX9_breakMachine_31 : decode cX9_breakMachine 31 = .ok (.ifCond .le 7, 3) := by decide +kernel
theorem dX9_breakMachine_34 : decode cX9_breakMachine 34 = .ok (.iconst 1, 1) := by decide +kernel
theorem dX9_breakMachine_35 : decode cX9_breakMachine 35 = .ok (.goto 4, 3) := by decide +kernel
theorem dX9_breakMachine_38 : decode cX9_breakMachine 38 = .ok (.iconst 0, 1) := by decide +kernel
theorem dX9_breakMachine_39 : decode cX9_breakMachine 39 = .ok (.ireturn, 1) := by decide +kernel
theorem dX9_breakMachine_40 : decode cX9_breakMachine 40 = .ok (.sipush 2073, 3) := by decide +kernel
theorem dX9_breakMachine_43 : decode cX9_breakMachine 43 = .ok (.iconst 4, 1) := by decide +kernel
theorem dX9_breakMachine_44 : decode cX9_breakMachine 44 = .ok (.iload_n 1, 1) := by decide +kernel
theorem dX9_breakMachine_45 : decode cX9_breakMachine 45 = .ok (.iconst 1, 1) := by decide +kernel
theorem dX9_breakMachine_46 : decode cX9_breakMachine 46 = .ok (.isub, 1) := by decide +kernel
theorem dX9_breakMachine_47 : decode cX9_breakMachine 47 = .ok (.imul, 1) := by decide +kernel
theorem dX9_breakMachine_48 : decode cX9_breakMachine 48 = .ok (.iadd, 1) := by decide +kernel
theorem dX9_breakMachine_49 : decode cX9_breakMachine 49 = .ok (.iload_n 2, 1) := by decide +kernel
theorem dX9_breakMachine_50 : decode cX9_breakMachine 50 = .ok (.iadd, 1) := by decide +kernel
theorem dX9_breakMachine_51 : decode cX9_breakMachine 51 = .ok (.istore 4, 2) := by decide +kernel
theorem dX9_breakMachine_53 : decode cX9_breakMachine 53 = .ok (.aload_n 0, 1) := by decide +kernel
theorem dX9_breakMachine_54 : decode cX9_breakMachine 54 = .ok (.getfield 23, 3) := by decide +kernel
theorem dX9_breakMachine_57 : decode cX9_breakMachine 57 = .ok (.iload 4, 2) := by decide +kernel
theorem dX9_breakMachine_59 : decode cX9_breakMachine 59 = .ok (.iaload, 1) := by decide +kernel
theorem dX9_breakMachine_60 : decode cX9_breakMachine 60 = .ok (.aload_n 0, 1) := by decide +kernel
theorem dX9_breakMachine_61 : decode cX9_breakMachine 61 = .ok (.getfield 23, 3) := by decide +kernel
theorem dX9_breakMachine_64 : decode cX9_breakMachine 64 = .ok (.iconst 0, 1) := by decide +kernel
theorem dX9_breakMachine_65 : decode cX9_breakMachine 65 = .ok (.iaload, 1) := by decide +kernel
theorem dX9_breakMachine_66 : decode cX9_breakMachine 66 = .ok (.iload_n 3, 1) := by decide +kernel
theorem dX9_breakMachine_67 : decode cX9_breakMachine 67 = .ok (.iadd, 1) := by decide +kernel
theorem dX9_breakMachine_68 : decode cX9_breakMachine 68 = .ok (.invokestatic 271, 3) := by decide +kernel
theorem dX9_breakMachine_71 : decode cX9_breakMachine 71 = .ok (.istore 5, 2) := by decide +kernel
theorem dX9_breakMachine_73 : decode cX9_breakMachine 73 = .ok (.aload_n 0, 1) := by decide +kernel
theorem dX9_breakMachine_74 : decode cX9_breakMachine 74 = .ok (.iload 4, 2) := by decide +kernel
theorem dX9_breakMachine_76 : decode cX9_breakMachine 76 = .ok (.iload 5, 2) := by decide +kernel
theorem dX9_breakMachine_78 : decode cX9_breakMachine 78 = .ok (.invokevirtual 440, 3) := by decide +kernel
theorem dX9_breakMachine_81 : decode cX9_breakMachine 81 = .ok (.iload 5, 2) := by decide +kernel
theorem dX9_breakMachine_83 : decode cX9_breakMachine 83 = .ok (.if_icmp .ge 7, 3) := by decide +kernel
theorem dX9_breakMachine_86 : decode cX9_breakMachine 86 = .ok (.iconst 1, 1) := by decide +kernel
theorem dX9_breakMachine_87 : decode cX9_breakMachine 87 = .ok (.goto 4, 3) := by decide +kernel
theorem dX9_breakMachine_90 : decode cX9_breakMachine 90 = .ok (.iconst 0, 1) := by decide +kernel
theorem dX9_breakMachine_91 : decode cX9_breakMachine 91 = .ok (.ireturn, 1) := by decide +kernel
theorem dX9_stopLoop_0 : decode cX9_stopLoop 0 = .ok (.aload_n 0, 1) := by decide +kernel
theorem dX9_stopLoop_1 : decode cX9_stopLoop 1 = .ok (.iconst 1, 1) := by decide +kernel
theorem dX9_stopLoop_2 : decode cX9_stopLoop 2 = .ok (.invokevirtual 353, 3) := by decide +kernel
theorem dX9_stopLoop_5 : decode cX9_stopLoop 5 = .ok (.ifCond .ne 5, 3) := by decide +kernel
theorem dX9_stopLoop_8 : decode cX9_stopLoop 8 = .ok (.iconst 0, 1) := by decide +kernel
theorem dX9_stopLoop_9 : decode cX9_stopLoop 9 = .ok (.ireturn, 1) := by decide +kernel
theorem dX9_stopLoop_10 : decode cX9_stopLoop 10 = .ok (.iload_n 1, 1) := by decide +kernel
theorem dX9_stopLoop_11 : decode cX9_stopLoop 11 = .ok (.iconst 0, 1) := by decide +kernel
theorem dX9_stopLoop_12 : decode cX9_stopLoop 12 = .ok (.sipush 999, 3) := by decide +kernel
theorem dX9_stopLoop_15 : decode cX9_stopLoop 15 = .ok (.invokestatic 111, 3) := by decide +kernel
theorem dX9_stopLoop_18 : decode cX9_stopLoop 18 = .ok (.ifCond .ne 9, 3) := by decide +kernel
theorem dX9_stopLoop_21 : decode cX9_stopLoop 21 = .ok (.aload_n 0, 1) := by decide +kernel
theorem dX9_stopLoop_22 : decode cX9_stopLoop 22 = .ok (.iconst 2, 1) := by decide +kernel
theorem dX9_stopLoop_23 : decode cX9_stopLoop 23 = .ok (.invokevirtual 240, 3) := by decide +kernel
theorem dX9_stopLoop_26 : decode cX9_stopLoop 26 = .ok (.ireturn, 1) := by decide +kernel
theorem dX9_stopLoop_27 : decode cX9_stopLoop 27 = .ok (.aload_n 0, 1) := by decide +kernel
theorem dX9_stopLoop_28 : decode cX9_stopLoop 28 = .ok (.sipush 2085, 3) := by decide +kernel
theorem dX9_stopLoop_31 : decode cX9_stopLoop 31 = .ok (.aload_n 0, 1) := by decide +kernel
theorem dX9_stopLoop_32 : decode cX9_stopLoop 32 = .ok (.getfield 23, 3) := by decide +kernel
theorem dX9_stopLoop_35 : decode cX9_stopLoop 35 = .ok (.iconst 0, 1) := by decide +kernel
theorem dX9_stopLoop_36 : decode cX9_stopLoop 36 = .ok (.iaload, 1) := by decide +kernel
theorem dX9_stopLoop_37 : decode cX9_stopLoop 37 = .ok (.iload_n 1, 1) := by decide +kernel
theorem dX9_stopLoop_38 : decode cX9_stopLoop 38 = .ok (.iadd, 1) := by decide +kernel
theorem dX9_stopLoop_39 : decode cX9_stopLoop 39 = .ok (.invokevirtual 440, 3) := by decide +kernel
theorem dX9_stopLoop_42 : decode cX9_stopLoop 42 = .ok (.istore_n 2, 1) := by decide +kernel
theorem dX9_stopLoop_43 : decode cX9_stopLoop 43 = .ok (.aload_n 0, 1) := by decide +kernel
theorem dX9_stopLoop_44 : decode cX9_stopLoop 44 = .ok (.getfield 23, 3) := by decide +kernel
theorem dX9_stopLoop_47 : decode cX9_stopLoop 47 = .ok (.sipush 2085, 3) := by decide +kernel
theorem dX9_stopLoop_50 : decode cX9_stopLoop 50 = .ok (.iaload, 1) := by decide +kernel
theorem dX9_stopLoop_51 : decode cX9_stopLoop 51 = .ok (.ireturn, 1) := by decide +kernel
theorem dX9_reroute_0 : decode cX9_reroute 0 = .ok (.aload_n 0, 1) := by decide +kernel
theorem dX9_reroute_1 : decode cX9_reroute 1 = .ok (.aload_n 0, 1) := by decide +kernel
theorem dX9_reroute_2 : decode cX9_reroute 2 = .ok (.iload_n 1, 1) := by decide +kernel
theorem dX9_reroute_3 : decode cX9_reroute 3 = .ok (.invokevirtual 350, 3) := by decide +kernel
theorem dX9_reroute_6 : decode cX9_reroute 6 = .ok (.ifCond .eq 15, 3) := by decide +kernel
theorem dX9_reroute_9 : decode cX9_reroute 9 = .ok (.aload_n 0, 1) := by decide +kernel
theorem dX9_reroute_10 : decode cX9_reroute 10 = .ok (.iload_n 2, 1) := by decide +kernel
theorem dX9_reroute_11 : decode cX9_reroute 11 = .ok (.invokevirtual 373, 3) := by decide +kernel
theorem dX9_reroute_14 : decode cX9_reroute 14 = .ok (.ifCond .eq 7, 3) := by decide +kernel
theorem dX9_reroute_17 : decode cX9_reroute 17 = .ok (.iconst 1, 1) := by decide +kernel
theorem dX9_reroute_18 : decode cX9_reroute 18 = .ok (.goto 4, 3) := by decide +kernel
theorem dX9_reroute_21 : decode cX9_reroute 21 = .ok (.iconst 0, 1) := by decide +kernel
theorem dX9_reroute_22 : decode cX9_reroute 22 = .ok (.invokevirtual 353, 3) := by decide +kernel
theorem dX9_reroute_25 : decode cX9_reroute 25 = .ok (.ifCond .ne 5, 3) := by decide +kernel
theorem dX9_reroute_28 : decode cX9_reroute 28 = .ok (.iconst 0, 1) := by decide +kernel
theorem dX9_reroute_29 : decode cX9_reroute 29 = .ok (.ireturn, 1) := by decide +kernel
theorem dX9_reroute_30 : decode cX9_reroute 30 = .ok (.aload_n 0, 1) := by decide +kernel
theorem dX9_reroute_31 : decode cX9_reroute 31 = .ok (.getfield 23, 3) := by decide +kernel
theorem dX9_reroute_34 : decode cX9_reroute 34 = .ok (.sipush 373, 3) := by decide +kernel
theorem dX9_reroute_37 : decode cX9_reroute 37 = .ok (.iload_n 1, 1) := by decide +kernel
theorem dX9_reroute_38 : decode cX9_reroute 38 = .ok (.iadd, 1) := by decide +kernel
theorem dX9_reroute_39 : decode cX9_reroute 39 = .ok (.iaload, 1) := by decide +kernel
theorem dX9_reroute_40 : decode cX9_reroute 40 = .ok (.bipush 10, 2) := by decide +kernel
theorem dX9_reroute_42 : decode cX9_reroute 42 = .ok (.if_icmp .ge 16, 3) := by decide +kernel
theorem dX9_reroute_45 : decode cX9_reroute 45 = .ok (.aload_n 0, 1) := by decide +kernel
theorem dX9_reroute_46 : decode cX9_reroute 46 = .ok (.sipush 173, 3) := by decide +kernel
theorem dX9_reroute_49 : decode cX9_reroute 49 = .ok (.iload_n 1, 1) := by decide +kernel
theorem dX9_reroute_50 : decode cX9_reroute 50 = .ok (.iadd, 1) := by decide +kernel
theorem dX9_reroute_51 : decode cX9_reroute 51 = .ok (.iload_n 2, 1) := by decide +kernel
theorem dX9_reroute_52 : decode cX9_reroute 52 = .ok (.invokevirtual 440, 3) := by decide +kernel
theorem dX9_reroute_55 : decode cX9_reroute 55 = .ok (.goto 8, 3) := by decide +kernel
theorem dX9_reroute_58 : decode cX9_reroute 58 = .ok (.aload_n 0, 1) := by decide +kernel
theorem dX9_reroute_59 : decode cX9_reroute 59 = .ok (.iconst 3, 1) := by decide +kernel
theorem dX9_reroute_60 : decode cX9_reroute 60 = .ok (.invokevirtual 240, 3) := by decide +kernel
theorem dX9_reroute_63 : decode cX9_reroute 63 = .ok (.ireturn, 1) := by decide +kernel
theorem dX9_setHot_0 : decode cX9_setHot 0 = .ok (.aload_n 0, 1) := by decide +kernel
theorem dX9_setHot_1 : decode cX9_setHot 1 = .ok (.iconst 1, 1) := by decide +kernel
theorem dX9_setHot_2 : decode cX9_setHot 2 = .ok (.invokevirtual 353, 3) := by decide +kernel
theorem dX9_setHot_5 : decode cX9_setHot 5 = .ok (.ifCond .ne 5, 3) := by decide +kernel
theorem dX9_setHot_8 : decode cX9_setHot 8 = .ok (.iconst 0, 1) := by decide +kernel
theorem dX9_setHot_9 : decode cX9_setHot 9 = .ok (.ireturn, 1) := by decide +kernel
theorem dX9_setHot_10 : decode cX9_setHot 10 = .ok (.iload_n 1, 1) := by decide +kernel
theorem dX9_setHot_11 : decode cX9_setHot 11 = .ok (.iconst 0, 1) := by decide +kernel
theorem dX9_setHot_12 : decode cX9_setHot 12 = .ok (.sipush 999, 3) := by decide +kernel
theorem dX9_setHot_15 : decode cX9_setHot 15 = .ok (.invokestatic 111, 3) := by decide +kernel
theorem dX9_setHot_18 : decode cX9_setHot 18 = .ok (.ifCond .eq 12, 3) := by decide +kernel
theorem dX9_setHot_21 : decode cX9_setHot 21 = .ok (.aload_n 0, 1) := by decide +kernel
theorem dX9_setHot_22 : decode cX9_setHot 22 = .ok (.iconst 4, 1) := by decide +kernel
theorem dX9_setHot_23 : decode cX9_setHot 23 = .ok (.iload_n 1, 1) := by decide +kernel
theorem dX9_setHot_24 : decode cX9_setHot 24 = .ok (.invokevirtual 440, 3) := by decide +kernel
theorem dX9_setHot_27 : decode cX9_setHot 27 = .ok (.goto 8, 3) := by decide +kernel
theorem dX9_setHot_30 : decode cX9_setHot 30 = .ok (.aload_n 0, 1) := by decide +kernel
theorem dX9_setHot_31 : decode cX9_setHot 31 = .ok (.iconst 2, 1) := by decide +kernel
theorem dX9_setHot_32 : decode cX9_setHot 32 = .ok (.invokevirtual 240, 3) := by decide +kernel
theorem dX9_setHot_35 : decode cX9_setHot 35 = .ok (.ireturn, 1) := by decide +kernel
theorem dX9_undo_0 : decode cX9_undo 0 = .ok (.aload_n 0, 1) := by decide +kernel
theorem dX9_undo_1 : decode cX9_undo 1 = .ok (.aload_n 0, 1) := by decide +kernel
theorem dX9_undo_2 : decode cX9_undo 2 = .ok (.getfield 254, 3) := by decide +kernel
theorem dX9_undo_5 : decode cX9_undo 5 = .ok (.ifCond .ne 7, 3) := by decide +kernel
theorem dX9_undo_8 : decode cX9_undo 8 = .ok (.iconst 1, 1) := by decide +kernel
theorem dX9_undo_9 : decode cX9_undo 9 = .ok (.goto 4, 3) := by decide +kernel
theorem dX9_undo_12 : decode cX9_undo 12 = .ok (.iconst 0, 1) := by decide +kernel
theorem dX9_undo_13 : decode cX9_undo 13 = .ok (.putfield 82, 3) := by decide +kernel
theorem dX9_undo_16 : decode cX9_undo 16 = .ok (.aload_n 0, 1) := by decide +kernel
theorem dX9_undo_17 : decode cX9_undo 17 = .ok (.getfield 82, 3) := by decide +kernel
theorem dX9_undo_20 : decode cX9_undo 20 = .ok (.ifCond .le 5, 3) := by decide +kernel
theorem dX9_undo_23 : decode cX9_undo 23 = .ok (.iconst 0, 1) := by decide +kernel
theorem dX9_undo_24 : decode cX9_undo 24 = .ok (.ireturn, 1) := by decide +kernel
theorem dX9_undo_25 : decode cX9_undo 25 = .ok (.aload_n 0, 1) := by decide +kernel
theorem dX9_undo_26 : decode cX9_undo 26 = .ok (.dup, 1) := by decide +kernel
theorem dX9_undo_27 : decode cX9_undo 27 = .ok (.getfield 254, 3) := by decide +kernel
theorem dX9_undo_30 : decode cX9_undo 30 = .ok (.iconst 1, 1) := by decide +kernel
theorem dX9_undo_31 : decode cX9_undo 31 = .ok (.isub, 1) := by decide +kernel
theorem dX9_undo_32 : decode cX9_undo 32 = .ok (.putfield 254, 3) := by decide +kernel
theorem dX9_undo_35 : decode cX9_undo 35 = .ok (.aload_n 0, 1) := by decide +kernel
theorem dX9_undo_36 : decode cX9_undo 36 = .ok (.getfield 32, 3) := by decide +kernel
theorem dX9_undo_39 : decode cX9_undo 39 = .ok (.sipush 2086, 3) := by decide +kernel
theorem dX9_undo_42 : decode cX9_undo 42 = .ok (.aload_n 0, 1) := by decide +kernel
theorem dX9_undo_43 : decode cX9_undo 43 = .ok (.getfield 254, 3) := by decide +kernel
theorem dX9_undo_46 : decode cX9_undo 46 = .ok (.imul, 1) := by decide +kernel
theorem dX9_undo_47 : decode cX9_undo 47 = .ok (.aload_n 0, 1) := by decide +kernel
theorem dX9_undo_48 : decode cX9_undo 48 = .ok (.getfield 23, 3) := by decide +kernel
theorem dX9_undo_51 : decode cX9_undo 51 = .ok (.iconst 0, 1) := by decide +kernel
theorem dX9_undo_52 : decode cX9_undo 52 = .ok (.invokestatic 246, 3) := by decide +kernel
theorem dX9_undo_55 : decode cX9_undo 55 = .ok (.aload_n 0, 1) := by decide +kernel
theorem dX9_undo_56 : decode cX9_undo 56 = .ok (.getfield 254, 3) := by decide +kernel
theorem dX9_undo_59 : decode cX9_undo 59 = .ok (.ireturn, 1) := by decide +kernel
theorem dX9_undoable_0 : decode cX9_undoable 0 = .ok (.aload_n 0, 1) := by decide +kernel
theorem dX9_undoable_1 : decode cX9_undoable 1 = .ok (.iconst 0, 1) := by decide +kernel
theorem dX9_undoable_2 : decode cX9_undoable 2 = .ok (.putfield 82, 3) := by decide +kernel
theorem dX9_undoable_5 : decode cX9_undoable 5 = .ok (.aload_n 0, 1) := by decide +kernel
theorem dX9_undoable_6 : decode cX9_undoable 6 = .ok (.getfield 254, 3) := by decide +kernel
theorem dX9_undoable_9 : decode cX9_undoable 9 = .ok (.ireturn, 1) := by decide +kernel
theorem dX9_save_0 : decode cX9_save 0 = .ok (.aload_n 0, 1) := by decide +kernel
theorem dX9_save_1 : decode cX9_save 1 = .ok (.iload_n 1, 1) := by decide +kernel
theorem dX9_save_2 : decode cX9_save 2 = .ok (.iconst 0, 1) := by decide +kernel
theorem dX9_save_3 : decode cX9_save 3 = .ok (.iconst 1, 1) := by decide +kernel
theorem dX9_save_4 : decode cX9_save 4 = .ok (.invokestatic 111, 3) := by decide +kernel
theorem dX9_save_7 : decode cX9_save 7 = .ok (.invokevirtual 353, 3) := by decide +kernel
theorem dX9_save_10 : decode cX9_save 10 = .ok (.ifCond .ne 5, 3) := by decide +kernel
theorem dX9_save_13 : decode cX9_save 13 = .ok (.iconst 0, 1) := by decide +kernel
theorem dX9_save_14 : decode cX9_save 14 = .ok (.ireturn, 1) := by decide +kernel
theorem dX9_save_15 : decode cX9_save 15 = .ok (.aload_n 0, 1) := by decide +kernel
theorem dX9_save_16 : decode cX9_save 16 = .ok (.getfield 23, 3) := by decide +kernel
theorem dX9_save_19 : decode cX9_save 19 = .ok (.iconst 0, 1) := by decide +kernel
theorem dX9_save_20 : decode cX9_save 20 = .ok (.aload_n 0, 1) := by decide +kernel
theorem dX9_save_21 : decode cX9_save 21 = .ok (.getfield 35, 3) := by decide +kernel
theorem dX9_save_24 : decode cX9_save 24 = .ok (.sipush 2086, 3) := by decide +kernel
theorem dX9_save_27 : decode cX9_save 27 = .ok (.iload_n 1, 1) := by decide +kernel
theorem dX9_save_28 : decode cX9_save 28 = .ok (.imul, 1) := by decide +kernel
theorem dX9_save_29 : decode cX9_save 29 = .ok (.invokestatic 246, 3) := by decide +kernel
theorem dX9_save_32 : decode cX9_save 32 = .ok (.aload_n 0, 1) := by decide +kernel
theorem dX9_save_33 : decode cX9_save 33 = .ok (.getfield 38, 3) := by decide +kernel
theorem dX9_save_36 : decode cX9_save 36 = .ok (.iload_n 1, 1) := by decide +kernel
theorem dX9_save_37 : decode cX9_save 37 = .ok (.iconst 1, 1) := by decide +kernel
theorem dX9_save_38 : decode cX9_save 38 = .ok (.bastore, 1) := by decide +kernel
theorem dX9_save_39 : decode cX9_save 39 = .ok (.aload_n 0, 1) := by decide +kernel
theorem dX9_save_40 : decode cX9_save 40 = .ok (.getfield 23, 3) := by decide +kernel
theorem dX9_save_43 : decode cX9_save 43 = .ok (.iconst 0, 1) := by decide +kernel
theorem dX9_save_44 : decode cX9_save 44 = .ok (.iaload, 1) := by decide +kernel
theorem dX9_save_45 : decode cX9_save 45 = .ok (.ireturn, 1) := by decide +kernel
theorem dX9_restore_0 : decode cX9_restore 0 = .ok (.aload_n 0, 1) := by decide +kernel
theorem dX9_restore_1 : decode cX9_restore 1 = .ok (.iload_n 1, 1) := by decide +kernel
theorem dX9_restore_2 : decode cX9_restore 2 = .ok (.iconst 0, 1) := by decide +kernel
theorem dX9_restore_3 : decode cX9_restore 3 = .ok (.iconst 1, 1) := by decide +kernel
theorem dX9_restore_4 : decode cX9_restore 4 = .ok (.invokestatic 111, 3) := by decide +kernel
theorem dX9_restore_7 : decode cX9_restore 7 = .ok (.ifCond .ne 7, 3) := by decide +kernel
theorem dX9_restore_10 : decode cX9_restore 10 = .ok (.iconst 1, 1) := by decide +kernel
theorem dX9_restore_11 : decode cX9_restore 11 = .ok (.goto 17, 3) := by decide +kernel
theorem dX9_restore_14 : decode cX9_restore 14 = .ok (.aload_n 0, 1) := by decide +kernel
theorem dX9_restore_15 : decode cX9_restore 15 = .ok (.getfield 38, 3) := by decide +kernel
theorem dX9_restore_18 : decode cX9_restore 18 = .ok (.iload_n 1, 1) := by decide +kernel
theorem dX9_restore_19 : decode cX9_restore 19 = .ok (.baload, 1) := by decide +kernel
theorem dX9_restore_20 : decode cX9_restore 20 = .ok (.ifCond .eq 7, 3) := by decide +kernel
theorem dX9_restore_23 : decode cX9_restore 23 = .ok (.iconst 0, 1) := by decide +kernel
theorem dX9_restore_24 : decode cX9_restore 24 = .ok (.goto 4, 3) := by decide +kernel
theorem dX9_restore_27 : decode cX9_restore 27 = .ok (.iconst 2, 1) := by decide +kernel
theorem dX9_restore_28 : decode cX9_restore 28 = .ok (.putfield 82, 3) := by decide +kernel
theorem dX9_restore_31 : decode cX9_restore 31 = .ok (.aload_n 0, 1) := by decide +kernel
theorem dX9_restore_32 : decode cX9_restore 32 = .ok (.getfield 82, 3) := by decide +kernel
theorem dX9_restore_35 : decode cX9_restore 35 = .ok (.ifCond .le 5, 3) := by decide +kernel
theorem dX9_restore_38 : decode cX9_restore 38 = .ok (.iconst 0, 1) := by decide +kernel
theorem dX9_restore_39 : decode cX9_restore 39 = .ok (.ireturn, 1) := by decide +kernel
theorem dX9_restore_40 : decode cX9_restore 40 = .ok (.aload_n 0, 1) := by decide +kernel
theorem dX9_restore_41 : decode cX9_restore 41 = .ok (.getfield 35, 3) := by decide +kernel
theorem dX9_restore_44 : decode cX9_restore 44 = .ok (.sipush 2086, 3) := by decide +kernel
theorem dX9_restore_47 : decode cX9_restore 47 = .ok (.iload_n 1, 1) := by decide +kernel
theorem dX9_restore_48 : decode cX9_restore 48 = .ok (.imul, 1) := by decide +kernel
theorem dX9_restore_49 : decode cX9_restore 49 = .ok (.aload_n 0, 1) := by decide +kernel
theorem dX9_restore_50 : decode cX9_restore 50 = .ok (.getfield 23, 3) := by decide +kernel
theorem dX9_restore_53 : decode cX9_restore 53 = .ok (.iconst 0, 1) := by decide +kernel
theorem dX9_restore_54 : decode cX9_restore 54 = .ok (.invokestatic 246, 3) := by decide +kernel
theorem dX9_restore_57 : decode cX9_restore 57 = .ok (.aload_n 0, 1) := by decide +kernel
theorem dX9_restore_58 : decode cX9_restore 58 = .ok (.iconst 0, 1) := by decide +kernel
theorem dX9_restore_59 : decode cX9_restore 59 = .ok (.putfield 254, 3) := by decide +kernel
theorem dX9_restore_62 : decode cX9_restore 62 = .ok (.aload_n 0, 1) := by decide +kernel
theorem dX9_restore_63 : decode cX9_restore 63 = .ok (.getfield 23, 3) := by decide +kernel
theorem dX9_restore_66 : decode cX9_restore 66 = .ok (.iconst 0, 1) := by decide +kernel
theorem dX9_restore_67 : decode cX9_restore 67 = .ok (.iaload, 1) := by decide +kernel
theorem dX9_restore_68 : decode cX9_restore 68 = .ok (.ireturn, 1) := by decide +kernel
