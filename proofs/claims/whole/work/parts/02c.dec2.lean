theorem d_Steps_append_18 : dec m_Steps_append 18 = .ok (.lastore, 1) := by decide +kernel
theorem d_Steps_append_19 : dec m_Steps_append 19 = .ok (.aload_n 0, 1) := by decide +kernel
theorem d_Steps_append_20 : dec m_Steps_append 20 = .ok (.getfield 19, 3) := by decide +kernel
theorem d_Steps_append_23 : dec m_Steps_append 23 = .ok (.aload_n 0, 1) := by decide +kernel
theorem d_Steps_append_24 : dec m_Steps_append 24 = .ok (.getfield 7, 3) := by decide +kernel
theorem d_Steps_append_27 : dec m_Steps_append 27 = .ok (.iload_n 3, 1) := by decide +kernel
theorem d_Steps_append_28 : dec m_Steps_append 28 = .ok (.iastore, 1) := by decide +kernel
theorem d_Steps_append_29 : dec m_Steps_append 29 = .ok (.aload_n 0, 1) := by decide +kernel
theorem d_Steps_append_30 : dec m_Steps_append 30 = .ok (.dup, 1) := by decide +kernel
theorem d_Steps_append_31 : dec m_Steps_append 31 = .ok (.getfield 7, 3) := by decide +kernel
theorem d_Steps_append_34 : dec m_Steps_append 34 = .ok (.iconst 1, 1) := by decide +kernel
theorem d_Steps_append_35 : dec m_Steps_append 35 = .ok (.iadd, 1) := by decide +kernel
theorem d_Steps_append_36 : dec m_Steps_append 36 = .ok (.putfield 7, 3) := by decide +kernel
theorem d_Steps_append_39 : dec m_Steps_append 39 = .ok (.return_, 1) := by decide +kernel
theorem d_Terms_isTerm_0 : dec m_Terms_isTerm 0 = .ok (.iload_n 0, 1) := by decide +kernel
theorem d_Terms_isTerm_1 : dec m_Terms_isTerm 1 = .ok (.invokestatic 7, 3) := by decide +kernel
theorem d_Terms_isTerm_4 : dec m_Terms_isTerm 4 = .ok (.ifCond .eq 31, 3) := by decide +kernel
theorem d_Terms_isTerm_7 : dec m_Terms_isTerm 7 = .ok (.iload_n 1, 1) := by decide +kernel
theorem d_Terms_isTerm_8 : dec m_Terms_isTerm 8 = .ok (.invokestatic 7, 3) := by decide +kernel
theorem d_Terms_isTerm_11 : dec m_Terms_isTerm 11 = .ok (.ifCond .eq 24, 3) := by decide +kernel
theorem d_Terms_isTerm_14 : dec m_Terms_isTerm 14 = .ok (.iload_n 2, 1) := by decide +kernel
theorem d_Terms_isTerm_15 : dec m_Terms_isTerm 15 = .ok (.invokestatic 7, 3) := by decide +kernel
theorem d_Terms_isTerm_18 : dec m_Terms_isTerm 18 = .ok (.ifCond .eq 17, 3) := by decide +kernel
theorem d_Terms_isTerm_21 : dec m_Terms_isTerm 21 = .ok (.iload_n 0, 1) := by decide +kernel
theorem d_Terms_isTerm_22 : dec m_Terms_isTerm 22 = .ok (.iload_n 1, 1) := by decide +kernel
theorem d_Terms_isTerm_23 : dec m_Terms_isTerm 23 = .ok (.iadd, 1) := by decide +kernel
theorem d_Terms_isTerm_24 : dec m_Terms_isTerm 24 = .ok (.iload_n 2, 1) := by decide +kernel
theorem d_Terms_isTerm_25 : dec m_Terms_isTerm 25 = .ok (.iadd, 1) := by decide +kernel
theorem d_Terms_isTerm_26 : dec m_Terms_isTerm 26 = .ok (.bipush 6, 2) := by decide +kernel
theorem d_Terms_isTerm_28 : dec m_Terms_isTerm 28 = .ok (.if_icmp .gt 7, 3) := by decide +kernel
theorem d_Terms_isTerm_31 : dec m_Terms_isTerm 31 = .ok (.iconst 1, 1) := by decide +kernel
theorem d_Terms_isTerm_32 : dec m_Terms_isTerm 32 = .ok (.goto 4, 3) := by decide +kernel
theorem d_Terms_isTerm_35 : dec m_Terms_isTerm 35 = .ok (.iconst 0, 1) := by decide +kernel
theorem d_Terms_isTerm_36 : dec m_Terms_isTerm 36 = .ok (.ireturn, 1) := by decide +kernel
theorem d_Terms_isExponent_0 : dec m_Terms_isExponent 0 = .ok (.iload_n 0, 1) := by decide +kernel
theorem d_Terms_isExponent_1 : dec m_Terms_isExponent 1 = .ok (.ifCond .lt 13, 3) := by decide +kernel
theorem d_Terms_isExponent_4 : dec m_Terms_isExponent 4 = .ok (.iload_n 0, 1) := by decide +kernel
theorem d_Terms_isExponent_5 : dec m_Terms_isExponent 5 = .ok (.bipush 6, 2) := by decide +kernel
theorem d_Terms_isExponent_7 : dec m_Terms_isExponent 7 = .ok (.if_icmp .gt 7, 3) := by decide +kernel
theorem d_Terms_isExponent_10 : dec m_Terms_isExponent 10 = .ok (.iconst 1, 1) := by decide +kernel
theorem d_Terms_isExponent_11 : dec m_Terms_isExponent 11 = .ok (.goto 4, 3) := by decide +kernel
theorem d_Terms_isExponent_14 : dec m_Terms_isExponent 14 = .ok (.iconst 0, 1) := by decide +kernel
theorem d_Terms_isExponent_15 : dec m_Terms_isExponent 15 = .ok (.ireturn, 1) := by decide +kernel
theorem d_Terms_placeOf_0 : dec m_Terms_placeOf 0 = .ok (.getstatic 13, 3) := by decide +kernel
theorem d_Terms_placeOf_3 : dec m_Terms_placeOf 3 = .ok (.iload_n 0, 1) := by decide +kernel
theorem d_Terms_placeOf_4 : dec m_Terms_placeOf 4 = .ok (.iload_n 1, 1) := by decide +kernel
theorem d_Terms_placeOf_5 : dec m_Terms_placeOf 5 = .ok (.iadd, 1) := by decide +kernel
theorem d_Terms_placeOf_6 : dec m_Terms_placeOf 6 = .ok (.iload_n 2, 1) := by decide +kernel
theorem d_Terms_placeOf_7 : dec m_Terms_placeOf 7 = .ok (.iadd, 1) := by decide +kernel
theorem d_Terms_placeOf_8 : dec m_Terms_placeOf 8 = .ok (.iaload, 1) := by decide +kernel
theorem d_Terms_placeOf_9 : dec m_Terms_placeOf 9 = .ok (.getstatic 17, 3) := by decide +kernel
theorem d_Terms_placeOf_12 : dec m_Terms_placeOf 12 = .ok (.iload_n 1, 1) := by decide +kernel
theorem d_Terms_placeOf_13 : dec m_Terms_placeOf 13 = .ok (.iload_n 2, 1) := by decide +kernel
theorem d_Terms_placeOf_14 : dec m_Terms_placeOf 14 = .ok (.iadd, 1) := by decide +kernel
theorem d_Terms_placeOf_15 : dec m_Terms_placeOf 15 = .ok (.iaload, 1) := by decide +kernel
theorem d_Terms_placeOf_16 : dec m_Terms_placeOf 16 = .ok (.iadd, 1) := by decide +kernel
theorem d_Terms_placeOf_17 : dec m_Terms_placeOf 17 = .ok (.iload_n 2, 1) := by decide +kernel
theorem d_Terms_placeOf_18 : dec m_Terms_placeOf 18 = .ok (.iadd, 1) := by decide +kernel
theorem d_Terms_placeOf_19 : dec m_Terms_placeOf 19 = .ok (.ireturn, 1) := by decide +kernel
theorem d_Terms_exponent_0 : dec m_Terms_exponent 0 = .ok (.iload_n 1, 1) := by decide +kernel
theorem d_Terms_exponent_1 : dec m_Terms_exponent 1 = .ok (.ifCond .ne 11, 3) := by decide +kernel
theorem d_Terms_exponent_4 : dec m_Terms_exponent 4 = .ok (.getstatic 20, 3) := by decide +kernel
theorem d_Terms_exponent_7 : dec m_Terms_exponent 7 = .ok (.iload_n 0, 1) := by decide +kernel
theorem d_Terms_exponent_8 : dec m_Terms_exponent 8 = .ok (.iaload, 1) := by decide +kernel
theorem d_Terms_exponent_9 : dec m_Terms_exponent 9 = .ok (.goto 21, 3) := by decide +kernel
theorem d_Terms_exponent_12 : dec m_Terms_exponent 12 = .ok (.iload_n 1, 1) := by decide +kernel
theorem d_Terms_exponent_13 : dec m_Terms_exponent 13 = .ok (.iconst 1, 1) := by decide +kernel
theorem d_Terms_exponent_14 : dec m_Terms_exponent 14 = .ok (.if_icmp .ne 11, 3) := by decide +kernel
theorem d_Terms_exponent_17 : dec m_Terms_exponent 17 = .ok (.getstatic 23, 3) := by decide +kernel
theorem d_Terms_exponent_20 : dec m_Terms_exponent 20 = .ok (.iload_n 0, 1) := by decide +kernel
theorem d_Terms_exponent_21 : dec m_Terms_exponent 21 = .ok (.iaload, 1) := by decide +kernel
theorem d_Terms_exponent_22 : dec m_Terms_exponent 22 = .ok (.goto 8, 3) := by decide +kernel
theorem d_Terms_exponent_25 : dec m_Terms_exponent 25 = .ok (.getstatic 26, 3) := by decide +kernel
theorem d_Terms_exponent_28 : dec m_Terms_exponent 28 = .ok (.iload_n 0, 1) := by decide +kernel
theorem d_Terms_exponent_29 : dec m_Terms_exponent 29 = .ok (.iaload, 1) := by decide +kernel
theorem d_Terms_exponent_30 : dec m_Terms_exponent 30 = .ok (.ireturn, 1) := by decide +kernel
theorem d_Terms_turnedPlace_0 : dec m_Terms_turnedPlace 0 = .ok (.iload_n 0, 1) := by decide +kernel
theorem d_Terms_turnedPlace_1 : dec m_Terms_turnedPlace 1 = .ok (.getstatic 29, 3) := by decide +kernel
theorem d_Terms_turnedPlace_4 : dec m_Terms_turnedPlace 4 = .ok (.iconst 3, 1) := by decide +kernel
theorem d_Terms_turnedPlace_5 : dec m_Terms_turnedPlace 5 = .ok (.iload_n 1, 1) := by decide +kernel
theorem d_Terms_turnedPlace_6 : dec m_Terms_turnedPlace 6 = .ok (.imul, 1) := by decide +kernel
theorem d_Terms_turnedPlace_7 : dec m_Terms_turnedPlace 7 = .ok (.iaload, 1) := by decide +kernel
theorem d_Terms_turnedPlace_8 : dec m_Terms_turnedPlace 8 = .ok (.invokestatic 32, 3) := by decide +kernel
theorem d_Terms_turnedPlace_11 : dec m_Terms_turnedPlace 11 = .ok (.istore_n 2, 1) := by decide +kernel
theorem d_Terms_turnedPlace_12 : dec m_Terms_turnedPlace 12 = .ok (.iload_n 0, 1) := by decide +kernel
theorem d_Terms_turnedPlace_13 : dec m_Terms_turnedPlace 13 = .ok (.getstatic 29, 3) := by decide +kernel
theorem d_Terms_turnedPlace_16 : dec m_Terms_turnedPlace 16 = .ok (.iconst 3, 1) := by decide +kernel
theorem d_Terms_turnedPlace_17 : dec m_Terms_turnedPlace 17 = .ok (.iload_n 1, 1) := by decide +kernel
theorem d_Terms_turnedPlace_18 : dec m_Terms_turnedPlace 18 = .ok (.imul, 1) := by decide +kernel
theorem d_Terms_turnedPlace_19 : dec m_Terms_turnedPlace 19 = .ok (.iconst 1, 1) := by decide +kernel
theorem d_Terms_turnedPlace_20 : dec m_Terms_turnedPlace 20 = .ok (.iadd, 1) := by decide +kernel
theorem d_Terms_turnedPlace_21 : dec m_Terms_turnedPlace 21 = .ok (.iaload, 1) := by decide +kernel
theorem d_Terms_turnedPlace_22 : dec m_Terms_turnedPlace 22 = .ok (.invokestatic 32, 3) := by decide +kernel
theorem d_Terms_turnedPlace_25 : dec m_Terms_turnedPlace 25 = .ok (.istore_n 3, 1) := by decide +kernel
theorem d_Terms_turnedPlace_26 : dec m_Terms_turnedPlace 26 = .ok (.iload_n 0, 1) := by decide +kernel
theorem d_Terms_turnedPlace_27 : dec m_Terms_turnedPlace 27 = .ok (.getstatic 29, 3) := by decide +kernel
theorem d_Terms_turnedPlace_30 : dec m_Terms_turnedPlace 30 = .ok (.iconst 3, 1) := by decide +kernel
theorem d_Terms_turnedPlace_31 : dec m_Terms_turnedPlace 31 = .ok (.iload_n 1, 1) := by decide +kernel
theorem d_Terms_turnedPlace_32 : dec m_Terms_turnedPlace 32 = .ok (.imul, 1) := by decide +kernel
theorem d_Terms_turnedPlace_33 : dec m_Terms_turnedPlace 33 = .ok (.iconst 2, 1) := by decide +kernel
theorem d_Terms_turnedPlace_34 : dec m_Terms_turnedPlace 34 = .ok (.iadd, 1) := by decide +kernel
theorem d_Terms_turnedPlace_35 : dec m_Terms_turnedPlace 35 = .ok (.iaload, 1) := by decide +kernel
theorem d_Terms_turnedPlace_36 : dec m_Terms_turnedPlace 36 = .ok (.invokestatic 32, 3) := by decide +kernel
theorem d_Terms_turnedPlace_39 : dec m_Terms_turnedPlace 39 = .ok (.istore 4, 2) := by decide +kernel
theorem d_Terms_turnedPlace_41 : dec m_Terms_turnedPlace 41 = .ok (.iload_n 2, 1) := by decide +kernel
theorem d_Terms_turnedPlace_42 : dec m_Terms_turnedPlace 42 = .ok (.iload_n 3, 1) := by decide +kernel
theorem d_Terms_turnedPlace_43 : dec m_Terms_turnedPlace 43 = .ok (.iload 4, 2) := by decide +kernel
theorem d_Terms_turnedPlace_45 : dec m_Terms_turnedPlace 45 = .ok (.invokestatic 36, 3) := by decide +kernel
theorem d_Terms_turnedPlace_48 : dec m_Terms_turnedPlace 48 = .ok (.ireturn, 1) := by decide +kernel
theorem d_Alg_init_0 : dec m_Alg_init 0 = .ok (.aload_n 0, 1) := by decide +kernel
theorem d_Alg_init_1 : dec m_Alg_init 1 = .ok (.invokespecial 3, 3) := by decide +kernel
theorem d_Alg_init_4 : dec m_Alg_init 4 = .ok (.aload_n 0, 1) := by decide +kernel
theorem d_Alg_init_5 : dec m_Alg_init 5 = .ok (.bipush 6, 2) := by decide +kernel
theorem d_Alg_init_7 : dec m_Alg_init 7 = .ok (.anewarray 11, 3) := by decide +kernel
theorem d_Alg_init_10 : dec m_Alg_init 10 = .ok (.putfield 13, 3) := by decide +kernel
theorem d_Alg_init_13 : dec m_Alg_init 13 = .ok (.aload_n 0, 1) := by decide +kernel
theorem d_Alg_init_14 : dec m_Alg_init 14 = .ok (.new 17, 3) := by decide +kernel
theorem d_Alg_init_17 : dec m_Alg_init 17 = .ok (.dup, 1) := by decide +kernel
theorem d_Alg_init_18 : dec m_Alg_init 18 = .ok (.invokespecial 19, 3) := by decide +kernel
theorem d_Alg_init_21 : dec m_Alg_init 21 = .ok (.putfield 20, 3) := by decide +kernel
theorem d_Alg_init_24 : dec m_Alg_init 24 = .ok (.aload_n 0, 1) := by decide +kernel
theorem d_Alg_init_25 : dec m_Alg_init 25 = .ok (.new 24, 3) := by decide +kernel
theorem d_Alg_init_28 : dec m_Alg_init 28 = .ok (.dup, 1) := by decide +kernel
theorem d_Alg_init_29 : dec m_Alg_init 29 = .ok (.invokespecial 26, 3) := by decide +kernel
theorem d_Alg_init_32 : dec m_Alg_init 32 = .ok (.putfield 27, 3) := by decide +kernel
theorem d_Alg_init_35 : dec m_Alg_init 35 = .ok (.aload_n 0, 1) := by decide +kernel
theorem d_Alg_init_36 : dec m_Alg_init 36 = .ok (.new 31, 3) := by decide +kernel
theorem d_Alg_init_39 : dec m_Alg_init 39 = .ok (.dup, 1) := by decide +kernel
theorem d_Alg_init_40 : dec m_Alg_init 40 = .ok (.invokespecial 33, 3) := by decide +kernel
theorem d_Alg_init_43 : dec m_Alg_init 43 = .ok (.putfield 34, 3) := by decide +kernel
theorem d_Alg_init_46 : dec m_Alg_init 46 = .ok (.aload_n 0, 1) := by decide +kernel
theorem d_Alg_init_47 : dec m_Alg_init 47 = .ok (.new 38, 3) := by decide +kernel
theorem d_Alg_init_50 : dec m_Alg_init 50 = .ok (.dup, 1) := by decide +kernel
theorem d_Alg_init_51 : dec m_Alg_init 51 = .ok (.invokespecial 40, 3) := by decide +kernel
theorem d_Alg_init_54 : dec m_Alg_init 54 = .ok (.putfield 41, 3) := by decide +kernel
theorem d_Alg_init_57 : dec m_Alg_init 57 = .ok (.aload_n 0, 1) := by decide +kernel
theorem d_Alg_init_58 : dec m_Alg_init 58 = .ok (.new 45, 3) := by decide +kernel
theorem d_Alg_init_61 : dec m_Alg_init 61 = .ok (.dup, 1) := by decide +kernel
theorem d_Alg_init_62 : dec m_Alg_init 62 = .ok (.invokespecial 47, 3) := by decide +kernel
theorem d_Alg_init_65 : dec m_Alg_init 65 = .ok (.putfield 48, 3) := by decide +kernel
theorem d_Alg_init_68 : dec m_Alg_init 68 = .ok (.aload_n 0, 1) := by decide +kernel
theorem d_Alg_init_69 : dec m_Alg_init 69 = .ok (.iconst 4, 1) := by decide +kernel
theorem d_Alg_init_70 : dec m_Alg_init 70 = .ok (.anewarray 52, 3) := by decide +kernel
theorem d_Alg_init_73 : dec m_Alg_init 73 = .ok (.putfield 54, 3) := by decide +kernel
theorem d_Alg_init_76 : dec m_Alg_init 76 = .ok (.aload_n 0, 1) := by decide +kernel
theorem d_Alg_init_77 : dec m_Alg_init 77 = .ok (.bipush 8, 2) := by decide +kernel
theorem d_Alg_init_79 : dec m_Alg_init 79 = .ok (.anewarray 58, 3) := by decide +kernel
theorem d_Alg_init_82 : dec m_Alg_init 82 = .ok (.putfield 60, 3) := by decide +kernel
theorem d_Alg_init_85 : dec m_Alg_init 85 = .ok (.aload_n 0, 1) := by decide +kernel
theorem d_Alg_init_86 : dec m_Alg_init 86 = .ok (.new 11, 3) := by decide +kernel
theorem d_Alg_init_89 : dec m_Alg_init 89 = .ok (.dup, 1) := by decide +kernel
theorem d_Alg_init_90 : dec m_Alg_init 90 = .ok (.invokespecial 64, 3) := by decide +kernel
theorem d_Alg_init_93 : dec m_Alg_init 93 = .ok (.putfield 65, 3) := by decide +kernel
theorem d_Alg_init_96 : dec m_Alg_init 96 = .ok (.aload_n 0, 1) := by decide +kernel
theorem d_Alg_init_97 : dec m_Alg_init 97 = .ok (.new 11, 3) := by decide +kernel
theorem d_Alg_init_100 : dec m_Alg_init 100 = .ok (.dup, 1) := by decide +kernel
theorem d_Alg_init_101 : dec m_Alg_init 101 = .ok (.invokespecial 64, 3) := by decide +kernel
theorem d_Alg_init_104 : dec m_Alg_init 104 = .ok (.putfield 69, 3) := by decide +kernel
theorem d_Alg_init_107 : dec m_Alg_init 107 = .ok (.aload_n 0, 1) := by decide +kernel
theorem d_Alg_init_108 : dec m_Alg_init 108 = .ok (.new 72, 3) := by decide +kernel
theorem d_Alg_init_111 : dec m_Alg_init 111 = .ok (.dup, 1) := by decide +kernel
theorem d_Alg_init_112 : dec m_Alg_init 112 = .ok (.invokespecial 74, 3) := by decide +kernel
theorem d_Alg_init_115 : dec m_Alg_init 115 = .ok (.putfield 75, 3) := by decide +kernel
theorem d_Alg_init_118 : dec m_Alg_init 118 = .ok (.aload_n 0, 1) := by decide +kernel
theorem d_Alg_init_119 : dec m_Alg_init 119 = .ok (.new 72, 3) := by decide +kernel
theorem d_Alg_init_122 : dec m_Alg_init 122 = .ok (.dup, 1) := by decide +kernel
theorem d_Alg_init_123 : dec m_Alg_init 123 = .ok (.invokespecial 74, 3) := by decide +kernel
theorem d_Alg_init_126 : dec m_Alg_init 126 = .ok (.putfield 79, 3) := by decide +kernel
theorem d_Alg_init_129 : dec m_Alg_init 129 = .ok (.aload_n 0, 1) := by decide +kernel
theorem d_Alg_init_130 : dec m_Alg_init 130 = .ok (.aconst_null, 1) := by decide +kernel
theorem d_Alg_init_131 : dec m_Alg_init 131 = .ok (.putfield 82, 3) := by decide +kernel
theorem d_Alg_init_134 : dec m_Alg_init 134 = .ok (.aload_n 0, 1) := by decide +kernel
theorem d_Alg_init_135 : dec m_Alg_init 135 = .ok (.iconst 0, 1) := by decide +kernel
theorem d_Alg_init_136 : dec m_Alg_init 136 = .ok (.putfield 86, 3) := by decide +kernel
theorem d_Alg_init_139 : dec m_Alg_init 139 = .ok (.aload_n 0, 1) := by decide +kernel
theorem d_Alg_init_140 : dec m_Alg_init 140 = .ok (.iconst 0, 1) := by decide +kernel
theorem d_Alg_init_141 : dec m_Alg_init 141 = .ok (.putfield 90, 3) := by decide +kernel
theorem d_Alg_init_144 : dec m_Alg_init 144 = .ok (.aload_n 0, 1) := by decide +kernel
theorem d_Alg_init_145 : dec m_Alg_init 145 = .ok (.iconst 0, 1) := by decide +kernel
theorem d_Alg_init_146 : dec m_Alg_init 146 = .ok (.putfield 93, 3) := by decide +kernel
theorem d_Alg_init_149 : dec m_Alg_init 149 = .ok (.aload_n 0, 1) := by decide +kernel
theorem d_Alg_init_150 : dec m_Alg_init 150 = .ok (.iconst 0, 1) := by decide +kernel
theorem d_Alg_init_151 : dec m_Alg_init 151 = .ok (.putfield 96, 3) := by decide +kernel
theorem d_Alg_init_154 : dec m_Alg_init 154 = .ok (.aload_n 0, 1) := by decide +kernel
theorem d_Alg_init_155 : dec m_Alg_init 155 = .ok (.iconst 0, 1) := by decide +kernel
theorem d_Alg_init_156 : dec m_Alg_init 156 = .ok (.putfield 100, 3) := by decide +kernel
theorem d_Alg_init_159 : dec m_Alg_init 159 = .ok (.iconst 0, 1) := by decide +kernel
theorem d_Alg_init_160 : dec m_Alg_init 160 = .ok (.istore_n 1, 1) := by decide +kernel
theorem d_Alg_init_161 : dec m_Alg_init 161 = .ok (.iload_n 1, 1) := by decide +kernel
theorem d_Alg_init_162 : dec m_Alg_init 162 = .ok (.bipush 6, 2) := by decide +kernel
theorem d_Alg_init_164 : dec m_Alg_init 164 = .ok (.if_icmp .ge 22, 3) := by decide +kernel
theorem d_Alg_init_167 : dec m_Alg_init 167 = .ok (.aload_n 0, 1) := by decide +kernel
theorem d_Alg_init_168 : dec m_Alg_init 168 = .ok (.getfield 13, 3) := by decide +kernel
theorem d_Alg_init_171 : dec m_Alg_init 171 = .ok (.iload_n 1, 1) := by decide +kernel
theorem d_Alg_init_172 : dec m_Alg_init 172 = .ok (.new 11, 3) := by decide +kernel
theorem d_Alg_init_175 : dec m_Alg_init 175 = .ok (.dup, 1) := by decide +kernel
theorem d_Alg_init_176 : dec m_Alg_init 176 = .ok (.invokespecial 64, 3) := by decide +kernel
theorem d_Alg_init_179 : dec m_Alg_init 179 = .ok (.aastore, 1) := by decide +kernel
theorem d_Alg_init_180 : dec m_Alg_init 180 = .ok (.iinc 1 1, 3) := by decide +kernel
theorem d_Alg_init_183 : dec m_Alg_init 183 = .ok (.goto (-22), 3) := by decide +kernel
theorem d_Alg_init_186 : dec m_Alg_init 186 = .ok (.iconst 0, 1) := by decide +kernel
theorem d_Alg_init_187 : dec m_Alg_init 187 = .ok (.istore_n 1, 1) := by decide +kernel
theorem d_Alg_init_188 : dec m_Alg_init 188 = .ok (.iload_n 1, 1) := by decide +kernel
theorem d_Alg_init_189 : dec m_Alg_init 189 = .ok (.iconst 4, 1) := by decide +kernel
theorem d_Alg_init_190 : dec m_Alg_init 190 = .ok (.if_icmp .ge 22, 3) := by decide +kernel
theorem d_Alg_init_193 : dec m_Alg_init 193 = .ok (.aload_n 0, 1) := by decide +kernel
theorem d_Alg_init_194 : dec m_Alg_init 194 = .ok (.getfield 54, 3) := by decide +kernel
theorem d_Alg_init_197 : dec m_Alg_init 197 = .ok (.iload_n 1, 1) := by decide +kernel
theorem d_Alg_init_198 : dec m_Alg_init 198 = .ok (.new 52, 3) := by decide +kernel
theorem d_Alg_init_201 : dec m_Alg_init 201 = .ok (.dup, 1) := by decide +kernel
theorem d_Alg_init_202 : dec m_Alg_init 202 = .ok (.invokespecial 103, 3) := by decide +kernel
theorem d_Alg_init_205 : dec m_Alg_init 205 = .ok (.aastore, 1) := by decide +kernel
theorem d_Alg_init_206 : dec m_Alg_init 206 = .ok (.iinc 1 1, 3) := by decide +kernel
theorem d_Alg_init_209 : dec m_Alg_init 209 = .ok (.goto (-21), 3) := by decide +kernel
theorem d_Alg_init_212 : dec m_Alg_init 212 = .ok (.iconst 0, 1) := by decide +kernel
theorem d_Alg_init_213 : dec m_Alg_init 213 = .ok (.istore_n 1, 1) := by decide +kernel
theorem d_Alg_init_214 : dec m_Alg_init 214 = .ok (.iload_n 1, 1) := by decide +kernel
theorem d_Alg_init_215 : dec m_Alg_init 215 = .ok (.bipush 8, 2) := by decide +kernel
theorem d_Alg_init_217 : dec m_Alg_init 217 = .ok (.if_icmp .ge 22, 3) := by decide +kernel
theorem d_Alg_init_220 : dec m_Alg_init 220 = .ok (.aload_n 0, 1) := by decide +kernel
theorem d_Alg_init_221 : dec m_Alg_init 221 = .ok (.getfield 60, 3) := by decide +kernel
theorem d_Alg_init_224 : dec m_Alg_init 224 = .ok (.iload_n 1, 1) := by decide +kernel
theorem d_Alg_init_225 : dec m_Alg_init 225 = .ok (.new 58, 3) := by decide +kernel
theorem d_Alg_init_228 : dec m_Alg_init 228 = .ok (.dup, 1) := by decide +kernel
theorem d_Alg_init_229 : dec m_Alg_init 229 = .ok (.invokespecial 104, 3) := by decide +kernel
theorem d_Alg_init_232 : dec m_Alg_init 232 = .ok (.aastore, 1) := by decide +kernel
theorem d_Alg_init_233 : dec m_Alg_init 233 = .ok (.iinc 1 1, 3) := by decide +kernel
theorem d_Alg_init_236 : dec m_Alg_init 236 = .ok (.goto (-22), 3) := by decide +kernel
theorem d_Alg_init_239 : dec m_Alg_init 239 = .ok (.aload_n 0, 1) := by decide +kernel
theorem d_Alg_init_240 : dec m_Alg_init 240 = .ok (.getfield 34, 3) := by decide +kernel
theorem d_Alg_init_243 : dec m_Alg_init 243 = .ok (.aload_n 0, 1) := by decide +kernel
theorem d_Alg_init_244 : dec m_Alg_init 244 = .ok (.getfield 27, 3) := by decide +kernel
theorem d_Alg_init_247 : dec m_Alg_init 247 = .ok (.invokevirtual 105, 3) := by decide +kernel
theorem d_Alg_init_250 : dec m_Alg_init 250 = .ok (.return_, 1) := by decide +kernel
theorem d_Alg_order_0 : dec m_Alg_order 0 = .ok (.iload_n 1, 1) := by decide +kernel
theorem d_Alg_order_1 : dec m_Alg_order 1 = .ok (.ifCond .lt 8, 3) := by decide +kernel
theorem d_Alg_order_4 : dec m_Alg_order 4 = .ok (.iload_n 1, 1) := by decide +kernel
theorem d_Alg_order_5 : dec m_Alg_order 5 = .ok (.iconst 2, 1) := by decide +kernel
theorem d_Alg_order_6 : dec m_Alg_order 6 = .ok (.if_icmp .le 5, 3) := by decide +kernel
theorem d_Alg_order_9 : dec m_Alg_order 9 = .ok (.iconst (-1), 1) := by decide +kernel
theorem d_Alg_order_10 : dec m_Alg_order 10 = .ok (.ireturn, 1) := by decide +kernel
theorem d_Alg_order_11 : dec m_Alg_order 11 = .ok (.aload_n 0, 1) := by decide +kernel
theorem d_Alg_order_12 : dec m_Alg_order 12 = .ok (.getfield 27, 3) := by decide +kernel
theorem d_Alg_order_15 : dec m_Alg_order 15 = .ok (.getfield 109, 3) := by decide +kernel
theorem d_Alg_order_18 : dec m_Alg_order 18 = .ok (.ifCond .le 6, 3) := by decide +kernel
theorem d_Alg_order_21 : dec m_Alg_order 21 = .ok (.bipush (-3), 2) := by decide +kernel
theorem d_Alg_order_23 : dec m_Alg_order 23 = .ok (.ireturn, 1) := by decide +kernel
theorem d_Alg_order_24 : dec m_Alg_order 24 = .ok (.aload_n 0, 1) := by decide +kernel
theorem d_Alg_order_25 : dec m_Alg_order 25 = .ok (.getfield 20, 3) := by decide +kernel
theorem d_Alg_order_28 : dec m_Alg_order 28 = .ok (.getfield 112, 3) := by decide +kernel
theorem d_Alg_order_31 : dec m_Alg_order 31 = .ok (.istore_n 2, 1) := by decide +kernel
theorem d_Alg_order_32 : dec m_Alg_order 32 = .ok (.aload_n 0, 1) := by decide +kernel
theorem d_Alg_order_33 : dec m_Alg_order 33 = .ok (.getfield 20, 3) := by decide +kernel
theorem d_Alg_order_36 : dec m_Alg_order 36 = .ok (.iload_n 1, 1) := by decide +kernel
theorem d_Alg_order_37 : dec m_Alg_order 37 = .ok (.invokevirtual 115, 3) := by decide +kernel
theorem d_Alg_order_40 : dec m_Alg_order 40 = .ok (.iload_n 2, 1) := by decide +kernel
theorem d_Alg_order_41 : dec m_Alg_order 41 = .ok (.ireturn, 1) := by decide +kernel
theorem d_Alg_term_0 : dec m_Alg_term 0 = .ok (.iload_n 1, 1) := by decide +kernel
theorem d_Alg_term_1 : dec m_Alg_term 1 = .ok (.invokestatic 119, 3) := by decide +kernel
theorem d_Alg_term_4 : dec m_Alg_term 4 = .ok (.ifCond .eq 21, 3) := by decide +kernel
theorem d_Alg_term_7 : dec m_Alg_term 7 = .ok (.iload_n 2, 1) := by decide +kernel
theorem d_Alg_term_8 : dec m_Alg_term 8 = .ok (.invokestatic 123, 3) := by decide +kernel
theorem d_Alg_term_11 : dec m_Alg_term 11 = .ok (.ifCond .eq 14, 3) := by decide +kernel
theorem d_Alg_term_14 : dec m_Alg_term 14 = .ok (.iload_n 3, 1) := by decide +kernel
theorem d_Alg_term_15 : dec m_Alg_term 15 = .ok (.iload 4, 2) := by decide +kernel
theorem d_Alg_term_17 : dec m_Alg_term 17 = .ok (.iload 5, 2) := by decide +kernel
theorem d_Alg_term_19 : dec m_Alg_term 19 = .ok (.invokestatic 126, 3) := by decide +kernel
theorem d_Alg_term_22 : dec m_Alg_term 22 = .ok (.ifCond .ne 5, 3) := by decide +kernel
theorem d_Alg_term_25 : dec m_Alg_term 25 = .ok (.iconst (-1), 1) := by decide +kernel
theorem d_Alg_term_26 : dec m_Alg_term 26 = .ok (.ireturn, 1) := by decide +kernel
theorem d_Alg_term_27 : dec m_Alg_term 27 = .ok (.aload_n 0, 1) := by decide +kernel
theorem d_Alg_term_28 : dec m_Alg_term 28 = .ok (.getfield 13, 3) := by decide +kernel
theorem d_Alg_term_31 : dec m_Alg_term 31 = .ok (.iload_n 1, 1) := by decide +kernel
theorem d_Alg_term_32 : dec m_Alg_term 32 = .ok (.aaload, 1) := by decide +kernel
theorem d_Alg_term_33 : dec m_Alg_term 33 = .ok (.invokevirtual 132, 3) := by decide +kernel
theorem d_Alg_term_36 : dec m_Alg_term 36 = .ok (.iload_n 2, 1) := by decide +kernel
theorem d_Alg_term_37 : dec m_Alg_term 37 = .ok (.invokestatic 136, 3) := by decide +kernel
theorem d_Alg_term_40 : dec m_Alg_term 40 = .ok (.i2l, 1) := by decide +kernel
theorem d_Alg_term_41 : dec m_Alg_term 41 = .ok (.invokestatic 142, 3) := by decide +kernel
theorem d_Alg_term_44 : dec m_Alg_term 44 = .ok (.ldc2_w 146, 3) := by decide +kernel
theorem d_Alg_term_47 : dec m_Alg_term 47 = .ok (.lcmp, 1) := by decide +kernel
theorem d_Alg_term_48 : dec m_Alg_term 48 = .ok (.ifCond .ne 6, 3) := by decide +kernel
theorem d_Alg_term_51 : dec m_Alg_term 51 = .ok (.bipush (-5), 2) := by decide +kernel
theorem d_Alg_term_53 : dec m_Alg_term 53 = .ok (.ireturn, 1) := by decide +kernel
theorem d_Alg_term_54 : dec m_Alg_term 54 = .ok (.aload_n 0, 1) := by decide +kernel
theorem d_Alg_term_55 : dec m_Alg_term 55 = .ok (.getfield 13, 3) := by decide +kernel
theorem d_Alg_term_58 : dec m_Alg_term 58 = .ok (.iload_n 1, 1) := by decide +kernel
theorem d_Alg_term_59 : dec m_Alg_term 59 = .ok (.aaload, 1) := by decide +kernel
theorem d_Alg_term_60 : dec m_Alg_term 60 = .ok (.getfield 148, 3) := by decide +kernel
theorem d_Alg_term_63 : dec m_Alg_term 63 = .ok (.iload_n 3, 1) := by decide +kernel
theorem d_Alg_term_64 : dec m_Alg_term 64 = .ok (.iload 4, 2) := by decide +kernel
theorem d_Alg_term_66 : dec m_Alg_term 66 = .ok (.iload 5, 2) := by decide +kernel
theorem d_Alg_term_68 : dec m_Alg_term 68 = .ok (.invokestatic 152, 3) := by decide +kernel
theorem d_Alg_term_71 : dec m_Alg_term 71 = .ok (.dup2, 1) := by decide +kernel
theorem d_Alg_term_72 : dec m_Alg_term 72 = .ok (.laload, 1) := by decide +kernel
theorem d_Alg_term_73 : dec m_Alg_term 73 = .ok (.iload_n 2, 1) := by decide +kernel
theorem d_Alg_term_74 : dec m_Alg_term 74 = .ok (.i2l, 1) := by decide +kernel
theorem d_Alg_term_75 : dec m_Alg_term 75 = .ok (.ladd, 1) := by decide +kernel
theorem d_Alg_term_76 : dec m_Alg_term 76 = .ok (.lastore, 1) := by decide +kernel
theorem d_Alg_term_77 : dec m_Alg_term 77 = .ok (.aload_n 0, 1) := by decide +kernel
theorem d_Alg_term_78 : dec m_Alg_term 78 = .ok (.getfield 13, 3) := by decide +kernel
theorem d_Alg_term_81 : dec m_Alg_term 81 = .ok (.iload_n 1, 1) := by decide +kernel
theorem d_Alg_term_82 : dec m_Alg_term 82 = .ok (.aaload, 1) := by decide +kernel
theorem d_Alg_term_83 : dec m_Alg_term 83 = .ok (.invokevirtual 156, 3) := by decide +kernel
theorem d_Alg_term_86 : dec m_Alg_term 86 = .ok (.ireturn, 1) := by decide +kernel
theorem d_Alg_clear_0 : dec m_Alg_clear 0 = .ok (.iload_n 1, 1) := by decide +kernel
theorem d_Alg_clear_1 : dec m_Alg_clear 1 = .ok (.invokestatic 119, 3) := by decide +kernel
theorem d_Alg_clear_4 : dec m_Alg_clear 4 = .ok (.ifCond .ne 5, 3) := by decide +kernel
theorem d_Alg_clear_7 : dec m_Alg_clear 7 = .ok (.iconst (-1), 1) := by decide +kernel
theorem d_Alg_clear_8 : dec m_Alg_clear 8 = .ok (.ireturn, 1) := by decide +kernel
theorem d_Alg_clear_9 : dec m_Alg_clear 9 = .ok (.aload_n 0, 1) := by decide +kernel
theorem d_Alg_clear_10 : dec m_Alg_clear 10 = .ok (.getfield 13, 3) := by decide +kernel
theorem d_Alg_clear_13 : dec m_Alg_clear 13 = .ok (.iload_n 1, 1) := by decide +kernel
theorem d_Alg_clear_14 : dec m_Alg_clear 14 = .ok (.aaload, 1) := by decide +kernel
theorem d_Alg_clear_15 : dec m_Alg_clear 15 = .ok (.invokevirtual 156, 3) := by decide +kernel
theorem d_Alg_clear_18 : dec m_Alg_clear 18 = .ok (.istore_n 2, 1) := by decide +kernel
theorem d_Alg_clear_19 : dec m_Alg_clear 19 = .ok (.aload_n 0, 1) := by decide +kernel
theorem d_Alg_clear_20 : dec m_Alg_clear 20 = .ok (.getfield 13, 3) := by decide +kernel
theorem d_Alg_clear_23 : dec m_Alg_clear 23 = .ok (.iload_n 1, 1) := by decide +kernel
theorem d_Alg_clear_24 : dec m_Alg_clear 24 = .ok (.aaload, 1) := by decide +kernel
theorem d_Alg_clear_25 : dec m_Alg_clear 25 = .ok (.invokevirtual 160, 3) := by decide +kernel
theorem d_Alg_clear_28 : dec m_Alg_clear 28 = .ok (.iload_n 2, 1) := by decide +kernel
theorem d_Alg_clear_29 : dec m_Alg_clear 29 = .ok (.ireturn, 1) := by decide +kernel
theorem d_Alg_add_0 : dec m_Alg_add 0 = .ok (.iload_n 1, 1) := by decide +kernel
theorem d_Alg_add_1 : dec m_Alg_add 1 = .ok (.invokestatic 119, 3) := by decide +kernel
theorem d_Alg_add_4 : dec m_Alg_add 4 = .ok (.ifCond .eq 17, 3) := by decide +kernel
theorem d_Alg_add_7 : dec m_Alg_add 7 = .ok (.iload_n 2, 1) := by decide +kernel
theorem d_Alg_add_8 : dec m_Alg_add 8 = .ok (.invokestatic 119, 3) := by decide +kernel
theorem d_Alg_add_11 : dec m_Alg_add 11 = .ok (.ifCond .eq 10, 3) := by decide +kernel
theorem d_Alg_add_14 : dec m_Alg_add 14 = .ok (.iload_n 3, 1) := by decide +kernel
theorem d_Alg_add_15 : dec m_Alg_add 15 = .ok (.invokestatic 123, 3) := by decide +kernel
theorem d_Alg_add_18 : dec m_Alg_add 18 = .ok (.ifCond .ne 5, 3) := by decide +kernel
theorem d_Alg_add_21 : dec m_Alg_add 21 = .ok (.iconst (-1), 1) := by decide +kernel
theorem d_Alg_add_22 : dec m_Alg_add 22 = .ok (.ireturn, 1) := by decide +kernel
theorem d_Alg_add_23 : dec m_Alg_add 23 = .ok (.iload_n 3, 1) := by decide +kernel
theorem d_Alg_add_24 : dec m_Alg_add 24 = .ok (.invokestatic 136, 3) := by decide +kernel
theorem d_Alg_add_27 : dec m_Alg_add 27 = .ok (.i2l, 1) := by decide +kernel
theorem d_Alg_add_28 : dec m_Alg_add 28 = .ok (.aload_n 0, 1) := by decide +kernel
theorem d_Alg_add_29 : dec m_Alg_add 29 = .ok (.getfield 13, 3) := by decide +kernel
theorem d_Alg_add_32 : dec m_Alg_add 32 = .ok (.iload_n 2, 1) := by decide +kernel
theorem d_Alg_add_33 : dec m_Alg_add 33 = .ok (.aaload, 1) := by decide +kernel
theorem d_Alg_add_34 : dec m_Alg_add 34 = .ok (.invokevirtual 132, 3) := by decide +kernel
theorem d_Alg_add_37 : dec m_Alg_add 37 = .ok (.invokestatic 163, 3) := by decide +kernel
theorem d_Alg_add_40 : dec m_Alg_add 40 = .ok (.lstore 4, 2) := by decide +kernel
theorem d_Alg_add_42 : dec m_Alg_add 42 = .ok (.aload_n 0, 1) := by decide +kernel
theorem d_Alg_add_43 : dec m_Alg_add 43 = .ok (.getfield 13, 3) := by decide +kernel
theorem d_Alg_add_46 : dec m_Alg_add 46 = .ok (.iload_n 1, 1) := by decide +kernel
theorem d_Alg_add_47 : dec m_Alg_add 47 = .ok (.aaload, 1) := by decide +kernel
theorem d_Alg_add_48 : dec m_Alg_add 48 = .ok (.invokevirtual 132, 3) := by decide +kernel
theorem d_Alg_add_51 : dec m_Alg_add 51 = .ok (.lload 4, 2) := by decide +kernel
theorem d_Alg_add_53 : dec m_Alg_add 53 = .ok (.invokestatic 142, 3) := by decide +kernel
theorem d_Alg_add_56 : dec m_Alg_add 56 = .ok (.ldc2_w 146, 3) := by decide +kernel
theorem d_Alg_add_59 : dec m_Alg_add 59 = .ok (.lcmp, 1) := by decide +kernel
theorem d_Alg_add_60 : dec m_Alg_add 60 = .ok (.ifCond .ne 6, 3) := by decide +kernel
theorem d_Alg_add_63 : dec m_Alg_add 63 = .ok (.bipush (-5), 2) := by decide +kernel
theorem d_Alg_add_65 : dec m_Alg_add 65 = .ok (.ireturn, 1) := by decide +kernel
theorem d_Alg_add_66 : dec m_Alg_add 66 = .ok (.aload_n 0, 1) := by decide +kernel
theorem d_Alg_add_67 : dec m_Alg_add 67 = .ok (.getfield 13, 3) := by decide +kernel
theorem d_Alg_add_70 : dec m_Alg_add 70 = .ok (.iload_n 1, 1) := by decide +kernel
theorem d_Alg_add_71 : dec m_Alg_add 71 = .ok (.aaload, 1) := by decide +kernel
theorem d_Alg_add_72 : dec m_Alg_add 72 = .ok (.aload_n 0, 1) := by decide +kernel
theorem d_Alg_add_73 : dec m_Alg_add 73 = .ok (.getfield 13, 3) := by decide +kernel
theorem d_Alg_add_76 : dec m_Alg_add 76 = .ok (.iload_n 2, 1) := by decide +kernel
theorem d_Alg_add_77 : dec m_Alg_add 77 = .ok (.aaload, 1) := by decide +kernel
theorem d_Alg_add_78 : dec m_Alg_add 78 = .ok (.iload_n 3, 1) := by decide +kernel
theorem d_Alg_add_79 : dec m_Alg_add 79 = .ok (.i2l, 1) := by decide +kernel
theorem d_Alg_add_80 : dec m_Alg_add 80 = .ok (.invokevirtual 166, 3) := by decide +kernel
theorem d_Alg_add_83 : dec m_Alg_add 83 = .ok (.aload_n 0, 1) := by decide +kernel
theorem d_Alg_add_84 : dec m_Alg_add 84 = .ok (.getfield 13, 3) := by decide +kernel
theorem d_Alg_add_87 : dec m_Alg_add 87 = .ok (.iload_n 1, 1) := by decide +kernel
theorem d_Alg_add_88 : dec m_Alg_add 88 = .ok (.aaload, 1) := by decide +kernel
theorem d_Alg_add_89 : dec m_Alg_add 89 = .ok (.invokevirtual 156, 3) := by decide +kernel
theorem d_Alg_add_92 : dec m_Alg_add 92 = .ok (.ireturn, 1) := by decide +kernel
theorem d_Alg_times_0 : dec m_Alg_times 0 = .ok (.iload_n 1, 1) := by decide +kernel
theorem d_Alg_times_1 : dec m_Alg_times 1 = .ok (.invokestatic 119, 3) := by decide +kernel
theorem d_Alg_times_4 : dec m_Alg_times 4 = .ok (.ifCond .eq 10, 3) := by decide +kernel
theorem d_Alg_times_7 : dec m_Alg_times 7 = .ok (.iload_n 2, 1) := by decide +kernel
theorem d_Alg_times_8 : dec m_Alg_times 8 = .ok (.invokestatic 119, 3) := by decide +kernel
theorem d_Alg_times_11 : dec m_Alg_times 11 = .ok (.ifCond .ne 5, 3) := by decide +kernel
theorem d_Alg_times_14 : dec m_Alg_times 14 = .ok (.iconst (-1), 1) := by decide +kernel
theorem d_Alg_times_15 : dec m_Alg_times 15 = .ok (.ireturn, 1) := by decide +kernel
theorem d_Alg_times_16 : dec m_Alg_times 16 = .ok (.aload_n 0, 1) := by decide +kernel
theorem d_Alg_times_17 : dec m_Alg_times 17 = .ok (.getfield 65, 3) := by decide +kernel
theorem d_Alg_times_20 : dec m_Alg_times 20 = .ok (.aload_n 0, 1) := by decide +kernel
theorem d_Alg_times_21 : dec m_Alg_times 21 = .ok (.getfield 13, 3) := by decide +kernel
theorem d_Alg_times_24 : dec m_Alg_times 24 = .ok (.iload_n 1, 1) := by decide +kernel
theorem d_Alg_times_25 : dec m_Alg_times 25 = .ok (.aaload, 1) := by decide +kernel
theorem d_Alg_times_26 : dec m_Alg_times 26 = .ok (.invokevirtual 170, 3) := by decide +kernel
theorem d_Alg_times_29 : dec m_Alg_times 29 = .ok (.aload_n 0, 1) := by decide +kernel
theorem d_Alg_times_30 : dec m_Alg_times 30 = .ok (.aload_n 0, 1) := by decide +kernel
theorem d_Alg_times_31 : dec m_Alg_times 31 = .ok (.getfield 13, 3) := by decide +kernel
theorem d_Alg_times_34 : dec m_Alg_times 34 = .ok (.iload_n 2, 1) := by decide +kernel
theorem d_Alg_times_35 : dec m_Alg_times 35 = .ok (.aaload, 1) := by decide +kernel
theorem d_Alg_times_36 : dec m_Alg_times 36 = .ok (.invokevirtual 174, 3) := by decide +kernel
theorem d_Alg_times_39 : dec m_Alg_times 39 = .ok (.istore_n 3, 1) := by decide +kernel
theorem d_Alg_times_40 : dec m_Alg_times 40 = .ok (.iload_n 3, 1) := by decide +kernel
theorem d_Alg_times_41 : dec m_Alg_times 41 = .ok (.ifCond .eq 7, 3) := by decide +kernel
theorem d_Alg_times_44 : dec m_Alg_times 44 = .ok (.iload_n 3, 1) := by decide +kernel
theorem d_Alg_times_45 : dec m_Alg_times 45 = .ok (.goto 8, 3) := by decide +kernel
theorem d_Alg_times_48 : dec m_Alg_times 48 = .ok (.aload_n 0, 1) := by decide +kernel
theorem d_Alg_times_49 : dec m_Alg_times 49 = .ok (.iload_n 1, 1) := by decide +kernel
theorem d_Alg_times_50 : dec m_Alg_times 50 = .ok (.invokevirtual 178, 3) := by decide +kernel
theorem d_Alg_times_53 : dec m_Alg_times 53 = .ok (.ireturn, 1) := by decide +kernel
theorem d_Alg_turn_0 : dec m_Alg_turn 0 = .ok (.iload_n 1, 1) := by decide +kernel
theorem d_Alg_turn_1 : dec m_Alg_turn 1 = .ok (.invokestatic 119, 3) := by decide +kernel
theorem d_Alg_turn_4 : dec m_Alg_turn 4 = .ok (.ifCond .eq 10, 3) := by decide +kernel
theorem d_Alg_turn_7 : dec m_Alg_turn 7 = .ok (.iload_n 2, 1) := by decide +kernel
theorem d_Alg_turn_8 : dec m_Alg_turn 8 = .ok (.invokestatic 181, 3) := by decide +kernel
theorem d_Alg_turn_11 : dec m_Alg_turn 11 = .ok (.ifCond .ne 5, 3) := by decide +kernel
theorem d_Alg_turn_14 : dec m_Alg_turn 14 = .ok (.iconst (-1), 1) := by decide +kernel
theorem d_Alg_turn_15 : dec m_Alg_turn 15 = .ok (.ireturn, 1) := by decide +kernel
theorem d_Alg_turn_16 : dec m_Alg_turn 16 = .ok (.aload_n 0, 1) := by decide +kernel
theorem d_Alg_turn_17 : dec m_Alg_turn 17 = .ok (.getfield 65, 3) := by decide +kernel
theorem d_Alg_turn_20 : dec m_Alg_turn 20 = .ok (.aload_n 0, 1) := by decide +kernel
theorem d_Alg_turn_21 : dec m_Alg_turn 21 = .ok (.getfield 13, 3) := by decide +kernel
theorem d_Alg_turn_24 : dec m_Alg_turn 24 = .ok (.iload_n 1, 1) := by decide +kernel
theorem d_Alg_turn_25 : dec m_Alg_turn 25 = .ok (.aaload, 1) := by decide +kernel
theorem d_Alg_turn_26 : dec m_Alg_turn 26 = .ok (.iload_n 2, 1) := by decide +kernel
theorem d_Alg_turn_27 : dec m_Alg_turn 27 = .ok (.invokevirtual 184, 3) := by decide +kernel
theorem d_Alg_turn_30 : dec m_Alg_turn 30 = .ok (.aload_n 0, 1) := by decide +kernel
theorem d_Alg_turn_31 : dec m_Alg_turn 31 = .ok (.iload_n 1, 1) := by decide +kernel
theorem d_Alg_turn_32 : dec m_Alg_turn 32 = .ok (.invokevirtual 178, 3) := by decide +kernel
theorem d_Alg_turn_35 : dec m_Alg_turn 35 = .ok (.ireturn, 1) := by decide +kernel
theorem d_Alg_even_0 : dec m_Alg_even 0 = .ok (.iload_n 1, 1) := by decide +kernel
theorem d_Alg_even_1 : dec m_Alg_even 1 = .ok (.invokestatic 119, 3) := by decide +kernel
theorem d_Alg_even_4 : dec m_Alg_even 4 = .ok (.ifCond .ne 5, 3) := by decide +kernel
theorem d_Alg_even_7 : dec m_Alg_even 7 = .ok (.iconst (-1), 1) := by decide +kernel
theorem d_Alg_even_8 : dec m_Alg_even 8 = .ok (.ireturn, 1) := by decide +kernel
theorem d_Alg_even_9 : dec m_Alg_even 9 = .ok (.ldc2_w 188, 3) := by decide +kernel
theorem d_Alg_even_12 : dec m_Alg_even 12 = .ok (.aload_n 0, 1) := by decide +kernel
theorem d_Alg_even_13 : dec m_Alg_even 13 = .ok (.getfield 13, 3) := by decide +kernel
theorem d_Alg_even_16 : dec m_Alg_even 16 = .ok (.iload_n 1, 1) := by decide +kernel
theorem d_Alg_even_17 : dec m_Alg_even 17 = .ok (.aaload, 1) := by decide +kernel
theorem d_Alg_even_18 : dec m_Alg_even 18 = .ok (.invokevirtual 132, 3) := by decide +kernel
theorem d_Alg_even_21 : dec m_Alg_even 21 = .ok (.invokestatic 163, 3) := by decide +kernel
theorem d_Alg_even_24 : dec m_Alg_even 24 = .ok (.ldc2_w 146, 3) := by decide +kernel
theorem d_Alg_even_27 : dec m_Alg_even 27 = .ok (.lcmp, 1) := by decide +kernel
theorem d_Alg_even_28 : dec m_Alg_even 28 = .ok (.ifCond .ne 6, 3) := by decide +kernel
theorem d_Alg_even_31 : dec m_Alg_even 31 = .ok (.bipush (-5), 2) := by decide +kernel
theorem d_Alg_even_33 : dec m_Alg_even 33 = .ok (.ireturn, 1) := by decide +kernel
theorem d_Alg_even_34 : dec m_Alg_even 34 = .ok (.aload_n 0, 1) := by decide +kernel
theorem d_Alg_even_35 : dec m_Alg_even 35 = .ok (.getfield 65, 3) := by decide +kernel
theorem d_Alg_even_38 : dec m_Alg_even 38 = .ok (.invokevirtual 160, 3) := by decide +kernel
theorem d_Alg_even_41 : dec m_Alg_even 41 = .ok (.iconst 0, 1) := by decide +kernel
theorem d_Alg_even_42 : dec m_Alg_even 42 = .ok (.istore_n 2, 1) := by decide +kernel
theorem d_Alg_even_43 : dec m_Alg_even 43 = .ok (.iload_n 2, 1) := by decide +kernel
theorem d_Alg_even_44 : dec m_Alg_even 44 = .ok (.bipush 6, 2) := by decide +kernel
theorem d_Alg_even_46 : dec m_Alg_even 46 = .ok (.if_icmp .ge 35, 3) := by decide +kernel
theorem d_Alg_even_49 : dec m_Alg_even 49 = .ok (.aload_n 0, 1) := by decide +kernel
theorem d_Alg_even_50 : dec m_Alg_even 50 = .ok (.getfield 69, 3) := by decide +kernel
theorem d_Alg_even_53 : dec m_Alg_even 53 = .ok (.aload_n 0, 1) := by decide +kernel
theorem d_Alg_even_54 : dec m_Alg_even 54 = .ok (.getfield 13, 3) := by decide +kernel
theorem d_Alg_even_57 : dec m_Alg_even 57 = .ok (.iload_n 1, 1) := by decide +kernel
theorem d_Alg_even_58 : dec m_Alg_even 58 = .ok (.aaload, 1) := by decide +kernel
theorem d_Alg_even_59 : dec m_Alg_even 59 = .ok (.iload_n 2, 1) := by decide +kernel
theorem d_Alg_even_60 : dec m_Alg_even 60 = .ok (.invokevirtual 184, 3) := by decide +kernel
theorem d_Alg_even_63 : dec m_Alg_even 63 = .ok (.aload_n 0, 1) := by decide +kernel
theorem d_Alg_even_64 : dec m_Alg_even 64 = .ok (.getfield 65, 3) := by decide +kernel
theorem d_Alg_even_67 : dec m_Alg_even 67 = .ok (.aload_n 0, 1) := by decide +kernel
theorem d_Alg_even_68 : dec m_Alg_even 68 = .ok (.getfield 69, 3) := by decide +kernel
theorem d_Alg_even_71 : dec m_Alg_even 71 = .ok (.lconst 1, 1) := by decide +kernel
theorem d_Alg_even_72 : dec m_Alg_even 72 = .ok (.invokevirtual 166, 3) := by decide +kernel
theorem d_Alg_even_75 : dec m_Alg_even 75 = .ok (.iinc 2 1, 3) := by decide +kernel
theorem d_Alg_even_78 : dec m_Alg_even 78 = .ok (.goto (-35), 3) := by decide +kernel
theorem d_Alg_even_81 : dec m_Alg_even 81 = .ok (.aload_n 0, 1) := by decide +kernel
theorem d_Alg_even_82 : dec m_Alg_even 82 = .ok (.iload_n 1, 1) := by decide +kernel
theorem d_Alg_even_83 : dec m_Alg_even 83 = .ok (.invokevirtual 178, 3) := by decide +kernel
theorem d_Alg_even_86 : dec m_Alg_even 86 = .ok (.ireturn, 1) := by decide +kernel
theorem d_Alg_orbit_0 : dec m_Alg_orbit 0 = .ok (.iload_n 1, 1) := by decide +kernel
theorem d_Alg_orbit_1 : dec m_Alg_orbit 1 = .ok (.invokestatic 119, 3) := by decide +kernel
theorem d_Alg_orbit_4 : dec m_Alg_orbit 4 = .ok (.ifCond .ne 5, 3) := by decide +kernel
theorem d_Alg_orbit_7 : dec m_Alg_orbit 7 = .ok (.iconst (-1), 1) := by decide +kernel
theorem d_Alg_orbit_8 : dec m_Alg_orbit 8 = .ok (.ireturn, 1) := by decide +kernel
theorem d_Alg_orbit_9 : dec m_Alg_orbit 9 = .ok (.iconst 0, 1) := by decide +kernel
theorem d_Alg_orbit_10 : dec m_Alg_orbit 10 = .ok (.istore_n 2, 1) := by decide +kernel
theorem d_Alg_orbit_11 : dec m_Alg_orbit 11 = .ok (.iconst 0, 1) := by decide +kernel
theorem d_Alg_orbit_12 : dec m_Alg_orbit 12 = .ok (.istore_n 3, 1) := by decide +kernel
theorem d_Alg_orbit_13 : dec m_Alg_orbit 13 = .ok (.iload_n 3, 1) := by decide +kernel
theorem d_Alg_orbit_14 : dec m_Alg_orbit 14 = .ok (.bipush 6, 2) := by decide +kernel
theorem d_Alg_orbit_16 : dec m_Alg_orbit 16 = .ok (.if_icmp .ge 82, 3) := by decide +kernel
theorem d_Alg_orbit_19 : dec m_Alg_orbit 19 = .ok (.aload_n 0, 1) := by decide +kernel
theorem d_Alg_orbit_20 : dec m_Alg_orbit 20 = .ok (.getfield 65, 3) := by decide +kernel
theorem d_Alg_orbit_23 : dec m_Alg_orbit 23 = .ok (.aload_n 0, 1) := by decide +kernel
theorem d_Alg_orbit_24 : dec m_Alg_orbit 24 = .ok (.getfield 13, 3) := by decide +kernel
theorem d_Alg_orbit_27 : dec m_Alg_orbit 27 = .ok (.iload_n 1, 1) := by decide +kernel
theorem d_Alg_orbit_28 : dec m_Alg_orbit 28 = .ok (.aaload, 1) := by decide +kernel
theorem d_Alg_orbit_29 : dec m_Alg_orbit 29 = .ok (.iload_n 3, 1) := by decide +kernel
theorem d_Alg_orbit_30 : dec m_Alg_orbit 30 = .ok (.invokevirtual 184, 3) := by decide +kernel
theorem d_Alg_orbit_33 : dec m_Alg_orbit 33 = .ok (.iconst 0, 1) := by decide +kernel
theorem d_Alg_orbit_34 : dec m_Alg_orbit 34 = .ok (.istore 4, 2) := by decide +kernel
theorem d_Alg_orbit_36 : dec m_Alg_orbit 36 = .ok (.iconst 0, 1) := by decide +kernel
theorem d_Alg_orbit_37 : dec m_Alg_orbit 37 = .ok (.istore 5, 2) := by decide +kernel
theorem d_Alg_orbit_39 : dec m_Alg_orbit 39 = .ok (.iload 5, 2) := by decide +kernel
theorem d_Alg_orbit_41 : dec m_Alg_orbit 41 = .ok (.iload_n 3, 1) := by decide +kernel
theorem d_Alg_orbit_42 : dec m_Alg_orbit 42 = .ok (.if_icmp .ge 42, 3) := by decide +kernel
theorem d_Alg_orbit_45 : dec m_Alg_orbit 45 = .ok (.iload 4, 2) := by decide +kernel
theorem d_Alg_orbit_47 : dec m_Alg_orbit 47 = .ok (.ifCond .ne 37, 3) := by decide +kernel
theorem d_Alg_orbit_50 : dec m_Alg_orbit 50 = .ok (.aload_n 0, 1) := by decide +kernel
theorem d_Alg_orbit_51 : dec m_Alg_orbit 51 = .ok (.getfield 69, 3) := by decide +kernel
theorem d_Alg_orbit_54 : dec m_Alg_orbit 54 = .ok (.aload_n 0, 1) := by decide +kernel
theorem d_Alg_orbit_55 : dec m_Alg_orbit 55 = .ok (.getfield 13, 3) := by decide +kernel
theorem d_Alg_orbit_58 : dec m_Alg_orbit 58 = .ok (.iload_n 1, 1) := by decide +kernel
theorem d_Alg_orbit_59 : dec m_Alg_orbit 59 = .ok (.aaload, 1) := by decide +kernel
theorem d_Alg_orbit_60 : dec m_Alg_orbit 60 = .ok (.iload 5, 2) := by decide +kernel
theorem d_Alg_orbit_62 : dec m_Alg_orbit 62 = .ok (.invokevirtual 184, 3) := by decide +kernel
theorem d_Alg_orbit_65 : dec m_Alg_orbit 65 = .ok (.aload_n 0, 1) := by decide +kernel
theorem d_Alg_orbit_66 : dec m_Alg_orbit 66 = .ok (.getfield 65, 3) := by decide +kernel
theorem d_Alg_orbit_69 : dec m_Alg_orbit 69 = .ok (.aload_n 0, 1) := by decide +kernel
theorem d_Alg_orbit_70 : dec m_Alg_orbit 70 = .ok (.getfield 69, 3) := by decide +kernel
theorem d_Alg_orbit_73 : dec m_Alg_orbit 73 = .ok (.invokevirtual 190, 3) := by decide +kernel
theorem d_Alg_orbit_76 : dec m_Alg_orbit 76 = .ok (.istore 4, 2) := by decide +kernel
theorem d_Alg_orbit_78 : dec m_Alg_orbit 78 = .ok (.iinc 5 1, 3) := by decide +kernel
theorem d_Alg_orbit_81 : dec m_Alg_orbit 81 = .ok (.goto (-42), 3) := by decide +kernel
theorem d_Alg_orbit_84 : dec m_Alg_orbit 84 = .ok (.iload 4, 2) := by decide +kernel
theorem d_Alg_orbit_86 : dec m_Alg_orbit 86 = .ok (.ifCond .ne 6, 3) := by decide +kernel
theorem d_Alg_orbit_89 : dec m_Alg_orbit 89 = .ok (.iinc 2 1, 3) := by decide +kernel
theorem d_Alg_orbit_92 : dec m_Alg_orbit 92 = .ok (.iinc 3 1, 3) := by decide +kernel
theorem d_Alg_orbit_95 : dec m_Alg_orbit 95 = .ok (.goto (-82), 3) := by decide +kernel
theorem d_Alg_orbit_98 : dec m_Alg_orbit 98 = .ok (.iload_n 2, 1) := by decide +kernel
theorem d_Alg_orbit_99 : dec m_Alg_orbit 99 = .ok (.ireturn, 1) := by decide +kernel
theorem d_Alg_like_0 : dec m_Alg_like 0 = .ok (.iload_n 1, 1) := by decide +kernel
theorem d_Alg_like_1 : dec m_Alg_like 1 = .ok (.invokestatic 119, 3) := by decide +kernel
theorem d_Alg_like_4 : dec m_Alg_like 4 = .ok (.ifCond .ne 5, 3) := by decide +kernel
theorem d_Alg_like_7 : dec m_Alg_like 7 = .ok (.iconst (-1), 1) := by decide +kernel
theorem d_Alg_like_8 : dec m_Alg_like 8 = .ok (.ireturn, 1) := by decide +kernel
theorem d_Alg_like_9 : dec m_Alg_like 9 = .ok (.iconst 0, 1) := by decide +kernel
theorem d_Alg_like_10 : dec m_Alg_like 10 = .ok (.istore_n 2, 1) := by decide +kernel
theorem d_Alg_like_11 : dec m_Alg_like 11 = .ok (.iload_n 2, 1) := by decide +kernel
theorem d_Alg_like_12 : dec m_Alg_like 12 = .ok (.iload_n 1, 1) := by decide +kernel
theorem d_Alg_like_13 : dec m_Alg_like 13 = .ok (.if_icmp .ge 29, 3) := by decide +kernel
theorem d_Alg_like_16 : dec m_Alg_like 16 = .ok (.aload_n 0, 1) := by decide +kernel
theorem d_Alg_like_17 : dec m_Alg_like 17 = .ok (.getfield 13, 3) := by decide +kernel
theorem d_Alg_like_20 : dec m_Alg_like 20 = .ok (.iload_n 2, 1) := by decide +kernel
theorem d_Alg_like_21 : dec m_Alg_like 21 = .ok (.aaload, 1) := by decide +kernel
theorem d_Alg_like_22 : dec m_Alg_like 22 = .ok (.aload_n 0, 1) := by decide +kernel
theorem d_Alg_like_23 : dec m_Alg_like 23 = .ok (.getfield 13, 3) := by decide +kernel
theorem d_Alg_like_26 : dec m_Alg_like 26 = .ok (.iload_n 1, 1) := by decide +kernel
theorem d_Alg_like_27 : dec m_Alg_like 27 = .ok (.aaload, 1) := by decide +kernel
theorem d_Alg_like_28 : dec m_Alg_like 28 = .ok (.invokevirtual 190, 3) := by decide +kernel
theorem d_Alg_like_31 : dec m_Alg_like 31 = .ok (.ifCond .eq 5, 3) := by decide +kernel
theorem d_Alg_like_34 : dec m_Alg_like 34 = .ok (.iload_n 2, 1) := by decide +kernel
theorem d_Alg_like_35 : dec m_Alg_like 35 = .ok (.ireturn, 1) := by decide +kernel
theorem d_Alg_like_36 : dec m_Alg_like 36 = .ok (.iinc 2 1, 3) := by decide +kernel
theorem d_Alg_like_39 : dec m_Alg_like 39 = .ok (.goto (-28), 3) := by decide +kernel
theorem d_Alg_like_42 : dec m_Alg_like 42 = .ok (.iload_n 1, 1) := by decide +kernel
theorem d_Alg_like_43 : dec m_Alg_like 43 = .ok (.ireturn, 1) := by decide +kernel
theorem d_Alg_coefficient_0 : dec m_Alg_coefficient 0 = .ok (.iload_n 1, 1) := by decide +kernel
theorem d_Alg_coefficient_1 : dec m_Alg_coefficient 1 = .ok (.invokestatic 119, 3) := by decide +kernel
theorem d_Alg_coefficient_4 : dec m_Alg_coefficient 4 = .ok (.ifCond .eq 13, 3) := by decide +kernel
theorem d_Alg_coefficient_7 : dec m_Alg_coefficient 7 = .ok (.iload_n 2, 1) := by decide +kernel
theorem d_Alg_coefficient_8 : dec m_Alg_coefficient 8 = .ok (.iload_n 3, 1) := by decide +kernel
theorem d_Alg_coefficient_9 : dec m_Alg_coefficient 9 = .ok (.iload 4, 2) := by decide +kernel
theorem d_Alg_coefficient_11 : dec m_Alg_coefficient 11 = .ok (.invokestatic 126, 3) := by decide +kernel
theorem d_Alg_coefficient_14 : dec m_Alg_coefficient 14 = .ok (.ifCond .ne 7, 3) := by decide +kernel
theorem d_Alg_coefficient_17 : dec m_Alg_coefficient 17 = .ok (.ldc2_w 194, 3) := by decide +kernel
theorem d_Alg_coefficient_20 : dec m_Alg_coefficient 20 = .ok (.lreturn, 1) := by decide +kernel
theorem d_Alg_coefficient_21 : dec m_Alg_coefficient 21 = .ok (.aload_n 0, 1) := by decide +kernel
theorem d_Alg_coefficient_22 : dec m_Alg_coefficient 22 = .ok (.getfield 13, 3) := by decide +kernel
theorem d_Alg_coefficient_25 : dec m_Alg_coefficient 25 = .ok (.iload_n 1, 1) := by decide +kernel
theorem d_Alg_coefficient_26 : dec m_Alg_coefficient 26 = .ok (.aaload, 1) := by decide +kernel
theorem d_Alg_coefficient_27 : dec m_Alg_coefficient 27 = .ok (.getfield 148, 3) := by decide +kernel
theorem d_Alg_coefficient_30 : dec m_Alg_coefficient 30 = .ok (.iload_n 2, 1) := by decide +kernel
theorem d_Alg_coefficient_31 : dec m_Alg_coefficient 31 = .ok (.iload_n 3, 1) := by decide +kernel
theorem d_Alg_coefficient_32 : dec m_Alg_coefficient 32 = .ok (.iload 4, 2) := by decide +kernel
theorem d_Alg_coefficient_34 : dec m_Alg_coefficient 34 = .ok (.invokestatic 152, 3) := by decide +kernel
theorem d_Alg_coefficient_37 : dec m_Alg_coefficient 37 = .ok (.laload, 1) := by decide +kernel
theorem d_Alg_coefficient_38 : dec m_Alg_coefficient 38 = .ok (.lreturn, 1) := by decide +kernel
theorem d_Alg_lead_0 : dec m_Alg_lead 0 = .ok (.iload_n 1, 1) := by decide +kernel
theorem d_Alg_lead_1 : dec m_Alg_lead 1 = .ok (.invokestatic 119, 3) := by decide +kernel
theorem d_Alg_lead_4 : dec m_Alg_lead 4 = .ok (.ifCond .eq 12, 3) := by decide +kernel
theorem d_Alg_lead_7 : dec m_Alg_lead 7 = .ok (.iload_n 2, 1) := by decide +kernel
theorem d_Alg_lead_8 : dec m_Alg_lead 8 = .ok (.ifCond .lt 8, 3) := by decide +kernel
theorem d_Alg_lead_11 : dec m_Alg_lead 11 = .ok (.iload_n 2, 1) := by decide +kernel
theorem d_Alg_lead_12 : dec m_Alg_lead 12 = .ok (.iconst 4, 1) := by decide +kernel
theorem d_Alg_lead_13 : dec m_Alg_lead 13 = .ok (.if_icmp .le 5, 3) := by decide +kernel
theorem d_Alg_lead_16 : dec m_Alg_lead 16 = .ok (.iconst (-1), 1) := by decide +kernel
theorem d_Alg_lead_17 : dec m_Alg_lead 17 = .ok (.ireturn, 1) := by decide +kernel
theorem d_Alg_lead_18 : dec m_Alg_lead 18 = .ok (.iload_n 2, 1) := by decide +kernel
theorem d_Alg_lead_19 : dec m_Alg_lead 19 = .ok (.iconst 4, 1) := by decide +kernel
theorem d_Alg_lead_20 : dec m_Alg_lead 20 = .ok (.if_icmp .ne 13, 3) := by decide +kernel
theorem d_Alg_lead_23 : dec m_Alg_lead 23 = .ok (.aload_n 0, 1) := by decide +kernel
theorem d_Alg_lead_24 : dec m_Alg_lead 24 = .ok (.getfield 13, 3) := by decide +kernel
theorem d_Alg_lead_27 : dec m_Alg_lead 27 = .ok (.iload_n 1, 1) := by decide +kernel
theorem d_Alg_lead_28 : dec m_Alg_lead 28 = .ok (.aaload, 1) := by decide +kernel
theorem d_Alg_lead_29 : dec m_Alg_lead 29 = .ok (.invokevirtual 156, 3) := by decide +kernel
theorem d_Alg_lead_32 : dec m_Alg_lead 32 = .ok (.ireturn, 1) := by decide +kernel
theorem d_Alg_lead_33 : dec m_Alg_lead 33 = .ok (.aload_n 0, 1) := by decide +kernel
theorem d_Alg_lead_34 : dec m_Alg_lead 34 = .ok (.getfield 20, 3) := by decide +kernel
theorem d_Alg_lead_37 : dec m_Alg_lead 37 = .ok (.aload_n 0, 1) := by decide +kernel
theorem d_Alg_lead_38 : dec m_Alg_lead 38 = .ok (.getfield 13, 3) := by decide +kernel
theorem d_Alg_lead_41 : dec m_Alg_lead 41 = .ok (.iload_n 1, 1) := by decide +kernel
theorem d_Alg_lead_42 : dec m_Alg_lead 42 = .ok (.aaload, 1) := by decide +kernel
theorem d_Alg_lead_43 : dec m_Alg_lead 43 = .ok (.invokevirtual 196, 3) := by decide +kernel
theorem d_Alg_lead_46 : dec m_Alg_lead 46 = .ok (.istore_n 3, 1) := by decide +kernel
theorem d_Alg_lead_47 : dec m_Alg_lead 47 = .ok (.iload_n 3, 1) := by decide +kernel
theorem d_Alg_lead_48 : dec m_Alg_lead 48 = .ok (.ifCond .ge 6, 3) := by decide +kernel
theorem d_Alg_lead_51 : dec m_Alg_lead 51 = .ok (.bipush (-2), 2) := by decide +kernel
theorem d_Alg_lead_53 : dec m_Alg_lead 53 = .ok (.ireturn, 1) := by decide +kernel
theorem d_Alg_lead_54 : dec m_Alg_lead 54 = .ok (.iload_n 2, 1) := by decide +kernel
theorem d_Alg_lead_55 : dec m_Alg_lead 55 = .ok (.iconst 3, 1) := by decide +kernel
theorem d_Alg_lead_56 : dec m_Alg_lead 56 = .ok (.if_icmp .ne 11, 3) := by decide +kernel
theorem d_Alg_lead_59 : dec m_Alg_lead 59 = .ok (.getstatic 199, 3) := by decide +kernel
theorem d_Alg_lead_62 : dec m_Alg_lead 62 = .ok (.iload_n 3, 1) := by decide +kernel
theorem d_Alg_lead_63 : dec m_Alg_lead 63 = .ok (.iaload, 1) := by decide +kernel
theorem d_Alg_lead_64 : dec m_Alg_lead 64 = .ok (.goto 8, 3) := by decide +kernel
theorem d_Alg_lead_67 : dec m_Alg_lead 67 = .ok (.iload_n 3, 1) := by decide +kernel
theorem d_Alg_lead_68 : dec m_Alg_lead 68 = .ok (.iload_n 2, 1) := by decide +kernel
theorem d_Alg_lead_69 : dec m_Alg_lead 69 = .ok (.invokestatic 203, 3) := by decide +kernel
theorem d_Alg_lead_72 : dec m_Alg_lead 72 = .ok (.ireturn, 1) := by decide +kernel
theorem d_Alg_norm_0 : dec m_Alg_norm 0 = .ok (.iload_n 1, 1) := by decide +kernel
theorem d_Alg_norm_1 : dec m_Alg_norm 1 = .ok (.invokestatic 119, 3) := by decide +kernel
theorem d_Alg_norm_4 : dec m_Alg_norm 4 = .ok (.ifCond .eq 15, 3) := by decide +kernel
theorem d_Alg_norm_7 : dec m_Alg_norm 7 = .ok (.aload_n 0, 1) := by decide +kernel
theorem d_Alg_norm_8 : dec m_Alg_norm 8 = .ok (.getfield 13, 3) := by decide +kernel
theorem d_Alg_norm_11 : dec m_Alg_norm 11 = .ok (.iload_n 1, 1) := by decide +kernel
theorem d_Alg_norm_12 : dec m_Alg_norm 12 = .ok (.aaload, 1) := by decide +kernel
theorem d_Alg_norm_13 : dec m_Alg_norm 13 = .ok (.invokevirtual 132, 3) := by decide +kernel
theorem d_Alg_norm_16 : dec m_Alg_norm 16 = .ok (.goto 6, 3) := by decide +kernel
theorem d_Alg_norm_19 : dec m_Alg_norm 19 = .ok (.ldc2_w 194, 3) := by decide +kernel
theorem d_Alg_norm_22 : dec m_Alg_norm 22 = .ok (.lreturn, 1) := by decide +kernel
theorem d_Alg_at_0 : dec m_Alg_at 0 = .ok (.iload_n 1, 1) := by decide +kernel
theorem d_Alg_at_1 : dec m_Alg_at 1 = .ok (.invokestatic 119, 3) := by decide +kernel
theorem d_Alg_at_4 : dec m_Alg_at 4 = .ok (.ifCond .eq 11, 3) := by decide +kernel
theorem d_Alg_at_7 : dec m_Alg_at 7 = .ok (.iload 5, 2) := by decide +kernel
theorem d_Alg_at_9 : dec m_Alg_at 9 = .ok (.invokestatic 207, 3) := by decide +kernel
theorem d_Alg_at_12 : dec m_Alg_at 12 = .ok (.ifCond .ne 7, 3) := by decide +kernel
theorem d_Alg_at_15 : dec m_Alg_at 15 = .ok (.ldc2_w 194, 3) := by decide +kernel
theorem d_Alg_at_18 : dec m_Alg_at 18 = .ok (.lreturn, 1) := by decide +kernel
theorem d_Alg_at_19 : dec m_Alg_at 19 = .ok (.aload_n 0, 1) := by decide +kernel
theorem d_Alg_at_20 : dec m_Alg_at 20 = .ok (.getfield 13, 3) := by decide +kernel
theorem d_Alg_at_23 : dec m_Alg_at 23 = .ok (.iload_n 1, 1) := by decide +kernel
theorem d_Alg_at_24 : dec m_Alg_at 24 = .ok (.aaload, 1) := by decide +kernel
theorem d_Alg_at_25 : dec m_Alg_at 25 = .ok (.iload_n 2, 1) := by decide +kernel
theorem d_Alg_at_26 : dec m_Alg_at 26 = .ok (.iload_n 3, 1) := by decide +kernel
theorem d_Alg_at_27 : dec m_Alg_at 27 = .ok (.iload 4, 2) := by decide +kernel
theorem d_Alg_at_29 : dec m_Alg_at 29 = .ok (.iload 5, 2) := by decide +kernel
theorem d_Alg_at_31 : dec m_Alg_at 31 = .ok (.invokevirtual 210, 3) := by decide +kernel
theorem d_Alg_at_34 : dec m_Alg_at 34 = .ok (.lreturn, 1) := by decide +kernel
theorem d_Alg_poly_0 : dec m_Alg_poly 0 = .ok (.iload_n 1, 1) := by decide +kernel
theorem d_Alg_poly_1 : dec m_Alg_poly 1 = .ok (.invokestatic 119, 3) := by decide +kernel
theorem d_Alg_poly_4 : dec m_Alg_poly 4 = .ok (.ifCond .eq 22, 3) := by decide +kernel
theorem d_Alg_poly_7 : dec m_Alg_poly 7 = .ok (.iload_n 2, 1) := by decide +kernel
theorem d_Alg_poly_8 : dec m_Alg_poly 8 = .ok (.invokestatic 214, 3) := by decide +kernel
theorem d_Alg_poly_11 : dec m_Alg_poly 11 = .ok (.ifCond .eq 15, 3) := by decide +kernel
theorem d_Alg_poly_14 : dec m_Alg_poly 14 = .ok (.iload 4, 2) := by decide +kernel
theorem d_Alg_poly_16 : dec m_Alg_poly 16 = .ok (.ifCond .lt 10, 3) := by decide +kernel
theorem d_Alg_poly_19 : dec m_Alg_poly 19 = .ok (.iload 4, 2) := by decide +kernel
theorem d_Alg_poly_21 : dec m_Alg_poly 21 = .ok (.bipush 10, 2) := by decide +kernel
theorem d_Alg_poly_23 : dec m_Alg_poly 23 = .ok (.if_icmp .le 5, 3) := by decide +kernel
theorem d_Alg_poly_26 : dec m_Alg_poly 26 = .ok (.iconst (-1), 1) := by decide +kernel
theorem d_Alg_poly_27 : dec m_Alg_poly 27 = .ok (.ireturn, 1) := by decide +kernel
theorem d_Alg_poly_28 : dec m_Alg_poly 28 = .ok (.aload_n 0, 1) := by decide +kernel
theorem d_Alg_poly_29 : dec m_Alg_poly 29 = .ok (.getfield 54, 3) := by decide +kernel
theorem d_Alg_poly_32 : dec m_Alg_poly 32 = .ok (.iload_n 2, 1) := by decide +kernel
theorem d_Alg_poly_33 : dec m_Alg_poly 33 = .ok (.aaload, 1) := by decide +kernel
theorem d_Alg_poly_34 : dec m_Alg_poly 34 = .ok (.astore 5, 2) := by decide +kernel
theorem d_Alg_poly_36 : dec m_Alg_poly 36 = .ok (.aload 5, 2) := by decide +kernel
theorem d_Alg_poly_38 : dec m_Alg_poly 38 = .ok (.invokevirtual 217, 3) := by decide +kernel
theorem d_Alg_poly_41 : dec m_Alg_poly 41 = .ok (.ifCond .eq 6, 3) := by decide +kernel
theorem d_Alg_poly_44 : dec m_Alg_poly 44 = .ok (.bipush (-11), 2) := by decide +kernel
theorem d_Alg_poly_46 : dec m_Alg_poly 46 = .ok (.ireturn, 1) := by decide +kernel
theorem d_Alg_poly_47 : dec m_Alg_poly 47 = .ok (.aload_n 0, 1) := by decide +kernel
theorem d_Alg_poly_48 : dec m_Alg_poly 48 = .ok (.getfield 65, 3) := by decide +kernel
theorem d_Alg_poly_51 : dec m_Alg_poly 51 = .ok (.invokevirtual 160, 3) := by decide +kernel
theorem d_Alg_poly_54 : dec m_Alg_poly 54 = .ok (.aload_n 0, 1) := by decide +kernel
theorem d_Alg_poly_55 : dec m_Alg_poly 55 = .ok (.getfield 69, 3) := by decide +kernel
theorem d_Alg_poly_58 : dec m_Alg_poly 58 = .ok (.invokevirtual 160, 3) := by decide +kernel
theorem d_Alg_poly_61 : dec m_Alg_poly 61 = .ok (.iconst 0, 1) := by decide +kernel
theorem d_Alg_poly_62 : dec m_Alg_poly 62 = .ok (.istore 6, 2) := by decide +kernel
theorem d_Alg_poly_64 : dec m_Alg_poly 64 = .ok (.iload 6, 2) := by decide +kernel
theorem d_Alg_poly_66 : dec m_Alg_poly 66 = .ok (.iload 4, 2) := by decide +kernel
theorem d_Alg_poly_68 : dec m_Alg_poly 68 = .ok (.if_icmp .ge 28, 3) := by decide +kernel
theorem d_Alg_poly_71 : dec m_Alg_poly 71 = .ok (.aload_n 0, 1) := by decide +kernel
theorem d_Alg_poly_72 : dec m_Alg_poly 72 = .ok (.aload 5, 2) := by decide +kernel
theorem d_Alg_poly_74 : dec m_Alg_poly 74 = .ok (.iload_n 3, 1) := by decide +kernel
theorem d_Alg_poly_75 : dec m_Alg_poly 75 = .ok (.iload 6, 2) := by decide +kernel
theorem d_Alg_poly_77 : dec m_Alg_poly 77 = .ok (.invokevirtual 221, 3) := by decide +kernel
theorem d_Alg_poly_80 : dec m_Alg_poly 80 = .ok (.istore 7, 2) := by decide +kernel
theorem d_Alg_poly_82 : dec m_Alg_poly 82 = .ok (.iload 7, 2) := by decide +kernel
theorem d_Alg_poly_84 : dec m_Alg_poly 84 = .ok (.ifCond .eq 6, 3) := by decide +kernel
theorem d_Alg_poly_87 : dec m_Alg_poly 87 = .ok (.iload 7, 2) := by decide +kernel
theorem d_Alg_poly_89 : dec m_Alg_poly 89 = .ok (.ireturn, 1) := by decide +kernel
theorem d_Alg_poly_90 : dec m_Alg_poly 90 = .ok (.iinc 6 1, 3) := by decide +kernel
theorem d_Alg_poly_93 : dec m_Alg_poly 93 = .ok (.goto (-29), 3) := by decide +kernel
theorem d_Alg_poly_96 : dec m_Alg_poly 96 = .ok (.aload_n 0, 1) := by decide +kernel
theorem d_Alg_poly_97 : dec m_Alg_poly 97 = .ok (.getfield 13, 3) := by decide +kernel
theorem d_Alg_poly_100 : dec m_Alg_poly 100 = .ok (.iload_n 1, 1) := by decide +kernel
theorem d_Alg_poly_101 : dec m_Alg_poly 101 = .ok (.aaload, 1) := by decide +kernel
theorem d_Alg_poly_102 : dec m_Alg_poly 102 = .ok (.aload_n 0, 1) := by decide +kernel
theorem d_Alg_poly_103 : dec m_Alg_poly 103 = .ok (.getfield 65, 3) := by decide +kernel
theorem d_Alg_poly_106 : dec m_Alg_poly 106 = .ok (.invokevirtual 170, 3) := by decide +kernel
theorem d_Alg_poly_109 : dec m_Alg_poly 109 = .ok (.aload_n 0, 1) := by decide +kernel
theorem d_Alg_poly_110 : dec m_Alg_poly 110 = .ok (.getfield 69, 3) := by decide +kernel
theorem d_Alg_poly_113 : dec m_Alg_poly 113 = .ok (.invokevirtual 156, 3) := by decide +kernel
theorem d_Alg_poly_116 : dec m_Alg_poly 116 = .ok (.ireturn, 1) := by decide +kernel
theorem d_Alg_spread_0 : dec m_Alg_spread 0 = .ok (.iload_n 1, 1) := by decide +kernel
theorem d_Alg_spread_1 : dec m_Alg_spread 1 = .ok (.invokestatic 119, 3) := by decide +kernel
theorem d_Alg_spread_4 : dec m_Alg_spread 4 = .ok (.ifCond .eq 10, 3) := by decide +kernel
theorem d_Alg_spread_7 : dec m_Alg_spread 7 = .ok (.iload_n 2, 1) := by decide +kernel
theorem d_Alg_spread_8 : dec m_Alg_spread 8 = .ok (.invokestatic 214, 3) := by decide +kernel
theorem d_Alg_spread_11 : dec m_Alg_spread 11 = .ok (.ifCond .ne 5, 3) := by decide +kernel
theorem d_Alg_spread_14 : dec m_Alg_spread 14 = .ok (.iconst (-1), 1) := by decide +kernel
theorem d_Alg_spread_15 : dec m_Alg_spread 15 = .ok (.ireturn, 1) := by decide +kernel
theorem d_Alg_spread_16 : dec m_Alg_spread 16 = .ok (.aload_n 0, 1) := by decide +kernel
theorem d_Alg_spread_17 : dec m_Alg_spread 17 = .ok (.getfield 54, 3) := by decide +kernel
theorem d_Alg_spread_20 : dec m_Alg_spread 20 = .ok (.iload_n 2, 1) := by decide +kernel
theorem d_Alg_spread_21 : dec m_Alg_spread 21 = .ok (.aaload, 1) := by decide +kernel
theorem d_Alg_spread_22 : dec m_Alg_spread 22 = .ok (.astore 4, 2) := by decide +kernel
theorem d_Alg_spread_24 : dec m_Alg_spread 24 = .ok (.aload 4, 2) := by decide +kernel
theorem d_Alg_spread_26 : dec m_Alg_spread 26 = .ok (.invokevirtual 217, 3) := by decide +kernel
theorem d_Alg_spread_29 : dec m_Alg_spread 29 = .ok (.ifCond .eq 6, 3) := by decide +kernel
theorem d_Alg_spread_32 : dec m_Alg_spread 32 = .ok (.bipush (-11), 2) := by decide +kernel
theorem d_Alg_spread_34 : dec m_Alg_spread 34 = .ok (.ireturn, 1) := by decide +kernel
theorem d_Alg_spread_35 : dec m_Alg_spread 35 = .ok (.iload_n 3, 1) := by decide +kernel
theorem d_Alg_spread_36 : dec m_Alg_spread 36 = .ok (.ifCond .lt 12, 3) := by decide +kernel
theorem d_Alg_spread_39 : dec m_Alg_spread 39 = .ok (.iload_n 3, 1) := by decide +kernel
theorem d_Alg_spread_40 : dec m_Alg_spread 40 = .ok (.aload 4, 2) := by decide +kernel
theorem d_Alg_spread_42 : dec m_Alg_spread 42 = .ok (.getfield 225, 3) := by decide +kernel
theorem d_Alg_spread_45 : dec m_Alg_spread 45 = .ok (.if_icmp .le 6, 3) := by decide +kernel
theorem d_Alg_spread_48 : dec m_Alg_spread 48 = .ok (.bipush (-12), 2) := by decide +kernel
theorem d_Alg_spread_50 : dec m_Alg_spread 50 = .ok (.ireturn, 1) := by decide +kernel
theorem d_Alg_spread_51 : dec m_Alg_spread 51 = .ok (.iconst 0, 1) := by decide +kernel
theorem d_Alg_spread_52 : dec m_Alg_spread 52 = .ok (.istore 5, 2) := by decide +kernel
theorem d_Alg_spread_54 : dec m_Alg_spread 54 = .ok (.iload_n 3, 1) := by decide +kernel
theorem d_Alg_spread_55 : dec m_Alg_spread 55 = .ok (.istore 6, 2) := by decide +kernel
theorem d_Alg_spread_57 : dec m_Alg_spread 57 = .ok (.bipush 83, 2) := by decide +kernel
theorem d_Alg_spread_59 : dec m_Alg_spread 59 = .ok (.istore 7, 2) := by decide +kernel
theorem d_Alg_spread_61 : dec m_Alg_spread 61 = .ok (.iload 7, 2) := by decide +kernel
theorem d_Alg_spread_63 : dec m_Alg_spread 63 = .ok (.ifCond .lt 123, 3) := by decide +kernel
theorem d_Alg_spread_66 : dec m_Alg_spread 66 = .ok (.iload 6, 2) := by decide +kernel
theorem d_Alg_spread_68 : dec m_Alg_spread 68 = .ok (.iconst 4, 1) := by decide +kernel
theorem d_Alg_spread_69 : dec m_Alg_spread 69 = .ok (.iadd, 1) := by decide +kernel
theorem d_Alg_spread_70 : dec m_Alg_spread 70 = .ok (.aload 4, 2) := by decide +kernel
theorem d_Alg_spread_72 : dec m_Alg_spread 72 = .ok (.getfield 225, 3) := by decide +kernel
theorem d_Alg_spread_75 : dec m_Alg_spread 75 = .ok (.if_icmp .gt 111, 3) := by decide +kernel
theorem d_Alg_spread_78 : dec m_Alg_spread 78 = .ok (.aload_n 0, 1) := by decide +kernel
theorem d_Alg_spread_79 : dec m_Alg_spread 79 = .ok (.getfield 20, 3) := by decide +kernel
theorem d_Alg_spread_82 : dec m_Alg_spread 82 = .ok (.getfield 226, 3) := by decide +kernel
theorem d_Alg_spread_85 : dec m_Alg_spread 85 = .ok (.iload 7, 2) := by decide +kernel
theorem d_Alg_spread_87 : dec m_Alg_spread 87 = .ok (.iaload, 1) := by decide +kernel
theorem d_Alg_spread_88 : dec m_Alg_spread 88 = .ok (.istore 8, 2) := by decide +kernel
theorem d_Alg_spread_90 : dec m_Alg_spread 90 = .ok (.aload_n 0, 1) := by decide +kernel
theorem d_Alg_spread_91 : dec m_Alg_spread 91 = .ok (.getfield 13, 3) := by decide +kernel
theorem d_Alg_spread_94 : dec m_Alg_spread 94 = .ok (.iload_n 1, 1) := by decide +kernel
theorem d_Alg_spread_95 : dec m_Alg_spread 95 = .ok (.aaload, 1) := by decide +kernel
theorem d_Alg_spread_96 : dec m_Alg_spread 96 = .ok (.getfield 148, 3) := by decide +kernel
theorem d_Alg_spread_99 : dec m_Alg_spread 99 = .ok (.iload 8, 2) := by decide +kernel
theorem d_Alg_spread_101 : dec m_Alg_spread 101 = .ok (.laload, 1) := by decide +kernel
theorem d_Alg_spread_102 : dec m_Alg_spread 102 = .ok (.lconst 0, 1) := by decide +kernel
theorem d_Alg_spread_103 : dec m_Alg_spread 103 = .ok (.lcmp, 1) := by decide +kernel
theorem d_Alg_spread_104 : dec m_Alg_spread 104 = .ok (.ifCond .eq 76, 3) := by decide +kernel
theorem d_Alg_spread_107 : dec m_Alg_spread 107 = .ok (.aload 4, 2) := by decide +kernel
theorem d_Alg_spread_109 : dec m_Alg_spread 109 = .ok (.iload 6, 2) := by decide +kernel
theorem d_Alg_spread_111 : dec m_Alg_spread 111 = .ok (.aload_n 0, 1) := by decide +kernel
theorem d_Alg_spread_112 : dec m_Alg_spread 112 = .ok (.getfield 13, 3) := by decide +kernel
theorem d_Alg_spread_115 : dec m_Alg_spread 115 = .ok (.iload_n 1, 1) := by decide +kernel
theorem d_Alg_spread_116 : dec m_Alg_spread 116 = .ok (.aaload, 1) := by decide +kernel
theorem d_Alg_spread_117 : dec m_Alg_spread 117 = .ok (.getfield 148, 3) := by decide +kernel
theorem d_Alg_spread_120 : dec m_Alg_spread 120 = .ok (.iload 8, 2) := by decide +kernel
theorem d_Alg_spread_122 : dec m_Alg_spread 122 = .ok (.laload, 1) := by decide +kernel
theorem d_Alg_spread_123 : dec m_Alg_spread 123 = .ok (.invokevirtual 229, 3) := by decide +kernel
theorem d_Alg_spread_126 : dec m_Alg_spread 126 = .ok (.aload 4, 2) := by decide +kernel
theorem d_Alg_spread_128 : dec m_Alg_spread 128 = .ok (.iload 6, 2) := by decide +kernel
theorem d_Alg_spread_130 : dec m_Alg_spread 130 = .ok (.iconst 1, 1) := by decide +kernel
theorem d_Alg_spread_131 : dec m_Alg_spread 131 = .ok (.iadd, 1) := by decide +kernel
theorem d_Alg_spread_132 : dec m_Alg_spread 132 = .ok (.iload 8, 2) := by decide +kernel
theorem d_Alg_spread_134 : dec m_Alg_spread 134 = .ok (.iconst 0, 1) := by decide +kernel
theorem d_Alg_spread_135 : dec m_Alg_spread 135 = .ok (.invokestatic 203, 3) := by decide +kernel
theorem d_Alg_spread_138 : dec m_Alg_spread 138 = .ok (.i2l, 1) := by decide +kernel
theorem d_Alg_spread_139 : dec m_Alg_spread 139 = .ok (.invokevirtual 229, 3) := by decide +kernel
theorem d_Alg_spread_142 : dec m_Alg_spread 142 = .ok (.aload 4, 2) := by decide +kernel
theorem d_Alg_spread_144 : dec m_Alg_spread 144 = .ok (.iload 6, 2) := by decide +kernel
theorem d_Alg_spread_146 : dec m_Alg_spread 146 = .ok (.iconst 2, 1) := by decide +kernel
theorem d_Alg_spread_147 : dec m_Alg_spread 147 = .ok (.iadd, 1) := by decide +kernel
theorem d_Alg_spread_148 : dec m_Alg_spread 148 = .ok (.iload 8, 2) := by decide +kernel
theorem d_Alg_spread_150 : dec m_Alg_spread 150 = .ok (.iconst 1, 1) := by decide +kernel
theorem d_Alg_spread_151 : dec m_Alg_spread 151 = .ok (.invokestatic 203, 3) := by decide +kernel
theorem d_Alg_spread_154 : dec m_Alg_spread 154 = .ok (.i2l, 1) := by decide +kernel
theorem d_Alg_spread_155 : dec m_Alg_spread 155 = .ok (.invokevirtual 229, 3) := by decide +kernel
theorem d_Alg_spread_158 : dec m_Alg_spread 158 = .ok (.aload 4, 2) := by decide +kernel
theorem d_Alg_spread_160 : dec m_Alg_spread 160 = .ok (.iload 6, 2) := by decide +kernel
theorem d_Alg_spread_162 : dec m_Alg_spread 162 = .ok (.iconst 3, 1) := by decide +kernel
theorem d_Alg_spread_163 : dec m_Alg_spread 163 = .ok (.iadd, 1) := by decide +kernel
theorem d_Alg_spread_164 : dec m_Alg_spread 164 = .ok (.iload 8, 2) := by decide +kernel
theorem d_Alg_spread_166 : dec m_Alg_spread 166 = .ok (.iconst 2, 1) := by decide +kernel
theorem d_Alg_spread_167 : dec m_Alg_spread 167 = .ok (.invokestatic 203, 3) := by decide +kernel
theorem d_Alg_spread_170 : dec m_Alg_spread 170 = .ok (.i2l, 1) := by decide +kernel
theorem d_Alg_spread_171 : dec m_Alg_spread 171 = .ok (.invokevirtual 229, 3) := by decide +kernel
theorem d_Alg_spread_174 : dec m_Alg_spread 174 = .ok (.iinc 6 4, 3) := by decide +kernel
theorem d_Alg_spread_177 : dec m_Alg_spread 177 = .ok (.iinc 5 1, 3) := by decide +kernel
theorem d_Alg_spread_180 : dec m_Alg_spread 180 = .ok (.iinc 7 (-1), 3) := by decide +kernel
theorem d_Alg_spread_183 : dec m_Alg_spread 183 = .ok (.goto (-122), 3) := by decide +kernel
theorem d_Alg_spread_186 : dec m_Alg_spread 186 = .ok (.iload 5, 2) := by decide +kernel
theorem d_Alg_spread_188 : dec m_Alg_spread 188 = .ok (.ireturn, 1) := by decide +kernel
theorem d_Alg_family_0 : dec m_Alg_family 0 = .ok (.iload_n 1, 1) := by decide +kernel
theorem d_Alg_family_1 : dec m_Alg_family 1 = .ok (.ifCond .lt 11, 3) := by decide +kernel
theorem d_Alg_family_4 : dec m_Alg_family 4 = .ok (.iload_n 1, 1) := by decide +kernel
theorem d_Alg_family_5 : dec m_Alg_family 5 = .ok (.getstatic 233, 3) := by decide +kernel
theorem d_Alg_family_8 : dec m_Alg_family 8 = .ok (.arraylength, 1) := by decide +kernel
theorem d_Alg_family_9 : dec m_Alg_family 9 = .ok (.if_icmp .lt 5, 3) := by decide +kernel
theorem d_Alg_family_12 : dec m_Alg_family 12 = .ok (.iconst (-1), 1) := by decide +kernel
theorem d_Alg_family_13 : dec m_Alg_family 13 = .ok (.ireturn, 1) := by decide +kernel
theorem d_Alg_family_14 : dec m_Alg_family 14 = .ok (.getstatic 233, 3) := by decide +kernel
theorem d_Alg_family_17 : dec m_Alg_family 17 = .ok (.iload_n 1, 1) := by decide +kernel
theorem d_Alg_family_18 : dec m_Alg_family 18 = .ok (.iaload, 1) := by decide +kernel
theorem d_Alg_family_19 : dec m_Alg_family 19 = .ok (.istore_n 2, 1) := by decide +kernel
theorem d_Alg_family_20 : dec m_Alg_family 20 = .ok (.iconst 0, 1) := by decide +kernel
theorem d_Alg_family_21 : dec m_Alg_family 21 = .ok (.istore_n 3, 1) := by decide +kernel
theorem d_Alg_family_22 : dec m_Alg_family 22 = .ok (.iload_n 3, 1) := by decide +kernel
theorem d_Alg_family_23 : dec m_Alg_family 23 = .ok (.iload_n 2, 1) := by decide +kernel
theorem d_Alg_family_24 : dec m_Alg_family 24 = .ok (.if_icmp .ge 18, 3) := by decide +kernel
theorem d_Alg_family_27 : dec m_Alg_family 27 = .ok (.aload_n 0, 1) := by decide +kernel
theorem d_Alg_family_28 : dec m_Alg_family 28 = .ok (.getfield 13, 3) := by decide +kernel
theorem d_Alg_family_31 : dec m_Alg_family 31 = .ok (.iload_n 3, 1) := by decide +kernel
theorem d_Alg_family_32 : dec m_Alg_family 32 = .ok (.aaload, 1) := by decide +kernel
theorem d_Alg_family_33 : dec m_Alg_family 33 = .ok (.invokevirtual 160, 3) := by decide +kernel
theorem d_Alg_family_36 : dec m_Alg_family 36 = .ok (.iinc 3 1, 3) := by decide +kernel
theorem d_Alg_family_39 : dec m_Alg_family 39 = .ok (.goto (-17), 3) := by decide +kernel
theorem d_Alg_family_42 : dec m_Alg_family 42 = .ok (.iconst 0, 1) := by decide +kernel
theorem d_Alg_family_43 : dec m_Alg_family 43 = .ok (.istore_n 3, 1) := by decide +kernel
theorem d_Alg_family_44 : dec m_Alg_family 44 = .ok (.iload_n 3, 1) := by decide +kernel
theorem d_Alg_family_45 : dec m_Alg_family 45 = .ok (.iconst 5, 1) := by decide +kernel
theorem d_Alg_family_46 : dec m_Alg_family 46 = .ok (.iadd, 1) := by decide +kernel
theorem d_Alg_family_47 : dec m_Alg_family 47 = .ok (.getstatic 236, 3) := by decide +kernel
theorem d_Alg_family_50 : dec m_Alg_family 50 = .ok (.arraylength, 1) := by decide +kernel
theorem d_Alg_family_51 : dec m_Alg_family 51 = .ok (.if_icmp .ge 73, 3) := by decide +kernel
theorem d_Alg_family_54 : dec m_Alg_family 54 = .ok (.getstatic 236, 3) := by decide +kernel
theorem d_Alg_family_57 : dec m_Alg_family 57 = .ok (.iload_n 3, 1) := by decide +kernel
theorem d_Alg_family_58 : dec m_Alg_family 58 = .ok (.iaload, 1) := by decide +kernel
theorem d_Alg_family_59 : dec m_Alg_family 59 = .ok (.iload_n 1, 1) := by decide +kernel
theorem d_Alg_family_60 : dec m_Alg_family 60 = .ok (.if_icmp .ne 58, 3) := by decide +kernel
theorem d_Alg_family_63 : dec m_Alg_family 63 = .ok (.getstatic 236, 3) := by decide +kernel
theorem d_Alg_family_66 : dec m_Alg_family 66 = .ok (.iload_n 3, 1) := by decide +kernel
theorem d_Alg_family_67 : dec m_Alg_family 67 = .ok (.iconst 3, 1) := by decide +kernel
theorem d_Alg_family_68 : dec m_Alg_family 68 = .ok (.iadd, 1) := by decide +kernel
theorem d_Alg_family_69 : dec m_Alg_family 69 = .ok (.iaload, 1) := by decide +kernel
theorem d_Alg_family_70 : dec m_Alg_family 70 = .ok (.getstatic 236, 3) := by decide +kernel
theorem d_Alg_family_73 : dec m_Alg_family 73 = .ok (.iload_n 3, 1) := by decide +kernel
theorem d_Alg_family_74 : dec m_Alg_family 74 = .ok (.iconst 4, 1) := by decide +kernel
theorem d_Alg_family_75 : dec m_Alg_family 75 = .ok (.iadd, 1) := by decide +kernel
theorem d_Alg_family_76 : dec m_Alg_family 76 = .ok (.iaload, 1) := by decide +kernel
theorem d_Alg_family_77 : dec m_Alg_family 77 = .ok (.getstatic 236, 3) := by decide +kernel
theorem d_Alg_family_80 : dec m_Alg_family 80 = .ok (.iload_n 3, 1) := by decide +kernel
theorem d_Alg_family_81 : dec m_Alg_family 81 = .ok (.iconst 5, 1) := by decide +kernel
theorem d_Alg_family_82 : dec m_Alg_family 82 = .ok (.iadd, 1) := by decide +kernel
theorem d_Alg_family_83 : dec m_Alg_family 83 = .ok (.iaload, 1) := by decide +kernel
theorem d_Alg_family_84 : dec m_Alg_family 84 = .ok (.invokestatic 152, 3) := by decide +kernel
theorem d_Alg_family_87 : dec m_Alg_family 87 = .ok (.istore 4, 2) := by decide +kernel
theorem d_Alg_family_89 : dec m_Alg_family 89 = .ok (.aload_n 0, 1) := by decide +kernel
theorem d_Alg_family_90 : dec m_Alg_family 90 = .ok (.getfield 13, 3) := by decide +kernel
theorem d_Alg_family_93 : dec m_Alg_family 93 = .ok (.getstatic 236, 3) := by decide +kernel
theorem d_Alg_family_96 : dec m_Alg_family 96 = .ok (.iload_n 3, 1) := by decide +kernel
theorem d_Alg_family_97 : dec m_Alg_family 97 = .ok (.iconst 1, 1) := by decide +kernel
theorem d_Alg_family_98 : dec m_Alg_family 98 = .ok (.iadd, 1) := by decide +kernel
theorem d_Alg_family_99 : dec m_Alg_family 99 = .ok (.iaload, 1) := by decide +kernel
theorem d_Alg_family_100 : dec m_Alg_family 100 = .ok (.aaload, 1) := by decide +kernel
theorem d_Alg_family_101 : dec m_Alg_family 101 = .ok (.getfield 148, 3) := by decide +kernel
theorem d_Alg_family_104 : dec m_Alg_family 104 = .ok (.iload 4, 2) := by decide +kernel
theorem d_Alg_family_106 : dec m_Alg_family 106 = .ok (.dup2, 1) := by decide +kernel
theorem d_Alg_family_107 : dec m_Alg_family 107 = .ok (.laload, 1) := by decide +kernel
theorem d_Alg_family_108 : dec m_Alg_family 108 = .ok (.getstatic 236, 3) := by decide +kernel
theorem d_Alg_family_111 : dec m_Alg_family 111 = .ok (.iload_n 3, 1) := by decide +kernel
theorem d_Alg_family_112 : dec m_Alg_family 112 = .ok (.iconst 2, 1) := by decide +kernel
theorem d_Alg_family_113 : dec m_Alg_family 113 = .ok (.iadd, 1) := by decide +kernel
theorem d_Alg_family_114 : dec m_Alg_family 114 = .ok (.iaload, 1) := by decide +kernel
theorem d_Alg_family_115 : dec m_Alg_family 115 = .ok (.i2l, 1) := by decide +kernel
theorem d_Alg_family_116 : dec m_Alg_family 116 = .ok (.ladd, 1) := by decide +kernel
theorem d_Alg_family_117 : dec m_Alg_family 117 = .ok (.lastore, 1) := by decide +kernel
theorem d_Alg_family_118 : dec m_Alg_family 118 = .ok (.iinc 3 6, 3) := by decide +kernel
theorem d_Alg_family_121 : dec m_Alg_family 121 = .ok (.goto (-77), 3) := by decide +kernel
theorem d_Alg_family_124 : dec m_Alg_family 124 = .ok (.iload_n 2, 1) := by decide +kernel
theorem d_Alg_family_125 : dec m_Alg_family 125 = .ok (.ireturn, 1) := by decide +kernel
theorem d_Alg_generator_0 : dec m_Alg_generator 0 = .ok (.iload_n 1, 1) := by decide +kernel
theorem d_Alg_generator_1 : dec m_Alg_generator 1 = .ok (.invokestatic 119, 3) := by decide +kernel
theorem d_Alg_generator_4 : dec m_Alg_generator 4 = .ok (.ifCond .ne 5, 3) := by decide +kernel
theorem d_Alg_generator_7 : dec m_Alg_generator 7 = .ok (.iconst (-1), 1) := by decide +kernel
theorem d_Alg_generator_8 : dec m_Alg_generator 8 = .ok (.ireturn, 1) := by decide +kernel
theorem d_Alg_generator_9 : dec m_Alg_generator 9 = .ok (.aload_n 0, 1) := by decide +kernel
theorem d_Alg_generator_10 : dec m_Alg_generator 10 = .ok (.getfield 20, 3) := by decide +kernel
theorem d_Alg_generator_13 : dec m_Alg_generator 13 = .ok (.aload_n 0, 1) := by decide +kernel
theorem d_Alg_generator_14 : dec m_Alg_generator 14 = .ok (.getfield 13, 3) := by decide +kernel
theorem d_Alg_generator_17 : dec m_Alg_generator 17 = .ok (.iload_n 1, 1) := by decide +kernel
theorem d_Alg_generator_18 : dec m_Alg_generator 18 = .ok (.aaload, 1) := by decide +kernel
theorem d_Alg_generator_19 : dec m_Alg_generator 19 = .ok (.invokevirtual 196, 3) := by decide +kernel
theorem d_Alg_generator_22 : dec m_Alg_generator 22 = .ok (.istore_n 2, 1) := by decide +kernel
theorem d_Alg_generator_23 : dec m_Alg_generator 23 = .ok (.iload_n 2, 1) := by decide +kernel
theorem d_Alg_generator_24 : dec m_Alg_generator 24 = .ok (.ifCond .le 30, 3) := by decide +kernel
theorem d_Alg_generator_27 : dec m_Alg_generator 27 = .ok (.aload_n 0, 1) := by decide +kernel
theorem d_Alg_generator_28 : dec m_Alg_generator 28 = .ok (.getfield 13, 3) := by decide +kernel
theorem d_Alg_generator_31 : dec m_Alg_generator 31 = .ok (.iload_n 1, 1) := by decide +kernel
theorem d_Alg_generator_32 : dec m_Alg_generator 32 = .ok (.aaload, 1) := by decide +kernel
theorem d_Alg_generator_33 : dec m_Alg_generator 33 = .ok (.getfield 148, 3) := by decide +kernel
theorem d_Alg_generator_36 : dec m_Alg_generator 36 = .ok (.iload_n 2, 1) := by decide +kernel
theorem d_Alg_generator_37 : dec m_Alg_generator 37 = .ok (.laload, 1) := by decide +kernel
theorem d_Alg_generator_38 : dec m_Alg_generator 38 = .ok (.lconst 1, 1) := by decide +kernel
theorem d_Alg_generator_39 : dec m_Alg_generator 39 = .ok (.lcmp, 1) := by decide +kernel
theorem d_Alg_generator_40 : dec m_Alg_generator 40 = .ok (.ifCond .ne 14, 3) := by decide +kernel
theorem d_Alg_generator_43 : dec m_Alg_generator 43 = .ok (.aload_n 0, 1) := by decide +kernel
theorem d_Alg_generator_44 : dec m_Alg_generator 44 = .ok (.getfield 27, 3) := by decide +kernel
theorem d_Alg_generator_47 : dec m_Alg_generator 47 = .ok (.iload_n 2, 1) := by decide +kernel
theorem d_Alg_generator_48 : dec m_Alg_generator 48 = .ok (.invokevirtual 239, 3) := by decide +kernel
theorem d_Alg_generator_51 : dec m_Alg_generator 51 = .ok (.ifCond .eq 6, 3) := by decide +kernel
theorem d_Alg_generator_54 : dec m_Alg_generator 54 = .ok (.bipush (-3), 2) := by decide +kernel
theorem d_Alg_generator_56 : dec m_Alg_generator 56 = .ok (.ireturn, 1) := by decide +kernel
theorem d_Alg_generator_57 : dec m_Alg_generator 57 = .ok (.aload_n 0, 1) := by decide +kernel
theorem d_Alg_generator_58 : dec m_Alg_generator 58 = .ok (.getfield 27, 3) := by decide +kernel
theorem d_Alg_generator_61 : dec m_Alg_generator 61 = .ok (.getfield 109, 3) := by decide +kernel
theorem d_Alg_generator_64 : dec m_Alg_generator 64 = .ok (.bipush 7, 2) := by decide +kernel
theorem d_Alg_generator_66 : dec m_Alg_generator 66 = .ok (.if_icmp .lt 6, 3) := by decide +kernel
theorem d_Alg_generator_69 : dec m_Alg_generator 69 = .ok (.bipush (-4), 2) := by decide +kernel
theorem d_Alg_generator_71 : dec m_Alg_generator 71 = .ok (.ireturn, 1) := by decide +kernel
theorem d_Alg_generator_72 : dec m_Alg_generator 72 = .ok (.aload_n 0, 1) := by decide +kernel
theorem d_Alg_generator_73 : dec m_Alg_generator 73 = .ok (.getfield 27, 3) := by decide +kernel
theorem d_Alg_generator_76 : dec m_Alg_generator 76 = .ok (.aload_n 0, 1) := by decide +kernel
theorem d_Alg_generator_77 : dec m_Alg_generator 77 = .ok (.getfield 13, 3) := by decide +kernel
theorem d_Alg_generator_80 : dec m_Alg_generator 80 = .ok (.iload_n 1, 1) := by decide +kernel
theorem d_Alg_generator_81 : dec m_Alg_generator 81 = .ok (.aaload, 1) := by decide +kernel
theorem d_Alg_generator_82 : dec m_Alg_generator 82 = .ok (.iload_n 2, 1) := by decide +kernel
theorem d_Alg_generator_83 : dec m_Alg_generator 83 = .ok (.invokevirtual 242, 3) := by decide +kernel
theorem d_Alg_generator_86 : dec m_Alg_generator 86 = .ok (.aload_n 0, 1) := by decide +kernel
theorem d_Alg_generator_87 : dec m_Alg_generator 87 = .ok (.invokevirtual 245, 3) := by decide +kernel
theorem d_Alg_generator_90 : dec m_Alg_generator 90 = .ok (.aload_n 0, 1) := by decide +kernel
theorem d_Alg_generator_91 : dec m_Alg_generator 91 = .ok (.getfield 27, 3) := by decide +kernel
theorem d_Alg_generator_94 : dec m_Alg_generator 94 = .ok (.getfield 109, 3) := by decide +kernel
theorem d_Alg_generator_97 : dec m_Alg_generator 97 = .ok (.iconst 1, 1) := by decide +kernel
theorem d_Alg_generator_98 : dec m_Alg_generator 98 = .ok (.isub, 1) := by decide +kernel
theorem d_Alg_generator_99 : dec m_Alg_generator 99 = .ok (.ireturn, 1) := by decide +kernel
theorem d_Alg_give_0 : dec m_Alg_give 0 = .ok (.aload_n 0, 1) := by decide +kernel
theorem d_Alg_give_1 : dec m_Alg_give 1 = .ok (.iload_n 1, 1) := by decide +kernel
theorem d_Alg_give_2 : dec m_Alg_give 2 = .ok (.invokevirtual 248, 3) := by decide +kernel
theorem d_Alg_give_5 : dec m_Alg_give 5 = .ok (.ifCond .eq 10, 3) := by decide +kernel
theorem d_Alg_give_8 : dec m_Alg_give 8 = .ok (.iload_n 2, 1) := by decide +kernel
theorem d_Alg_give_9 : dec m_Alg_give 9 = .ok (.invokestatic 119, 3) := by decide +kernel
theorem d_Alg_give_12 : dec m_Alg_give 12 = .ok (.ifCond .ne 5, 3) := by decide +kernel
theorem d_Alg_give_15 : dec m_Alg_give 15 = .ok (.iconst (-1), 1) := by decide +kernel
theorem d_Alg_give_16 : dec m_Alg_give 16 = .ok (.ireturn, 1) := by decide +kernel
theorem d_Alg_give_17 : dec m_Alg_give 17 = .ok (.aload_n 0, 1) := by decide +kernel
theorem d_Alg_give_18 : dec m_Alg_give 18 = .ok (.getfield 13, 3) := by decide +kernel
theorem d_Alg_give_21 : dec m_Alg_give 21 = .ok (.iload_n 2, 1) := by decide +kernel
theorem d_Alg_give_22 : dec m_Alg_give 22 = .ok (.aaload, 1) := by decide +kernel
theorem d_Alg_give_23 : dec m_Alg_give 23 = .ok (.aload_n 0, 1) := by decide +kernel
theorem d_Alg_give_24 : dec m_Alg_give 24 = .ok (.getfield 27, 3) := by decide +kernel
theorem d_Alg_give_27 : dec m_Alg_give 27 = .ok (.getfield 251, 3) := by decide +kernel
theorem d_Alg_give_30 : dec m_Alg_give 30 = .ok (.iload_n 1, 1) := by decide +kernel
theorem d_Alg_give_31 : dec m_Alg_give 31 = .ok (.aaload, 1) := by decide +kernel
theorem d_Alg_give_32 : dec m_Alg_give 32 = .ok (.invokevirtual 170, 3) := by decide +kernel
theorem d_Alg_give_35 : dec m_Alg_give 35 = .ok (.aload_n 0, 1) := by decide +kernel
theorem d_Alg_give_36 : dec m_Alg_give 36 = .ok (.getfield 13, 3) := by decide +kernel
theorem d_Alg_give_39 : dec m_Alg_give 39 = .ok (.iload_n 2, 1) := by decide +kernel
theorem d_Alg_give_40 : dec m_Alg_give 40 = .ok (.aaload, 1) := by decide +kernel
theorem d_Alg_give_41 : dec m_Alg_give 41 = .ok (.invokevirtual 156, 3) := by decide +kernel
theorem d_Alg_give_44 : dec m_Alg_give 44 = .ok (.ireturn, 1) := by decide +kernel
theorem d_Alg_ofGenerator_0 : dec m_Alg_ofGenerator 0 = .ok (.aload_n 0, 1) := by decide +kernel
theorem d_Alg_ofGenerator_1 : dec m_Alg_ofGenerator 1 = .ok (.iload_n 1, 1) := by decide +kernel
theorem d_Alg_ofGenerator_2 : dec m_Alg_ofGenerator 2 = .ok (.invokevirtual 248, 3) := by decide +kernel
theorem d_Alg_ofGenerator_5 : dec m_Alg_ofGenerator 5 = .ok (.ifCond .ne 5, 3) := by decide +kernel
theorem d_Alg_ofGenerator_8 : dec m_Alg_ofGenerator 8 = .ok (.iconst (-1), 1) := by decide +kernel
theorem d_Alg_ofGenerator_9 : dec m_Alg_ofGenerator 9 = .ok (.ireturn, 1) := by decide +kernel
theorem d_Alg_ofGenerator_10 : dec m_Alg_ofGenerator 10 = .ok (.aload_n 0, 1) := by decide +kernel
theorem d_Alg_ofGenerator_11 : dec m_Alg_ofGenerator 11 = .ok (.getfield 27, 3) := by decide +kernel
theorem d_Alg_ofGenerator_14 : dec m_Alg_ofGenerator 14 = .ok (.getfield 254, 3) := by decide +kernel
theorem d_Alg_ofGenerator_17 : dec m_Alg_ofGenerator 17 = .ok (.iload_n 1, 1) := by decide +kernel
theorem d_Alg_ofGenerator_18 : dec m_Alg_ofGenerator 18 = .ok (.iaload, 1) := by decide +kernel
theorem d_Alg_ofGenerator_19 : dec m_Alg_ofGenerator 19 = .ok (.istore_n 3, 1) := by decide +kernel
theorem d_Alg_ofGenerator_20 : dec m_Alg_ofGenerator 20 = .ok (.iload_n 2, 1) := by decide +kernel
theorem d_Alg_ofGenerator_21 : dec m_Alg_ofGenerator 21 = .ok (.tableswitch 131 0 8 #[51, 51, 51, 57, 63, 80, 90, 100, 118], 51) := by decide +kernel
theorem d_Alg_ofGenerator_72 : dec m_Alg_ofGenerator 72 = .ok (.iload_n 3, 1) := by decide +kernel
theorem d_Alg_ofGenerator_73 : dec m_Alg_ofGenerator 73 = .ok (.iload_n 2, 1) := by decide +kernel
theorem d_Alg_ofGenerator_74 : dec m_Alg_ofGenerator 74 = .ok (.invokestatic 203, 3) := by decide +kernel
theorem d_Alg_ofGenerator_77 : dec m_Alg_ofGenerator 77 = .ok (.ireturn, 1) := by decide +kernel
theorem d_Alg_ofGenerator_78 : dec m_Alg_ofGenerator 78 = .ok (.getstatic 199, 3) := by decide +kernel
theorem d_Alg_ofGenerator_81 : dec m_Alg_ofGenerator 81 = .ok (.iload_n 3, 1) := by decide +kernel
theorem d_Alg_ofGenerator_82 : dec m_Alg_ofGenerator 82 = .ok (.iaload, 1) := by decide +kernel
theorem d_Alg_ofGenerator_83 : dec m_Alg_ofGenerator 83 = .ok (.ireturn, 1) := by decide +kernel
theorem d_Alg_ofGenerator_84 : dec m_Alg_ofGenerator 84 = .ok (.aload_n 0, 1) := by decide +kernel
theorem d_Alg_ofGenerator_85 : dec m_Alg_ofGenerator 85 = .ok (.getfield 27, 3) := by decide +kernel
theorem d_Alg_ofGenerator_88 : dec m_Alg_ofGenerator 88 = .ok (.iload_n 1, 1) := by decide +kernel
theorem d_Alg_ofGenerator_89 : dec m_Alg_ofGenerator 89 = .ok (.invokevirtual 257, 3) := by decide +kernel
theorem d_Alg_ofGenerator_92 : dec m_Alg_ofGenerator 92 = .ok (.ifCond .eq 7, 3) := by decide +kernel
theorem d_Alg_ofGenerator_95 : dec m_Alg_ofGenerator 95 = .ok (.iconst 1, 1) := by decide +kernel
theorem d_Alg_ofGenerator_96 : dec m_Alg_ofGenerator 96 = .ok (.goto 4, 3) := by decide +kernel
theorem d_Alg_ofGenerator_99 : dec m_Alg_ofGenerator 99 = .ok (.iconst 0, 1) := by decide +kernel
theorem d_Alg_ofGenerator_100 : dec m_Alg_ofGenerator 100 = .ok (.ireturn, 1) := by decide +kernel
theorem d_Alg_ofGenerator_101 : dec m_Alg_ofGenerator 101 = .ok (.aload_n 0, 1) := by decide +kernel
theorem d_Alg_ofGenerator_102 : dec m_Alg_ofGenerator 102 = .ok (.getfield 27, 3) := by decide +kernel
theorem d_Alg_ofGenerator_105 : dec m_Alg_ofGenerator 105 = .ok (.getfield 260, 3) := by decide +kernel
theorem d_Alg_ofGenerator_108 : dec m_Alg_ofGenerator 108 = .ok (.iload_n 1, 1) := by decide +kernel
theorem d_Alg_ofGenerator_109 : dec m_Alg_ofGenerator 109 = .ok (.iaload, 1) := by decide +kernel
theorem d_Alg_ofGenerator_110 : dec m_Alg_ofGenerator 110 = .ok (.ireturn, 1) := by decide +kernel
theorem d_Alg_ofGenerator_111 : dec m_Alg_ofGenerator 111 = .ok (.aload_n 0, 1) := by decide +kernel
theorem d_Alg_ofGenerator_112 : dec m_Alg_ofGenerator 112 = .ok (.getfield 27, 3) := by decide +kernel
theorem d_Alg_ofGenerator_115 : dec m_Alg_ofGenerator 115 = .ok (.getfield 263, 3) := by decide +kernel
theorem d_Alg_ofGenerator_118 : dec m_Alg_ofGenerator 118 = .ok (.iload_n 1, 1) := by decide +kernel
theorem d_Alg_ofGenerator_119 : dec m_Alg_ofGenerator 119 = .ok (.iaload, 1) := by decide +kernel
theorem d_Alg_ofGenerator_120 : dec m_Alg_ofGenerator 120 = .ok (.ireturn, 1) := by decide +kernel
theorem d_Alg_ofGenerator_121 : dec m_Alg_ofGenerator 121 = .ok (.aload_n 0, 1) := by decide +kernel
theorem d_Alg_ofGenerator_122 : dec m_Alg_ofGenerator 122 = .ok (.getfield 34, 3) := by decide +kernel
theorem d_Alg_ofGenerator_125 : dec m_Alg_ofGenerator 125 = .ok (.iload_n 3, 1) := by decide +kernel
theorem d_Alg_ofGenerator_126 : dec m_Alg_ofGenerator 126 = .ok (.invokevirtual 266, 3) := by decide +kernel
theorem d_Alg_ofGenerator_129 : dec m_Alg_ofGenerator 129 = .ok (.iconst 1, 1) := by decide +kernel
theorem d_Alg_ofGenerator_130 : dec m_Alg_ofGenerator 130 = .ok (.if_icmp .le 7, 3) := by decide +kernel
theorem d_Alg_ofGenerator_133 : dec m_Alg_ofGenerator 133 = .ok (.iconst 1, 1) := by decide +kernel
theorem d_Alg_ofGenerator_134 : dec m_Alg_ofGenerator 134 = .ok (.goto 4, 3) := by decide +kernel
theorem d_Alg_ofGenerator_137 : dec m_Alg_ofGenerator 137 = .ok (.iconst 0, 1) := by decide +kernel
theorem d_Alg_ofGenerator_138 : dec m_Alg_ofGenerator 138 = .ok (.ireturn, 1) := by decide +kernel
theorem d_Alg_ofGenerator_139 : dec m_Alg_ofGenerator 139 = .ok (.aload_n 0, 1) := by decide +kernel
theorem d_Alg_ofGenerator_140 : dec m_Alg_ofGenerator 140 = .ok (.getfield 27, 3) := by decide +kernel
theorem d_Alg_ofGenerator_143 : dec m_Alg_ofGenerator 143 = .ok (.getfield 251, 3) := by decide +kernel
theorem d_Alg_ofGenerator_146 : dec m_Alg_ofGenerator 146 = .ok (.iload_n 1, 1) := by decide +kernel
theorem d_Alg_ofGenerator_147 : dec m_Alg_ofGenerator 147 = .ok (.aaload, 1) := by decide +kernel
theorem d_Alg_ofGenerator_148 : dec m_Alg_ofGenerator 148 = .ok (.invokevirtual 156, 3) := by decide +kernel
theorem d_Alg_ofGenerator_151 : dec m_Alg_ofGenerator 151 = .ok (.ireturn, 1) := by decide +kernel
theorem d_Alg_ofGenerator_152 : dec m_Alg_ofGenerator 152 = .ok (.iconst (-1), 1) := by decide +kernel
theorem d_Alg_ofGenerator_153 : dec m_Alg_ofGenerator 153 = .ok (.ireturn, 1) := by decide +kernel
theorem d_Alg_drop_0 : dec m_Alg_drop 0 = .ok (.aload_n 0, 1) := by decide +kernel
theorem d_Alg_drop_1 : dec m_Alg_drop 1 = .ok (.getfield 27, 3) := by decide +kernel
theorem d_Alg_drop_4 : dec m_Alg_drop 4 = .ok (.getfield 109, 3) := by decide +kernel
theorem d_Alg_drop_7 : dec m_Alg_drop 7 = .ok (.ifCond .ne 6, 3) := by decide +kernel
theorem d_Alg_drop_10 : dec m_Alg_drop 10 = .ok (.bipush (-3), 2) := by decide +kernel
theorem d_Alg_drop_12 : dec m_Alg_drop 12 = .ok (.ireturn, 1) := by decide +kernel
theorem d_Alg_drop_13 : dec m_Alg_drop 13 = .ok (.aload_n 0, 1) := by decide +kernel
theorem d_Alg_drop_14 : dec m_Alg_drop 14 = .ok (.getfield 27, 3) := by decide +kernel
theorem d_Alg_drop_17 : dec m_Alg_drop 17 = .ok (.dup, 1) := by decide +kernel
theorem d_Alg_drop_18 : dec m_Alg_drop 18 = .ok (.getfield 109, 3) := by decide +kernel
theorem d_Alg_drop_21 : dec m_Alg_drop 21 = .ok (.iconst 1, 1) := by decide +kernel
theorem d_Alg_drop_22 : dec m_Alg_drop 22 = .ok (.isub, 1) := by decide +kernel
theorem d_Alg_drop_23 : dec m_Alg_drop 23 = .ok (.putfield 109, 3) := by decide +kernel
theorem d_Alg_drop_26 : dec m_Alg_drop 26 = .ok (.aload_n 0, 1) := by decide +kernel
theorem d_Alg_drop_27 : dec m_Alg_drop 27 = .ok (.iconst 0, 1) := by decide +kernel
theorem d_Alg_drop_28 : dec m_Alg_drop 28 = .ok (.putfield 86, 3) := by decide +kernel
theorem d_Alg_drop_31 : dec m_Alg_drop 31 = .ok (.aload_n 0, 1) := by decide +kernel
theorem d_Alg_drop_32 : dec m_Alg_drop 32 = .ok (.invokevirtual 245, 3) := by decide +kernel
theorem d_Alg_drop_35 : dec m_Alg_drop 35 = .ok (.aload_n 0, 1) := by decide +kernel
theorem d_Alg_drop_36 : dec m_Alg_drop 36 = .ok (.getfield 27, 3) := by decide +kernel
theorem d_Alg_drop_39 : dec m_Alg_drop 39 = .ok (.getfield 109, 3) := by decide +kernel
theorem d_Alg_drop_42 : dec m_Alg_drop 42 = .ok (.ireturn, 1) := by decide +kernel
theorem d_Alg_made_0 : dec m_Alg_made 0 = .ok (.aload_n 0, 1) := by decide +kernel
theorem d_Alg_made_1 : dec m_Alg_made 1 = .ok (.iload_n 1, 1) := by decide +kernel
theorem d_Alg_made_2 : dec m_Alg_made 2 = .ok (.invokevirtual 248, 3) := by decide +kernel
theorem d_Alg_made_5 : dec m_Alg_made 5 = .ok (.ifCond .eq 27, 3) := by decide +kernel
theorem d_Alg_made_8 : dec m_Alg_made 8 = .ok (.iload_n 3, 1) := by decide +kernel
theorem d_Alg_made_9 : dec m_Alg_made 9 = .ok (.invokestatic 269, 3) := by decide +kernel
theorem d_Alg_made_12 : dec m_Alg_made 12 = .ok (.ifCond .eq 20, 3) := by decide +kernel
theorem d_Alg_made_15 : dec m_Alg_made 15 = .ok (.iload_n 2, 1) := by decide +kernel
theorem d_Alg_made_16 : dec m_Alg_made 16 = .ok (.ifCond .lt 16, 3) := by decide +kernel
theorem d_Alg_made_19 : dec m_Alg_made 19 = .ok (.iload_n 2, 1) := by decide +kernel
theorem d_Alg_made_20 : dec m_Alg_made 20 = .ok (.aload_n 0, 1) := by decide +kernel
theorem d_Alg_made_21 : dec m_Alg_made 21 = .ok (.getfield 27, 3) := by decide +kernel
theorem d_Alg_made_24 : dec m_Alg_made 24 = .ok (.getfield 263, 3) := by decide +kernel
theorem d_Alg_made_27 : dec m_Alg_made 27 = .ok (.iload_n 1, 1) := by decide +kernel
theorem d_Alg_made_28 : dec m_Alg_made 28 = .ok (.iaload, 1) := by decide +kernel
theorem d_Alg_made_29 : dec m_Alg_made 29 = .ok (.if_icmp .lt 7, 3) := by decide +kernel
theorem d_Alg_made_32 : dec m_Alg_made 32 = .ok (.ldc2_w 194, 3) := by decide +kernel
theorem d_Alg_made_35 : dec m_Alg_made 35 = .ok (.lreturn, 1) := by decide +kernel
theorem d_Alg_made_36 : dec m_Alg_made 36 = .ok (.iload_n 1, 1) := by decide +kernel
theorem d_Alg_made_37 : dec m_Alg_made 37 = .ok (.iload_n 2, 1) := by decide +kernel
theorem d_Alg_made_38 : dec m_Alg_made 38 = .ok (.invokestatic 272, 3) := by decide +kernel
theorem d_Alg_made_41 : dec m_Alg_made 41 = .ok (.istore 4, 2) := by decide +kernel
theorem d_Alg_made_43 : dec m_Alg_made 43 = .ok (.iload_n 3, 1) := by decide +kernel
theorem d_Alg_made_44 : dec m_Alg_made 44 = .ok (.ifCond .ge 16, 3) := by decide +kernel
theorem d_Alg_made_47 : dec m_Alg_made 47 = .ok (.aload_n 0, 1) := by decide +kernel
theorem d_Alg_made_48 : dec m_Alg_made 48 = .ok (.getfield 27, 3) := by decide +kernel
theorem d_Alg_made_51 : dec m_Alg_made 51 = .ok (.getfield 275, 3) := by decide +kernel
theorem d_Alg_made_54 : dec m_Alg_made 54 = .ok (.iload 4, 2) := by decide +kernel
theorem d_Alg_made_56 : dec m_Alg_made 56 = .ok (.laload, 1) := by decide +kernel
theorem d_Alg_made_57 : dec m_Alg_made 57 = .ok (.goto 18, 3) := by decide +kernel
theorem d_Alg_made_60 : dec m_Alg_made 60 = .ok (.aload_n 0, 1) := by decide +kernel
theorem d_Alg_made_61 : dec m_Alg_made 61 = .ok (.getfield 27, 3) := by decide +kernel
theorem d_Alg_made_64 : dec m_Alg_made 64 = .ok (.getfield 278, 3) := by decide +kernel
theorem d_Alg_made_67 : dec m_Alg_made 67 = .ok (.iload 4, 2) := by decide +kernel
theorem d_Alg_made_69 : dec m_Alg_made 69 = .ok (.iaload, 1) := by decide +kernel
theorem d_Alg_made_70 : dec m_Alg_made 70 = .ok (.iload_n 3, 1) := by decide +kernel
theorem d_Alg_made_71 : dec m_Alg_made 71 = .ok (.invokestatic 281, 3) := by decide +kernel
theorem d_Alg_made_74 : dec m_Alg_made 74 = .ok (.i2l, 1) := by decide +kernel
theorem d_Alg_made_75 : dec m_Alg_made 75 = .ok (.lreturn, 1) := by decide +kernel
theorem d_Alg_grown_0 : dec m_Alg_grown 0 = .ok (.aload_n 0, 1) := by decide +kernel
theorem d_Alg_grown_1 : dec m_Alg_grown 1 = .ok (.iload_n 1, 1) := by decide +kernel
theorem d_Alg_grown_2 : dec m_Alg_grown 2 = .ok (.invokevirtual 248, 3) := by decide +kernel
theorem d_Alg_grown_5 : dec m_Alg_grown 5 = .ok (.ifCond .eq 11, 3) := by decide +kernel
theorem d_Alg_grown_8 : dec m_Alg_grown 8 = .ok (.iload 5, 2) := by decide +kernel
theorem d_Alg_grown_10 : dec m_Alg_grown 10 = .ok (.invokestatic 207, 3) := by decide +kernel
theorem d_Alg_grown_13 : dec m_Alg_grown 13 = .ok (.ifCond .ne 7, 3) := by decide +kernel
theorem d_Alg_grown_16 : dec m_Alg_grown 16 = .ok (.ldc2_w 194, 3) := by decide +kernel
theorem d_Alg_grown_19 : dec m_Alg_grown 19 = .ok (.lreturn, 1) := by decide +kernel
theorem d_Alg_grown_20 : dec m_Alg_grown 20 = .ok (.iconst 0, 1) := by decide +kernel
theorem d_Alg_grown_21 : dec m_Alg_grown 21 = .ok (.istore 6, 2) := by decide +kernel
theorem d_Alg_grown_23 : dec m_Alg_grown 23 = .ok (.iload 6, 2) := by decide +kernel
theorem d_Alg_grown_25 : dec m_Alg_grown 25 = .ok (.iload_n 1, 1) := by decide +kernel
theorem d_Alg_grown_26 : dec m_Alg_grown 26 = .ok (.if_icmp .gt 64, 3) := by decide +kernel
theorem d_Alg_grown_29 : dec m_Alg_grown 29 = .ok (.aload_n 0, 1) := by decide +kernel
theorem d_Alg_grown_30 : dec m_Alg_grown 30 = .ok (.getfield 27, 3) := by decide +kernel
theorem d_Alg_grown_33 : dec m_Alg_grown 33 = .ok (.getfield 284, 3) := by decide +kernel
theorem d_Alg_grown_36 : dec m_Alg_grown 36 = .ok (.iload 6, 2) := by decide +kernel
theorem d_Alg_grown_38 : dec m_Alg_grown 38 = .ok (.aload_n 0, 1) := by decide +kernel
theorem d_Alg_grown_39 : dec m_Alg_grown 39 = .ok (.getfield 27, 3) := by decide +kernel
theorem d_Alg_grown_42 : dec m_Alg_grown 42 = .ok (.iload 6, 2) := by decide +kernel
theorem d_Alg_grown_44 : dec m_Alg_grown 44 = .ok (.invokevirtual 257, 3) := by decide +kernel
theorem d_Alg_grown_47 : dec m_Alg_grown 47 = .ok (.ifCond .eq 17, 3) := by decide +kernel
theorem d_Alg_grown_50 : dec m_Alg_grown 50 = .ok (.aload_n 0, 1) := by decide +kernel
theorem d_Alg_grown_51 : dec m_Alg_grown 51 = .ok (.getfield 27, 3) := by decide +kernel
theorem d_Alg_grown_54 : dec m_Alg_grown 54 = .ok (.iload 6, 2) := by decide +kernel
theorem d_Alg_grown_56 : dec m_Alg_grown 56 = .ok (.iload 5, 2) := by decide +kernel
theorem d_Alg_grown_58 : dec m_Alg_grown 58 = .ok (.invokevirtual 287, 3) := by decide +kernel
theorem d_Alg_grown_61 : dec m_Alg_grown 61 = .ok (.goto 22, 3) := by decide +kernel
theorem d_Alg_grown_64 : dec m_Alg_grown 64 = .ok (.aload_n 0, 1) := by decide +kernel
theorem d_Alg_grown_65 : dec m_Alg_grown 65 = .ok (.getfield 27, 3) := by decide +kernel
theorem d_Alg_grown_68 : dec m_Alg_grown 68 = .ok (.getfield 251, 3) := by decide +kernel
theorem d_Alg_grown_71 : dec m_Alg_grown 71 = .ok (.iload 6, 2) := by decide +kernel
theorem d_Alg_grown_73 : dec m_Alg_grown 73 = .ok (.aaload, 1) := by decide +kernel
theorem d_Alg_grown_74 : dec m_Alg_grown 74 = .ok (.iload_n 2, 1) := by decide +kernel
theorem d_Alg_grown_75 : dec m_Alg_grown 75 = .ok (.iload_n 3, 1) := by decide +kernel
theorem d_Alg_grown_76 : dec m_Alg_grown 76 = .ok (.iload 4, 2) := by decide +kernel
theorem d_Alg_grown_78 : dec m_Alg_grown 78 = .ok (.iload 5, 2) := by decide +kernel
theorem d_Alg_grown_80 : dec m_Alg_grown 80 = .ok (.invokevirtual 210, 3) := by decide +kernel
theorem d_Alg_grown_83 : dec m_Alg_grown 83 = .ok (.lastore, 1) := by decide +kernel
theorem d_Alg_grown_84 : dec m_Alg_grown 84 = .ok (.iinc 6 1, 3) := by decide +kernel
theorem d_Alg_grown_87 : dec m_Alg_grown 87 = .ok (.goto (-64), 3) := by decide +kernel
theorem d_Alg_grown_90 : dec m_Alg_grown 90 = .ok (.aload_n 0, 1) := by decide +kernel
theorem d_Alg_grown_91 : dec m_Alg_grown 91 = .ok (.getfield 27, 3) := by decide +kernel
theorem d_Alg_grown_94 : dec m_Alg_grown 94 = .ok (.getfield 284, 3) := by decide +kernel
theorem d_Alg_grown_97 : dec m_Alg_grown 97 = .ok (.iload_n 1, 1) := by decide +kernel
theorem d_Alg_grown_98 : dec m_Alg_grown 98 = .ok (.laload, 1) := by decide +kernel
theorem d_Alg_grown_99 : dec m_Alg_grown 99 = .ok (.lreturn, 1) := by decide +kernel
theorem d_Alg_closed_0 : dec m_Alg_closed 0 = .ok (.iconst 0, 1) := by decide +kernel
theorem d_Alg_closed_1 : dec m_Alg_closed 1 = .ok (.istore_n 1, 1) := by decide +kernel
theorem d_Alg_closed_2 : dec m_Alg_closed 2 = .ok (.iconst 0, 1) := by decide +kernel
theorem d_Alg_closed_3 : dec m_Alg_closed 3 = .ok (.istore_n 2, 1) := by decide +kernel
theorem d_Alg_closed_4 : dec m_Alg_closed 4 = .ok (.iload_n 2, 1) := by decide +kernel
theorem d_Alg_closed_5 : dec m_Alg_closed 5 = .ok (.bipush 6, 2) := by decide +kernel
theorem d_Alg_closed_7 : dec m_Alg_closed 7 = .ok (.if_icmp .ge 76, 3) := by decide +kernel
theorem d_Alg_closed_10 : dec m_Alg_closed 10 = .ok (.iconst 1, 1) := by decide +kernel
theorem d_Alg_closed_11 : dec m_Alg_closed 11 = .ok (.istore_n 3, 1) := by decide +kernel
theorem d_Alg_closed_12 : dec m_Alg_closed 12 = .ok (.iconst 0, 1) := by decide +kernel
theorem d_Alg_closed_13 : dec m_Alg_closed 13 = .ok (.istore 4, 2) := by decide +kernel
theorem d_Alg_closed_15 : dec m_Alg_closed 15 = .ok (.iload 4, 2) := by decide +kernel
theorem d_Alg_closed_17 : dec m_Alg_closed 17 = .ok (.aload_n 0, 1) := by decide +kernel
theorem d_Alg_closed_18 : dec m_Alg_closed 18 = .ok (.getfield 27, 3) := by decide +kernel
theorem d_Alg_closed_21 : dec m_Alg_closed 21 = .ok (.getfield 109, 3) := by decide +kernel
theorem d_Alg_closed_24 : dec m_Alg_closed 24 = .ok (.if_icmp .ge 43, 3) := by decide +kernel
theorem d_Alg_closed_27 : dec m_Alg_closed 27 = .ok (.iload_n 3, 1) := by decide +kernel
theorem d_Alg_closed_28 : dec m_Alg_closed 28 = .ok (.ifCond .eq 39, 3) := by decide +kernel
theorem d_Alg_closed_31 : dec m_Alg_closed 31 = .ok (.aload_n 0, 1) := by decide +kernel
theorem d_Alg_closed_32 : dec m_Alg_closed 32 = .ok (.getfield 65, 3) := by decide +kernel
theorem d_Alg_closed_35 : dec m_Alg_closed 35 = .ok (.aload_n 0, 1) := by decide +kernel
theorem d_Alg_closed_36 : dec m_Alg_closed 36 = .ok (.getfield 27, 3) := by decide +kernel
theorem d_Alg_closed_39 : dec m_Alg_closed 39 = .ok (.getfield 251, 3) := by decide +kernel
theorem d_Alg_closed_42 : dec m_Alg_closed 42 = .ok (.iload 4, 2) := by decide +kernel
theorem d_Alg_closed_44 : dec m_Alg_closed 44 = .ok (.aaload, 1) := by decide +kernel
theorem d_Alg_closed_45 : dec m_Alg_closed 45 = .ok (.iload_n 2, 1) := by decide +kernel
theorem d_Alg_closed_46 : dec m_Alg_closed 46 = .ok (.invokevirtual 184, 3) := by decide +kernel
theorem d_Alg_closed_49 : dec m_Alg_closed 49 = .ok (.aload_n 0, 1) := by decide +kernel
theorem d_Alg_closed_50 : dec m_Alg_closed 50 = .ok (.getfield 27, 3) := by decide +kernel
theorem d_Alg_closed_53 : dec m_Alg_closed 53 = .ok (.aload_n 0, 1) := by decide +kernel
theorem d_Alg_closed_54 : dec m_Alg_closed 54 = .ok (.getfield 65, 3) := by decide +kernel
theorem d_Alg_closed_57 : dec m_Alg_closed 57 = .ok (.invokevirtual 291, 3) := by decide +kernel
theorem d_Alg_closed_60 : dec m_Alg_closed 60 = .ok (.istore_n 3, 1) := by decide +kernel
theorem d_Alg_closed_61 : dec m_Alg_closed 61 = .ok (.iinc 4 1, 3) := by decide +kernel
theorem d_Alg_closed_64 : dec m_Alg_closed 64 = .ok (.goto (-49), 3) := by decide +kernel
theorem d_Alg_closed_67 : dec m_Alg_closed 67 = .ok (.iload_n 3, 1) := by decide +kernel
theorem d_Alg_closed_68 : dec m_Alg_closed 68 = .ok (.ifCond .eq 9, 3) := by decide +kernel
theorem d_Alg_closed_71 : dec m_Alg_closed 71 = .ok (.iload_n 1, 1) := by decide +kernel
theorem d_Alg_closed_72 : dec m_Alg_closed 72 = .ok (.iconst 1, 1) := by decide +kernel
theorem d_Alg_closed_73 : dec m_Alg_closed 73 = .ok (.iload_n 2, 1) := by decide +kernel
theorem d_Alg_closed_74 : dec m_Alg_closed 74 = .ok (.ishl, 1) := by decide +kernel
theorem d_Alg_closed_75 : dec m_Alg_closed 75 = .ok (.ior, 1) := by decide +kernel
theorem d_Alg_closed_76 : dec m_Alg_closed 76 = .ok (.istore_n 1, 1) := by decide +kernel
theorem d_Alg_closed_77 : dec m_Alg_closed 77 = .ok (.iinc 2 1, 3) := by decide +kernel
theorem d_Alg_closed_80 : dec m_Alg_closed 80 = .ok (.goto (-76), 3) := by decide +kernel
theorem d_Alg_closed_83 : dec m_Alg_closed 83 = .ok (.iload_n 1, 1) := by decide +kernel
theorem d_Alg_closed_84 : dec m_Alg_closed 84 = .ok (.ireturn, 1) := by decide +kernel
theorem d_Alg_through_0 : dec m_Alg_through 0 = .ok (.iload_n 1, 1) := by decide +kernel
theorem d_Alg_through_1 : dec m_Alg_through 1 = .ok (.invokestatic 119, 3) := by decide +kernel
theorem d_Alg_through_4 : dec m_Alg_through 4 = .ok (.ifCond .ne 5, 3) := by decide +kernel
theorem d_Alg_through_7 : dec m_Alg_through 7 = .ok (.iconst (-1), 1) := by decide +kernel
theorem d_Alg_through_8 : dec m_Alg_through 8 = .ok (.ireturn, 1) := by decide +kernel
theorem d_Alg_through_9 : dec m_Alg_through 9 = .ok (.aload_n 0, 1) := by decide +kernel
theorem d_Alg_through_10 : dec m_Alg_through 10 = .ok (.getfield 27, 3) := by decide +kernel
theorem d_Alg_through_13 : dec m_Alg_through 13 = .ok (.getfield 109, 3) := by decide +kernel
theorem d_Alg_through_16 : dec m_Alg_through 16 = .ok (.iconst 3, 1) := by decide +kernel
theorem d_Alg_through_17 : dec m_Alg_through 17 = .ok (.if_icmp .ge 6, 3) := by decide +kernel
theorem d_Alg_through_20 : dec m_Alg_through 20 = .ok (.bipush (-3), 2) := by decide +kernel
theorem d_Alg_through_22 : dec m_Alg_through 22 = .ok (.ireturn, 1) := by decide +kernel
theorem d_Alg_through_23 : dec m_Alg_through 23 = .ok (.aload_n 0, 1) := by decide +kernel
theorem d_Alg_through_24 : dec m_Alg_through 24 = .ok (.getfield 79, 3) := by decide +kernel
theorem d_Alg_through_27 : dec m_Alg_through 27 = .ok (.iconst 0, 1) := by decide +kernel
theorem d_Alg_through_28 : dec m_Alg_through 28 = .ok (.putfield 294, 3) := by decide +kernel
theorem d_Alg_through_31 : dec m_Alg_through 31 = .ok (.iconst 0, 1) := by decide +kernel
theorem d_Alg_through_32 : dec m_Alg_through 32 = .ok (.istore_n 2, 1) := by decide +kernel
theorem d_Alg_through_33 : dec m_Alg_through 33 = .ok (.iload_n 2, 1) := by decide +kernel
theorem d_Alg_through_34 : dec m_Alg_through 34 = .ok (.bipush 84, 2) := by decide +kernel
theorem d_Alg_through_36 : dec m_Alg_through 36 = .ok (.if_icmp .ge 92, 3) := by decide +kernel
theorem d_Alg_through_39 : dec m_Alg_through 39 = .ok (.aload_n 0, 1) := by decide +kernel
theorem d_Alg_through_40 : dec m_Alg_through 40 = .ok (.getfield 13, 3) := by decide +kernel
theorem d_Alg_through_43 : dec m_Alg_through 43 = .ok (.iload_n 1, 1) := by decide +kernel
theorem d_Alg_through_44 : dec m_Alg_through 44 = .ok (.aaload, 1) := by decide +kernel
theorem d_Alg_through_45 : dec m_Alg_through 45 = .ok (.getfield 148, 3) := by decide +kernel
theorem d_Alg_through_48 : dec m_Alg_through 48 = .ok (.iload_n 2, 1) := by decide +kernel
theorem d_Alg_through_49 : dec m_Alg_through 49 = .ok (.laload, 1) := by decide +kernel
theorem d_Alg_through_50 : dec m_Alg_through 50 = .ok (.lconst 0, 1) := by decide +kernel
theorem d_Alg_through_51 : dec m_Alg_through 51 = .ok (.lcmp, 1) := by decide +kernel
theorem d_Alg_through_52 : dec m_Alg_through 52 = .ok (.ifCond .eq 70, 3) := by decide +kernel
theorem d_Alg_through_55 : dec m_Alg_through 55 = .ok (.iconst 0, 1) := by decide +kernel
theorem d_Alg_through_56 : dec m_Alg_through 56 = .ok (.istore_n 3, 1) := by decide +kernel
theorem d_Alg_through_57 : dec m_Alg_through 57 = .ok (.iconst 0, 1) := by decide +kernel
theorem d_Alg_through_58 : dec m_Alg_through 58 = .ok (.istore 4, 2) := by decide +kernel
theorem d_Alg_through_60 : dec m_Alg_through 60 = .ok (.iload 4, 2) := by decide +kernel
theorem d_Alg_through_62 : dec m_Alg_through 62 = .ok (.iconst 3, 1) := by decide +kernel
theorem d_Alg_through_63 : dec m_Alg_through 63 = .ok (.if_icmp .ge 24, 3) := by decide +kernel
theorem d_Alg_through_66 : dec m_Alg_through 66 = .ok (.iload_n 3, 1) := by decide +kernel
theorem d_Alg_through_67 : dec m_Alg_through 67 = .ok (.iload_n 2, 1) := by decide +kernel
theorem d_Alg_through_68 : dec m_Alg_through 68 = .ok (.iload 4, 2) := by decide +kernel
theorem d_Alg_through_70 : dec m_Alg_through 70 = .ok (.invokestatic 203, 3) := by decide +kernel
theorem d_Alg_through_73 : dec m_Alg_through 73 = .ok (.iload 4, 2) := by decide +kernel
theorem d_Alg_through_75 : dec m_Alg_through 75 = .ok (.invokestatic 295, 3) := by decide +kernel
theorem d_Alg_through_78 : dec m_Alg_through 78 = .ok (.imul, 1) := by decide +kernel
theorem d_Alg_through_79 : dec m_Alg_through 79 = .ok (.iadd, 1) := by decide +kernel
theorem d_Alg_through_80 : dec m_Alg_through 80 = .ok (.istore_n 3, 1) := by decide +kernel
theorem d_Alg_through_81 : dec m_Alg_through 81 = .ok (.iinc 4 1, 3) := by decide +kernel
theorem d_Alg_through_84 : dec m_Alg_through 84 = .ok (.goto (-24), 3) := by decide +kernel
theorem d_Alg_through_87 : dec m_Alg_through 87 = .ok (.aload_n 0, 1) := by decide +kernel
theorem d_Alg_through_88 : dec m_Alg_through 88 = .ok (.getfield 27, 3) := by decide +kernel
theorem d_Alg_through_91 : dec m_Alg_through 91 = .ok (.iload_n 3, 1) := by decide +kernel
theorem d_Alg_through_92 : dec m_Alg_through 92 = .ok (.invokevirtual 298, 3) := by decide +kernel
theorem d_Alg_through_95 : dec m_Alg_through 95 = .ok (.bipush 6, 2) := by decide +kernel
theorem d_Alg_through_97 : dec m_Alg_through 97 = .ok (.if_icmp .le 6, 3) := by decide +kernel
theorem d_Alg_through_100 : dec m_Alg_through 100 = .ok (.bipush (-6), 2) := by decide +kernel
theorem d_Alg_through_102 : dec m_Alg_through 102 = .ok (.ireturn, 1) := by decide +kernel
theorem d_Alg_through_103 : dec m_Alg_through 103 = .ok (.aload_n 0, 1) := by decide +kernel
theorem d_Alg_through_104 : dec m_Alg_through 104 = .ok (.getfield 79, 3) := by decide +kernel
theorem d_Alg_through_107 : dec m_Alg_through 107 = .ok (.aload_n 0, 1) := by decide +kernel
theorem d_Alg_through_108 : dec m_Alg_through 108 = .ok (.getfield 13, 3) := by decide +kernel
theorem d_Alg_through_111 : dec m_Alg_through 111 = .ok (.iload_n 1, 1) := by decide +kernel
theorem d_Alg_through_112 : dec m_Alg_through 112 = .ok (.aaload, 1) := by decide +kernel
theorem d_Alg_through_113 : dec m_Alg_through 113 = .ok (.getfield 148, 3) := by decide +kernel
theorem d_Alg_through_116 : dec m_Alg_through 116 = .ok (.iload_n 2, 1) := by decide +kernel
theorem d_Alg_through_117 : dec m_Alg_through 117 = .ok (.laload, 1) := by decide +kernel
theorem d_Alg_through_118 : dec m_Alg_through 118 = .ok (.iload_n 3, 1) := by decide +kernel
theorem d_Alg_through_119 : dec m_Alg_through 119 = .ok (.invokevirtual 301, 3) := by decide +kernel
theorem d_Alg_through_122 : dec m_Alg_through 122 = .ok (.iinc 2 1, 3) := by decide +kernel
theorem d_Alg_through_125 : dec m_Alg_through 125 = .ok (.goto (-92), 3) := by decide +kernel
theorem d_Alg_through_128 : dec m_Alg_through 128 = .ok (.aload_n 0, 1) := by decide +kernel
theorem d_Alg_through_129 : dec m_Alg_through 129 = .ok (.aload_n 0, 1) := by decide +kernel
theorem d_Alg_through_130 : dec m_Alg_through 130 = .ok (.getfield 79, 3) := by decide +kernel
theorem d_Alg_through_133 : dec m_Alg_through 133 = .ok (.invokevirtual 304, 3) := by decide +kernel
theorem d_Alg_through_136 : dec m_Alg_through 136 = .ok (.ifCond .eq 11, 3) := by decide +kernel
theorem d_Alg_through_139 : dec m_Alg_through 139 = .ok (.aload_n 0, 1) := by decide +kernel
theorem d_Alg_through_140 : dec m_Alg_through 140 = .ok (.iload_n 1, 1) := by decide +kernel
theorem d_Alg_through_141 : dec m_Alg_through 141 = .ok (.invokevirtual 178, 3) := by decide +kernel
theorem d_Alg_through_144 : dec m_Alg_through 144 = .ok (.goto 5, 3) := by decide +kernel
theorem d_Alg_through_147 : dec m_Alg_through 147 = .ok (.bipush (-5), 2) := by decide +kernel
theorem d_Alg_through_149 : dec m_Alg_through 149 = .ok (.ireturn, 1) := by decide +kernel
theorem d_Alg_rows_0 : dec m_Alg_rows 0 = .ok (.iload_n 1, 1) := by decide +kernel
theorem d_Alg_rows_1 : dec m_Alg_rows 1 = .ok (.iload_n 2, 1) := by decide +kernel
theorem d_Alg_rows_2 : dec m_Alg_rows 2 = .ok (.iload_n 3, 1) := by decide +kernel
theorem d_Alg_rows_3 : dec m_Alg_rows 3 = .ok (.invokestatic 126, 3) := by decide +kernel
theorem d_Alg_rows_6 : dec m_Alg_rows 6 = .ok (.ifCond .ne 5, 3) := by decide +kernel
theorem d_Alg_rows_9 : dec m_Alg_rows 9 = .ok (.iconst (-1), 1) := by decide +kernel
theorem d_Alg_rows_10 : dec m_Alg_rows 10 = .ok (.ireturn, 1) := by decide +kernel
theorem d_Alg_rows_11 : dec m_Alg_rows 11 = .ok (.aload_n 0, 1) := by decide +kernel
theorem d_Alg_rows_12 : dec m_Alg_rows 12 = .ok (.getfield 34, 3) := by decide +kernel
theorem d_Alg_rows_15 : dec m_Alg_rows 15 = .ok (.iload_n 1, 1) := by decide +kernel
theorem d_Alg_rows_16 : dec m_Alg_rows 16 = .ok (.iload_n 2, 1) := by decide +kernel
theorem d_Alg_rows_17 : dec m_Alg_rows 17 = .ok (.iload_n 3, 1) := by decide +kernel
theorem d_Alg_rows_18 : dec m_Alg_rows 18 = .ok (.invokestatic 152, 3) := by decide +kernel
theorem d_Alg_rows_21 : dec m_Alg_rows 21 = .ok (.invokevirtual 266, 3) := by decide +kernel
theorem d_Alg_rows_24 : dec m_Alg_rows 24 = .ok (.ireturn, 1) := by decide +kernel
theorem d_Alg_row_0 : dec m_Alg_row 0 = .ok (.iload_n 1, 1) := by decide +kernel
theorem d_Alg_row_1 : dec m_Alg_row 1 = .ok (.iload_n 2, 1) := by decide +kernel
theorem d_Alg_row_2 : dec m_Alg_row 2 = .ok (.iload_n 3, 1) := by decide +kernel
theorem d_Alg_row_3 : dec m_Alg_row 3 = .ok (.invokestatic 126, 3) := by decide +kernel
theorem d_Alg_row_6 : dec m_Alg_row 6 = .ok (.ifCond .eq 12, 3) := by decide +kernel
theorem d_Alg_row_9 : dec m_Alg_row 9 = .ok (.aload_n 0, 1) := by decide +kernel
theorem d_Alg_row_10 : dec m_Alg_row 10 = .ok (.iload 5, 2) := by decide +kernel
theorem d_Alg_row_12 : dec m_Alg_row 12 = .ok (.invokevirtual 248, 3) := by decide +kernel
theorem d_Alg_row_15 : dec m_Alg_row 15 = .ok (.ifCond .ne 5, 3) := by decide +kernel
theorem d_Alg_row_18 : dec m_Alg_row 18 = .ok (.iconst (-1), 1) := by decide +kernel
theorem d_Alg_row_19 : dec m_Alg_row 19 = .ok (.ireturn, 1) := by decide +kernel
theorem d_Alg_row_20 : dec m_Alg_row 20 = .ok (.iload_n 1, 1) := by decide +kernel
theorem d_Alg_row_21 : dec m_Alg_row 21 = .ok (.iload_n 2, 1) := by decide +kernel
theorem d_Alg_row_22 : dec m_Alg_row 22 = .ok (.iload_n 3, 1) := by decide +kernel
theorem d_Alg_row_23 : dec m_Alg_row 23 = .ok (.invokestatic 152, 3) := by decide +kernel
theorem d_Alg_row_26 : dec m_Alg_row 26 = .ok (.istore 6, 2) := by decide +kernel
theorem d_Alg_row_28 : dec m_Alg_row 28 = .ok (.iload 4, 2) := by decide +kernel
theorem d_Alg_row_30 : dec m_Alg_row 30 = .ok (.ifCond .lt 17, 3) := by decide +kernel
theorem d_Alg_row_33 : dec m_Alg_row 33 = .ok (.iload 4, 2) := by decide +kernel
theorem d_Alg_row_35 : dec m_Alg_row 35 = .ok (.aload_n 0, 1) := by decide +kernel
theorem d_Alg_row_36 : dec m_Alg_row 36 = .ok (.getfield 34, 3) := by decide +kernel
theorem d_Alg_row_39 : dec m_Alg_row 39 = .ok (.iload 6, 2) := by decide +kernel
theorem d_Alg_row_41 : dec m_Alg_row 41 = .ok (.invokevirtual 266, 3) := by decide +kernel
theorem d_Alg_row_44 : dec m_Alg_row 44 = .ok (.if_icmp .lt 6, 3) := by decide +kernel
theorem d_Alg_row_47 : dec m_Alg_row 47 = .ok (.bipush (-2), 2) := by decide +kernel
theorem d_Alg_row_49 : dec m_Alg_row 49 = .ok (.ireturn, 1) := by decide +kernel
theorem d_Alg_row_50 : dec m_Alg_row 50 = .ok (.aload_n 0, 1) := by decide +kernel
theorem d_Alg_row_51 : dec m_Alg_row 51 = .ok (.getfield 34, 3) := by decide +kernel
theorem d_Alg_row_54 : dec m_Alg_row 54 = .ok (.iload 6, 2) := by decide +kernel
theorem d_Alg_row_56 : dec m_Alg_row 56 = .ok (.iload 4, 2) := by decide +kernel
theorem d_Alg_row_58 : dec m_Alg_row 58 = .ok (.invokevirtual 308, 3) := by decide +kernel
theorem d_Alg_row_61 : dec m_Alg_row 61 = .ok (.iload 5, 2) := by decide +kernel
theorem d_Alg_row_63 : dec m_Alg_row 63 = .ok (.invokestatic 281, 3) := by decide +kernel
theorem d_Alg_row_66 : dec m_Alg_row 66 = .ok (.ireturn, 1) := by decide +kernel
theorem d_Alg_monoid_0 : dec m_Alg_monoid 0 = .ok (.iload_n 1, 1) := by decide +kernel
theorem d_Alg_monoid_1 : dec m_Alg_monoid 1 = .ok (.ifCond .lt 18, 3) := by decide +kernel
theorem d_Alg_monoid_4 : dec m_Alg_monoid 4 = .ok (.iload_n 1, 1) := by decide +kernel
theorem d_Alg_monoid_5 : dec m_Alg_monoid 5 = .ok (.bipush 6, 2) := by decide +kernel
theorem d_Alg_monoid_7 : dec m_Alg_monoid 7 = .ok (.if_icmp .gt 12, 3) := by decide +kernel
theorem d_Alg_monoid_10 : dec m_Alg_monoid 10 = .ok (.iload_n 2, 1) := by decide +kernel
theorem d_Alg_monoid_11 : dec m_Alg_monoid 11 = .ok (.ifCond .lt 8, 3) := by decide +kernel
theorem d_Alg_monoid_14 : dec m_Alg_monoid 14 = .ok (.iload_n 2, 1) := by decide +kernel
theorem d_Alg_monoid_15 : dec m_Alg_monoid 15 = .ok (.iconst 2, 1) := by decide +kernel
theorem d_Alg_monoid_16 : dec m_Alg_monoid 16 = .ok (.if_icmp .le 5, 3) := by decide +kernel
theorem d_Alg_monoid_19 : dec m_Alg_monoid 19 = .ok (.iconst (-1), 1) := by decide +kernel
theorem d_Alg_monoid_20 : dec m_Alg_monoid 20 = .ok (.ireturn, 1) := by decide +kernel
theorem d_Alg_monoid_21 : dec m_Alg_monoid 21 = .ok (.iconst 0, 1) := by decide +kernel
theorem d_Alg_monoid_22 : dec m_Alg_monoid 22 = .ok (.istore_n 3, 1) := by decide +kernel
theorem d_Alg_monoid_23 : dec m_Alg_monoid 23 = .ok (.iconst 0, 1) := by decide +kernel
theorem d_Alg_monoid_24 : dec m_Alg_monoid 24 = .ok (.istore 4, 2) := by decide +kernel
theorem d_Alg_monoid_26 : dec m_Alg_monoid 26 = .ok (.iconst 0, 1) := by decide +kernel
theorem d_Alg_monoid_27 : dec m_Alg_monoid 27 = .ok (.istore 5, 2) := by decide +kernel
theorem d_Alg_monoid_29 : dec m_Alg_monoid 29 = .ok (.iconst 0, 1) := by decide +kernel
theorem d_Alg_monoid_30 : dec m_Alg_monoid 30 = .ok (.istore 6, 2) := by decide +kernel
theorem d_Alg_monoid_32 : dec m_Alg_monoid 32 = .ok (.iload 6, 2) := by decide +kernel
theorem d_Alg_monoid_34 : dec m_Alg_monoid 34 = .ok (.bipush 84, 2) := by decide +kernel
theorem d_Alg_monoid_36 : dec m_Alg_monoid 36 = .ok (.if_icmp .ge 65, 3) := by decide +kernel
theorem d_Alg_monoid_39 : dec m_Alg_monoid 39 = .ok (.getstatic 199, 3) := by decide +kernel
theorem d_Alg_monoid_42 : dec m_Alg_monoid 42 = .ok (.iload 6, 2) := by decide +kernel
theorem d_Alg_monoid_44 : dec m_Alg_monoid 44 = .ok (.iaload, 1) := by decide +kernel
theorem d_Alg_monoid_45 : dec m_Alg_monoid 45 = .ok (.iload_n 1, 1) := by decide +kernel
theorem d_Alg_monoid_46 : dec m_Alg_monoid 46 = .ok (.if_icmp .ne 49, 3) := by decide +kernel
theorem d_Alg_monoid_49 : dec m_Alg_monoid 49 = .ok (.aload_n 0, 1) := by decide +kernel
theorem d_Alg_monoid_50 : dec m_Alg_monoid 50 = .ok (.getfield 34, 3) := by decide +kernel
theorem d_Alg_monoid_53 : dec m_Alg_monoid 53 = .ok (.iload 6, 2) := by decide +kernel
theorem d_Alg_monoid_55 : dec m_Alg_monoid 55 = .ok (.invokevirtual 266, 3) := by decide +kernel
theorem d_Alg_monoid_58 : dec m_Alg_monoid 58 = .ok (.istore 7, 2) := by decide +kernel
theorem d_Alg_monoid_60 : dec m_Alg_monoid 60 = .ok (.iload 5, 2) := by decide +kernel
theorem d_Alg_monoid_62 : dec m_Alg_monoid 62 = .ok (.iload 7, 2) := by decide +kernel
theorem d_Alg_monoid_64 : dec m_Alg_monoid 64 = .ok (.iadd, 1) := by decide +kernel
theorem d_Alg_monoid_65 : dec m_Alg_monoid 65 = .ok (.istore 5, 2) := by decide +kernel
theorem d_Alg_monoid_67 : dec m_Alg_monoid 67 = .ok (.iload_n 3, 1) := by decide +kernel
theorem d_Alg_monoid_68 : dec m_Alg_monoid 68 = .ok (.iload 7, 2) := by decide +kernel
theorem d_Alg_monoid_70 : dec m_Alg_monoid 70 = .ok (.ifCond .le 7, 3) := by decide +kernel
theorem d_Alg_monoid_73 : dec m_Alg_monoid 73 = .ok (.iconst 1, 1) := by decide +kernel
theorem d_Alg_monoid_74 : dec m_Alg_monoid 74 = .ok (.goto 4, 3) := by decide +kernel
theorem d_Alg_monoid_77 : dec m_Alg_monoid 77 = .ok (.iconst 0, 1) := by decide +kernel
theorem d_Alg_monoid_78 : dec m_Alg_monoid 78 = .ok (.iadd, 1) := by decide +kernel
theorem d_Alg_monoid_79 : dec m_Alg_monoid 79 = .ok (.istore_n 3, 1) := by decide +kernel
theorem d_Alg_monoid_80 : dec m_Alg_monoid 80 = .ok (.iload 4, 2) := by decide +kernel
theorem d_Alg_monoid_82 : dec m_Alg_monoid 82 = .ok (.iload 7, 2) := by decide +kernel
theorem d_Alg_monoid_84 : dec m_Alg_monoid 84 = .ok (.ifCond .le 7, 3) := by decide +kernel
theorem d_Alg_monoid_87 : dec m_Alg_monoid 87 = .ok (.iconst 0, 1) := by decide +kernel
theorem d_Alg_monoid_88 : dec m_Alg_monoid 88 = .ok (.goto 4, 3) := by decide +kernel
theorem d_Alg_monoid_91 : dec m_Alg_monoid 91 = .ok (.iconst 1, 1) := by decide +kernel
theorem d_Alg_monoid_92 : dec m_Alg_monoid 92 = .ok (.iadd, 1) := by decide +kernel
theorem d_Alg_monoid_93 : dec m_Alg_monoid 93 = .ok (.istore 4, 2) := by decide +kernel
theorem d_Alg_monoid_95 : dec m_Alg_monoid 95 = .ok (.iinc 6 1, 3) := by decide +kernel
theorem d_Alg_monoid_98 : dec m_Alg_monoid 98 = .ok (.goto (-66), 3) := by decide +kernel
theorem d_Alg_monoid_101 : dec m_Alg_monoid 101 = .ok (.iload_n 2, 1) := by decide +kernel
theorem d_Alg_monoid_102 : dec m_Alg_monoid 102 = .ok (.ifCond .ne 7, 3) := by decide +kernel
theorem d_Alg_monoid_105 : dec m_Alg_monoid 105 = .ok (.iload_n 3, 1) := by decide +kernel
theorem d_Alg_monoid_106 : dec m_Alg_monoid 106 = .ok (.goto 15, 3) := by decide +kernel
theorem d_Alg_monoid_109 : dec m_Alg_monoid 109 = .ok (.iload_n 2, 1) := by decide +kernel
theorem d_Alg_monoid_110 : dec m_Alg_monoid 110 = .ok (.iconst 1, 1) := by decide +kernel
theorem d_Alg_monoid_111 : dec m_Alg_monoid 111 = .ok (.if_icmp .ne 8, 3) := by decide +kernel
theorem d_Alg_monoid_114 : dec m_Alg_monoid 114 = .ok (.iload 4, 2) := by decide +kernel
theorem d_Alg_monoid_116 : dec m_Alg_monoid 116 = .ok (.goto 5, 3) := by decide +kernel
theorem d_Alg_monoid_119 : dec m_Alg_monoid 119 = .ok (.iload 5, 2) := by decide +kernel
theorem d_Alg_monoid_121 : dec m_Alg_monoid 121 = .ok (.ireturn, 1) := by decide +kernel
theorem d_Alg_root_0 : dec m_Alg_root 0 = .ok (.iload_n 1, 1) := by decide +kernel
theorem d_Alg_root_1 : dec m_Alg_root 1 = .ok (.iload_n 2, 1) := by decide +kernel
theorem d_Alg_root_2 : dec m_Alg_root 2 = .ok (.iload_n 3, 1) := by decide +kernel
theorem d_Alg_root_3 : dec m_Alg_root 3 = .ok (.invokestatic 126, 3) := by decide +kernel
theorem d_Alg_root_6 : dec m_Alg_root 6 = .ok (.ifCond .ne 5, 3) := by decide +kernel
theorem d_Alg_root_9 : dec m_Alg_root 9 = .ok (.iconst (-1), 1) := by decide +kernel
theorem d_Alg_root_10 : dec m_Alg_root 10 = .ok (.ireturn, 1) := by decide +kernel
theorem d_Alg_root_11 : dec m_Alg_root 11 = .ok (.iconst 1, 1) := by decide +kernel
theorem d_Alg_root_12 : dec m_Alg_root 12 = .ok (.istore 4, 2) := by decide +kernel
theorem d_Alg_root_14 : dec m_Alg_root 14 = .ok (.iload 4, 2) := by decide +kernel
theorem d_Alg_root_16 : dec m_Alg_root 16 = .ok (.bipush 6, 2) := by decide +kernel
theorem d_Alg_root_18 : dec m_Alg_root 18 = .ok (.if_icmp .gt 55, 3) := by decide +kernel
theorem d_Alg_root_21 : dec m_Alg_root 21 = .ok (.iload 4, 2) := by decide +kernel
theorem d_Alg_root_23 : dec m_Alg_root 23 = .ok (.iload_n 1, 1) := by decide +kernel
theorem d_Alg_root_24 : dec m_Alg_root 24 = .ok (.imul, 1) := by decide +kernel
theorem d_Alg_root_25 : dec m_Alg_root 25 = .ok (.iload 4, 2) := by decide +kernel
theorem d_Alg_root_27 : dec m_Alg_root 27 = .ok (.iload_n 2, 1) := by decide +kernel
theorem d_Alg_root_28 : dec m_Alg_root 28 = .ok (.imul, 1) := by decide +kernel
theorem d_Alg_root_29 : dec m_Alg_root 29 = .ok (.iload 4, 2) := by decide +kernel
theorem d_Alg_root_31 : dec m_Alg_root 31 = .ok (.iload_n 3, 1) := by decide +kernel
theorem d_Alg_root_32 : dec m_Alg_root 32 = .ok (.imul, 1) := by decide +kernel
theorem d_Alg_root_33 : dec m_Alg_root 33 = .ok (.invokestatic 126, 3) := by decide +kernel
theorem d_Alg_root_36 : dec m_Alg_root 36 = .ok (.ifCond .eq 31, 3) := by decide +kernel
theorem d_Alg_root_39 : dec m_Alg_root 39 = .ok (.aload_n 0, 1) := by decide +kernel
theorem d_Alg_root_40 : dec m_Alg_root 40 = .ok (.getfield 34, 3) := by decide +kernel
theorem d_Alg_root_43 : dec m_Alg_root 43 = .ok (.iload 4, 2) := by decide +kernel
theorem d_Alg_root_45 : dec m_Alg_root 45 = .ok (.iload_n 1, 1) := by decide +kernel
theorem d_Alg_root_46 : dec m_Alg_root 46 = .ok (.imul, 1) := by decide +kernel
theorem d_Alg_root_47 : dec m_Alg_root 47 = .ok (.iload 4, 2) := by decide +kernel
theorem d_Alg_root_49 : dec m_Alg_root 49 = .ok (.iload_n 2, 1) := by decide +kernel
theorem d_Alg_root_50 : dec m_Alg_root 50 = .ok (.imul, 1) := by decide +kernel
theorem d_Alg_root_51 : dec m_Alg_root 51 = .ok (.iload 4, 2) := by decide +kernel
theorem d_Alg_root_53 : dec m_Alg_root 53 = .ok (.iload_n 3, 1) := by decide +kernel
theorem d_Alg_root_54 : dec m_Alg_root 54 = .ok (.imul, 1) := by decide +kernel
theorem d_Alg_root_55 : dec m_Alg_root 55 = .ok (.invokestatic 152, 3) := by decide +kernel
theorem d_Alg_root_58 : dec m_Alg_root 58 = .ok (.invokevirtual 266, 3) := by decide +kernel
theorem d_Alg_root_61 : dec m_Alg_root 61 = .ok (.ifCond .le 6, 3) := by decide +kernel
theorem d_Alg_root_64 : dec m_Alg_root 64 = .ok (.iload 4, 2) := by decide +kernel
theorem d_Alg_root_66 : dec m_Alg_root 66 = .ok (.ireturn, 1) := by decide +kernel
theorem d_Alg_root_67 : dec m_Alg_root 67 = .ok (.iinc 4 1, 3) := by decide +kernel
theorem d_Alg_root_70 : dec m_Alg_root 70 = .ok (.goto (-56), 3) := by decide +kernel
theorem d_Alg_root_73 : dec m_Alg_root 73 = .ok (.bipush (-2), 2) := by decide +kernel
theorem d_Alg_root_75 : dec m_Alg_root 75 = .ok (.ireturn, 1) := by decide +kernel
theorem d_Alg_rank_0 : dec m_Alg_rank 0 = .ok (.iload_n 1, 1) := by decide +kernel
theorem d_Alg_rank_1 : dec m_Alg_rank 1 = .ok (.ifCond .lt 8, 3) := by decide +kernel
theorem d_Alg_rank_4 : dec m_Alg_rank 4 = .ok (.iload_n 1, 1) := by decide +kernel
theorem d_Alg_rank_5 : dec m_Alg_rank 5 = .ok (.iconst 1, 1) := by decide +kernel
theorem d_Alg_rank_6 : dec m_Alg_rank 6 = .ok (.if_icmp .le 5, 3) := by decide +kernel
theorem d_Alg_rank_9 : dec m_Alg_rank 9 = .ok (.iconst (-1), 1) := by decide +kernel
theorem d_Alg_rank_10 : dec m_Alg_rank 10 = .ok (.ireturn, 1) := by decide +kernel
theorem d_Alg_rank_11 : dec m_Alg_rank 11 = .ok (.iload_n 1, 1) := by decide +kernel
theorem d_Alg_rank_12 : dec m_Alg_rank 12 = .ok (.ifCond .ne 13, 3) := by decide +kernel
theorem d_Alg_rank_15 : dec m_Alg_rank 15 = .ok (.aload_n 0, 1) := by decide +kernel
theorem d_Alg_rank_16 : dec m_Alg_rank 16 = .ok (.invokevirtual 311, 3) := by decide +kernel
theorem d_Alg_rank_19 : dec m_Alg_rank 19 = .ok (.invokevirtual 315, 3) := by decide +kernel
theorem d_Alg_rank_22 : dec m_Alg_rank 22 = .ok (.goto 10, 3) := by decide +kernel
theorem d_Alg_rank_25 : dec m_Alg_rank 25 = .ok (.aload_n 0, 1) := by decide +kernel
theorem d_Alg_rank_26 : dec m_Alg_rank 26 = .ok (.invokevirtual 311, 3) := by decide +kernel
theorem d_Alg_rank_29 : dec m_Alg_rank 29 = .ok (.invokevirtual 318, 3) := by decide +kernel
theorem d_Alg_rank_32 : dec m_Alg_rank 32 = .ok (.ireturn, 1) := by decide +kernel
theorem d_Alg_lattice_0 : dec m_Alg_lattice 0 = .ok (.iload_n 1, 1) := by decide +kernel
theorem d_Alg_lattice_1 : dec m_Alg_lattice 1 = .ok (.ifCond .lt 22, 3) := by decide +kernel
theorem d_Alg_lattice_4 : dec m_Alg_lattice 4 = .ok (.iload_n 1, 1) := by decide +kernel
theorem d_Alg_lattice_5 : dec m_Alg_lattice 5 = .ok (.aload_n 0, 1) := by decide +kernel
theorem d_Alg_lattice_6 : dec m_Alg_lattice 6 = .ok (.invokevirtual 311, 3) := by decide +kernel
theorem d_Alg_lattice_9 : dec m_Alg_lattice 9 = .ok (.invokevirtual 315, 3) := by decide +kernel
theorem d_Alg_lattice_12 : dec m_Alg_lattice 12 = .ok (.if_icmp .ge 11, 3) := by decide +kernel
theorem d_Alg_lattice_15 : dec m_Alg_lattice 15 = .ok (.aload_n 0, 1) := by decide +kernel
theorem d_Alg_lattice_16 : dec m_Alg_lattice 16 = .ok (.iload_n 2, 1) := by decide +kernel
theorem d_Alg_lattice_17 : dec m_Alg_lattice 17 = .ok (.invokevirtual 248, 3) := by decide +kernel
theorem d_Alg_lattice_20 : dec m_Alg_lattice 20 = .ok (.ifCond .ne 7, 3) := by decide +kernel
theorem d_Alg_lattice_23 : dec m_Alg_lattice 23 = .ok (.ldc2_w 194, 3) := by decide +kernel
theorem d_Alg_lattice_26 : dec m_Alg_lattice 26 = .ok (.lreturn, 1) := by decide +kernel
theorem d_Alg_lattice_27 : dec m_Alg_lattice 27 = .ok (.aload_n 0, 1) := by decide +kernel
theorem d_Alg_lattice_28 : dec m_Alg_lattice 28 = .ok (.getfield 48, 3) := by decide +kernel
theorem d_Alg_lattice_31 : dec m_Alg_lattice 31 = .ok (.iload_n 1, 1) := by decide +kernel
theorem d_Alg_lattice_32 : dec m_Alg_lattice 32 = .ok (.iload_n 2, 1) := by decide +kernel
theorem d_Alg_lattice_33 : dec m_Alg_lattice 33 = .ok (.invokevirtual 321, 3) := by decide +kernel
theorem d_Alg_lattice_36 : dec m_Alg_lattice 36 = .ok (.lreturn, 1) := by decide +kernel
theorem d_Alg_span_0 : dec m_Alg_span 0 = .ok (.iload_n 1, 1) := by decide +kernel
theorem d_Alg_span_1 : dec m_Alg_span 1 = .ok (.ifCond .lt 23, 3) := by decide +kernel
theorem d_Alg_span_4 : dec m_Alg_span 4 = .ok (.iload_n 1, 1) := by decide +kernel
theorem d_Alg_span_5 : dec m_Alg_span 5 = .ok (.aload_n 0, 1) := by decide +kernel
theorem d_Alg_span_6 : dec m_Alg_span 6 = .ok (.invokevirtual 311, 3) := by decide +kernel
theorem d_Alg_span_9 : dec m_Alg_span 9 = .ok (.invokevirtual 318, 3) := by decide +kernel
theorem d_Alg_span_12 : dec m_Alg_span 12 = .ok (.if_icmp .ge 12, 3) := by decide +kernel
theorem d_Alg_span_15 : dec m_Alg_span 15 = .ok (.iload_n 2, 1) := by decide +kernel
theorem d_Alg_span_16 : dec m_Alg_span 16 = .ok (.ifCond .lt 8, 3) := by decide +kernel
theorem d_Alg_span_19 : dec m_Alg_span 19 = .ok (.iload_n 2, 1) := by decide +kernel
theorem d_Alg_span_20 : dec m_Alg_span 20 = .ok (.iconst 2, 1) := by decide +kernel
theorem d_Alg_span_21 : dec m_Alg_span 21 = .ok (.if_icmp .le 7, 3) := by decide +kernel
theorem d_Alg_span_24 : dec m_Alg_span 24 = .ok (.ldc2_w 194, 3) := by decide +kernel
theorem d_Alg_span_27 : dec m_Alg_span 27 = .ok (.lreturn, 1) := by decide +kernel
theorem d_Alg_span_28 : dec m_Alg_span 28 = .ok (.aload_n 0, 1) := by decide +kernel
theorem d_Alg_span_29 : dec m_Alg_span 29 = .ok (.getfield 48, 3) := by decide +kernel
theorem d_Alg_span_32 : dec m_Alg_span 32 = .ok (.iload_n 1, 1) := by decide +kernel
theorem d_Alg_span_33 : dec m_Alg_span 33 = .ok (.iload_n 2, 1) := by decide +kernel
theorem d_Alg_span_34 : dec m_Alg_span 34 = .ok (.invokevirtual 324, 3) := by decide +kernel
theorem d_Alg_span_37 : dec m_Alg_span 37 = .ok (.lreturn, 1) := by decide +kernel
theorem d_Alg_inSpan_0 : dec m_Alg_inSpan 0 = .ok (.iload_n 1, 1) := by decide +kernel
theorem d_Alg_inSpan_1 : dec m_Alg_inSpan 1 = .ok (.invokestatic 123, 3) := by decide +kernel
theorem d_Alg_inSpan_4 : dec m_Alg_inSpan 4 = .ok (.ifCond .eq 17, 3) := by decide +kernel
theorem d_Alg_inSpan_7 : dec m_Alg_inSpan 7 = .ok (.iload_n 2, 1) := by decide +kernel
theorem d_Alg_inSpan_8 : dec m_Alg_inSpan 8 = .ok (.invokestatic 123, 3) := by decide +kernel
theorem d_Alg_inSpan_11 : dec m_Alg_inSpan 11 = .ok (.ifCond .eq 10, 3) := by decide +kernel
theorem d_Alg_inSpan_14 : dec m_Alg_inSpan 14 = .ok (.iload_n 3, 1) := by decide +kernel
theorem d_Alg_inSpan_15 : dec m_Alg_inSpan 15 = .ok (.invokestatic 123, 3) := by decide +kernel
theorem d_Alg_inSpan_18 : dec m_Alg_inSpan 18 = .ok (.ifCond .ne 5, 3) := by decide +kernel
theorem d_Alg_inSpan_21 : dec m_Alg_inSpan 21 = .ok (.iconst (-1), 1) := by decide +kernel
theorem d_Alg_inSpan_22 : dec m_Alg_inSpan 22 = .ok (.ireturn, 1) := by decide +kernel
theorem d_Alg_inSpan_23 : dec m_Alg_inSpan 23 = .ok (.aload_n 0, 1) := by decide +kernel
theorem d_Alg_inSpan_24 : dec m_Alg_inSpan 24 = .ok (.invokevirtual 311, 3) := by decide +kernel
theorem d_Alg_inSpan_27 : dec m_Alg_inSpan 27 = .ok (.iload_n 1, 1) := by decide +kernel
theorem d_Alg_inSpan_28 : dec m_Alg_inSpan 28 = .ok (.iload_n 2, 1) := by decide +kernel
theorem d_Alg_inSpan_29 : dec m_Alg_inSpan 29 = .ok (.iload_n 3, 1) := by decide +kernel
theorem d_Alg_inSpan_30 : dec m_Alg_inSpan 30 = .ok (.invokevirtual 327, 3) := by decide +kernel
theorem d_Alg_inSpan_33 : dec m_Alg_inSpan 33 = .ok (.ifCond .eq 7, 3) := by decide +kernel
theorem d_Alg_inSpan_36 : dec m_Alg_inSpan 36 = .ok (.iconst 1, 1) := by decide +kernel
theorem d_Alg_inSpan_37 : dec m_Alg_inSpan 37 = .ok (.goto 4, 3) := by decide +kernel
theorem d_Alg_inSpan_40 : dec m_Alg_inSpan 40 = .ok (.iconst 0, 1) := by decide +kernel
theorem d_Alg_inSpan_41 : dec m_Alg_inSpan 41 = .ok (.ireturn, 1) := by decide +kernel
theorem d_Alg_index_0 : dec m_Alg_index 0 = .ok (.aload_n 0, 1) := by decide +kernel
theorem d_Alg_index_1 : dec m_Alg_index 1 = .ok (.invokevirtual 311, 3) := by decide +kernel
theorem d_Alg_index_4 : dec m_Alg_index 4 = .ok (.invokevirtual 330, 3) := by decide +kernel
theorem d_Alg_index_7 : dec m_Alg_index 7 = .ok (.lreturn, 1) := by decide +kernel
theorem d_Alg_relations_0 : dec m_Alg_relations 0 = .ok (.iload_n 1, 1) := by decide +kernel
theorem d_Alg_relations_1 : dec m_Alg_relations 1 = .ok (.invokestatic 333, 3) := by decide +kernel
theorem d_Alg_relations_4 : dec m_Alg_relations 4 = .ok (.ifCond .eq 14, 3) := by decide +kernel
theorem d_Alg_relations_7 : dec m_Alg_relations 7 = .ok (.aload_n 0, 1) := by decide +kernel
theorem d_Alg_relations_8 : dec m_Alg_relations 8 = .ok (.invokevirtual 336, 3) := by decide +kernel
theorem d_Alg_relations_11 : dec m_Alg_relations 11 = .ok (.iload_n 1, 1) := by decide +kernel
theorem d_Alg_relations_12 : dec m_Alg_relations 12 = .ok (.invokevirtual 340, 3) := by decide +kernel
theorem d_Alg_relations_15 : dec m_Alg_relations 15 = .ok (.goto 4, 3) := by decide +kernel
theorem d_Alg_relations_18 : dec m_Alg_relations 18 = .ok (.iconst (-1), 1) := by decide +kernel
theorem d_Alg_relations_19 : dec m_Alg_relations 19 = .ok (.ireturn, 1) := by decide +kernel
theorem d_Alg_relation_0 : dec m_Alg_relation 0 = .ok (.iload_n 1, 1) := by decide +kernel
theorem d_Alg_relation_1 : dec m_Alg_relation 1 = .ok (.invokestatic 333, 3) := by decide +kernel
theorem d_Alg_relation_4 : dec m_Alg_relation 4 = .ok (.ifCond .eq 21, 3) := by decide +kernel
theorem d_Alg_relation_7 : dec m_Alg_relation 7 = .ok (.iload_n 3, 1) := by decide +kernel
theorem d_Alg_relation_8 : dec m_Alg_relation 8 = .ok (.ifCond .lt 17, 3) := by decide +kernel
theorem d_Alg_relation_11 : dec m_Alg_relation 11 = .ok (.iload_n 3, 1) := by decide +kernel
theorem d_Alg_relation_12 : dec m_Alg_relation 12 = .ok (.iconst 1, 1) := by decide +kernel
theorem d_Alg_relation_13 : dec m_Alg_relation 13 = .ok (.if_icmp .gt 12, 3) := by decide +kernel
theorem d_Alg_relation_16 : dec m_Alg_relation 16 = .ok (.aload_n 0, 1) := by decide +kernel
theorem d_Alg_relation_17 : dec m_Alg_relation 17 = .ok (.iload 4, 2) := by decide +kernel
theorem d_Alg_relation_19 : dec m_Alg_relation 19 = .ok (.invokevirtual 248, 3) := by decide +kernel
theorem d_Alg_relation_22 : dec m_Alg_relation 22 = .ok (.ifCond .ne 5, 3) := by decide +kernel
theorem d_Alg_relation_25 : dec m_Alg_relation 25 = .ok (.iconst (-1), 1) := by decide +kernel
theorem d_Alg_relation_26 : dec m_Alg_relation 26 = .ok (.ireturn, 1) := by decide +kernel
theorem d_Alg_relation_27 : dec m_Alg_relation 27 = .ok (.aload_n 0, 1) := by decide +kernel
theorem d_Alg_relation_28 : dec m_Alg_relation 28 = .ok (.iload_n 1, 1) := by decide +kernel
theorem d_Alg_relation_29 : dec m_Alg_relation 29 = .ok (.iload_n 2, 1) := by decide +kernel
theorem d_Alg_relation_30 : dec m_Alg_relation 30 = .ok (.invokevirtual 343, 3) := by decide +kernel
theorem d_Alg_relation_33 : dec m_Alg_relation 33 = .ok (.ifCond .ne 6, 3) := by decide +kernel
theorem d_Alg_relation_36 : dec m_Alg_relation 36 = .ok (.bipush (-2), 2) := by decide +kernel
theorem d_Alg_relation_38 : dec m_Alg_relation 38 = .ok (.ireturn, 1) := by decide +kernel
theorem d_Alg_relation_39 : dec m_Alg_relation 39 = .ok (.iload_n 3, 1) := by decide +kernel
theorem d_Alg_relation_40 : dec m_Alg_relation 40 = .ok (.ifCond .ne 15, 3) := by decide +kernel
theorem d_Alg_relation_43 : dec m_Alg_relation 43 = .ok (.aload_n 0, 1) := by decide +kernel
theorem d_Alg_relation_44 : dec m_Alg_relation 44 = .ok (.getfield 41, 3) := by decide +kernel
theorem d_Alg_relation_47 : dec m_Alg_relation 47 = .ok (.getfield 347, 3) := by decide +kernel
theorem d_Alg_relation_50 : dec m_Alg_relation 50 = .ok (.iload_n 2, 1) := by decide +kernel
theorem d_Alg_relation_51 : dec m_Alg_relation 51 = .ok (.iaload, 1) := by decide +kernel
theorem d_Alg_relation_52 : dec m_Alg_relation 52 = .ok (.goto 12, 3) := by decide +kernel
theorem d_Alg_relation_55 : dec m_Alg_relation 55 = .ok (.aload_n 0, 1) := by decide +kernel
theorem d_Alg_relation_56 : dec m_Alg_relation 56 = .ok (.getfield 41, 3) := by decide +kernel
theorem d_Alg_relation_59 : dec m_Alg_relation 59 = .ok (.getfield 350, 3) := by decide +kernel
theorem d_Alg_relation_62 : dec m_Alg_relation 62 = .ok (.iload_n 2, 1) := by decide +kernel
theorem d_Alg_relation_63 : dec m_Alg_relation 63 = .ok (.iaload, 1) := by decide +kernel
theorem d_Alg_relation_64 : dec m_Alg_relation 64 = .ok (.iload 4, 2) := by decide +kernel
theorem d_Alg_relation_66 : dec m_Alg_relation 66 = .ok (.invokestatic 281, 3) := by decide +kernel
theorem d_Alg_relation_69 : dec m_Alg_relation 69 = .ok (.ireturn, 1) := by decide +kernel
theorem d_Alg_part_0 : dec m_Alg_part 0 = .ok (.iload_n 1, 1) := by decide +kernel
theorem d_Alg_part_1 : dec m_Alg_part 1 = .ok (.invokestatic 333, 3) := by decide +kernel
theorem d_Alg_part_4 : dec m_Alg_part 4 = .ok (.ifCond .eq 27, 3) := by decide +kernel
theorem d_Alg_part_7 : dec m_Alg_part 7 = .ok (.aload_n 0, 1) := by decide +kernel
theorem d_Alg_part_8 : dec m_Alg_part 8 = .ok (.iload_n 1, 1) := by decide +kernel
theorem d_Alg_part_9 : dec m_Alg_part 9 = .ok (.iload_n 2, 1) := by decide +kernel
theorem d_Alg_part_10 : dec m_Alg_part 10 = .ok (.invokevirtual 343, 3) := by decide +kernel
theorem d_Alg_part_13 : dec m_Alg_part 13 = .ok (.ifCond .eq 18, 3) := by decide +kernel
theorem d_Alg_part_16 : dec m_Alg_part 16 = .ok (.iload_n 3, 1) := by decide +kernel
theorem d_Alg_part_17 : dec m_Alg_part 17 = .ok (.ifCond .lt 14, 3) := by decide +kernel
theorem d_Alg_part_20 : dec m_Alg_part 20 = .ok (.iload_n 3, 1) := by decide +kernel
theorem d_Alg_part_21 : dec m_Alg_part 21 = .ok (.aload_n 0, 1) := by decide +kernel
theorem d_Alg_part_22 : dec m_Alg_part 22 = .ok (.invokevirtual 311, 3) := by decide +kernel
theorem d_Alg_part_25 : dec m_Alg_part 25 = .ok (.invokevirtual 315, 3) := by decide +kernel
theorem d_Alg_part_28 : dec m_Alg_part 28 = .ok (.if_icmp .lt 7, 3) := by decide +kernel
theorem d_Alg_part_31 : dec m_Alg_part 31 = .ok (.ldc2_w 194, 3) := by decide +kernel
theorem d_Alg_part_34 : dec m_Alg_part 34 = .ok (.lreturn, 1) := by decide +kernel
theorem d_Alg_part_35 : dec m_Alg_part 35 = .ok (.aload_n 0, 1) := by decide +kernel
theorem d_Alg_part_36 : dec m_Alg_part 36 = .ok (.getfield 48, 3) := by decide +kernel
theorem d_Alg_part_39 : dec m_Alg_part 39 = .ok (.aload_n 0, 1) := by decide +kernel
theorem d_Alg_part_40 : dec m_Alg_part 40 = .ok (.getfield 41, 3) := by decide +kernel
theorem d_Alg_part_43 : dec m_Alg_part 43 = .ok (.getfield 347, 3) := by decide +kernel
theorem d_Alg_part_46 : dec m_Alg_part 46 = .ok (.iload_n 2, 1) := by decide +kernel
theorem d_Alg_part_47 : dec m_Alg_part 47 = .ok (.iaload, 1) := by decide +kernel
theorem d_Alg_part_48 : dec m_Alg_part 48 = .ok (.aload_n 0, 1) := by decide +kernel
theorem d_Alg_part_49 : dec m_Alg_part 49 = .ok (.getfield 41, 3) := by decide +kernel
theorem d_Alg_part_52 : dec m_Alg_part 52 = .ok (.getfield 350, 3) := by decide +kernel
theorem d_Alg_part_55 : dec m_Alg_part 55 = .ok (.iload_n 2, 1) := by decide +kernel
theorem d_Alg_part_56 : dec m_Alg_part 56 = .ok (.iaload, 1) := by decide +kernel
theorem d_Alg_part_57 : dec m_Alg_part 57 = .ok (.iload_n 3, 1) := by decide +kernel
theorem d_Alg_part_58 : dec m_Alg_part 58 = .ok (.invokevirtual 353, 3) := by decide +kernel
theorem d_Alg_part_61 : dec m_Alg_part 61 = .ok (.lreturn, 1) := by decide +kernel
theorem d_Alg_difference_0 : dec m_Alg_difference 0 = .ok (.iload_n 1, 1) := by decide +kernel
theorem d_Alg_difference_1 : dec m_Alg_difference 1 = .ok (.invokestatic 333, 3) := by decide +kernel
theorem d_Alg_difference_4 : dec m_Alg_difference 4 = .ok (.ifCond .eq 10, 3) := by decide +kernel
theorem d_Alg_difference_7 : dec m_Alg_difference 7 = .ok (.iload_n 3, 1) := by decide +kernel
theorem d_Alg_difference_8 : dec m_Alg_difference 8 = .ok (.invokestatic 119, 3) := by decide +kernel
theorem d_Alg_difference_11 : dec m_Alg_difference 11 = .ok (.ifCond .ne 5, 3) := by decide +kernel
theorem d_Alg_difference_14 : dec m_Alg_difference 14 = .ok (.iconst (-1), 1) := by decide +kernel
theorem d_Alg_difference_15 : dec m_Alg_difference 15 = .ok (.ireturn, 1) := by decide +kernel
theorem d_Alg_difference_16 : dec m_Alg_difference 16 = .ok (.aload_n 0, 1) := by decide +kernel
theorem d_Alg_difference_17 : dec m_Alg_difference 17 = .ok (.iload_n 1, 1) := by decide +kernel
theorem d_Alg_difference_18 : dec m_Alg_difference 18 = .ok (.iload_n 2, 1) := by decide +kernel
theorem d_Alg_difference_19 : dec m_Alg_difference 19 = .ok (.invokevirtual 343, 3) := by decide +kernel
theorem d_Alg_difference_22 : dec m_Alg_difference 22 = .ok (.ifCond .ne 6, 3) := by decide +kernel
theorem d_Alg_difference_25 : dec m_Alg_difference 25 = .ok (.bipush (-2), 2) := by decide +kernel
theorem d_Alg_difference_27 : dec m_Alg_difference 27 = .ok (.ireturn, 1) := by decide +kernel
theorem d_Alg_difference_28 : dec m_Alg_difference 28 = .ok (.aload_n 0, 1) := by decide +kernel
theorem d_Alg_difference_29 : dec m_Alg_difference 29 = .ok (.aload_n 0, 1) := by decide +kernel
theorem d_Alg_difference_30 : dec m_Alg_difference 30 = .ok (.getfield 41, 3) := by decide +kernel
theorem d_Alg_difference_33 : dec m_Alg_difference 33 = .ok (.getfield 347, 3) := by decide +kernel
theorem d_Alg_difference_36 : dec m_Alg_difference 36 = .ok (.iload_n 2, 1) := by decide +kernel
theorem d_Alg_difference_37 : dec m_Alg_difference 37 = .ok (.iaload, 1) := by decide +kernel
theorem d_Alg_difference_38 : dec m_Alg_difference 38 = .ok (.aload_n 0, 1) := by decide +kernel
theorem d_Alg_difference_39 : dec m_Alg_difference 39 = .ok (.getfield 41, 3) := by decide +kernel
theorem d_Alg_difference_42 : dec m_Alg_difference 42 = .ok (.getfield 350, 3) := by decide +kernel
theorem d_Alg_difference_45 : dec m_Alg_difference 45 = .ok (.iload_n 2, 1) := by decide +kernel
theorem d_Alg_difference_46 : dec m_Alg_difference 46 = .ok (.iaload, 1) := by decide +kernel
theorem d_Alg_difference_47 : dec m_Alg_difference 47 = .ok (.invokevirtual 357, 3) := by decide +kernel
theorem d_Alg_difference_50 : dec m_Alg_difference 50 = .ok (.ifCond .eq 11, 3) := by decide +kernel
theorem d_Alg_difference_53 : dec m_Alg_difference 53 = .ok (.aload_n 0, 1) := by decide +kernel
theorem d_Alg_difference_54 : dec m_Alg_difference 54 = .ok (.iload_n 3, 1) := by decide +kernel
theorem d_Alg_difference_55 : dec m_Alg_difference 55 = .ok (.invokevirtual 178, 3) := by decide +kernel
theorem d_Alg_difference_58 : dec m_Alg_difference 58 = .ok (.goto 5, 3) := by decide +kernel
theorem d_Alg_difference_61 : dec m_Alg_difference 61 = .ok (.bipush (-5), 2) := by decide +kernel
theorem d_Alg_difference_63 : dec m_Alg_difference 63 = .ok (.ireturn, 1) := by decide +kernel
theorem d_Alg_open_0 : dec m_Alg_open 0 = .ok (.iload_n 1, 1) := by decide +kernel
theorem d_Alg_open_1 : dec m_Alg_open 1 = .ok (.invokestatic 333, 3) := by decide +kernel
theorem d_Alg_open_4 : dec m_Alg_open 4 = .ok (.ifCond .ne 5, 3) := by decide +kernel
theorem d_Alg_open_7 : dec m_Alg_open 7 = .ok (.iconst (-1), 1) := by decide +kernel
theorem d_Alg_open_8 : dec m_Alg_open 8 = .ok (.ireturn, 1) := by decide +kernel
theorem d_Alg_open_9 : dec m_Alg_open 9 = .ok (.aload_n 0, 1) := by decide +kernel
theorem d_Alg_open_10 : dec m_Alg_open 10 = .ok (.invokevirtual 336, 3) := by decide +kernel
theorem d_Alg_open_13 : dec m_Alg_open 13 = .ok (.iload_n 1, 1) := by decide +kernel
theorem d_Alg_open_14 : dec m_Alg_open 14 = .ok (.invokevirtual 340, 3) := by decide +kernel
theorem d_Alg_open_17 : dec m_Alg_open 17 = .ok (.istore_n 2, 1) := by decide +kernel
theorem d_Alg_open_18 : dec m_Alg_open 18 = .ok (.iconst 0, 1) := by decide +kernel
theorem d_Alg_open_19 : dec m_Alg_open 19 = .ok (.istore_n 3, 1) := by decide +kernel
theorem d_Alg_open_20 : dec m_Alg_open 20 = .ok (.iload_n 3, 1) := by decide +kernel
theorem d_Alg_open_21 : dec m_Alg_open 21 = .ok (.iload_n 2, 1) := by decide +kernel
theorem d_Alg_open_22 : dec m_Alg_open 22 = .ok (.if_icmp .ge 60, 3) := by decide +kernel
theorem d_Alg_open_25 : dec m_Alg_open 25 = .ok (.aload_n 0, 1) := by decide +kernel
theorem d_Alg_open_26 : dec m_Alg_open 26 = .ok (.aload_n 0, 1) := by decide +kernel
theorem d_Alg_open_27 : dec m_Alg_open 27 = .ok (.getfield 41, 3) := by decide +kernel
theorem d_Alg_open_30 : dec m_Alg_open 30 = .ok (.getfield 347, 3) := by decide +kernel
theorem d_Alg_open_33 : dec m_Alg_open 33 = .ok (.iload_n 3, 1) := by decide +kernel
theorem d_Alg_open_34 : dec m_Alg_open 34 = .ok (.iaload, 1) := by decide +kernel
theorem d_Alg_open_35 : dec m_Alg_open 35 = .ok (.aload_n 0, 1) := by decide +kernel
theorem d_Alg_open_36 : dec m_Alg_open 36 = .ok (.getfield 41, 3) := by decide +kernel
theorem d_Alg_open_39 : dec m_Alg_open 39 = .ok (.getfield 350, 3) := by decide +kernel
theorem d_Alg_open_42 : dec m_Alg_open 42 = .ok (.iload_n 3, 1) := by decide +kernel
theorem d_Alg_open_43 : dec m_Alg_open 43 = .ok (.iaload, 1) := by decide +kernel
theorem d_Alg_open_44 : dec m_Alg_open 44 = .ok (.invokevirtual 357, 3) := by decide +kernel
theorem d_Alg_open_47 : dec m_Alg_open 47 = .ok (.ifCond .eq 14, 3) := by decide +kernel
theorem d_Alg_open_50 : dec m_Alg_open 50 = .ok (.aload_n 0, 1) := by decide +kernel
theorem d_Alg_open_51 : dec m_Alg_open 51 = .ok (.aload_n 0, 1) := by decide +kernel
theorem d_Alg_open_52 : dec m_Alg_open 52 = .ok (.getfield 79, 3) := by decide +kernel
theorem d_Alg_open_55 : dec m_Alg_open 55 = .ok (.invokevirtual 360, 3) := by decide +kernel
theorem d_Alg_open_58 : dec m_Alg_open 58 = .ok (.ifCond .ne 6, 3) := by decide +kernel
theorem d_Alg_open_61 : dec m_Alg_open 61 = .ok (.bipush (-5), 2) := by decide +kernel
theorem d_Alg_open_63 : dec m_Alg_open 63 = .ok (.ireturn, 1) := by decide +kernel
theorem d_Alg_open_64 : dec m_Alg_open 64 = .ok (.aload_n 0, 1) := by decide +kernel
theorem d_Alg_open_65 : dec m_Alg_open 65 = .ok (.getfield 65, 3) := by decide +kernel
theorem d_Alg_open_68 : dec m_Alg_open 68 = .ok (.invokevirtual 363, 3) := by decide +kernel
theorem d_Alg_open_71 : dec m_Alg_open 71 = .ok (.ifCond .ne 5, 3) := by decide +kernel
theorem d_Alg_open_74 : dec m_Alg_open 74 = .ok (.iload_n 3, 1) := by decide +kernel
theorem d_Alg_open_75 : dec m_Alg_open 75 = .ok (.ireturn, 1) := by decide +kernel
theorem d_Alg_open_76 : dec m_Alg_open 76 = .ok (.iinc 3 1, 3) := by decide +kernel
theorem d_Alg_open_79 : dec m_Alg_open 79 = .ok (.goto (-59), 3) := by decide +kernel
theorem d_Alg_open_82 : dec m_Alg_open 82 = .ok (.bipush (-2), 2) := by decide +kernel
theorem d_Alg_open_84 : dec m_Alg_open 84 = .ok (.ireturn, 1) := by decide +kernel
theorem d_Alg_complete_0 : dec m_Alg_complete 0 = .ok (.iload_n 1, 1) := by decide +kernel
theorem d_Alg_complete_1 : dec m_Alg_complete 1 = .ok (.invokestatic 333, 3) := by decide +kernel
theorem d_Alg_complete_4 : dec m_Alg_complete 4 = .ok (.ifCond .eq 11, 3) := by decide +kernel
theorem d_Alg_complete_7 : dec m_Alg_complete 7 = .ok (.aload_n 0, 1) := by decide +kernel
theorem d_Alg_complete_8 : dec m_Alg_complete 8 = .ok (.iload_n 1, 1) := by decide +kernel
theorem d_Alg_complete_9 : dec m_Alg_complete 9 = .ok (.invokevirtual 366, 3) := by decide +kernel
theorem d_Alg_complete_12 : dec m_Alg_complete 12 = .ok (.goto 4, 3) := by decide +kernel
theorem d_Alg_complete_15 : dec m_Alg_complete 15 = .ok (.iconst (-1), 1) := by decide +kernel
theorem d_Alg_complete_16 : dec m_Alg_complete 16 = .ok (.ireturn, 1) := by decide +kernel
theorem d_Alg_wouldGrow_0 : dec m_Alg_wouldGrow 0 = .ok (.iload_n 1, 1) := by decide +kernel
theorem d_Alg_wouldGrow_1 : dec m_Alg_wouldGrow 1 = .ok (.invokestatic 333, 3) := by decide +kernel
theorem d_Alg_wouldGrow_4 : dec m_Alg_wouldGrow 4 = .ok (.ifCond .eq 12, 3) := by decide +kernel
theorem d_Alg_wouldGrow_7 : dec m_Alg_wouldGrow 7 = .ok (.iload_n 2, 1) := by decide +kernel
theorem d_Alg_wouldGrow_8 : dec m_Alg_wouldGrow 8 = .ok (.ifCond .lt 8, 3) := by decide +kernel
theorem d_Alg_wouldGrow_11 : dec m_Alg_wouldGrow 11 = .ok (.iload_n 2, 1) := by decide +kernel
theorem d_Alg_wouldGrow_12 : dec m_Alg_wouldGrow 12 = .ok (.iconst 2, 1) := by decide +kernel
theorem d_Alg_wouldGrow_13 : dec m_Alg_wouldGrow 13 = .ok (.if_icmp .le 5, 3) := by decide +kernel
theorem d_Alg_wouldGrow_16 : dec m_Alg_wouldGrow 16 = .ok (.iconst (-1), 1) := by decide +kernel
theorem d_Alg_wouldGrow_17 : dec m_Alg_wouldGrow 17 = .ok (.ireturn, 1) := by decide +kernel
theorem d_Alg_wouldGrow_18 : dec m_Alg_wouldGrow 18 = .ok (.aload_n 0, 1) := by decide +kernel
theorem d_Alg_wouldGrow_19 : dec m_Alg_wouldGrow 19 = .ok (.getfield 27, 3) := by decide +kernel
theorem d_Alg_wouldGrow_22 : dec m_Alg_wouldGrow 22 = .ok (.getfield 109, 3) := by decide +kernel
theorem d_Alg_wouldGrow_25 : dec m_Alg_wouldGrow 25 = .ok (.istore_n 3, 1) := by decide +kernel
theorem d_Alg_wouldGrow_26 : dec m_Alg_wouldGrow 26 = .ok (.aload_n 0, 1) := by decide +kernel
theorem d_Alg_wouldGrow_27 : dec m_Alg_wouldGrow 27 = .ok (.iload_n 1, 1) := by decide +kernel
theorem d_Alg_wouldGrow_28 : dec m_Alg_wouldGrow 28 = .ok (.invokevirtual 366, 3) := by decide +kernel
theorem d_Alg_wouldGrow_31 : dec m_Alg_wouldGrow 31 = .ok (.istore 4, 2) := by decide +kernel
theorem d_Alg_wouldGrow_33 : dec m_Alg_wouldGrow 33 = .ok (.aload_n 0, 1) := by decide +kernel
theorem d_Alg_wouldGrow_34 : dec m_Alg_wouldGrow 34 = .ok (.getfield 27, 3) := by decide +kernel
theorem d_Alg_wouldGrow_37 : dec m_Alg_wouldGrow 37 = .ok (.getfield 109, 3) := by decide +kernel
theorem d_Alg_wouldGrow_40 : dec m_Alg_wouldGrow 40 = .ok (.istore 5, 2) := by decide +kernel
theorem d_Alg_wouldGrow_42 : dec m_Alg_wouldGrow 42 = .ok (.iload 5, 2) := by decide +kernel
theorem d_Alg_wouldGrow_44 : dec m_Alg_wouldGrow 44 = .ok (.iload_n 3, 1) := by decide +kernel
theorem d_Alg_wouldGrow_45 : dec m_Alg_wouldGrow 45 = .ok (.if_icmp .eq 15, 3) := by decide +kernel
theorem d_Alg_wouldGrow_48 : dec m_Alg_wouldGrow 48 = .ok (.aload_n 0, 1) := by decide +kernel
theorem d_Alg_wouldGrow_49 : dec m_Alg_wouldGrow 49 = .ok (.getfield 27, 3) := by decide +kernel
theorem d_Alg_wouldGrow_52 : dec m_Alg_wouldGrow 52 = .ok (.iload_n 3, 1) := by decide +kernel
theorem d_Alg_wouldGrow_53 : dec m_Alg_wouldGrow 53 = .ok (.putfield 109, 3) := by decide +kernel
theorem d_Alg_wouldGrow_56 : dec m_Alg_wouldGrow 56 = .ok (.aload_n 0, 1) := by decide +kernel
theorem d_Alg_wouldGrow_57 : dec m_Alg_wouldGrow 57 = .ok (.invokevirtual 245, 3) := by decide +kernel
theorem d_Alg_wouldGrow_60 : dec m_Alg_wouldGrow 60 = .ok (.iload_n 2, 1) := by decide +kernel
theorem d_Alg_wouldGrow_61 : dec m_Alg_wouldGrow 61 = .ok (.ifCond .ne 8, 3) := by decide +kernel
theorem d_Alg_wouldGrow_64 : dec m_Alg_wouldGrow 64 = .ok (.iload 5, 2) := by decide +kernel
theorem d_Alg_wouldGrow_66 : dec m_Alg_wouldGrow 66 = .ok (.goto 17, 3) := by decide +kernel
theorem d_Alg_wouldGrow_69 : dec m_Alg_wouldGrow 69 = .ok (.iload_n 2, 1) := by decide +kernel
theorem d_Alg_wouldGrow_70 : dec m_Alg_wouldGrow 70 = .ok (.iconst 1, 1) := by decide +kernel
theorem d_Alg_wouldGrow_71 : dec m_Alg_wouldGrow 71 = .ok (.if_icmp .ne 8, 3) := by decide +kernel
theorem d_Alg_wouldGrow_74 : dec m_Alg_wouldGrow 74 = .ok (.iload 4, 2) := by decide +kernel
theorem d_Alg_wouldGrow_76 : dec m_Alg_wouldGrow 76 = .ok (.goto 7, 3) := by decide +kernel
theorem d_Alg_wouldGrow_79 : dec m_Alg_wouldGrow 79 = .ok (.aload_n 0, 1) := by decide +kernel
theorem d_Alg_wouldGrow_80 : dec m_Alg_wouldGrow 80 = .ok (.getfield 100, 3) := by decide +kernel
theorem d_Alg_wouldGrow_83 : dec m_Alg_wouldGrow 83 = .ok (.ireturn, 1) := by decide +kernel
theorem d_Alg_certified_0 : dec m_Alg_certified 0 = .ok (.iload_n 1, 1) := by decide +kernel
theorem d_Alg_certified_1 : dec m_Alg_certified 1 = .ok (.invokestatic 333, 3) := by decide +kernel
theorem d_Alg_certified_4 : dec m_Alg_certified 4 = .ok (.ifCond .ne 5, 3) := by decide +kernel
theorem d_Alg_certified_7 : dec m_Alg_certified 7 = .ok (.iconst (-1), 1) := by decide +kernel
theorem d_Alg_certified_8 : dec m_Alg_certified 8 = .ok (.ireturn, 1) := by decide +kernel
theorem d_Alg_certified_9 : dec m_Alg_certified 9 = .ok (.aload_n 0, 1) := by decide +kernel
theorem d_Alg_certified_10 : dec m_Alg_certified 10 = .ok (.invokevirtual 311, 3) := by decide +kernel
theorem d_Alg_certified_13 : dec m_Alg_certified 13 = .ok (.invokevirtual 315, 3) := by decide +kernel
theorem d_Alg_certified_16 : dec m_Alg_certified 16 = .ok (.istore_n 2, 1) := by decide +kernel
theorem d_Alg_certified_17 : dec m_Alg_certified 17 = .ok (.iload_n 2, 1) := by decide +kernel
theorem d_Alg_certified_18 : dec m_Alg_certified 18 = .ok (.ifCond .ne 5, 3) := by decide +kernel
theorem d_Alg_certified_21 : dec m_Alg_certified 21 = .ok (.iconst 1, 1) := by decide +kernel
theorem d_Alg_certified_22 : dec m_Alg_certified 22 = .ok (.ireturn, 1) := by decide +kernel
theorem d_Alg_certified_23 : dec m_Alg_certified 23 = .ok (.iload_n 2, 1) := by decide +kernel
theorem d_Alg_certified_24 : dec m_Alg_certified 24 = .ok (.iconst 1, 1) := by decide +kernel
theorem d_Alg_certified_25 : dec m_Alg_certified 25 = .ok (.if_icmp .le 5, 3) := by decide +kernel
theorem d_Alg_certified_28 : dec m_Alg_certified 28 = .ok (.iconst 0, 1) := by decide +kernel
theorem d_Alg_certified_29 : dec m_Alg_certified 29 = .ok (.ireturn, 1) := by decide +kernel
theorem d_Alg_certified_30 : dec m_Alg_certified 30 = .ok (.aload_n 0, 1) := by decide +kernel
theorem d_Alg_certified_31 : dec m_Alg_certified 31 = .ok (.getfield 48, 3) := by decide +kernel
theorem d_Alg_certified_34 : dec m_Alg_certified 34 = .ok (.aload_n 0, 1) := by decide +kernel
theorem d_Alg_certified_35 : dec m_Alg_certified 35 = .ok (.getfield 27, 3) := by decide +kernel
theorem d_Alg_certified_38 : dec m_Alg_certified 38 = .ok (.invokevirtual 369, 3) := by decide +kernel
theorem d_Alg_certified_41 : dec m_Alg_certified 41 = .ok (.iload_n 1, 1) := by decide +kernel
theorem d_Alg_certified_42 : dec m_Alg_certified 42 = .ok (.i2l, 1) := by decide +kernel
theorem d_Alg_certified_43 : dec m_Alg_certified 43 = .ok (.lcmp, 1) := by decide +kernel
theorem d_Alg_certified_44 : dec m_Alg_certified 44 = .ok (.ifCond .le 5, 3) := by decide +kernel
theorem d_Alg_certified_47 : dec m_Alg_certified 47 = .ok (.iconst 0, 1) := by decide +kernel
theorem d_Alg_certified_48 : dec m_Alg_certified 48 = .ok (.ireturn, 1) := by decide +kernel
theorem d_Alg_certified_49 : dec m_Alg_certified 49 = .ok (.aload_n 0, 1) := by decide +kernel
theorem d_Alg_certified_50 : dec m_Alg_certified 50 = .ok (.aload_n 0, 1) := by decide +kernel
theorem d_Alg_certified_51 : dec m_Alg_certified 51 = .ok (.getfield 48, 3) := by decide +kernel
theorem d_Alg_certified_54 : dec m_Alg_certified 54 = .ok (.iconst 1, 1) := by decide +kernel
theorem d_Alg_certified_55 : dec m_Alg_certified 55 = .ok (.invokevirtual 373, 3) := by decide +kernel
theorem d_Alg_certified_58 : dec m_Alg_certified 58 = .ok (.aload_n 0, 1) := by decide +kernel
theorem d_Alg_certified_59 : dec m_Alg_certified 59 = .ok (.getfield 48, 3) := by decide +kernel
theorem d_Alg_certified_62 : dec m_Alg_certified 62 = .ok (.iconst (-1), 1) := by decide +kernel
theorem d_Alg_certified_63 : dec m_Alg_certified 63 = .ok (.invokevirtual 373, 3) := by decide +kernel
theorem d_Alg_certified_66 : dec m_Alg_certified 66 = .ok (.invokevirtual 357, 3) := by decide +kernel
theorem d_Alg_certified_69 : dec m_Alg_certified 69 = .ok (.ifCond .eq 14, 3) := by decide +kernel
theorem d_Alg_certified_72 : dec m_Alg_certified 72 = .ok (.aload_n 0, 1) := by decide +kernel
theorem d_Alg_certified_73 : dec m_Alg_certified 73 = .ok (.aload_n 0, 1) := by decide +kernel
theorem d_Alg_certified_74 : dec m_Alg_certified 74 = .ok (.getfield 79, 3) := by decide +kernel
theorem d_Alg_certified_77 : dec m_Alg_certified 77 = .ok (.invokevirtual 360, 3) := by decide +kernel
theorem d_Alg_certified_80 : dec m_Alg_certified 80 = .ok (.ifCond .ne 6, 3) := by decide +kernel
theorem d_Alg_certified_83 : dec m_Alg_certified 83 = .ok (.bipush (-5), 2) := by decide +kernel
theorem d_Alg_certified_85 : dec m_Alg_certified 85 = .ok (.ireturn, 1) := by decide +kernel
theorem d_Alg_certified_86 : dec m_Alg_certified 86 = .ok (.aload_n 0, 1) := by decide +kernel
theorem d_Alg_certified_87 : dec m_Alg_certified 87 = .ok (.getfield 65, 3) := by decide +kernel
theorem d_Alg_certified_90 : dec m_Alg_certified 90 = .ok (.invokevirtual 363, 3) := by decide +kernel
theorem d_Alg_certified_93 : dec m_Alg_certified 93 = .ok (.ifCond .eq 7, 3) := by decide +kernel
theorem d_Alg_certified_96 : dec m_Alg_certified 96 = .ok (.iconst 1, 1) := by decide +kernel
theorem d_Alg_certified_97 : dec m_Alg_certified 97 = .ok (.goto 4, 3) := by decide +kernel
theorem d_Alg_certified_100 : dec m_Alg_certified 100 = .ok (.iconst 0, 1) := by decide +kernel
theorem d_Alg_certified_101 : dec m_Alg_certified 101 = .ok (.ireturn, 1) := by decide +kernel
theorem d_Alg_subduct_0 : dec m_Alg_subduct 0 = .ok (.iload_n 1, 1) := by decide +kernel
theorem d_Alg_subduct_1 : dec m_Alg_subduct 1 = .ok (.invokestatic 119, 3) := by decide +kernel
theorem d_Alg_subduct_4 : dec m_Alg_subduct 4 = .ok (.ifCond .ne 5, 3) := by decide +kernel
theorem d_Alg_subduct_7 : dec m_Alg_subduct 7 = .ok (.iconst (-1), 1) := by decide +kernel
theorem d_Alg_subduct_8 : dec m_Alg_subduct 8 = .ok (.ireturn, 1) := by decide +kernel
theorem d_Alg_subduct_9 : dec m_Alg_subduct 9 = .ok (.aload_n 0, 1) := by decide +kernel
theorem d_Alg_subduct_10 : dec m_Alg_subduct 10 = .ok (.getfield 65, 3) := by decide +kernel
theorem d_Alg_subduct_13 : dec m_Alg_subduct 13 = .ok (.aload_n 0, 1) := by decide +kernel
theorem d_Alg_subduct_14 : dec m_Alg_subduct 14 = .ok (.getfield 13, 3) := by decide +kernel
theorem d_Alg_subduct_17 : dec m_Alg_subduct 17 = .ok (.iload_n 1, 1) := by decide +kernel
theorem d_Alg_subduct_18 : dec m_Alg_subduct 18 = .ok (.aaload, 1) := by decide +kernel
theorem d_Alg_subduct_19 : dec m_Alg_subduct 19 = .ok (.invokevirtual 170, 3) := by decide +kernel
theorem d_Alg_subduct_22 : dec m_Alg_subduct 22 = .ok (.aload_n 0, 1) := by decide +kernel
theorem d_Alg_subduct_23 : dec m_Alg_subduct 23 = .ok (.aload_n 0, 1) := by decide +kernel
theorem d_Alg_subduct_24 : dec m_Alg_subduct 24 = .ok (.getfield 79, 3) := by decide +kernel
theorem d_Alg_subduct_27 : dec m_Alg_subduct 27 = .ok (.invokevirtual 360, 3) := by decide +kernel
theorem d_Alg_subduct_30 : dec m_Alg_subduct 30 = .ok (.ifCond .ne 6, 3) := by decide +kernel
theorem d_Alg_subduct_33 : dec m_Alg_subduct 33 = .ok (.bipush (-5), 2) := by decide +kernel
theorem d_Alg_subduct_35 : dec m_Alg_subduct 35 = .ok (.ireturn, 1) := by decide +kernel
theorem d_Alg_subduct_36 : dec m_Alg_subduct 36 = .ok (.aload_n 0, 1) := by decide +kernel
theorem d_Alg_subduct_37 : dec m_Alg_subduct 37 = .ok (.getfield 13, 3) := by decide +kernel
theorem d_Alg_subduct_40 : dec m_Alg_subduct 40 = .ok (.iload_n 1, 1) := by decide +kernel
theorem d_Alg_subduct_41 : dec m_Alg_subduct 41 = .ok (.aaload, 1) := by decide +kernel
theorem d_Alg_subduct_42 : dec m_Alg_subduct 42 = .ok (.aload_n 0, 1) := by decide +kernel
theorem d_Alg_subduct_43 : dec m_Alg_subduct 43 = .ok (.getfield 65, 3) := by decide +kernel
theorem d_Alg_subduct_46 : dec m_Alg_subduct 46 = .ok (.invokevirtual 170, 3) := by decide +kernel
theorem d_Alg_subduct_49 : dec m_Alg_subduct 49 = .ok (.aload_n 0, 1) := by decide +kernel
theorem d_Alg_subduct_50 : dec m_Alg_subduct 50 = .ok (.getfield 79, 3) := by decide +kernel
theorem d_Alg_subduct_53 : dec m_Alg_subduct 53 = .ok (.astore_n 2, 1) := by decide +kernel
theorem d_Alg_subduct_54 : dec m_Alg_subduct 54 = .ok (.aload_n 0, 1) := by decide +kernel
theorem d_Alg_subduct_55 : dec m_Alg_subduct 55 = .ok (.aload_n 0, 1) := by decide +kernel
theorem d_Alg_subduct_56 : dec m_Alg_subduct 56 = .ok (.getfield 75, 3) := by decide +kernel
theorem d_Alg_subduct_59 : dec m_Alg_subduct 59 = .ok (.putfield 79, 3) := by decide +kernel
theorem d_Alg_subduct_62 : dec m_Alg_subduct 62 = .ok (.aload_n 0, 1) := by decide +kernel
theorem d_Alg_subduct_63 : dec m_Alg_subduct 63 = .ok (.aload_n 2, 1) := by decide +kernel
theorem d_Alg_subduct_64 : dec m_Alg_subduct 64 = .ok (.putfield 75, 3) := by decide +kernel
theorem d_Alg_subduct_67 : dec m_Alg_subduct 67 = .ok (.aload_n 0, 1) := by decide +kernel
theorem d_Alg_subduct_68 : dec m_Alg_subduct 68 = .ok (.iconst 1, 1) := by decide +kernel
theorem d_Alg_subduct_69 : dec m_Alg_subduct 69 = .ok (.putfield 86, 3) := by decide +kernel
theorem d_Alg_subduct_72 : dec m_Alg_subduct 72 = .ok (.aload_n 2, 1) := by decide +kernel
theorem d_Alg_subduct_73 : dec m_Alg_subduct 73 = .ok (.getfield 294, 3) := by decide +kernel
theorem d_Alg_subduct_76 : dec m_Alg_subduct 76 = .ok (.ireturn, 1) := by decide +kernel
theorem d_Alg_member_0 : dec m_Alg_member 0 = .ok (.iload_n 1, 1) := by decide +kernel
theorem d_Alg_member_1 : dec m_Alg_member 1 = .ok (.invokestatic 119, 3) := by decide +kernel
theorem d_Alg_member_4 : dec m_Alg_member 4 = .ok (.ifCond .ne 5, 3) := by decide +kernel
theorem d_Alg_member_7 : dec m_Alg_member 7 = .ok (.iconst (-1), 1) := by decide +kernel
theorem d_Alg_member_8 : dec m_Alg_member 8 = .ok (.ireturn, 1) := by decide +kernel
theorem d_Alg_member_9 : dec m_Alg_member 9 = .ok (.aload_n 0, 1) := by decide +kernel
theorem d_Alg_member_10 : dec m_Alg_member 10 = .ok (.getfield 65, 3) := by decide +kernel
theorem d_Alg_member_13 : dec m_Alg_member 13 = .ok (.aload_n 0, 1) := by decide +kernel
theorem d_Alg_member_14 : dec m_Alg_member 14 = .ok (.getfield 13, 3) := by decide +kernel
theorem d_Alg_member_17 : dec m_Alg_member 17 = .ok (.iload_n 1, 1) := by decide +kernel
theorem d_Alg_member_18 : dec m_Alg_member 18 = .ok (.aaload, 1) := by decide +kernel
theorem d_Alg_member_19 : dec m_Alg_member 19 = .ok (.invokevirtual 170, 3) := by decide +kernel
theorem d_Alg_member_22 : dec m_Alg_member 22 = .ok (.aload_n 0, 1) := by decide +kernel
theorem d_Alg_member_23 : dec m_Alg_member 23 = .ok (.aload_n 0, 1) := by decide +kernel
theorem d_Alg_member_24 : dec m_Alg_member 24 = .ok (.getfield 79, 3) := by decide +kernel
theorem d_Alg_member_27 : dec m_Alg_member 27 = .ok (.invokevirtual 360, 3) := by decide +kernel
theorem d_Alg_member_30 : dec m_Alg_member 30 = .ok (.ifCond .ne 6, 3) := by decide +kernel
theorem d_Alg_member_33 : dec m_Alg_member 33 = .ok (.bipush (-5), 2) := by decide +kernel
theorem d_Alg_member_35 : dec m_Alg_member 35 = .ok (.ireturn, 1) := by decide +kernel
theorem d_Alg_member_36 : dec m_Alg_member 36 = .ok (.aload_n 0, 1) := by decide +kernel
theorem d_Alg_member_37 : dec m_Alg_member 37 = .ok (.getfield 65, 3) := by decide +kernel
theorem d_Alg_member_40 : dec m_Alg_member 40 = .ok (.invokevirtual 363, 3) := by decide +kernel
theorem d_Alg_member_43 : dec m_Alg_member 43 = .ok (.ifCond .eq 7, 3) := by decide +kernel
theorem d_Alg_member_46 : dec m_Alg_member 46 = .ok (.iconst 1, 1) := by decide +kernel
theorem d_Alg_member_47 : dec m_Alg_member 47 = .ok (.goto 4, 3) := by decide +kernel
theorem d_Alg_member_50 : dec m_Alg_member 50 = .ok (.iconst 0, 1) := by decide +kernel
theorem d_Alg_member_51 : dec m_Alg_member 51 = .ok (.ireturn, 1) := by decide +kernel
theorem d_Alg_step_0 : dec m_Alg_step 0 = .ok (.iload_n 2, 1) := by decide +kernel
theorem d_Alg_step_1 : dec m_Alg_step 1 = .ok (.invokestatic 269, 3) := by decide +kernel
theorem d_Alg_step_4 : dec m_Alg_step 4 = .ok (.ifCond .eq 25, 3) := by decide +kernel
theorem d_Alg_step_7 : dec m_Alg_step 7 = .ok (.aload_n 0, 1) := by decide +kernel
theorem d_Alg_step_8 : dec m_Alg_step 8 = .ok (.getfield 86, 3) := by decide +kernel
theorem d_Alg_step_11 : dec m_Alg_step 11 = .ok (.ifCond .eq 18, 3) := by decide +kernel
theorem d_Alg_step_14 : dec m_Alg_step 14 = .ok (.iload_n 1, 1) := by decide +kernel
theorem d_Alg_step_15 : dec m_Alg_step 15 = .ok (.ifCond .lt 14, 3) := by decide +kernel
theorem d_Alg_step_18 : dec m_Alg_step 18 = .ok (.iload_n 1, 1) := by decide +kernel
theorem d_Alg_step_19 : dec m_Alg_step 19 = .ok (.aload_n 0, 1) := by decide +kernel
theorem d_Alg_step_20 : dec m_Alg_step 20 = .ok (.getfield 75, 3) := by decide +kernel
theorem d_Alg_step_23 : dec m_Alg_step 23 = .ok (.getfield 294, 3) := by decide +kernel
theorem d_Alg_step_26 : dec m_Alg_step 26 = .ok (.if_icmp .lt 7, 3) := by decide +kernel
theorem d_Alg_step_29 : dec m_Alg_step 29 = .ok (.ldc2_w 194, 3) := by decide +kernel
theorem d_Alg_step_32 : dec m_Alg_step 32 = .ok (.lreturn, 1) := by decide +kernel
theorem d_Alg_step_33 : dec m_Alg_step 33 = .ok (.iload_n 2, 1) := by decide +kernel
theorem d_Alg_step_34 : dec m_Alg_step 34 = .ok (.ifCond .ge 15, 3) := by decide +kernel
theorem d_Alg_step_37 : dec m_Alg_step 37 = .ok (.aload_n 0, 1) := by decide +kernel
theorem d_Alg_step_38 : dec m_Alg_step 38 = .ok (.getfield 75, 3) := by decide +kernel
theorem d_Alg_step_41 : dec m_Alg_step 41 = .ok (.getfield 376, 3) := by decide +kernel
theorem d_Alg_step_44 : dec m_Alg_step 44 = .ok (.iload_n 1, 1) := by decide +kernel
theorem d_Alg_step_45 : dec m_Alg_step 45 = .ok (.laload, 1) := by decide +kernel
theorem d_Alg_step_46 : dec m_Alg_step 46 = .ok (.goto 17, 3) := by decide +kernel
theorem d_Alg_step_49 : dec m_Alg_step 49 = .ok (.aload_n 0, 1) := by decide +kernel
theorem d_Alg_step_50 : dec m_Alg_step 50 = .ok (.getfield 75, 3) := by decide +kernel
theorem d_Alg_step_53 : dec m_Alg_step 53 = .ok (.getfield 379, 3) := by decide +kernel
theorem d_Alg_step_56 : dec m_Alg_step 56 = .ok (.iload_n 1, 1) := by decide +kernel
theorem d_Alg_step_57 : dec m_Alg_step 57 = .ok (.iaload, 1) := by decide +kernel
theorem d_Alg_step_58 : dec m_Alg_step 58 = .ok (.iload_n 2, 1) := by decide +kernel
theorem d_Alg_step_59 : dec m_Alg_step 59 = .ok (.invokestatic 281, 3) := by decide +kernel
theorem d_Alg_step_62 : dec m_Alg_step 62 = .ok (.i2l, 1) := by decide +kernel
theorem d_Alg_step_63 : dec m_Alg_step 63 = .ok (.lreturn, 1) := by decide +kernel
theorem d_Alg_witness_0 : dec m_Alg_witness 0 = .ok (.iload_n 1, 1) := by decide +kernel
theorem d_Alg_witness_1 : dec m_Alg_witness 1 = .ok (.invokestatic 119, 3) := by decide +kernel
theorem d_Alg_witness_4 : dec m_Alg_witness 4 = .ok (.ifCond .ne 5, 3) := by decide +kernel
theorem d_Alg_witness_7 : dec m_Alg_witness 7 = .ok (.iconst (-1), 1) := by decide +kernel
theorem d_Alg_witness_8 : dec m_Alg_witness 8 = .ok (.ireturn, 1) := by decide +kernel
theorem d_Alg_witness_9 : dec m_Alg_witness 9 = .ok (.aload_n 0, 1) := by decide +kernel
theorem d_Alg_witness_10 : dec m_Alg_witness 10 = .ok (.getfield 86, 3) := by decide +kernel
theorem d_Alg_witness_13 : dec m_Alg_witness 13 = .ok (.ifCond .ne 6, 3) := by decide +kernel
theorem d_Alg_witness_16 : dec m_Alg_witness 16 = .ok (.bipush (-2), 2) := by decide +kernel
theorem d_Alg_witness_18 : dec m_Alg_witness 18 = .ok (.ireturn, 1) := by decide +kernel
theorem d_Alg_witness_19 : dec m_Alg_witness 19 = .ok (.aload_n 0, 1) := by decide +kernel
theorem d_Alg_witness_20 : dec m_Alg_witness 20 = .ok (.aload_n 0, 1) := by decide +kernel
theorem d_Alg_witness_21 : dec m_Alg_witness 21 = .ok (.getfield 75, 3) := by decide +kernel
theorem d_Alg_witness_24 : dec m_Alg_witness 24 = .ok (.invokevirtual 304, 3) := by decide +kernel
theorem d_Alg_witness_27 : dec m_Alg_witness 27 = .ok (.ifCond .eq 11, 3) := by decide +kernel
theorem d_Alg_witness_30 : dec m_Alg_witness 30 = .ok (.aload_n 0, 1) := by decide +kernel
theorem d_Alg_witness_31 : dec m_Alg_witness 31 = .ok (.iload_n 1, 1) := by decide +kernel
theorem d_Alg_witness_32 : dec m_Alg_witness 32 = .ok (.invokevirtual 178, 3) := by decide +kernel
theorem d_Alg_witness_35 : dec m_Alg_witness 35 = .ok (.goto 5, 3) := by decide +kernel
theorem d_Alg_witness_38 : dec m_Alg_witness 38 = .ok (.bipush (-5), 2) := by decide +kernel
theorem d_Alg_witness_40 : dec m_Alg_witness 40 = .ok (.ireturn, 1) := by decide +kernel
theorem d_Alg_sheet_0 : dec m_Alg_sheet 0 = .ok (.iload_n 1, 1) := by decide +kernel
theorem d_Alg_sheet_1 : dec m_Alg_sheet 1 = .ok (.invokestatic 214, 3) := by decide +kernel
theorem d_Alg_sheet_4 : dec m_Alg_sheet 4 = .ok (.ifCond .eq 13, 3) := by decide +kernel
theorem d_Alg_sheet_7 : dec m_Alg_sheet 7 = .ok (.iload_n 2, 1) := by decide +kernel
theorem d_Alg_sheet_8 : dec m_Alg_sheet 8 = .ok (.iconst (-1), 1) := by decide +kernel
theorem d_Alg_sheet_9 : dec m_Alg_sheet 9 = .ok (.if_icmp .lt 8, 3) := by decide +kernel
theorem d_Alg_sheet_12 : dec m_Alg_sheet 12 = .ok (.iload_n 2, 1) := by decide +kernel
theorem d_Alg_sheet_13 : dec m_Alg_sheet 13 = .ok (.iconst 1, 1) := by decide +kernel
theorem d_Alg_sheet_14 : dec m_Alg_sheet 14 = .ok (.if_icmp .le 5, 3) := by decide +kernel
theorem d_Alg_sheet_17 : dec m_Alg_sheet 17 = .ok (.iconst (-1), 1) := by decide +kernel
theorem d_Alg_sheet_18 : dec m_Alg_sheet 18 = .ok (.ireturn, 1) := by decide +kernel
theorem d_Alg_sheet_19 : dec m_Alg_sheet 19 = .ok (.iload_n 2, 1) := by decide +kernel
theorem d_Alg_sheet_20 : dec m_Alg_sheet 20 = .ok (.iconst (-1), 1) := by decide +kernel
theorem d_Alg_sheet_21 : dec m_Alg_sheet 21 = .ok (.if_icmp .ne 16, 3) := by decide +kernel
theorem d_Alg_sheet_24 : dec m_Alg_sheet 24 = .ok (.aload_n 0, 1) := by decide +kernel
theorem d_Alg_sheet_25 : dec m_Alg_sheet 25 = .ok (.getfield 54, 3) := by decide +kernel
theorem d_Alg_sheet_28 : dec m_Alg_sheet 28 = .ok (.iload_n 1, 1) := by decide +kernel
theorem d_Alg_sheet_29 : dec m_Alg_sheet 29 = .ok (.aaload, 1) := by decide +kernel
theorem d_Alg_sheet_30 : dec m_Alg_sheet 30 = .ok (.iconst (-1), 1) := by decide +kernel
theorem d_Alg_sheet_31 : dec m_Alg_sheet 31 = .ok (.iconst 0, 1) := by decide +kernel
theorem d_Alg_sheet_32 : dec m_Alg_sheet 32 = .ok (.invokevirtual 382, 3) := by decide +kernel
theorem d_Alg_sheet_35 : dec m_Alg_sheet 35 = .ok (.iconst 1, 1) := by decide +kernel
theorem d_Alg_sheet_36 : dec m_Alg_sheet 36 = .ok (.ireturn, 1) := by decide +kernel
theorem d_Alg_sheet_37 : dec m_Alg_sheet 37 = .ok (.iload_n 3, 1) := by decide +kernel
theorem d_Alg_sheet_38 : dec m_Alg_sheet 38 = .ok (.bipush 40, 2) := by decide +kernel
theorem d_Alg_sheet_40 : dec m_Alg_sheet 40 = .ok (.if_icmp .le 5, 3) := by decide +kernel
theorem d_Alg_sheet_43 : dec m_Alg_sheet 43 = .ok (.iconst (-1), 1) := by decide +kernel
theorem d_Alg_sheet_44 : dec m_Alg_sheet 44 = .ok (.ireturn, 1) := by decide +kernel
theorem d_Alg_sheet_45 : dec m_Alg_sheet 45 = .ok (.iload_n 3, 1) := by decide +kernel
theorem d_Alg_sheet_46 : dec m_Alg_sheet 46 = .ok (.ifCond .ge 6, 3) := by decide +kernel
theorem d_Alg_sheet_49 : dec m_Alg_sheet 49 = .ok (.bipush (-14), 2) := by decide +kernel
theorem d_Alg_sheet_51 : dec m_Alg_sheet 51 = .ok (.ireturn, 1) := by decide +kernel
theorem d_Alg_sheet_52 : dec m_Alg_sheet 52 = .ok (.aload_n 0, 1) := by decide +kernel
theorem d_Alg_sheet_53 : dec m_Alg_sheet 53 = .ok (.getfield 54, 3) := by decide +kernel
theorem d_Alg_sheet_56 : dec m_Alg_sheet 56 = .ok (.iload_n 1, 1) := by decide +kernel
theorem d_Alg_sheet_57 : dec m_Alg_sheet 57 = .ok (.aaload, 1) := by decide +kernel
theorem d_Alg_sheet_58 : dec m_Alg_sheet 58 = .ok (.iload_n 2, 1) := by decide +kernel
theorem d_Alg_sheet_59 : dec m_Alg_sheet 59 = .ok (.iload_n 3, 1) := by decide +kernel
theorem d_Alg_sheet_60 : dec m_Alg_sheet 60 = .ok (.invokevirtual 382, 3) := by decide +kernel
theorem d_Alg_sheet_63 : dec m_Alg_sheet 63 = .ok (.iconst 1, 1) := by decide +kernel
theorem d_Alg_sheet_64 : dec m_Alg_sheet 64 = .ok (.ireturn, 1) := by decide +kernel
theorem d_Alg_cell_0 : dec m_Alg_cell 0 = .ok (.iload_n 1, 1) := by decide +kernel
theorem d_Alg_cell_1 : dec m_Alg_cell 1 = .ok (.invokestatic 214, 3) := by decide +kernel
theorem d_Alg_cell_4 : dec m_Alg_cell 4 = .ok (.ifCond .ne 5, 3) := by decide +kernel
theorem d_Alg_cell_7 : dec m_Alg_cell 7 = .ok (.iconst (-1), 1) := by decide +kernel
theorem d_Alg_cell_8 : dec m_Alg_cell 8 = .ok (.ireturn, 1) := by decide +kernel
theorem d_Alg_cell_9 : dec m_Alg_cell 9 = .ok (.aload_n 0, 1) := by decide +kernel
theorem d_Alg_cell_10 : dec m_Alg_cell 10 = .ok (.getfield 54, 3) := by decide +kernel
theorem d_Alg_cell_13 : dec m_Alg_cell 13 = .ok (.iload_n 1, 1) := by decide +kernel
theorem d_Alg_cell_14 : dec m_Alg_cell 14 = .ok (.aaload, 1) := by decide +kernel
theorem d_Alg_cell_15 : dec m_Alg_cell 15 = .ok (.invokevirtual 217, 3) := by decide +kernel
theorem d_Alg_cell_18 : dec m_Alg_cell 18 = .ok (.ifCond .eq 6, 3) := by decide +kernel
theorem d_Alg_cell_21 : dec m_Alg_cell 21 = .ok (.bipush (-11), 2) := by decide +kernel
theorem d_Alg_cell_23 : dec m_Alg_cell 23 = .ok (.ireturn, 1) := by decide +kernel
theorem d_Alg_cell_24 : dec m_Alg_cell 24 = .ok (.iload_n 2, 1) := by decide +kernel
theorem d_Alg_cell_25 : dec m_Alg_cell 25 = .ok (.ifCond .lt 16, 3) := by decide +kernel
theorem d_Alg_cell_28 : dec m_Alg_cell 28 = .ok (.iload_n 2, 1) := by decide +kernel
theorem d_Alg_cell_29 : dec m_Alg_cell 29 = .ok (.aload_n 0, 1) := by decide +kernel
theorem d_Alg_cell_30 : dec m_Alg_cell 30 = .ok (.getfield 54, 3) := by decide +kernel
theorem d_Alg_cell_33 : dec m_Alg_cell 33 = .ok (.iload_n 1, 1) := by decide +kernel
theorem d_Alg_cell_34 : dec m_Alg_cell 34 = .ok (.aaload, 1) := by decide +kernel
theorem d_Alg_cell_35 : dec m_Alg_cell 35 = .ok (.getfield 225, 3) := by decide +kernel
theorem d_Alg_cell_38 : dec m_Alg_cell 38 = .ok (.if_icmp .lt 6, 3) := by decide +kernel
theorem d_Alg_cell_41 : dec m_Alg_cell 41 = .ok (.bipush (-12), 2) := by decide +kernel
theorem d_Alg_cell_43 : dec m_Alg_cell 43 = .ok (.ireturn, 1) := by decide +kernel
theorem d_Alg_cell_44 : dec m_Alg_cell 44 = .ok (.aload_n 0, 1) := by decide +kernel
theorem d_Alg_cell_45 : dec m_Alg_cell 45 = .ok (.getfield 54, 3) := by decide +kernel
theorem d_Alg_cell_48 : dec m_Alg_cell 48 = .ok (.iload_n 1, 1) := by decide +kernel
theorem d_Alg_cell_49 : dec m_Alg_cell 49 = .ok (.aaload, 1) := by decide +kernel
theorem d_Alg_cell_50 : dec m_Alg_cell 50 = .ok (.iload_n 2, 1) := by decide +kernel
theorem d_Alg_cell_51 : dec m_Alg_cell 51 = .ok (.iload_n 3, 1) := by decide +kernel
theorem d_Alg_cell_52 : dec m_Alg_cell 52 = .ok (.i2l, 1) := by decide +kernel
theorem d_Alg_cell_53 : dec m_Alg_cell 53 = .ok (.invokevirtual 229, 3) := by decide +kernel
theorem d_Alg_cell_56 : dec m_Alg_cell 56 = .ok (.iconst 1, 1) := by decide +kernel
theorem d_Alg_cell_57 : dec m_Alg_cell 57 = .ok (.ireturn, 1) := by decide +kernel
theorem d_Alg_item_0 : dec m_Alg_item 0 = .ok (.iload_n 1, 1) := by decide +kernel
theorem d_Alg_item_1 : dec m_Alg_item 1 = .ok (.invokestatic 214, 3) := by decide +kernel
theorem d_Alg_item_4 : dec m_Alg_item 4 = .ok (.ifCond .eq 32, 3) := by decide +kernel
theorem d_Alg_item_7 : dec m_Alg_item 7 = .ok (.aload_n 0, 1) := by decide +kernel
theorem d_Alg_item_8 : dec m_Alg_item 8 = .ok (.getfield 54, 3) := by decide +kernel
theorem d_Alg_item_11 : dec m_Alg_item 11 = .ok (.iload_n 1, 1) := by decide +kernel
theorem d_Alg_item_12 : dec m_Alg_item 12 = .ok (.aaload, 1) := by decide +kernel
theorem d_Alg_item_13 : dec m_Alg_item 13 = .ok (.invokevirtual 217, 3) := by decide +kernel
theorem d_Alg_item_16 : dec m_Alg_item 16 = .ok (.ifCond .ne 20, 3) := by decide +kernel
theorem d_Alg_item_19 : dec m_Alg_item 19 = .ok (.iload_n 2, 1) := by decide +kernel
theorem d_Alg_item_20 : dec m_Alg_item 20 = .ok (.ifCond .lt 16, 3) := by decide +kernel
theorem d_Alg_item_23 : dec m_Alg_item 23 = .ok (.iload_n 2, 1) := by decide +kernel
theorem d_Alg_item_24 : dec m_Alg_item 24 = .ok (.aload_n 0, 1) := by decide +kernel
theorem d_Alg_item_25 : dec m_Alg_item 25 = .ok (.getfield 54, 3) := by decide +kernel
theorem d_Alg_item_28 : dec m_Alg_item 28 = .ok (.iload_n 1, 1) := by decide +kernel
theorem d_Alg_item_29 : dec m_Alg_item 29 = .ok (.aaload, 1) := by decide +kernel
theorem d_Alg_item_30 : dec m_Alg_item 30 = .ok (.getfield 225, 3) := by decide +kernel
theorem d_Alg_item_33 : dec m_Alg_item 33 = .ok (.if_icmp .lt 7, 3) := by decide +kernel
theorem d_Alg_item_36 : dec m_Alg_item 36 = .ok (.ldc2_w 194, 3) := by decide +kernel
theorem d_Alg_item_39 : dec m_Alg_item 39 = .ok (.lreturn, 1) := by decide +kernel
theorem d_Alg_item_40 : dec m_Alg_item 40 = .ok (.aload_n 0, 1) := by decide +kernel
theorem d_Alg_item_41 : dec m_Alg_item 41 = .ok (.getfield 54, 3) := by decide +kernel
theorem d_Alg_item_44 : dec m_Alg_item 44 = .ok (.iload_n 1, 1) := by decide +kernel
theorem d_Alg_item_45 : dec m_Alg_item 45 = .ok (.aaload, 1) := by decide +kernel
theorem d_Alg_item_46 : dec m_Alg_item 46 = .ok (.getfield 385, 3) := by decide +kernel
theorem d_Alg_item_49 : dec m_Alg_item 49 = .ok (.iload_n 2, 1) := by decide +kernel
theorem d_Alg_item_50 : dec m_Alg_item 50 = .ok (.iaload, 1) := by decide +kernel
theorem d_Alg_item_51 : dec m_Alg_item 51 = .ok (.i2l, 1) := by decide +kernel
theorem d_Alg_item_52 : dec m_Alg_item 52 = .ok (.lreturn, 1) := by decide +kernel
theorem d_Alg_move_0 : dec m_Alg_move 0 = .ok (.iload_n 1, 1) := by decide +kernel
theorem d_Alg_move_1 : dec m_Alg_move 1 = .ok (.invokestatic 214, 3) := by decide +kernel
theorem d_Alg_move_4 : dec m_Alg_move 4 = .ok (.ifCond .eq 10, 3) := by decide +kernel
theorem d_Alg_move_7 : dec m_Alg_move 7 = .ok (.iload_n 3, 1) := by decide +kernel
theorem d_Alg_move_8 : dec m_Alg_move 8 = .ok (.invokestatic 214, 3) := by decide +kernel
theorem d_Alg_move_11 : dec m_Alg_move 11 = .ok (.ifCond .ne 5, 3) := by decide +kernel
theorem d_Alg_move_14 : dec m_Alg_move 14 = .ok (.iconst (-1), 1) := by decide +kernel
theorem d_Alg_move_15 : dec m_Alg_move 15 = .ok (.ireturn, 1) := by decide +kernel
theorem d_Alg_move_16 : dec m_Alg_move 16 = .ok (.aload_n 0, 1) := by decide +kernel
theorem d_Alg_move_17 : dec m_Alg_move 17 = .ok (.getfield 54, 3) := by decide +kernel
theorem d_Alg_move_20 : dec m_Alg_move 20 = .ok (.iload_n 1, 1) := by decide +kernel
theorem d_Alg_move_21 : dec m_Alg_move 21 = .ok (.aaload, 1) := by decide +kernel
theorem d_Alg_move_22 : dec m_Alg_move 22 = .ok (.astore 6, 2) := by decide +kernel
theorem d_Alg_move_24 : dec m_Alg_move 24 = .ok (.aload_n 0, 1) := by decide +kernel
theorem d_Alg_move_25 : dec m_Alg_move 25 = .ok (.getfield 54, 3) := by decide +kernel
theorem d_Alg_move_28 : dec m_Alg_move 28 = .ok (.iload_n 3, 1) := by decide +kernel
theorem d_Alg_move_29 : dec m_Alg_move 29 = .ok (.aaload, 1) := by decide +kernel
theorem d_Alg_move_30 : dec m_Alg_move 30 = .ok (.astore 7, 2) := by decide +kernel
theorem d_Alg_move_32 : dec m_Alg_move 32 = .ok (.aload 6, 2) := by decide +kernel
theorem d_Alg_move_34 : dec m_Alg_move 34 = .ok (.invokevirtual 217, 3) := by decide +kernel
theorem d_Alg_move_37 : dec m_Alg_move 37 = .ok (.ifCond .ne 11, 3) := by decide +kernel
theorem d_Alg_move_40 : dec m_Alg_move 40 = .ok (.aload 7, 2) := by decide +kernel
theorem d_Alg_move_42 : dec m_Alg_move 42 = .ok (.invokevirtual 217, 3) := by decide +kernel
theorem d_Alg_move_45 : dec m_Alg_move 45 = .ok (.ifCond .eq 6, 3) := by decide +kernel
theorem d_Alg_move_48 : dec m_Alg_move 48 = .ok (.bipush (-11), 2) := by decide +kernel
theorem d_Alg_move_50 : dec m_Alg_move 50 = .ok (.ireturn, 1) := by decide +kernel
theorem d_Alg_move_51 : dec m_Alg_move 51 = .ok (.aload 6, 2) := by decide +kernel
theorem d_Alg_move_53 : dec m_Alg_move 53 = .ok (.getfield 388, 3) := by decide +kernel
theorem d_Alg_move_56 : dec m_Alg_move 56 = .ok (.aload 7, 2) := by decide +kernel
theorem d_Alg_move_58 : dec m_Alg_move 58 = .ok (.getfield 388, 3) := by decide +kernel
theorem d_Alg_move_61 : dec m_Alg_move 61 = .ok (.if_icmp .eq 6, 3) := by decide +kernel
theorem d_Alg_move_64 : dec m_Alg_move 64 = .ok (.bipush (-13), 2) := by decide +kernel
theorem d_Alg_move_66 : dec m_Alg_move 66 = .ok (.ireturn, 1) := by decide +kernel
theorem d_Alg_move_67 : dec m_Alg_move 67 = .ok (.aload 6, 2) := by decide +kernel
theorem d_Alg_move_69 : dec m_Alg_move 69 = .ok (.iload_n 2, 1) := by decide +kernel
theorem d_Alg_move_70 : dec m_Alg_move 70 = .ok (.iload 5, 2) := by decide +kernel
theorem d_Alg_move_72 : dec m_Alg_move 72 = .ok (.invokevirtual 391, 3) := by decide +kernel
theorem d_Alg_move_75 : dec m_Alg_move 75 = .ok (.ifCond .eq 15, 3) := by decide +kernel
theorem d_Alg_move_78 : dec m_Alg_move 78 = .ok (.aload 7, 2) := by decide +kernel
theorem d_Alg_move_80 : dec m_Alg_move 80 = .ok (.iload 4, 2) := by decide +kernel
theorem d_Alg_move_82 : dec m_Alg_move 82 = .ok (.iload 5, 2) := by decide +kernel
theorem d_Alg_move_84 : dec m_Alg_move 84 = .ok (.invokevirtual 391, 3) := by decide +kernel
theorem d_Alg_move_87 : dec m_Alg_move 87 = .ok (.ifCond .ne 6, 3) := by decide +kernel
theorem d_Alg_move_90 : dec m_Alg_move 90 = .ok (.bipush (-12), 2) := by decide +kernel
theorem d_Alg_move_92 : dec m_Alg_move 92 = .ok (.ireturn, 1) := by decide +kernel
theorem d_Alg_move_93 : dec m_Alg_move 93 = .ok (.aload 6, 2) := by decide +kernel
theorem d_Alg_move_95 : dec m_Alg_move 95 = .ok (.getfield 385, 3) := by decide +kernel
theorem d_Alg_move_98 : dec m_Alg_move 98 = .ok (.iload_n 2, 1) := by decide +kernel
theorem d_Alg_move_99 : dec m_Alg_move 99 = .ok (.aload 7, 2) := by decide +kernel
theorem d_Alg_move_101 : dec m_Alg_move 101 = .ok (.getfield 385, 3) := by decide +kernel
theorem d_Alg_move_104 : dec m_Alg_move 104 = .ok (.iload 4, 2) := by decide +kernel
theorem d_Alg_move_106 : dec m_Alg_move 106 = .ok (.iload 5, 2) := by decide +kernel
theorem d_Alg_move_108 : dec m_Alg_move 108 = .ok (.invokestatic 394, 3) := by decide +kernel
theorem d_Alg_move_111 : dec m_Alg_move 111 = .ok (.iload 5, 2) := by decide +kernel
theorem d_Alg_move_113 : dec m_Alg_move 113 = .ok (.ireturn, 1) := by decide +kernel
theorem d_Alg_link_0 : dec m_Alg_link 0 = .ok (.iload_n 1, 1) := by decide +kernel
theorem d_Alg_link_1 : dec m_Alg_link 1 = .ok (.iload_n 2, 1) := by decide +kernel
theorem d_Alg_link_2 : dec m_Alg_link 2 = .ok (.invokestatic 400, 3) := by decide +kernel
theorem d_Alg_link_5 : dec m_Alg_link 5 = .ok (.ifCond .ne 5, 3) := by decide +kernel
theorem d_Alg_link_8 : dec m_Alg_link 8 = .ok (.iconst (-1), 1) := by decide +kernel
theorem d_Alg_link_9 : dec m_Alg_link 9 = .ok (.ireturn, 1) := by decide +kernel
theorem d_Alg_link_10 : dec m_Alg_link 10 = .ok (.aload_n 0, 1) := by decide +kernel
theorem d_Alg_link_11 : dec m_Alg_link 11 = .ok (.getfield 96, 3) := by decide +kernel
theorem d_Alg_link_14 : dec m_Alg_link 14 = .ok (.bipush 8, 2) := by decide +kernel
theorem d_Alg_link_16 : dec m_Alg_link 16 = .ok (.if_icmp .lt 6, 3) := by decide +kernel
theorem d_Alg_link_19 : dec m_Alg_link 19 = .ok (.bipush (-4), 2) := by decide +kernel
theorem d_Alg_link_21 : dec m_Alg_link 21 = .ok (.ireturn, 1) := by decide +kernel
theorem d_Alg_link_22 : dec m_Alg_link 22 = .ok (.aload_n 0, 1) := by decide +kernel
theorem d_Alg_link_23 : dec m_Alg_link 23 = .ok (.getfield 60, 3) := by decide +kernel
theorem d_Alg_link_26 : dec m_Alg_link 26 = .ok (.aload_n 0, 1) := by decide +kernel
theorem d_Alg_link_27 : dec m_Alg_link 27 = .ok (.getfield 96, 3) := by decide +kernel
theorem d_Alg_link_30 : dec m_Alg_link 30 = .ok (.aaload, 1) := by decide +kernel
theorem d_Alg_link_31 : dec m_Alg_link 31 = .ok (.astore_n 3, 1) := by decide +kernel
theorem d_Alg_link_32 : dec m_Alg_link 32 = .ok (.aload_n 3, 1) := by decide +kernel
theorem d_Alg_link_33 : dec m_Alg_link 33 = .ok (.iload_n 1, 1) := by decide +kernel
theorem d_Alg_link_34 : dec m_Alg_link 34 = .ok (.putfield 403, 3) := by decide +kernel
theorem d_Alg_link_37 : dec m_Alg_link 37 = .ok (.aload_n 3, 1) := by decide +kernel
theorem d_Alg_link_38 : dec m_Alg_link 38 = .ok (.iload_n 2, 1) := by decide +kernel
theorem d_Alg_link_39 : dec m_Alg_link 39 = .ok (.putfield 406, 3) := by decide +kernel
theorem d_Alg_link_42 : dec m_Alg_link 42 = .ok (.iload_n 1, 1) := by decide +kernel
theorem d_Alg_link_43 : dec m_Alg_link 43 = .ok (.iconst 2, 1) := by decide +kernel
theorem d_Alg_link_44 : dec m_Alg_link 44 = .ok (.if_icmp .eq 8, 3) := by decide +kernel
theorem d_Alg_link_47 : dec m_Alg_link 47 = .ok (.iload_n 1, 1) := by decide +kernel
theorem d_Alg_link_48 : dec m_Alg_link 48 = .ok (.iconst 5, 1) := by decide +kernel
theorem d_Alg_link_49 : dec m_Alg_link 49 = .ok (.if_icmp .ne 16, 3) := by decide +kernel
theorem d_Alg_link_52 : dec m_Alg_link 52 = .ok (.aload_n 3, 1) := by decide +kernel
theorem d_Alg_link_53 : dec m_Alg_link 53 = .ok (.getfield 409, 3) := by decide +kernel
theorem d_Alg_link_56 : dec m_Alg_link 56 = .ok (.aload_n 0, 1) := by decide +kernel
theorem d_Alg_link_57 : dec m_Alg_link 57 = .ok (.getfield 13, 3) := by decide +kernel
theorem d_Alg_link_60 : dec m_Alg_link 60 = .ok (.iload_n 2, 1) := by decide +kernel
theorem d_Alg_link_61 : dec m_Alg_link 61 = .ok (.aaload, 1) := by decide +kernel
theorem d_Alg_link_62 : dec m_Alg_link 62 = .ok (.invokevirtual 170, 3) := by decide +kernel
theorem d_Alg_link_65 : dec m_Alg_link 65 = .ok (.aload_n 0, 1) := by decide +kernel
theorem d_Alg_link_66 : dec m_Alg_link 66 = .ok (.dup, 1) := by decide +kernel
theorem d_Alg_link_67 : dec m_Alg_link 67 = .ok (.getfield 96, 3) := by decide +kernel
theorem d_Alg_link_70 : dec m_Alg_link 70 = .ok (.iconst 1, 1) := by decide +kernel
theorem d_Alg_link_71 : dec m_Alg_link 71 = .ok (.iadd, 1) := by decide +kernel
theorem d_Alg_link_72 : dec m_Alg_link 72 = .ok (.putfield 96, 3) := by decide +kernel
theorem d_Alg_link_75 : dec m_Alg_link 75 = .ok (.aload_n 0, 1) := by decide +kernel
theorem d_Alg_link_76 : dec m_Alg_link 76 = .ok (.getfield 96, 3) := by decide +kernel
theorem d_Alg_link_79 : dec m_Alg_link 79 = .ok (.ireturn, 1) := by decide +kernel
theorem d_Alg_run_0 : dec m_Alg_run 0 = .ok (.iload_n 1, 1) := by decide +kernel
theorem d_Alg_run_1 : dec m_Alg_run 1 = .ok (.invokestatic 119, 3) := by decide +kernel
theorem d_Alg_run_4 : dec m_Alg_run 4 = .ok (.ifCond .eq 12, 3) := by decide +kernel
theorem d_Alg_run_7 : dec m_Alg_run 7 = .ok (.iload_n 2, 1) := by decide +kernel
theorem d_Alg_run_8 : dec m_Alg_run 8 = .ok (.ifCond .lt 8, 3) := by decide +kernel
theorem d_Alg_run_11 : dec m_Alg_run 11 = .ok (.iload_n 2, 1) := by decide +kernel
theorem d_Alg_run_12 : dec m_Alg_run 12 = .ok (.iconst 1, 1) := by decide +kernel
theorem d_Alg_run_13 : dec m_Alg_run 13 = .ok (.if_icmp .le 5, 3) := by decide +kernel
theorem d_Alg_run_16 : dec m_Alg_run 16 = .ok (.iconst (-1), 1) := by decide +kernel
theorem d_Alg_run_17 : dec m_Alg_run 17 = .ok (.ireturn, 1) := by decide +kernel
theorem d_Alg_run_18 : dec m_Alg_run 18 = .ok (.aload_n 0, 1) := by decide +kernel
theorem d_Alg_run_19 : dec m_Alg_run 19 = .ok (.getfield 65, 3) := by decide +kernel
theorem d_Alg_run_22 : dec m_Alg_run 22 = .ok (.aload_n 0, 1) := by decide +kernel
theorem d_Alg_run_23 : dec m_Alg_run 23 = .ok (.getfield 13, 3) := by decide +kernel
theorem d_Alg_run_26 : dec m_Alg_run 26 = .ok (.iload_n 1, 1) := by decide +kernel
theorem d_Alg_run_27 : dec m_Alg_run 27 = .ok (.aaload, 1) := by decide +kernel
theorem d_Alg_run_28 : dec m_Alg_run 28 = .ok (.invokevirtual 170, 3) := by decide +kernel
theorem d_Alg_run_31 : dec m_Alg_run 31 = .ok (.iconst 0, 1) := by decide +kernel
theorem d_Alg_run_32 : dec m_Alg_run 32 = .ok (.istore_n 3, 1) := by decide +kernel
theorem d_Alg_run_33 : dec m_Alg_run 33 = .ok (.iload_n 3, 1) := by decide +kernel
theorem d_Alg_run_34 : dec m_Alg_run 34 = .ok (.aload_n 0, 1) := by decide +kernel
theorem d_Alg_run_35 : dec m_Alg_run 35 = .ok (.getfield 96, 3) := by decide +kernel
theorem d_Alg_run_38 : dec m_Alg_run 38 = .ok (.if_icmp .ge 44, 3) := by decide +kernel
theorem d_Alg_run_41 : dec m_Alg_run 41 = .ok (.aload_n 0, 1) := by decide +kernel
theorem d_Alg_run_42 : dec m_Alg_run 42 = .ok (.aload_n 0, 1) := by decide +kernel
theorem d_Alg_run_43 : dec m_Alg_run 43 = .ok (.getfield 60, 3) := by decide +kernel
theorem d_Alg_run_46 : dec m_Alg_run 46 = .ok (.iload_n 2, 1) := by decide +kernel
theorem d_Alg_run_47 : dec m_Alg_run 47 = .ok (.ifCond .ne 7, 3) := by decide +kernel
theorem d_Alg_run_50 : dec m_Alg_run 50 = .ok (.iload_n 3, 1) := by decide +kernel
theorem d_Alg_run_51 : dec m_Alg_run 51 = .ok (.goto 11, 3) := by decide +kernel
theorem d_Alg_run_54 : dec m_Alg_run 54 = .ok (.aload_n 0, 1) := by decide +kernel
theorem d_Alg_run_55 : dec m_Alg_run 55 = .ok (.getfield 96, 3) := by decide +kernel
theorem d_Alg_run_58 : dec m_Alg_run 58 = .ok (.iconst 1, 1) := by decide +kernel
theorem d_Alg_run_59 : dec m_Alg_run 59 = .ok (.isub, 1) := by decide +kernel
theorem d_Alg_run_60 : dec m_Alg_run 60 = .ok (.iload_n 3, 1) := by decide +kernel
theorem d_Alg_run_61 : dec m_Alg_run 61 = .ok (.isub, 1) := by decide +kernel
theorem d_Alg_run_62 : dec m_Alg_run 62 = .ok (.aaload, 1) := by decide +kernel
theorem d_Alg_run_63 : dec m_Alg_run 63 = .ok (.invokevirtual 412, 3) := by decide +kernel
theorem d_Alg_run_66 : dec m_Alg_run 66 = .ok (.istore 4, 2) := by decide +kernel
theorem d_Alg_run_68 : dec m_Alg_run 68 = .ok (.iload 4, 2) := by decide +kernel
theorem d_Alg_run_70 : dec m_Alg_run 70 = .ok (.ifCond .eq 6, 3) := by decide +kernel
theorem d_Alg_run_73 : dec m_Alg_run 73 = .ok (.iload 4, 2) := by decide +kernel
theorem d_Alg_run_75 : dec m_Alg_run 75 = .ok (.ireturn, 1) := by decide +kernel
theorem d_Alg_run_76 : dec m_Alg_run 76 = .ok (.iinc 3 1, 3) := by decide +kernel
theorem d_Alg_run_79 : dec m_Alg_run 79 = .ok (.goto (-46), 3) := by decide +kernel
theorem d_Alg_run_82 : dec m_Alg_run 82 = .ok (.aload_n 0, 1) := by decide +kernel
theorem d_Alg_run_83 : dec m_Alg_run 83 = .ok (.iload_n 1, 1) := by decide +kernel
theorem d_Alg_run_84 : dec m_Alg_run 84 = .ok (.invokevirtual 178, 3) := by decide +kernel
theorem d_Alg_run_87 : dec m_Alg_run 87 = .ok (.ireturn, 1) := by decide +kernel
theorem d_Alg_loosen_0 : dec m_Alg_loosen 0 = .ok (.aload_n 0, 1) := by decide +kernel
theorem d_Alg_loosen_1 : dec m_Alg_loosen 1 = .ok (.getfield 96, 3) := by decide +kernel
theorem d_Alg_loosen_4 : dec m_Alg_loosen 4 = .ok (.istore_n 1, 1) := by decide +kernel
theorem d_Alg_loosen_5 : dec m_Alg_loosen 5 = .ok (.aload_n 0, 1) := by decide +kernel
theorem d_Alg_loosen_6 : dec m_Alg_loosen 6 = .ok (.iconst 0, 1) := by decide +kernel
theorem d_Alg_loosen_7 : dec m_Alg_loosen 7 = .ok (.putfield 96, 3) := by decide +kernel
theorem d_Alg_loosen_10 : dec m_Alg_loosen 10 = .ok (.iload_n 1, 1) := by decide +kernel
theorem d_Alg_loosen_11 : dec m_Alg_loosen 11 = .ok (.ireturn, 1) := by decide +kernel
theorem d_Alg_keep_0 : dec m_Alg_keep 0 = .ok (.aload_n 0, 1) := by decide +kernel
theorem d_Alg_keep_1 : dec m_Alg_keep 1 = .ok (.getfield 82, 3) := by decide +kernel
theorem d_Alg_keep_4 : dec m_Alg_keep 4 = .ok (.ifnonnull 14, 3) := by decide +kernel
theorem d_Alg_keep_7 : dec m_Alg_keep 7 = .ok (.aload_n 0, 1) := by decide +kernel
theorem d_Alg_keep_8 : dec m_Alg_keep 8 = .ok (.new 416, 3) := by decide +kernel
theorem d_Alg_keep_11 : dec m_Alg_keep 11 = .ok (.dup, 1) := by decide +kernel
theorem d_Alg_keep_12 : dec m_Alg_keep 12 = .ok (.invokespecial 418, 3) := by decide +kernel
theorem d_Alg_keep_15 : dec m_Alg_keep 15 = .ok (.putfield 82, 3) := by decide +kernel
theorem d_Alg_keep_18 : dec m_Alg_keep 18 = .ok (.iconst 0, 1) := by decide +kernel
theorem d_Alg_keep_19 : dec m_Alg_keep 19 = .ok (.istore_n 1, 1) := by decide +kernel
theorem d_Alg_keep_20 : dec m_Alg_keep 20 = .ok (.iload_n 1, 1) := by decide +kernel
theorem d_Alg_keep_21 : dec m_Alg_keep 21 = .ok (.bipush 6, 2) := by decide +kernel
theorem d_Alg_keep_23 : dec m_Alg_keep 23 = .ok (.if_icmp .ge 27, 3) := by decide +kernel
theorem d_Alg_keep_26 : dec m_Alg_keep 26 = .ok (.aload_n 0, 1) := by decide +kernel
theorem d_Alg_keep_27 : dec m_Alg_keep 27 = .ok (.getfield 82, 3) := by decide +kernel
theorem d_Alg_keep_30 : dec m_Alg_keep 30 = .ok (.getfield 419, 3) := by decide +kernel
theorem d_Alg_keep_33 : dec m_Alg_keep 33 = .ok (.iload_n 1, 1) := by decide +kernel
theorem d_Alg_keep_34 : dec m_Alg_keep 34 = .ok (.aaload, 1) := by decide +kernel
theorem d_Alg_keep_35 : dec m_Alg_keep 35 = .ok (.aload_n 0, 1) := by decide +kernel
theorem d_Alg_keep_36 : dec m_Alg_keep 36 = .ok (.getfield 13, 3) := by decide +kernel
theorem d_Alg_keep_39 : dec m_Alg_keep 39 = .ok (.iload_n 1, 1) := by decide +kernel
theorem d_Alg_keep_40 : dec m_Alg_keep 40 = .ok (.aaload, 1) := by decide +kernel
theorem d_Alg_keep_41 : dec m_Alg_keep 41 = .ok (.invokevirtual 170, 3) := by decide +kernel
theorem d_Alg_keep_44 : dec m_Alg_keep 44 = .ok (.iinc 1 1, 3) := by decide +kernel
theorem d_Alg_keep_47 : dec m_Alg_keep 47 = .ok (.goto (-27), 3) := by decide +kernel
theorem d_Alg_keep_50 : dec m_Alg_keep 50 = .ok (.aload_n 0, 1) := by decide +kernel
theorem d_Alg_keep_51 : dec m_Alg_keep 51 = .ok (.getfield 82, 3) := by decide +kernel
theorem d_Alg_keep_54 : dec m_Alg_keep 54 = .ok (.aload_n 0, 1) := by decide +kernel
theorem d_Alg_keep_55 : dec m_Alg_keep 55 = .ok (.getfield 20, 3) := by decide +kernel
theorem d_Alg_keep_58 : dec m_Alg_keep 58 = .ok (.getfield 112, 3) := by decide +kernel
theorem d_Alg_keep_61 : dec m_Alg_keep 61 = .ok (.putfield 420, 3) := by decide +kernel
theorem d_Alg_keep_64 : dec m_Alg_keep 64 = .ok (.aload_n 0, 1) := by decide +kernel
theorem d_Alg_keep_65 : dec m_Alg_keep 65 = .ok (.getfield 82, 3) := by decide +kernel
theorem d_Alg_keep_68 : dec m_Alg_keep 68 = .ok (.getfield 423, 3) := by decide +kernel
theorem d_Alg_keep_71 : dec m_Alg_keep 71 = .ok (.aload_n 0, 1) := by decide +kernel
theorem d_Alg_keep_72 : dec m_Alg_keep 72 = .ok (.getfield 27, 3) := by decide +kernel
theorem d_Alg_keep_75 : dec m_Alg_keep 75 = .ok (.invokevirtual 424, 3) := by decide +kernel
theorem d_Alg_keep_78 : dec m_Alg_keep 78 = .ok (.aload_n 0, 1) := by decide +kernel
theorem d_Alg_keep_79 : dec m_Alg_keep 79 = .ok (.getfield 27, 3) := by decide +kernel
theorem d_Alg_keep_82 : dec m_Alg_keep 82 = .ok (.getfield 109, 3) := by decide +kernel
theorem d_Alg_keep_85 : dec m_Alg_keep 85 = .ok (.ireturn, 1) := by decide +kernel
theorem d_Alg_back_0 : dec m_Alg_back 0 = .ok (.aload_n 0, 1) := by decide +kernel
theorem d_Alg_back_1 : dec m_Alg_back 1 = .ok (.getfield 82, 3) := by decide +kernel
theorem d_Alg_back_4 : dec m_Alg_back 4 = .ok (.ifnonnull 6, 3) := by decide +kernel
theorem d_Alg_back_7 : dec m_Alg_back 7 = .ok (.bipush (-2), 2) := by decide +kernel
theorem d_Alg_back_9 : dec m_Alg_back 9 = .ok (.ireturn, 1) := by decide +kernel
theorem d_Alg_back_10 : dec m_Alg_back 10 = .ok (.iconst 0, 1) := by decide +kernel
theorem d_Alg_back_11 : dec m_Alg_back 11 = .ok (.istore_n 1, 1) := by decide +kernel
theorem d_Alg_back_12 : dec m_Alg_back 12 = .ok (.iload_n 1, 1) := by decide +kernel
theorem d_Alg_back_13 : dec m_Alg_back 13 = .ok (.bipush 6, 2) := by decide +kernel
theorem d_Alg_back_15 : dec m_Alg_back 15 = .ok (.if_icmp .ge 27, 3) := by decide +kernel
theorem d_Alg_back_18 : dec m_Alg_back 18 = .ok (.aload_n 0, 1) := by decide +kernel
theorem d_Alg_back_19 : dec m_Alg_back 19 = .ok (.getfield 13, 3) := by decide +kernel
theorem d_Alg_back_22 : dec m_Alg_back 22 = .ok (.iload_n 1, 1) := by decide +kernel
theorem d_Alg_back_23 : dec m_Alg_back 23 = .ok (.aaload, 1) := by decide +kernel
theorem d_Alg_back_24 : dec m_Alg_back 24 = .ok (.aload_n 0, 1) := by decide +kernel
theorem d_Alg_back_25 : dec m_Alg_back 25 = .ok (.getfield 82, 3) := by decide +kernel
theorem d_Alg_back_28 : dec m_Alg_back 28 = .ok (.getfield 419, 3) := by decide +kernel
theorem d_Alg_back_31 : dec m_Alg_back 31 = .ok (.iload_n 1, 1) := by decide +kernel
theorem d_Alg_back_32 : dec m_Alg_back 32 = .ok (.aaload, 1) := by decide +kernel
