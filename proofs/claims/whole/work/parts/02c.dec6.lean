theorem d_Mod_back_23 : dec m_Mod_back 23 = .ok (.aload_n 0, 1) := by decide +kernel
theorem d_Mod_back_24 : dec m_Mod_back 24 = .ok (.aload_n 0, 1) := by decide +kernel
theorem d_Mod_back_25 : dec m_Mod_back 25 = .ok (.getfield 466, 3) := by decide +kernel
theorem d_Mod_back_28 : dec m_Mod_back 28 = .ok (.putfield 133, 3) := by decide +kernel
theorem d_Mod_back_31 : dec m_Mod_back 31 = .ok (.aload_n 0, 1) := by decide +kernel
theorem d_Mod_back_32 : dec m_Mod_back 32 = .ok (.invokevirtual 130, 3) := by decide +kernel
theorem d_Mod_back_35 : dec m_Mod_back 35 = .ok (.iconst 0, 1) := by decide +kernel
theorem d_Mod_back_36 : dec m_Mod_back 36 = .ok (.istore_n 1, 1) := by decide +kernel
theorem d_Mod_back_37 : dec m_Mod_back 37 = .ok (.iload_n 1, 1) := by decide +kernel
theorem d_Mod_back_38 : dec m_Mod_back 38 = .ok (.bipush 7, 2) := by decide +kernel
theorem d_Mod_back_40 : dec m_Mod_back 40 = .ok (.if_icmp .ge 21, 3) := by decide +kernel
theorem d_Mod_back_43 : dec m_Mod_back 43 = .ok (.aload_n 0, 1) := by decide +kernel
theorem d_Mod_back_44 : dec m_Mod_back 44 = .ok (.getfield 40, 3) := by decide +kernel
theorem d_Mod_back_47 : dec m_Mod_back 47 = .ok (.iload_n 1, 1) := by decide +kernel
theorem d_Mod_back_48 : dec m_Mod_back 48 = .ok (.aload_n 0, 1) := by decide +kernel
theorem d_Mod_back_49 : dec m_Mod_back 49 = .ok (.getfield 49, 3) := by decide +kernel
theorem d_Mod_back_52 : dec m_Mod_back 52 = .ok (.iload_n 1, 1) := by decide +kernel
theorem d_Mod_back_53 : dec m_Mod_back 53 = .ok (.iaload, 1) := by decide +kernel
theorem d_Mod_back_54 : dec m_Mod_back 54 = .ok (.iastore, 1) := by decide +kernel
theorem d_Mod_back_55 : dec m_Mod_back 55 = .ok (.iinc 1 1, 3) := by decide +kernel
theorem d_Mod_back_58 : dec m_Mod_back 58 = .ok (.goto (-21), 3) := by decide +kernel
theorem d_Mod_back_61 : dec m_Mod_back 61 = .ok (.iconst 0, 1) := by decide +kernel
theorem d_Mod_back_62 : dec m_Mod_back 62 = .ok (.istore_n 1, 1) := by decide +kernel
theorem d_Mod_back_63 : dec m_Mod_back 63 = .ok (.iload_n 1, 1) := by decide +kernel
theorem d_Mod_back_64 : dec m_Mod_back 64 = .ok (.aload_n 0, 1) := by decide +kernel
theorem d_Mod_back_65 : dec m_Mod_back 65 = .ok (.getfield 133, 3) := by decide +kernel
theorem d_Mod_back_68 : dec m_Mod_back 68 = .ok (.if_icmp .ge 23, 3) := by decide +kernel
theorem d_Mod_back_71 : dec m_Mod_back 71 = .ok (.aload_n 0, 1) := by decide +kernel
theorem d_Mod_back_72 : dec m_Mod_back 72 = .ok (.getfield 37, 3) := by decide +kernel
theorem d_Mod_back_75 : dec m_Mod_back 75 = .ok (.iload_n 1, 1) := by decide +kernel
theorem d_Mod_back_76 : dec m_Mod_back 76 = .ok (.aload_n 0, 1) := by decide +kernel
theorem d_Mod_back_77 : dec m_Mod_back 77 = .ok (.bipush 6, 2) := by decide +kernel
theorem d_Mod_back_79 : dec m_Mod_back 79 = .ok (.iload_n 1, 1) := by decide +kernel
theorem d_Mod_back_80 : dec m_Mod_back 80 = .ok (.iadd, 1) := by decide +kernel
theorem d_Mod_back_81 : dec m_Mod_back 81 = .ok (.invokevirtual 239, 3) := by decide +kernel
theorem d_Mod_back_84 : dec m_Mod_back 84 = .ok (.iastore, 1) := by decide +kernel
theorem d_Mod_back_85 : dec m_Mod_back 85 = .ok (.iinc 1 1, 3) := by decide +kernel
theorem d_Mod_back_88 : dec m_Mod_back 88 = .ok (.goto (-25), 3) := by decide +kernel
theorem d_Mod_back_91 : dec m_Mod_back 91 = .ok (.aload_n 0, 1) := by decide +kernel
theorem d_Mod_back_92 : dec m_Mod_back 92 = .ok (.iconst 0, 1) := by decide +kernel
theorem d_Mod_back_93 : dec m_Mod_back 93 = .ok (.putfield 304, 3) := by decide +kernel
theorem d_Mod_back_96 : dec m_Mod_back 96 = .ok (.aload_n 0, 1) := by decide +kernel
theorem d_Mod_back_97 : dec m_Mod_back 97 = .ok (.getfield 133, 3) := by decide +kernel
theorem d_Mod_back_100 : dec m_Mod_back 100 = .ok (.ireturn, 1) := by decide +kernel
theorem d_Mod_count_0 : dec m_Mod_count 0 = .ok (.iconst 0, 1) := by decide +kernel
theorem d_Mod_count_1 : dec m_Mod_count 1 = .ok (.istore_n 2, 1) := by decide +kernel
theorem d_Mod_count_2 : dec m_Mod_count 2 = .ok (.iload_n 1, 1) := by decide +kernel
theorem d_Mod_count_3 : dec m_Mod_count 3 = .ok (.tableswitch 158 0 7 #[45, 50, 85, 90, 95, 108, 140, 153], 45) := by decide +kernel
theorem d_Mod_count_48 : dec m_Mod_count 48 = .ok (.aload_n 0, 1) := by decide +kernel
theorem d_Mod_count_49 : dec m_Mod_count 49 = .ok (.getfield 133, 3) := by decide +kernel
theorem d_Mod_count_52 : dec m_Mod_count 52 = .ok (.ireturn, 1) := by decide +kernel
theorem d_Mod_count_53 : dec m_Mod_count 53 = .ok (.iconst 0, 1) := by decide +kernel
theorem d_Mod_count_54 : dec m_Mod_count 54 = .ok (.istore_n 3, 1) := by decide +kernel
theorem d_Mod_count_55 : dec m_Mod_count 55 = .ok (.iload_n 3, 1) := by decide +kernel
theorem d_Mod_count_56 : dec m_Mod_count 56 = .ok (.aload_n 0, 1) := by decide +kernel
theorem d_Mod_count_57 : dec m_Mod_count 57 = .ok (.getfield 133, 3) := by decide +kernel
theorem d_Mod_count_60 : dec m_Mod_count 60 = .ok (.if_icmp .ge 26, 3) := by decide +kernel
theorem d_Mod_count_63 : dec m_Mod_count 63 = .ok (.iload_n 2, 1) := by decide +kernel
theorem d_Mod_count_64 : dec m_Mod_count 64 = .ok (.aload_n 0, 1) := by decide +kernel
theorem d_Mod_count_65 : dec m_Mod_count 65 = .ok (.getfield 40, 3) := by decide +kernel
theorem d_Mod_count_68 : dec m_Mod_count 68 = .ok (.iload_n 3, 1) := by decide +kernel
theorem d_Mod_count_69 : dec m_Mod_count 69 = .ok (.iaload, 1) := by decide +kernel
theorem d_Mod_count_70 : dec m_Mod_count 70 = .ok (.ifCond .le 7, 3) := by decide +kernel
theorem d_Mod_count_73 : dec m_Mod_count 73 = .ok (.iconst 1, 1) := by decide +kernel
theorem d_Mod_count_74 : dec m_Mod_count 74 = .ok (.goto 4, 3) := by decide +kernel
theorem d_Mod_count_77 : dec m_Mod_count 77 = .ok (.iconst 0, 1) := by decide +kernel
theorem d_Mod_count_78 : dec m_Mod_count 78 = .ok (.iadd, 1) := by decide +kernel
theorem d_Mod_count_79 : dec m_Mod_count 79 = .ok (.istore_n 2, 1) := by decide +kernel
theorem d_Mod_count_80 : dec m_Mod_count 80 = .ok (.iinc 3 1, 3) := by decide +kernel
theorem d_Mod_count_83 : dec m_Mod_count 83 = .ok (.goto (-28), 3) := by decide +kernel
theorem d_Mod_count_86 : dec m_Mod_count 86 = .ok (.iload_n 2, 1) := by decide +kernel
theorem d_Mod_count_87 : dec m_Mod_count 87 = .ok (.ireturn, 1) := by decide +kernel
theorem d_Mod_count_88 : dec m_Mod_count 88 = .ok (.aload_n 0, 1) := by decide +kernel
theorem d_Mod_count_89 : dec m_Mod_count 89 = .ok (.invokevirtual 354, 3) := by decide +kernel
theorem d_Mod_count_92 : dec m_Mod_count 92 = .ok (.ireturn, 1) := by decide +kernel
theorem d_Mod_count_93 : dec m_Mod_count 93 = .ok (.aload_n 0, 1) := by decide +kernel
theorem d_Mod_count_94 : dec m_Mod_count 94 = .ok (.getfield 151, 3) := by decide +kernel
theorem d_Mod_count_97 : dec m_Mod_count 97 = .ok (.ireturn, 1) := by decide +kernel
theorem d_Mod_count_98 : dec m_Mod_count 98 = .ok (.aload_n 0, 1) := by decide +kernel
theorem d_Mod_count_99 : dec m_Mod_count 99 = .ok (.getfield 469, 3) := by decide +kernel
theorem d_Mod_count_102 : dec m_Mod_count 102 = .ok (.ifCond .eq 7, 3) := by decide +kernel
theorem d_Mod_count_105 : dec m_Mod_count 105 = .ok (.iconst 1, 1) := by decide +kernel
theorem d_Mod_count_106 : dec m_Mod_count 106 = .ok (.goto 4, 3) := by decide +kernel
theorem d_Mod_count_109 : dec m_Mod_count 109 = .ok (.iconst 0, 1) := by decide +kernel
theorem d_Mod_count_110 : dec m_Mod_count 110 = .ok (.ireturn, 1) := by decide +kernel
theorem d_Mod_count_111 : dec m_Mod_count 111 = .ok (.iconst 0, 1) := by decide +kernel
theorem d_Mod_count_112 : dec m_Mod_count 112 = .ok (.istore_n 3, 1) := by decide +kernel
theorem d_Mod_count_113 : dec m_Mod_count 113 = .ok (.iload_n 3, 1) := by decide +kernel
theorem d_Mod_count_114 : dec m_Mod_count 114 = .ok (.iconst 4, 1) := by decide +kernel
theorem d_Mod_count_115 : dec m_Mod_count 115 = .ok (.if_icmp .ge 26, 3) := by decide +kernel
theorem d_Mod_count_118 : dec m_Mod_count 118 = .ok (.iload_n 2, 1) := by decide +kernel
theorem d_Mod_count_119 : dec m_Mod_count 119 = .ok (.aload_n 0, 1) := by decide +kernel
theorem d_Mod_count_120 : dec m_Mod_count 120 = .ok (.getfield 121, 3) := by decide +kernel
theorem d_Mod_count_123 : dec m_Mod_count 123 = .ok (.iload_n 3, 1) := by decide +kernel
theorem d_Mod_count_124 : dec m_Mod_count 124 = .ok (.iaload, 1) := by decide +kernel
theorem d_Mod_count_125 : dec m_Mod_count 125 = .ok (.ifCond .lt 7, 3) := by decide +kernel
theorem d_Mod_count_128 : dec m_Mod_count 128 = .ok (.iconst 1, 1) := by decide +kernel
theorem d_Mod_count_129 : dec m_Mod_count 129 = .ok (.goto 4, 3) := by decide +kernel
theorem d_Mod_count_132 : dec m_Mod_count 132 = .ok (.iconst 0, 1) := by decide +kernel
theorem d_Mod_count_133 : dec m_Mod_count 133 = .ok (.iadd, 1) := by decide +kernel
theorem d_Mod_count_134 : dec m_Mod_count 134 = .ok (.istore_n 2, 1) := by decide +kernel
theorem d_Mod_count_135 : dec m_Mod_count 135 = .ok (.iinc 3 1, 3) := by decide +kernel
theorem d_Mod_count_138 : dec m_Mod_count 138 = .ok (.goto (-25), 3) := by decide +kernel
theorem d_Mod_count_141 : dec m_Mod_count 141 = .ok (.iload_n 2, 1) := by decide +kernel
theorem d_Mod_count_142 : dec m_Mod_count 142 = .ok (.ireturn, 1) := by decide +kernel
theorem d_Mod_count_143 : dec m_Mod_count 143 = .ok (.aload_n 0, 1) := by decide +kernel
theorem d_Mod_count_144 : dec m_Mod_count 144 = .ok (.getfield 304, 3) := by decide +kernel
theorem d_Mod_count_147 : dec m_Mod_count 147 = .ok (.ifCond .eq 7, 3) := by decide +kernel
theorem d_Mod_count_150 : dec m_Mod_count 150 = .ok (.iconst 1, 1) := by decide +kernel
theorem d_Mod_count_151 : dec m_Mod_count 151 = .ok (.goto 4, 3) := by decide +kernel
theorem d_Mod_count_154 : dec m_Mod_count 154 = .ok (.iconst 0, 1) := by decide +kernel
theorem d_Mod_count_155 : dec m_Mod_count 155 = .ok (.ireturn, 1) := by decide +kernel
theorem d_Mod_count_156 : dec m_Mod_count 156 = .ok (.aload_n 0, 1) := by decide +kernel
theorem d_Mod_count_157 : dec m_Mod_count 157 = .ok (.getfield 438, 3) := by decide +kernel
theorem d_Mod_count_160 : dec m_Mod_count 160 = .ok (.ireturn, 1) := by decide +kernel
theorem d_Mod_count_161 : dec m_Mod_count 161 = .ok (.iconst (-1), 1) := by decide +kernel
theorem d_Mod_count_162 : dec m_Mod_count 162 = .ok (.ireturn, 1) := by decide +kernel
theorem d_Math_floorDiv_0 : dec m_Math_floorDiv 0 = .ok (.lload_n 0, 1) := by decide +kernel
theorem d_Math_floorDiv_1 : dec m_Math_floorDiv 1 = .ok (.lload_n 2, 1) := by decide +kernel
theorem d_Math_floorDiv_2 : dec m_Math_floorDiv 2 = .ok (.ldiv, 1) := by decide +kernel
theorem d_Math_floorDiv_3 : dec m_Math_floorDiv 3 = .ok (.lstore 4, 2) := by decide +kernel
theorem d_Math_floorDiv_5 : dec m_Math_floorDiv 5 = .ok (.lload_n 0, 1) := by decide +kernel
theorem d_Math_floorDiv_6 : dec m_Math_floorDiv 6 = .ok (.lload_n 2, 1) := by decide +kernel
theorem d_Math_floorDiv_7 : dec m_Math_floorDiv 7 = .ok (.lxor, 1) := by decide +kernel
theorem d_Math_floorDiv_8 : dec m_Math_floorDiv 8 = .ok (.lconst 0, 1) := by decide +kernel
theorem d_Math_floorDiv_9 : dec m_Math_floorDiv 9 = .ok (.lcmp, 1) := by decide +kernel
theorem d_Math_floorDiv_10 : dec m_Math_floorDiv 10 = .ok (.ifCond .ge 17, 3) := by decide +kernel
theorem d_Math_floorDiv_13 : dec m_Math_floorDiv 13 = .ok (.lload 4, 2) := by decide +kernel
theorem d_Math_floorDiv_15 : dec m_Math_floorDiv 15 = .ok (.lload_n 2, 1) := by decide +kernel
theorem d_Math_floorDiv_16 : dec m_Math_floorDiv 16 = .ok (.lmul, 1) := by decide +kernel
theorem d_Math_floorDiv_17 : dec m_Math_floorDiv 17 = .ok (.lload_n 0, 1) := by decide +kernel
theorem d_Math_floorDiv_18 : dec m_Math_floorDiv 18 = .ok (.lcmp, 1) := by decide +kernel
theorem d_Math_floorDiv_19 : dec m_Math_floorDiv 19 = .ok (.ifCond .eq 8, 3) := by decide +kernel
theorem d_Math_floorDiv_22 : dec m_Math_floorDiv 22 = .ok (.lload 4, 2) := by decide +kernel
theorem d_Math_floorDiv_24 : dec m_Math_floorDiv 24 = .ok (.lconst 1, 1) := by decide +kernel
theorem d_Math_floorDiv_25 : dec m_Math_floorDiv 25 = .ok (.lsub, 1) := by decide +kernel
theorem d_Math_floorDiv_26 : dec m_Math_floorDiv 26 = .ok (.lreturn, 1) := by decide +kernel
theorem d_Math_floorDiv_27 : dec m_Math_floorDiv 27 = .ok (.lload 4, 2) := by decide +kernel
theorem d_Math_floorDiv_29 : dec m_Math_floorDiv 29 = .ok (.lreturn, 1) := by decide +kernel
theorem d_Math_floorMod_0 : dec m_Math_floorMod 0 = .ok (.lload_n 0, 1) := by decide +kernel
theorem d_Math_floorMod_1 : dec m_Math_floorMod 1 = .ok (.lload_n 2, 1) := by decide +kernel
theorem d_Math_floorMod_2 : dec m_Math_floorMod 2 = .ok (.lrem, 1) := by decide +kernel
theorem d_Math_floorMod_3 : dec m_Math_floorMod 3 = .ok (.lstore 4, 2) := by decide +kernel
theorem d_Math_floorMod_5 : dec m_Math_floorMod 5 = .ok (.lload_n 0, 1) := by decide +kernel
theorem d_Math_floorMod_6 : dec m_Math_floorMod 6 = .ok (.lload_n 2, 1) := by decide +kernel
theorem d_Math_floorMod_7 : dec m_Math_floorMod 7 = .ok (.lxor, 1) := by decide +kernel
theorem d_Math_floorMod_8 : dec m_Math_floorMod 8 = .ok (.lconst 0, 1) := by decide +kernel
theorem d_Math_floorMod_9 : dec m_Math_floorMod 9 = .ok (.lcmp, 1) := by decide +kernel
theorem d_Math_floorMod_10 : dec m_Math_floorMod 10 = .ok (.ifCond .ge 15, 3) := by decide +kernel
theorem d_Math_floorMod_13 : dec m_Math_floorMod 13 = .ok (.lload 4, 2) := by decide +kernel
theorem d_Math_floorMod_15 : dec m_Math_floorMod 15 = .ok (.lconst 0, 1) := by decide +kernel
theorem d_Math_floorMod_16 : dec m_Math_floorMod 16 = .ok (.lcmp, 1) := by decide +kernel
theorem d_Math_floorMod_17 : dec m_Math_floorMod 17 = .ok (.ifCond .eq 8, 3) := by decide +kernel
theorem d_Math_floorMod_20 : dec m_Math_floorMod 20 = .ok (.lload 4, 2) := by decide +kernel
theorem d_Math_floorMod_22 : dec m_Math_floorMod 22 = .ok (.lload_n 2, 1) := by decide +kernel
theorem d_Math_floorMod_23 : dec m_Math_floorMod 23 = .ok (.ladd, 1) := by decide +kernel
theorem d_Math_floorMod_24 : dec m_Math_floorMod 24 = .ok (.lreturn, 1) := by decide +kernel
theorem d_Math_floorMod_25 : dec m_Math_floorMod 25 = .ok (.lload 4, 2) := by decide +kernel
theorem d_Math_floorMod_27 : dec m_Math_floorMod 27 = .ok (.lreturn, 1) := by decide +kernel
theorem d_Math_abs_II_0 : dec m_Math_abs_II 0 = .ok (.iload_n 0, 1) := by decide +kernel
theorem d_Math_abs_II_1 : dec m_Math_abs_II 1 = .ok (.ifCond .ge 8, 3) := by decide +kernel
theorem d_Math_abs_II_4 : dec m_Math_abs_II 4 = .ok (.iload_n 0, 1) := by decide +kernel
theorem d_Math_abs_II_5 : dec m_Math_abs_II 5 = .ok (.ineg, 1) := by decide +kernel
theorem d_Math_abs_II_6 : dec m_Math_abs_II 6 = .ok (.goto 4, 3) := by decide +kernel
theorem d_Math_abs_II_9 : dec m_Math_abs_II 9 = .ok (.iload_n 0, 1) := by decide +kernel
theorem d_Math_abs_II_10 : dec m_Math_abs_II 10 = .ok (.ireturn, 1) := by decide +kernel
theorem d_Math_abs_JJ_0 : dec m_Math_abs_JJ 0 = .ok (.lload_n 0, 1) := by decide +kernel
theorem d_Math_abs_JJ_1 : dec m_Math_abs_JJ 1 = .ok (.lconst 0, 1) := by decide +kernel
theorem d_Math_abs_JJ_2 : dec m_Math_abs_JJ 2 = .ok (.lcmp, 1) := by decide +kernel
theorem d_Math_abs_JJ_3 : dec m_Math_abs_JJ 3 = .ok (.ifCond .ge 8, 3) := by decide +kernel
theorem d_Math_abs_JJ_6 : dec m_Math_abs_JJ 6 = .ok (.lload_n 0, 1) := by decide +kernel
theorem d_Math_abs_JJ_7 : dec m_Math_abs_JJ 7 = .ok (.lneg, 1) := by decide +kernel
theorem d_Math_abs_JJ_8 : dec m_Math_abs_JJ 8 = .ok (.goto 4, 3) := by decide +kernel
theorem d_Math_abs_JJ_11 : dec m_Math_abs_JJ 11 = .ok (.lload_n 0, 1) := by decide +kernel
theorem d_Math_abs_JJ_12 : dec m_Math_abs_JJ 12 = .ok (.lreturn, 1) := by decide +kernel
theorem d_Math_max_III_0 : dec m_Math_max_III 0 = .ok (.iload_n 0, 1) := by decide +kernel
theorem d_Math_max_III_1 : dec m_Math_max_III 1 = .ok (.iload_n 1, 1) := by decide +kernel
theorem d_Math_max_III_2 : dec m_Math_max_III 2 = .ok (.if_icmp .lt 7, 3) := by decide +kernel
theorem d_Math_max_III_5 : dec m_Math_max_III 5 = .ok (.iload_n 0, 1) := by decide +kernel
theorem d_Math_max_III_6 : dec m_Math_max_III 6 = .ok (.goto 4, 3) := by decide +kernel
theorem d_Math_max_III_9 : dec m_Math_max_III 9 = .ok (.iload_n 1, 1) := by decide +kernel
theorem d_Math_max_III_10 : dec m_Math_max_III 10 = .ok (.ireturn, 1) := by decide +kernel
theorem d_Math_max_JJJ_0 : dec m_Math_max_JJJ 0 = .ok (.lload_n 0, 1) := by decide +kernel
theorem d_Math_max_JJJ_1 : dec m_Math_max_JJJ 1 = .ok (.lload_n 2, 1) := by decide +kernel
theorem d_Math_max_JJJ_2 : dec m_Math_max_JJJ 2 = .ok (.lcmp, 1) := by decide +kernel
theorem d_Math_max_JJJ_3 : dec m_Math_max_JJJ 3 = .ok (.ifCond .lt 7, 3) := by decide +kernel
theorem d_Math_max_JJJ_6 : dec m_Math_max_JJJ 6 = .ok (.lload_n 0, 1) := by decide +kernel
theorem d_Math_max_JJJ_7 : dec m_Math_max_JJJ 7 = .ok (.goto 4, 3) := by decide +kernel
theorem d_Math_max_JJJ_10 : dec m_Math_max_JJJ 10 = .ok (.lload_n 2, 1) := by decide +kernel
theorem d_Math_max_JJJ_11 : dec m_Math_max_JJJ 11 = .ok (.lreturn, 1) := by decide +kernel
theorem d_Arr_fill_AJJV_0 : dec m_Arr_fill_AJJV 0 = .ok (.iconst 0, 1) := by decide +kernel
theorem d_Arr_fill_AJJV_1 : dec m_Arr_fill_AJJV 1 = .ok (.istore_n 3, 1) := by decide +kernel
theorem d_Arr_fill_AJJV_2 : dec m_Arr_fill_AJJV 2 = .ok (.aload_n 0, 1) := by decide +kernel
theorem d_Arr_fill_AJJV_3 : dec m_Arr_fill_AJJV 3 = .ok (.arraylength, 1) := by decide +kernel
theorem d_Arr_fill_AJJV_4 : dec m_Arr_fill_AJJV 4 = .ok (.istore 4, 2) := by decide +kernel
theorem d_Arr_fill_AJJV_6 : dec m_Arr_fill_AJJV 6 = .ok (.iload_n 3, 1) := by decide +kernel
theorem d_Arr_fill_AJJV_7 : dec m_Arr_fill_AJJV 7 = .ok (.iload 4, 2) := by decide +kernel
theorem d_Arr_fill_AJJV_9 : dec m_Arr_fill_AJJV 9 = .ok (.if_icmp .ge 13, 3) := by decide +kernel
theorem d_Arr_fill_AJJV_12 : dec m_Arr_fill_AJJV 12 = .ok (.aload_n 0, 1) := by decide +kernel
theorem d_Arr_fill_AJJV_13 : dec m_Arr_fill_AJJV 13 = .ok (.iload_n 3, 1) := by decide +kernel
theorem d_Arr_fill_AJJV_14 : dec m_Arr_fill_AJJV 14 = .ok (.lload_n 1, 1) := by decide +kernel
theorem d_Arr_fill_AJJV_15 : dec m_Arr_fill_AJJV 15 = .ok (.lastore, 1) := by decide +kernel
theorem d_Arr_fill_AJJV_16 : dec m_Arr_fill_AJJV 16 = .ok (.iinc 3 1, 3) := by decide +kernel
theorem d_Arr_fill_AJJV_19 : dec m_Arr_fill_AJJV 19 = .ok (.goto (-13), 3) := by decide +kernel
theorem d_Arr_fill_AJJV_22 : dec m_Arr_fill_AJJV 22 = .ok (.return_, 1) := by decide +kernel
theorem d_Arr_fill_AIIV_0 : dec m_Arr_fill_AIIV 0 = .ok (.iconst 0, 1) := by decide +kernel
theorem d_Arr_fill_AIIV_1 : dec m_Arr_fill_AIIV 1 = .ok (.istore_n 2, 1) := by decide +kernel
theorem d_Arr_fill_AIIV_2 : dec m_Arr_fill_AIIV 2 = .ok (.aload_n 0, 1) := by decide +kernel
theorem d_Arr_fill_AIIV_3 : dec m_Arr_fill_AIIV 3 = .ok (.arraylength, 1) := by decide +kernel
theorem d_Arr_fill_AIIV_4 : dec m_Arr_fill_AIIV 4 = .ok (.istore_n 3, 1) := by decide +kernel
theorem d_Arr_fill_AIIV_5 : dec m_Arr_fill_AIIV 5 = .ok (.iload_n 2, 1) := by decide +kernel
theorem d_Arr_fill_AIIV_6 : dec m_Arr_fill_AIIV 6 = .ok (.iload_n 3, 1) := by decide +kernel
theorem d_Arr_fill_AIIV_7 : dec m_Arr_fill_AIIV 7 = .ok (.if_icmp .ge 13, 3) := by decide +kernel
theorem d_Arr_fill_AIIV_10 : dec m_Arr_fill_AIIV 10 = .ok (.aload_n 0, 1) := by decide +kernel
theorem d_Arr_fill_AIIV_11 : dec m_Arr_fill_AIIV 11 = .ok (.iload_n 2, 1) := by decide +kernel
theorem d_Arr_fill_AIIV_12 : dec m_Arr_fill_AIIV 12 = .ok (.iload_n 1, 1) := by decide +kernel
theorem d_Arr_fill_AIIV_13 : dec m_Arr_fill_AIIV 13 = .ok (.iastore, 1) := by decide +kernel
theorem d_Arr_fill_AIIV_14 : dec m_Arr_fill_AIIV 14 = .ok (.iinc 2 1, 3) := by decide +kernel
theorem d_Arr_fill_AIIV_17 : dec m_Arr_fill_AIIV 17 = .ok (.goto (-12), 3) := by decide +kernel
theorem d_Arr_fill_AIIV_20 : dec m_Arr_fill_AIIV 20 = .ok (.return_, 1) := by decide +kernel
theorem d_Law_law_0 : dec m_Law_law 0 = .ok (.new 7, 3) := by decide +kernel
theorem d_Law_law_3 : dec m_Law_law 3 = .ok (.dup, 1) := by decide +kernel
theorem d_Law_law_4 : dec m_Law_law 4 = .ok (.invokespecial 9, 3) := by decide +kernel
theorem d_Law_law_7 : dec m_Law_law 7 = .ok (.astore_n 1, 1) := by decide +kernel
theorem d_Law_law_8 : dec m_Law_law 8 = .ok (.new 10, 3) := by decide +kernel
theorem d_Law_law_11 : dec m_Law_law 11 = .ok (.dup, 1) := by decide +kernel
theorem d_Law_law_12 : dec m_Law_law 12 = .ok (.invokespecial 12, 3) := by decide +kernel
theorem d_Law_law_15 : dec m_Law_law 15 = .ok (.astore_n 2, 1) := by decide +kernel
theorem d_Law_law_16 : dec m_Law_law 16 = .ok (.iconst 0, 1) := by decide +kernel
theorem d_Law_law_17 : dec m_Law_law 17 = .ok (.istore_n 3, 1) := by decide +kernel
theorem d_Law_law_18 : dec m_Law_law 18 = .ok (.iload_n 3, 1) := by decide +kernel
theorem d_Law_law_19 : dec m_Law_law 19 = .ok (.aload_n 0, 1) := by decide +kernel
theorem d_Law_law_20 : dec m_Law_law 20 = .ok (.arraylength, 1) := by decide +kernel
theorem d_Law_law_21 : dec m_Law_law 21 = .ok (.bipush 6, 2) := by decide +kernel
theorem d_Law_law_23 : dec m_Law_law 23 = .ok (.isub, 1) := by decide +kernel
theorem d_Law_law_24 : dec m_Law_law 24 = .ok (.if_icmp .gt 2086, 3) := by decide +kernel
theorem d_Law_law_27 : dec m_Law_law 27 = .ok (.aload_n 0, 1) := by decide +kernel
theorem d_Law_law_28 : dec m_Law_law 28 = .ok (.iload_n 3, 1) := by decide +kernel
theorem d_Law_law_29 : dec m_Law_law 29 = .ok (.iaload, 1) := by decide +kernel
theorem d_Law_law_30 : dec m_Law_law 30 = .ok (.bipush 63, 2) := by decide +kernel
theorem d_Law_law_32 : dec m_Law_law 32 = .ok (.iand, 1) := by decide +kernel
theorem d_Law_law_33 : dec m_Law_law 33 = .ok (.tableswitch 2071 0 54 #[235, 258, 321, 344, 387, 420, 453, 476, 499, 522, 576, 609, 633, 697, 750, 793, 816, 839, 872, 905, 918, 962, 1026, 1039, 1062, 1105, 1168, 1201, 1244, 1267, 1301, 1335, 1378, 1392, 1415, 1468, 1512, 1555, 1578, 1601, 1634, 1657, 1680, 1703, 1737, 1760, 1803, 1846, 1880, 1943, 1976, 2009, 2022, 2035, 2048], 235) := by decide +kernel
theorem d_Law_law_268 : dec m_Law_law 268 = .ok (.aload_n 1, 1) := by decide +kernel
theorem d_Law_law_269 : dec m_Law_law 269 = .ok (.aload_n 0, 1) := by decide +kernel
theorem d_Law_law_270 : dec m_Law_law 270 = .ok (.iload_n 3, 1) := by decide +kernel
theorem d_Law_law_271 : dec m_Law_law 271 = .ok (.iconst 1, 1) := by decide +kernel
theorem d_Law_law_272 : dec m_Law_law 272 = .ok (.iadd, 1) := by decide +kernel
theorem d_Law_law_273 : dec m_Law_law 273 = .ok (.iaload, 1) := by decide +kernel
theorem d_Law_law_274 : dec m_Law_law 274 = .ok (.invokevirtual 13, 3) := by decide +kernel
theorem d_Law_law_277 : dec m_Law_law 277 = .ok (.aload_n 2, 1) := by decide +kernel
theorem d_Law_law_278 : dec m_Law_law 278 = .ok (.aload_n 0, 1) := by decide +kernel
theorem d_Law_law_279 : dec m_Law_law 279 = .ok (.iload_n 3, 1) := by decide +kernel
theorem d_Law_law_280 : dec m_Law_law 280 = .ok (.iconst 1, 1) := by decide +kernel
theorem d_Law_law_281 : dec m_Law_law 281 = .ok (.iadd, 1) := by decide +kernel
theorem d_Law_law_282 : dec m_Law_law 282 = .ok (.iaload, 1) := by decide +kernel
theorem d_Law_law_283 : dec m_Law_law 283 = .ok (.invokevirtual 17, 3) := by decide +kernel
theorem d_Law_law_286 : dec m_Law_law 286 = .ok (.if_icmp .eq 1818, 3) := by decide +kernel
theorem d_Law_law_289 : dec m_Law_law 289 = .ok (.iconst 0, 1) := by decide +kernel
theorem d_Law_law_290 : dec m_Law_law 290 = .ok (.ireturn, 1) := by decide +kernel
theorem d_Law_law_291 : dec m_Law_law 291 = .ok (.aload_n 1, 1) := by decide +kernel
theorem d_Law_law_292 : dec m_Law_law 292 = .ok (.aload_n 0, 1) := by decide +kernel
theorem d_Law_law_293 : dec m_Law_law 293 = .ok (.iload_n 3, 1) := by decide +kernel
theorem d_Law_law_294 : dec m_Law_law 294 = .ok (.iconst 1, 1) := by decide +kernel
theorem d_Law_law_295 : dec m_Law_law 295 = .ok (.iadd, 1) := by decide +kernel
theorem d_Law_law_296 : dec m_Law_law 296 = .ok (.iaload, 1) := by decide +kernel
theorem d_Law_law_297 : dec m_Law_law 297 = .ok (.aload_n 0, 1) := by decide +kernel
theorem d_Law_law_298 : dec m_Law_law 298 = .ok (.iload_n 3, 1) := by decide +kernel
theorem d_Law_law_299 : dec m_Law_law 299 = .ok (.iconst 2, 1) := by decide +kernel
theorem d_Law_law_300 : dec m_Law_law 300 = .ok (.iadd, 1) := by decide +kernel
theorem d_Law_law_301 : dec m_Law_law 301 = .ok (.iaload, 1) := by decide +kernel
theorem d_Law_law_302 : dec m_Law_law 302 = .ok (.aload_n 0, 1) := by decide +kernel
theorem d_Law_law_303 : dec m_Law_law 303 = .ok (.iload_n 3, 1) := by decide +kernel
theorem d_Law_law_304 : dec m_Law_law 304 = .ok (.iconst 3, 1) := by decide +kernel
theorem d_Law_law_305 : dec m_Law_law 305 = .ok (.iadd, 1) := by decide +kernel
theorem d_Law_law_306 : dec m_Law_law 306 = .ok (.iaload, 1) := by decide +kernel
theorem d_Law_law_307 : dec m_Law_law 307 = .ok (.aload_n 0, 1) := by decide +kernel
theorem d_Law_law_308 : dec m_Law_law 308 = .ok (.iload_n 3, 1) := by decide +kernel
theorem d_Law_law_309 : dec m_Law_law 309 = .ok (.iconst 4, 1) := by decide +kernel
theorem d_Law_law_310 : dec m_Law_law 310 = .ok (.iadd, 1) := by decide +kernel
theorem d_Law_law_311 : dec m_Law_law 311 = .ok (.iaload, 1) := by decide +kernel
theorem d_Law_law_312 : dec m_Law_law 312 = .ok (.aload_n 0, 1) := by decide +kernel
theorem d_Law_law_313 : dec m_Law_law 313 = .ok (.iload_n 3, 1) := by decide +kernel
theorem d_Law_law_314 : dec m_Law_law 314 = .ok (.iconst 5, 1) := by decide +kernel
theorem d_Law_law_315 : dec m_Law_law 315 = .ok (.iadd, 1) := by decide +kernel
theorem d_Law_law_316 : dec m_Law_law 316 = .ok (.iaload, 1) := by decide +kernel
theorem d_Law_law_317 : dec m_Law_law 317 = .ok (.invokevirtual 18, 3) := by decide +kernel
theorem d_Law_law_320 : dec m_Law_law 320 = .ok (.aload_n 2, 1) := by decide +kernel
theorem d_Law_law_321 : dec m_Law_law 321 = .ok (.aload_n 0, 1) := by decide +kernel
theorem d_Law_law_322 : dec m_Law_law 322 = .ok (.iload_n 3, 1) := by decide +kernel
theorem d_Law_law_323 : dec m_Law_law 323 = .ok (.iconst 1, 1) := by decide +kernel
theorem d_Law_law_324 : dec m_Law_law 324 = .ok (.iadd, 1) := by decide +kernel
theorem d_Law_law_325 : dec m_Law_law 325 = .ok (.iaload, 1) := by decide +kernel
theorem d_Law_law_326 : dec m_Law_law 326 = .ok (.aload_n 0, 1) := by decide +kernel
theorem d_Law_law_327 : dec m_Law_law 327 = .ok (.iload_n 3, 1) := by decide +kernel
theorem d_Law_law_328 : dec m_Law_law 328 = .ok (.iconst 2, 1) := by decide +kernel
theorem d_Law_law_329 : dec m_Law_law 329 = .ok (.iadd, 1) := by decide +kernel
theorem d_Law_law_330 : dec m_Law_law 330 = .ok (.iaload, 1) := by decide +kernel
theorem d_Law_law_331 : dec m_Law_law 331 = .ok (.aload_n 0, 1) := by decide +kernel
theorem d_Law_law_332 : dec m_Law_law 332 = .ok (.iload_n 3, 1) := by decide +kernel
theorem d_Law_law_333 : dec m_Law_law 333 = .ok (.iconst 3, 1) := by decide +kernel
theorem d_Law_law_334 : dec m_Law_law 334 = .ok (.iadd, 1) := by decide +kernel
theorem d_Law_law_335 : dec m_Law_law 335 = .ok (.iaload, 1) := by decide +kernel
theorem d_Law_law_336 : dec m_Law_law 336 = .ok (.aload_n 0, 1) := by decide +kernel
theorem d_Law_law_337 : dec m_Law_law 337 = .ok (.iload_n 3, 1) := by decide +kernel
theorem d_Law_law_338 : dec m_Law_law 338 = .ok (.iconst 4, 1) := by decide +kernel
theorem d_Law_law_339 : dec m_Law_law 339 = .ok (.iadd, 1) := by decide +kernel
theorem d_Law_law_340 : dec m_Law_law 340 = .ok (.iaload, 1) := by decide +kernel
theorem d_Law_law_341 : dec m_Law_law 341 = .ok (.aload_n 0, 1) := by decide +kernel
theorem d_Law_law_342 : dec m_Law_law 342 = .ok (.iload_n 3, 1) := by decide +kernel
theorem d_Law_law_343 : dec m_Law_law 343 = .ok (.iconst 5, 1) := by decide +kernel
theorem d_Law_law_344 : dec m_Law_law 344 = .ok (.iadd, 1) := by decide +kernel
theorem d_Law_law_345 : dec m_Law_law 345 = .ok (.iaload, 1) := by decide +kernel
theorem d_Law_law_346 : dec m_Law_law 346 = .ok (.invokevirtual 22, 3) := by decide +kernel
theorem d_Law_law_349 : dec m_Law_law 349 = .ok (.if_icmp .eq 1755, 3) := by decide +kernel
theorem d_Law_law_352 : dec m_Law_law 352 = .ok (.iconst 0, 1) := by decide +kernel
theorem d_Law_law_353 : dec m_Law_law 353 = .ok (.ireturn, 1) := by decide +kernel
theorem d_Law_law_354 : dec m_Law_law 354 = .ok (.aload_n 1, 1) := by decide +kernel
theorem d_Law_law_355 : dec m_Law_law 355 = .ok (.aload_n 0, 1) := by decide +kernel
theorem d_Law_law_356 : dec m_Law_law 356 = .ok (.iload_n 3, 1) := by decide +kernel
theorem d_Law_law_357 : dec m_Law_law 357 = .ok (.iconst 1, 1) := by decide +kernel
theorem d_Law_law_358 : dec m_Law_law 358 = .ok (.iadd, 1) := by decide +kernel
theorem d_Law_law_359 : dec m_Law_law 359 = .ok (.iaload, 1) := by decide +kernel
theorem d_Law_law_360 : dec m_Law_law 360 = .ok (.invokevirtual 23, 3) := by decide +kernel
theorem d_Law_law_363 : dec m_Law_law 363 = .ok (.aload_n 2, 1) := by decide +kernel
theorem d_Law_law_364 : dec m_Law_law 364 = .ok (.aload_n 0, 1) := by decide +kernel
theorem d_Law_law_365 : dec m_Law_law 365 = .ok (.iload_n 3, 1) := by decide +kernel
theorem d_Law_law_366 : dec m_Law_law 366 = .ok (.iconst 1, 1) := by decide +kernel
theorem d_Law_law_367 : dec m_Law_law 367 = .ok (.iadd, 1) := by decide +kernel
theorem d_Law_law_368 : dec m_Law_law 368 = .ok (.iaload, 1) := by decide +kernel
theorem d_Law_law_369 : dec m_Law_law 369 = .ok (.invokevirtual 26, 3) := by decide +kernel
theorem d_Law_law_372 : dec m_Law_law 372 = .ok (.if_icmp .eq 1732, 3) := by decide +kernel
theorem d_Law_law_375 : dec m_Law_law 375 = .ok (.iconst 0, 1) := by decide +kernel
theorem d_Law_law_376 : dec m_Law_law 376 = .ok (.ireturn, 1) := by decide +kernel
theorem d_Law_law_377 : dec m_Law_law 377 = .ok (.aload_n 1, 1) := by decide +kernel
theorem d_Law_law_378 : dec m_Law_law 378 = .ok (.aload_n 0, 1) := by decide +kernel
theorem d_Law_law_379 : dec m_Law_law 379 = .ok (.iload_n 3, 1) := by decide +kernel
theorem d_Law_law_380 : dec m_Law_law 380 = .ok (.iconst 1, 1) := by decide +kernel
theorem d_Law_law_381 : dec m_Law_law 381 = .ok (.iadd, 1) := by decide +kernel
theorem d_Law_law_382 : dec m_Law_law 382 = .ok (.iaload, 1) := by decide +kernel
theorem d_Law_law_383 : dec m_Law_law 383 = .ok (.aload_n 0, 1) := by decide +kernel
theorem d_Law_law_384 : dec m_Law_law 384 = .ok (.iload_n 3, 1) := by decide +kernel
theorem d_Law_law_385 : dec m_Law_law 385 = .ok (.iconst 2, 1) := by decide +kernel
theorem d_Law_law_386 : dec m_Law_law 386 = .ok (.iadd, 1) := by decide +kernel
theorem d_Law_law_387 : dec m_Law_law 387 = .ok (.iaload, 1) := by decide +kernel
theorem d_Law_law_388 : dec m_Law_law 388 = .ok (.aload_n 0, 1) := by decide +kernel
theorem d_Law_law_389 : dec m_Law_law 389 = .ok (.iload_n 3, 1) := by decide +kernel
theorem d_Law_law_390 : dec m_Law_law 390 = .ok (.iconst 3, 1) := by decide +kernel
theorem d_Law_law_391 : dec m_Law_law 391 = .ok (.iadd, 1) := by decide +kernel
theorem d_Law_law_392 : dec m_Law_law 392 = .ok (.iaload, 1) := by decide +kernel
theorem d_Law_law_393 : dec m_Law_law 393 = .ok (.invokevirtual 27, 3) := by decide +kernel
theorem d_Law_law_396 : dec m_Law_law 396 = .ok (.aload_n 2, 1) := by decide +kernel
theorem d_Law_law_397 : dec m_Law_law 397 = .ok (.aload_n 0, 1) := by decide +kernel
theorem d_Law_law_398 : dec m_Law_law 398 = .ok (.iload_n 3, 1) := by decide +kernel
theorem d_Law_law_399 : dec m_Law_law 399 = .ok (.iconst 1, 1) := by decide +kernel
theorem d_Law_law_400 : dec m_Law_law 400 = .ok (.iadd, 1) := by decide +kernel
theorem d_Law_law_401 : dec m_Law_law 401 = .ok (.iaload, 1) := by decide +kernel
theorem d_Law_law_402 : dec m_Law_law 402 = .ok (.aload_n 0, 1) := by decide +kernel
theorem d_Law_law_403 : dec m_Law_law 403 = .ok (.iload_n 3, 1) := by decide +kernel
theorem d_Law_law_404 : dec m_Law_law 404 = .ok (.iconst 2, 1) := by decide +kernel
theorem d_Law_law_405 : dec m_Law_law 405 = .ok (.iadd, 1) := by decide +kernel
theorem d_Law_law_406 : dec m_Law_law 406 = .ok (.iaload, 1) := by decide +kernel
theorem d_Law_law_407 : dec m_Law_law 407 = .ok (.aload_n 0, 1) := by decide +kernel
theorem d_Law_law_408 : dec m_Law_law 408 = .ok (.iload_n 3, 1) := by decide +kernel
theorem d_Law_law_409 : dec m_Law_law 409 = .ok (.iconst 3, 1) := by decide +kernel
theorem d_Law_law_410 : dec m_Law_law 410 = .ok (.iadd, 1) := by decide +kernel
theorem d_Law_law_411 : dec m_Law_law 411 = .ok (.iaload, 1) := by decide +kernel
theorem d_Law_law_412 : dec m_Law_law 412 = .ok (.invokevirtual 31, 3) := by decide +kernel
theorem d_Law_law_415 : dec m_Law_law 415 = .ok (.if_icmp .eq 1689, 3) := by decide +kernel
theorem d_Law_law_418 : dec m_Law_law 418 = .ok (.iconst 0, 1) := by decide +kernel
theorem d_Law_law_419 : dec m_Law_law 419 = .ok (.ireturn, 1) := by decide +kernel
theorem d_Law_law_420 : dec m_Law_law 420 = .ok (.aload_n 1, 1) := by decide +kernel
theorem d_Law_law_421 : dec m_Law_law 421 = .ok (.aload_n 0, 1) := by decide +kernel
theorem d_Law_law_422 : dec m_Law_law 422 = .ok (.iload_n 3, 1) := by decide +kernel
theorem d_Law_law_423 : dec m_Law_law 423 = .ok (.iconst 1, 1) := by decide +kernel
theorem d_Law_law_424 : dec m_Law_law 424 = .ok (.iadd, 1) := by decide +kernel
theorem d_Law_law_425 : dec m_Law_law 425 = .ok (.iaload, 1) := by decide +kernel
theorem d_Law_law_426 : dec m_Law_law 426 = .ok (.aload_n 0, 1) := by decide +kernel
theorem d_Law_law_427 : dec m_Law_law 427 = .ok (.iload_n 3, 1) := by decide +kernel
theorem d_Law_law_428 : dec m_Law_law 428 = .ok (.iconst 2, 1) := by decide +kernel
theorem d_Law_law_429 : dec m_Law_law 429 = .ok (.iadd, 1) := by decide +kernel
theorem d_Law_law_430 : dec m_Law_law 430 = .ok (.iaload, 1) := by decide +kernel
theorem d_Law_law_431 : dec m_Law_law 431 = .ok (.invokevirtual 32, 3) := by decide +kernel
theorem d_Law_law_434 : dec m_Law_law 434 = .ok (.aload_n 2, 1) := by decide +kernel
theorem d_Law_law_435 : dec m_Law_law 435 = .ok (.aload_n 0, 1) := by decide +kernel
theorem d_Law_law_436 : dec m_Law_law 436 = .ok (.iload_n 3, 1) := by decide +kernel
theorem d_Law_law_437 : dec m_Law_law 437 = .ok (.iconst 1, 1) := by decide +kernel
theorem d_Law_law_438 : dec m_Law_law 438 = .ok (.iadd, 1) := by decide +kernel
theorem d_Law_law_439 : dec m_Law_law 439 = .ok (.iaload, 1) := by decide +kernel
theorem d_Law_law_440 : dec m_Law_law 440 = .ok (.aload_n 0, 1) := by decide +kernel
theorem d_Law_law_441 : dec m_Law_law 441 = .ok (.iload_n 3, 1) := by decide +kernel
theorem d_Law_law_442 : dec m_Law_law 442 = .ok (.iconst 2, 1) := by decide +kernel
theorem d_Law_law_443 : dec m_Law_law 443 = .ok (.iadd, 1) := by decide +kernel
theorem d_Law_law_444 : dec m_Law_law 444 = .ok (.iaload, 1) := by decide +kernel
theorem d_Law_law_445 : dec m_Law_law 445 = .ok (.invokevirtual 36, 3) := by decide +kernel
theorem d_Law_law_448 : dec m_Law_law 448 = .ok (.if_icmp .eq 1656, 3) := by decide +kernel
theorem d_Law_law_451 : dec m_Law_law 451 = .ok (.iconst 0, 1) := by decide +kernel
theorem d_Law_law_452 : dec m_Law_law 452 = .ok (.ireturn, 1) := by decide +kernel
theorem d_Law_law_453 : dec m_Law_law 453 = .ok (.aload_n 1, 1) := by decide +kernel
theorem d_Law_law_454 : dec m_Law_law 454 = .ok (.aload_n 0, 1) := by decide +kernel
theorem d_Law_law_455 : dec m_Law_law 455 = .ok (.iload_n 3, 1) := by decide +kernel
theorem d_Law_law_456 : dec m_Law_law 456 = .ok (.iconst 1, 1) := by decide +kernel
theorem d_Law_law_457 : dec m_Law_law 457 = .ok (.iadd, 1) := by decide +kernel
theorem d_Law_law_458 : dec m_Law_law 458 = .ok (.iaload, 1) := by decide +kernel
theorem d_Law_law_459 : dec m_Law_law 459 = .ok (.aload_n 0, 1) := by decide +kernel
theorem d_Law_law_460 : dec m_Law_law 460 = .ok (.iload_n 3, 1) := by decide +kernel
theorem d_Law_law_461 : dec m_Law_law 461 = .ok (.iconst 2, 1) := by decide +kernel
theorem d_Law_law_462 : dec m_Law_law 462 = .ok (.iadd, 1) := by decide +kernel
theorem d_Law_law_463 : dec m_Law_law 463 = .ok (.iaload, 1) := by decide +kernel
theorem d_Law_law_464 : dec m_Law_law 464 = .ok (.invokevirtual 37, 3) := by decide +kernel
theorem d_Law_law_467 : dec m_Law_law 467 = .ok (.aload_n 2, 1) := by decide +kernel
theorem d_Law_law_468 : dec m_Law_law 468 = .ok (.aload_n 0, 1) := by decide +kernel
theorem d_Law_law_469 : dec m_Law_law 469 = .ok (.iload_n 3, 1) := by decide +kernel
theorem d_Law_law_470 : dec m_Law_law 470 = .ok (.iconst 1, 1) := by decide +kernel
theorem d_Law_law_471 : dec m_Law_law 471 = .ok (.iadd, 1) := by decide +kernel
theorem d_Law_law_472 : dec m_Law_law 472 = .ok (.iaload, 1) := by decide +kernel
theorem d_Law_law_473 : dec m_Law_law 473 = .ok (.aload_n 0, 1) := by decide +kernel
theorem d_Law_law_474 : dec m_Law_law 474 = .ok (.iload_n 3, 1) := by decide +kernel
theorem d_Law_law_475 : dec m_Law_law 475 = .ok (.iconst 2, 1) := by decide +kernel
theorem d_Law_law_476 : dec m_Law_law 476 = .ok (.iadd, 1) := by decide +kernel
theorem d_Law_law_477 : dec m_Law_law 477 = .ok (.iaload, 1) := by decide +kernel
theorem d_Law_law_478 : dec m_Law_law 478 = .ok (.invokevirtual 40, 3) := by decide +kernel
theorem d_Law_law_481 : dec m_Law_law 481 = .ok (.if_icmp .eq 1623, 3) := by decide +kernel
theorem d_Law_law_484 : dec m_Law_law 484 = .ok (.iconst 0, 1) := by decide +kernel
theorem d_Law_law_485 : dec m_Law_law 485 = .ok (.ireturn, 1) := by decide +kernel
theorem d_Law_law_486 : dec m_Law_law 486 = .ok (.aload_n 1, 1) := by decide +kernel
theorem d_Law_law_487 : dec m_Law_law 487 = .ok (.aload_n 0, 1) := by decide +kernel
theorem d_Law_law_488 : dec m_Law_law 488 = .ok (.iload_n 3, 1) := by decide +kernel
theorem d_Law_law_489 : dec m_Law_law 489 = .ok (.iconst 1, 1) := by decide +kernel
theorem d_Law_law_490 : dec m_Law_law 490 = .ok (.iadd, 1) := by decide +kernel
theorem d_Law_law_491 : dec m_Law_law 491 = .ok (.iaload, 1) := by decide +kernel
theorem d_Law_law_492 : dec m_Law_law 492 = .ok (.invokevirtual 41, 3) := by decide +kernel
theorem d_Law_law_495 : dec m_Law_law 495 = .ok (.aload_n 2, 1) := by decide +kernel
theorem d_Law_law_496 : dec m_Law_law 496 = .ok (.aload_n 0, 1) := by decide +kernel
theorem d_Law_law_497 : dec m_Law_law 497 = .ok (.iload_n 3, 1) := by decide +kernel
theorem d_Law_law_498 : dec m_Law_law 498 = .ok (.iconst 1, 1) := by decide +kernel
theorem d_Law_law_499 : dec m_Law_law 499 = .ok (.iadd, 1) := by decide +kernel
theorem d_Law_law_500 : dec m_Law_law 500 = .ok (.iaload, 1) := by decide +kernel
theorem d_Law_law_501 : dec m_Law_law 501 = .ok (.invokevirtual 44, 3) := by decide +kernel
theorem d_Law_law_504 : dec m_Law_law 504 = .ok (.if_icmp .eq 1600, 3) := by decide +kernel
theorem d_Law_law_507 : dec m_Law_law 507 = .ok (.iconst 0, 1) := by decide +kernel
theorem d_Law_law_508 : dec m_Law_law 508 = .ok (.ireturn, 1) := by decide +kernel
theorem d_Law_law_509 : dec m_Law_law 509 = .ok (.aload_n 1, 1) := by decide +kernel
theorem d_Law_law_510 : dec m_Law_law 510 = .ok (.aload_n 0, 1) := by decide +kernel
theorem d_Law_law_511 : dec m_Law_law 511 = .ok (.iload_n 3, 1) := by decide +kernel
theorem d_Law_law_512 : dec m_Law_law 512 = .ok (.iconst 1, 1) := by decide +kernel
theorem d_Law_law_513 : dec m_Law_law 513 = .ok (.iadd, 1) := by decide +kernel
theorem d_Law_law_514 : dec m_Law_law 514 = .ok (.iaload, 1) := by decide +kernel
theorem d_Law_law_515 : dec m_Law_law 515 = .ok (.invokevirtual 45, 3) := by decide +kernel
theorem d_Law_law_518 : dec m_Law_law 518 = .ok (.aload_n 2, 1) := by decide +kernel
theorem d_Law_law_519 : dec m_Law_law 519 = .ok (.aload_n 0, 1) := by decide +kernel
theorem d_Law_law_520 : dec m_Law_law 520 = .ok (.iload_n 3, 1) := by decide +kernel
theorem d_Law_law_521 : dec m_Law_law 521 = .ok (.iconst 1, 1) := by decide +kernel
theorem d_Law_law_522 : dec m_Law_law 522 = .ok (.iadd, 1) := by decide +kernel
theorem d_Law_law_523 : dec m_Law_law 523 = .ok (.iaload, 1) := by decide +kernel
theorem d_Law_law_524 : dec m_Law_law 524 = .ok (.invokevirtual 48, 3) := by decide +kernel
theorem d_Law_law_527 : dec m_Law_law 527 = .ok (.if_icmp .eq 1577, 3) := by decide +kernel
theorem d_Law_law_530 : dec m_Law_law 530 = .ok (.iconst 0, 1) := by decide +kernel
theorem d_Law_law_531 : dec m_Law_law 531 = .ok (.ireturn, 1) := by decide +kernel
theorem d_Law_law_532 : dec m_Law_law 532 = .ok (.aload_n 1, 1) := by decide +kernel
theorem d_Law_law_533 : dec m_Law_law 533 = .ok (.aload_n 0, 1) := by decide +kernel
theorem d_Law_law_534 : dec m_Law_law 534 = .ok (.iload_n 3, 1) := by decide +kernel
theorem d_Law_law_535 : dec m_Law_law 535 = .ok (.iconst 1, 1) := by decide +kernel
theorem d_Law_law_536 : dec m_Law_law 536 = .ok (.iadd, 1) := by decide +kernel
theorem d_Law_law_537 : dec m_Law_law 537 = .ok (.iaload, 1) := by decide +kernel
theorem d_Law_law_538 : dec m_Law_law 538 = .ok (.invokevirtual 49, 3) := by decide +kernel
theorem d_Law_law_541 : dec m_Law_law 541 = .ok (.aload_n 2, 1) := by decide +kernel
theorem d_Law_law_542 : dec m_Law_law 542 = .ok (.aload_n 0, 1) := by decide +kernel
theorem d_Law_law_543 : dec m_Law_law 543 = .ok (.iload_n 3, 1) := by decide +kernel
theorem d_Law_law_544 : dec m_Law_law 544 = .ok (.iconst 1, 1) := by decide +kernel
theorem d_Law_law_545 : dec m_Law_law 545 = .ok (.iadd, 1) := by decide +kernel
theorem d_Law_law_546 : dec m_Law_law 546 = .ok (.iaload, 1) := by decide +kernel
theorem d_Law_law_547 : dec m_Law_law 547 = .ok (.invokevirtual 52, 3) := by decide +kernel
theorem d_Law_law_550 : dec m_Law_law 550 = .ok (.if_icmp .eq 1554, 3) := by decide +kernel
theorem d_Law_law_553 : dec m_Law_law 553 = .ok (.iconst 0, 1) := by decide +kernel
theorem d_Law_law_554 : dec m_Law_law 554 = .ok (.ireturn, 1) := by decide +kernel
theorem d_Law_law_555 : dec m_Law_law 555 = .ok (.aload_n 1, 1) := by decide +kernel
theorem d_Law_law_556 : dec m_Law_law 556 = .ok (.aload_n 0, 1) := by decide +kernel
theorem d_Law_law_557 : dec m_Law_law 557 = .ok (.iload_n 3, 1) := by decide +kernel
theorem d_Law_law_558 : dec m_Law_law 558 = .ok (.iconst 1, 1) := by decide +kernel
theorem d_Law_law_559 : dec m_Law_law 559 = .ok (.iadd, 1) := by decide +kernel
theorem d_Law_law_560 : dec m_Law_law 560 = .ok (.iaload, 1) := by decide +kernel
theorem d_Law_law_561 : dec m_Law_law 561 = .ok (.aload_n 0, 1) := by decide +kernel
theorem d_Law_law_562 : dec m_Law_law 562 = .ok (.iload_n 3, 1) := by decide +kernel
theorem d_Law_law_563 : dec m_Law_law 563 = .ok (.iconst 2, 1) := by decide +kernel
theorem d_Law_law_564 : dec m_Law_law 564 = .ok (.iadd, 1) := by decide +kernel
theorem d_Law_law_565 : dec m_Law_law 565 = .ok (.iaload, 1) := by decide +kernel
theorem d_Law_law_566 : dec m_Law_law 566 = .ok (.aload_n 0, 1) := by decide +kernel
theorem d_Law_law_567 : dec m_Law_law 567 = .ok (.iload_n 3, 1) := by decide +kernel
theorem d_Law_law_568 : dec m_Law_law 568 = .ok (.iconst 3, 1) := by decide +kernel
theorem d_Law_law_569 : dec m_Law_law 569 = .ok (.iadd, 1) := by decide +kernel
theorem d_Law_law_570 : dec m_Law_law 570 = .ok (.iaload, 1) := by decide +kernel
theorem d_Law_law_571 : dec m_Law_law 571 = .ok (.aload_n 0, 1) := by decide +kernel
theorem d_Law_law_572 : dec m_Law_law 572 = .ok (.iload_n 3, 1) := by decide +kernel
theorem d_Law_law_573 : dec m_Law_law 573 = .ok (.iconst 4, 1) := by decide +kernel
theorem d_Law_law_574 : dec m_Law_law 574 = .ok (.iadd, 1) := by decide +kernel
theorem d_Law_law_575 : dec m_Law_law 575 = .ok (.iaload, 1) := by decide +kernel
theorem d_Law_law_576 : dec m_Law_law 576 = .ok (.invokevirtual 53, 3) := by decide +kernel
theorem d_Law_law_579 : dec m_Law_law 579 = .ok (.aload_n 2, 1) := by decide +kernel
theorem d_Law_law_580 : dec m_Law_law 580 = .ok (.aload_n 0, 1) := by decide +kernel
theorem d_Law_law_581 : dec m_Law_law 581 = .ok (.iload_n 3, 1) := by decide +kernel
theorem d_Law_law_582 : dec m_Law_law 582 = .ok (.iconst 1, 1) := by decide +kernel
theorem d_Law_law_583 : dec m_Law_law 583 = .ok (.iadd, 1) := by decide +kernel
theorem d_Law_law_584 : dec m_Law_law 584 = .ok (.iaload, 1) := by decide +kernel
theorem d_Law_law_585 : dec m_Law_law 585 = .ok (.aload_n 0, 1) := by decide +kernel
theorem d_Law_law_586 : dec m_Law_law 586 = .ok (.iload_n 3, 1) := by decide +kernel
theorem d_Law_law_587 : dec m_Law_law 587 = .ok (.iconst 2, 1) := by decide +kernel
theorem d_Law_law_588 : dec m_Law_law 588 = .ok (.iadd, 1) := by decide +kernel
theorem d_Law_law_589 : dec m_Law_law 589 = .ok (.iaload, 1) := by decide +kernel
theorem d_Law_law_590 : dec m_Law_law 590 = .ok (.aload_n 0, 1) := by decide +kernel
theorem d_Law_law_591 : dec m_Law_law 591 = .ok (.iload_n 3, 1) := by decide +kernel
theorem d_Law_law_592 : dec m_Law_law 592 = .ok (.iconst 3, 1) := by decide +kernel
theorem d_Law_law_593 : dec m_Law_law 593 = .ok (.iadd, 1) := by decide +kernel
theorem d_Law_law_594 : dec m_Law_law 594 = .ok (.iaload, 1) := by decide +kernel
theorem d_Law_law_595 : dec m_Law_law 595 = .ok (.aload_n 0, 1) := by decide +kernel
theorem d_Law_law_596 : dec m_Law_law 596 = .ok (.iload_n 3, 1) := by decide +kernel
theorem d_Law_law_597 : dec m_Law_law 597 = .ok (.iconst 4, 1) := by decide +kernel
theorem d_Law_law_598 : dec m_Law_law 598 = .ok (.iadd, 1) := by decide +kernel
theorem d_Law_law_599 : dec m_Law_law 599 = .ok (.iaload, 1) := by decide +kernel
theorem d_Law_law_600 : dec m_Law_law 600 = .ok (.invokevirtual 57, 3) := by decide +kernel
theorem d_Law_law_603 : dec m_Law_law 603 = .ok (.lcmp, 1) := by decide +kernel
theorem d_Law_law_604 : dec m_Law_law 604 = .ok (.ifCond .eq 1500, 3) := by decide +kernel
theorem d_Law_law_607 : dec m_Law_law 607 = .ok (.iconst 0, 1) := by decide +kernel
theorem d_Law_law_608 : dec m_Law_law 608 = .ok (.ireturn, 1) := by decide +kernel
theorem d_Law_law_609 : dec m_Law_law 609 = .ok (.aload_n 1, 1) := by decide +kernel
theorem d_Law_law_610 : dec m_Law_law 610 = .ok (.aload_n 0, 1) := by decide +kernel
theorem d_Law_law_611 : dec m_Law_law 611 = .ok (.iload_n 3, 1) := by decide +kernel
theorem d_Law_law_612 : dec m_Law_law 612 = .ok (.iconst 1, 1) := by decide +kernel
theorem d_Law_law_613 : dec m_Law_law 613 = .ok (.iadd, 1) := by decide +kernel
theorem d_Law_law_614 : dec m_Law_law 614 = .ok (.iaload, 1) := by decide +kernel
theorem d_Law_law_615 : dec m_Law_law 615 = .ok (.aload_n 0, 1) := by decide +kernel
theorem d_Law_law_616 : dec m_Law_law 616 = .ok (.iload_n 3, 1) := by decide +kernel
theorem d_Law_law_617 : dec m_Law_law 617 = .ok (.iconst 2, 1) := by decide +kernel
theorem d_Law_law_618 : dec m_Law_law 618 = .ok (.iadd, 1) := by decide +kernel
theorem d_Law_law_619 : dec m_Law_law 619 = .ok (.iaload, 1) := by decide +kernel
theorem d_Law_law_620 : dec m_Law_law 620 = .ok (.invokevirtual 58, 3) := by decide +kernel
theorem d_Law_law_623 : dec m_Law_law 623 = .ok (.aload_n 2, 1) := by decide +kernel
theorem d_Law_law_624 : dec m_Law_law 624 = .ok (.aload_n 0, 1) := by decide +kernel
theorem d_Law_law_625 : dec m_Law_law 625 = .ok (.iload_n 3, 1) := by decide +kernel
theorem d_Law_law_626 : dec m_Law_law 626 = .ok (.iconst 1, 1) := by decide +kernel
theorem d_Law_law_627 : dec m_Law_law 627 = .ok (.iadd, 1) := by decide +kernel
theorem d_Law_law_628 : dec m_Law_law 628 = .ok (.iaload, 1) := by decide +kernel
theorem d_Law_law_629 : dec m_Law_law 629 = .ok (.aload_n 0, 1) := by decide +kernel
theorem d_Law_law_630 : dec m_Law_law 630 = .ok (.iload_n 3, 1) := by decide +kernel
theorem d_Law_law_631 : dec m_Law_law 631 = .ok (.iconst 2, 1) := by decide +kernel
theorem d_Law_law_632 : dec m_Law_law 632 = .ok (.iadd, 1) := by decide +kernel
theorem d_Law_law_633 : dec m_Law_law 633 = .ok (.iaload, 1) := by decide +kernel
theorem d_Law_law_634 : dec m_Law_law 634 = .ok (.invokevirtual 61, 3) := by decide +kernel
theorem d_Law_law_637 : dec m_Law_law 637 = .ok (.if_icmp .eq 1467, 3) := by decide +kernel
theorem d_Law_law_640 : dec m_Law_law 640 = .ok (.iconst 0, 1) := by decide +kernel
theorem d_Law_law_641 : dec m_Law_law 641 = .ok (.ireturn, 1) := by decide +kernel
theorem d_Law_law_642 : dec m_Law_law 642 = .ok (.aload_n 1, 1) := by decide +kernel
theorem d_Law_law_643 : dec m_Law_law 643 = .ok (.aload_n 0, 1) := by decide +kernel
theorem d_Law_law_644 : dec m_Law_law 644 = .ok (.iload_n 3, 1) := by decide +kernel
theorem d_Law_law_645 : dec m_Law_law 645 = .ok (.iconst 1, 1) := by decide +kernel
theorem d_Law_law_646 : dec m_Law_law 646 = .ok (.iadd, 1) := by decide +kernel
theorem d_Law_law_647 : dec m_Law_law 647 = .ok (.iaload, 1) := by decide +kernel
theorem d_Law_law_648 : dec m_Law_law 648 = .ok (.invokevirtual 62, 3) := by decide +kernel
theorem d_Law_law_651 : dec m_Law_law 651 = .ok (.aload_n 2, 1) := by decide +kernel
theorem d_Law_law_652 : dec m_Law_law 652 = .ok (.aload_n 0, 1) := by decide +kernel
theorem d_Law_law_653 : dec m_Law_law 653 = .ok (.iload_n 3, 1) := by decide +kernel
theorem d_Law_law_654 : dec m_Law_law 654 = .ok (.iconst 1, 1) := by decide +kernel
theorem d_Law_law_655 : dec m_Law_law 655 = .ok (.iadd, 1) := by decide +kernel
theorem d_Law_law_656 : dec m_Law_law 656 = .ok (.iaload, 1) := by decide +kernel
theorem d_Law_law_657 : dec m_Law_law 657 = .ok (.invokevirtual 66, 3) := by decide +kernel
theorem d_Law_law_660 : dec m_Law_law 660 = .ok (.lcmp, 1) := by decide +kernel
theorem d_Law_law_661 : dec m_Law_law 661 = .ok (.ifCond .eq 1443, 3) := by decide +kernel
theorem d_Law_law_664 : dec m_Law_law 664 = .ok (.iconst 0, 1) := by decide +kernel
theorem d_Law_law_665 : dec m_Law_law 665 = .ok (.ireturn, 1) := by decide +kernel
theorem d_Law_law_666 : dec m_Law_law 666 = .ok (.aload_n 1, 1) := by decide +kernel
theorem d_Law_law_667 : dec m_Law_law 667 = .ok (.aload_n 0, 1) := by decide +kernel
theorem d_Law_law_668 : dec m_Law_law 668 = .ok (.iload_n 3, 1) := by decide +kernel
theorem d_Law_law_669 : dec m_Law_law 669 = .ok (.iconst 1, 1) := by decide +kernel
theorem d_Law_law_670 : dec m_Law_law 670 = .ok (.iadd, 1) := by decide +kernel
theorem d_Law_law_671 : dec m_Law_law 671 = .ok (.iaload, 1) := by decide +kernel
theorem d_Law_law_672 : dec m_Law_law 672 = .ok (.aload_n 0, 1) := by decide +kernel
theorem d_Law_law_673 : dec m_Law_law 673 = .ok (.iload_n 3, 1) := by decide +kernel
theorem d_Law_law_674 : dec m_Law_law 674 = .ok (.iconst 2, 1) := by decide +kernel
theorem d_Law_law_675 : dec m_Law_law 675 = .ok (.iadd, 1) := by decide +kernel
theorem d_Law_law_676 : dec m_Law_law 676 = .ok (.iaload, 1) := by decide +kernel
theorem d_Law_law_677 : dec m_Law_law 677 = .ok (.aload_n 0, 1) := by decide +kernel
theorem d_Law_law_678 : dec m_Law_law 678 = .ok (.iload_n 3, 1) := by decide +kernel
theorem d_Law_law_679 : dec m_Law_law 679 = .ok (.iconst 3, 1) := by decide +kernel
theorem d_Law_law_680 : dec m_Law_law 680 = .ok (.iadd, 1) := by decide +kernel
theorem d_Law_law_681 : dec m_Law_law 681 = .ok (.iaload, 1) := by decide +kernel
theorem d_Law_law_682 : dec m_Law_law 682 = .ok (.aload_n 0, 1) := by decide +kernel
theorem d_Law_law_683 : dec m_Law_law 683 = .ok (.iload_n 3, 1) := by decide +kernel
theorem d_Law_law_684 : dec m_Law_law 684 = .ok (.iconst 4, 1) := by decide +kernel
theorem d_Law_law_685 : dec m_Law_law 685 = .ok (.iadd, 1) := by decide +kernel
theorem d_Law_law_686 : dec m_Law_law 686 = .ok (.iaload, 1) := by decide +kernel
theorem d_Law_law_687 : dec m_Law_law 687 = .ok (.aload_n 0, 1) := by decide +kernel
theorem d_Law_law_688 : dec m_Law_law 688 = .ok (.iload_n 3, 1) := by decide +kernel
theorem d_Law_law_689 : dec m_Law_law 689 = .ok (.iconst 5, 1) := by decide +kernel
theorem d_Law_law_690 : dec m_Law_law 690 = .ok (.iadd, 1) := by decide +kernel
theorem d_Law_law_691 : dec m_Law_law 691 = .ok (.iaload, 1) := by decide +kernel
theorem d_Law_law_692 : dec m_Law_law 692 = .ok (.invokevirtual 67, 3) := by decide +kernel
theorem d_Law_law_695 : dec m_Law_law 695 = .ok (.aload_n 2, 1) := by decide +kernel
theorem d_Law_law_696 : dec m_Law_law 696 = .ok (.aload_n 0, 1) := by decide +kernel
theorem d_Law_law_697 : dec m_Law_law 697 = .ok (.iload_n 3, 1) := by decide +kernel
theorem d_Law_law_698 : dec m_Law_law 698 = .ok (.iconst 1, 1) := by decide +kernel
theorem d_Law_law_699 : dec m_Law_law 699 = .ok (.iadd, 1) := by decide +kernel
theorem d_Law_law_700 : dec m_Law_law 700 = .ok (.iaload, 1) := by decide +kernel
theorem d_Law_law_701 : dec m_Law_law 701 = .ok (.aload_n 0, 1) := by decide +kernel
theorem d_Law_law_702 : dec m_Law_law 702 = .ok (.iload_n 3, 1) := by decide +kernel
theorem d_Law_law_703 : dec m_Law_law 703 = .ok (.iconst 2, 1) := by decide +kernel
theorem d_Law_law_704 : dec m_Law_law 704 = .ok (.iadd, 1) := by decide +kernel
theorem d_Law_law_705 : dec m_Law_law 705 = .ok (.iaload, 1) := by decide +kernel
theorem d_Law_law_706 : dec m_Law_law 706 = .ok (.aload_n 0, 1) := by decide +kernel
theorem d_Law_law_707 : dec m_Law_law 707 = .ok (.iload_n 3, 1) := by decide +kernel
theorem d_Law_law_708 : dec m_Law_law 708 = .ok (.iconst 3, 1) := by decide +kernel
theorem d_Law_law_709 : dec m_Law_law 709 = .ok (.iadd, 1) := by decide +kernel
theorem d_Law_law_710 : dec m_Law_law 710 = .ok (.iaload, 1) := by decide +kernel
theorem d_Law_law_711 : dec m_Law_law 711 = .ok (.aload_n 0, 1) := by decide +kernel
theorem d_Law_law_712 : dec m_Law_law 712 = .ok (.iload_n 3, 1) := by decide +kernel
theorem d_Law_law_713 : dec m_Law_law 713 = .ok (.iconst 4, 1) := by decide +kernel
theorem d_Law_law_714 : dec m_Law_law 714 = .ok (.iadd, 1) := by decide +kernel
theorem d_Law_law_715 : dec m_Law_law 715 = .ok (.iaload, 1) := by decide +kernel
theorem d_Law_law_716 : dec m_Law_law 716 = .ok (.aload_n 0, 1) := by decide +kernel
theorem d_Law_law_717 : dec m_Law_law 717 = .ok (.iload_n 3, 1) := by decide +kernel
theorem d_Law_law_718 : dec m_Law_law 718 = .ok (.iconst 5, 1) := by decide +kernel
theorem d_Law_law_719 : dec m_Law_law 719 = .ok (.iadd, 1) := by decide +kernel
theorem d_Law_law_720 : dec m_Law_law 720 = .ok (.iaload, 1) := by decide +kernel
theorem d_Law_law_721 : dec m_Law_law 721 = .ok (.invokevirtual 71, 3) := by decide +kernel
theorem d_Law_law_724 : dec m_Law_law 724 = .ok (.lcmp, 1) := by decide +kernel
theorem d_Law_law_725 : dec m_Law_law 725 = .ok (.ifCond .eq 1379, 3) := by decide +kernel
theorem d_Law_law_728 : dec m_Law_law 728 = .ok (.iconst 0, 1) := by decide +kernel
theorem d_Law_law_729 : dec m_Law_law 729 = .ok (.ireturn, 1) := by decide +kernel
theorem d_Law_law_730 : dec m_Law_law 730 = .ok (.aload_n 1, 1) := by decide +kernel
theorem d_Law_law_731 : dec m_Law_law 731 = .ok (.aload_n 0, 1) := by decide +kernel
theorem d_Law_law_732 : dec m_Law_law 732 = .ok (.iload_n 3, 1) := by decide +kernel
theorem d_Law_law_733 : dec m_Law_law 733 = .ok (.iconst 1, 1) := by decide +kernel
theorem d_Law_law_734 : dec m_Law_law 734 = .ok (.iadd, 1) := by decide +kernel
theorem d_Law_law_735 : dec m_Law_law 735 = .ok (.iaload, 1) := by decide +kernel
theorem d_Law_law_736 : dec m_Law_law 736 = .ok (.aload_n 0, 1) := by decide +kernel
theorem d_Law_law_737 : dec m_Law_law 737 = .ok (.iload_n 3, 1) := by decide +kernel
theorem d_Law_law_738 : dec m_Law_law 738 = .ok (.iconst 2, 1) := by decide +kernel
theorem d_Law_law_739 : dec m_Law_law 739 = .ok (.iadd, 1) := by decide +kernel
theorem d_Law_law_740 : dec m_Law_law 740 = .ok (.iaload, 1) := by decide +kernel
theorem d_Law_law_741 : dec m_Law_law 741 = .ok (.aload_n 0, 1) := by decide +kernel
theorem d_Law_law_742 : dec m_Law_law 742 = .ok (.iload_n 3, 1) := by decide +kernel
theorem d_Law_law_743 : dec m_Law_law 743 = .ok (.iconst 3, 1) := by decide +kernel
theorem d_Law_law_744 : dec m_Law_law 744 = .ok (.iadd, 1) := by decide +kernel
theorem d_Law_law_745 : dec m_Law_law 745 = .ok (.iaload, 1) := by decide +kernel
theorem d_Law_law_746 : dec m_Law_law 746 = .ok (.aload_n 0, 1) := by decide +kernel
theorem d_Law_law_747 : dec m_Law_law 747 = .ok (.iload_n 3, 1) := by decide +kernel
theorem d_Law_law_748 : dec m_Law_law 748 = .ok (.iconst 4, 1) := by decide +kernel
theorem d_Law_law_749 : dec m_Law_law 749 = .ok (.iadd, 1) := by decide +kernel
theorem d_Law_law_750 : dec m_Law_law 750 = .ok (.iaload, 1) := by decide +kernel
theorem d_Law_law_751 : dec m_Law_law 751 = .ok (.invokevirtual 72, 3) := by decide +kernel
theorem d_Law_law_754 : dec m_Law_law 754 = .ok (.aload_n 2, 1) := by decide +kernel
theorem d_Law_law_755 : dec m_Law_law 755 = .ok (.aload_n 0, 1) := by decide +kernel
theorem d_Law_law_756 : dec m_Law_law 756 = .ok (.iload_n 3, 1) := by decide +kernel
theorem d_Law_law_757 : dec m_Law_law 757 = .ok (.iconst 1, 1) := by decide +kernel
theorem d_Law_law_758 : dec m_Law_law 758 = .ok (.iadd, 1) := by decide +kernel
theorem d_Law_law_759 : dec m_Law_law 759 = .ok (.iaload, 1) := by decide +kernel
theorem d_Law_law_760 : dec m_Law_law 760 = .ok (.aload_n 0, 1) := by decide +kernel
theorem d_Law_law_761 : dec m_Law_law 761 = .ok (.iload_n 3, 1) := by decide +kernel
theorem d_Law_law_762 : dec m_Law_law 762 = .ok (.iconst 2, 1) := by decide +kernel
theorem d_Law_law_763 : dec m_Law_law 763 = .ok (.iadd, 1) := by decide +kernel
theorem d_Law_law_764 : dec m_Law_law 764 = .ok (.iaload, 1) := by decide +kernel
theorem d_Law_law_765 : dec m_Law_law 765 = .ok (.aload_n 0, 1) := by decide +kernel
theorem d_Law_law_766 : dec m_Law_law 766 = .ok (.iload_n 3, 1) := by decide +kernel
theorem d_Law_law_767 : dec m_Law_law 767 = .ok (.iconst 3, 1) := by decide +kernel
theorem d_Law_law_768 : dec m_Law_law 768 = .ok (.iadd, 1) := by decide +kernel
theorem d_Law_law_769 : dec m_Law_law 769 = .ok (.iaload, 1) := by decide +kernel
theorem d_Law_law_770 : dec m_Law_law 770 = .ok (.aload_n 0, 1) := by decide +kernel
theorem d_Law_law_771 : dec m_Law_law 771 = .ok (.iload_n 3, 1) := by decide +kernel
theorem d_Law_law_772 : dec m_Law_law 772 = .ok (.iconst 4, 1) := by decide +kernel
theorem d_Law_law_773 : dec m_Law_law 773 = .ok (.iadd, 1) := by decide +kernel
theorem d_Law_law_774 : dec m_Law_law 774 = .ok (.iaload, 1) := by decide +kernel
theorem d_Law_law_775 : dec m_Law_law 775 = .ok (.invokevirtual 76, 3) := by decide +kernel
theorem d_Law_law_778 : dec m_Law_law 778 = .ok (.if_icmp .eq 1326, 3) := by decide +kernel
theorem d_Law_law_781 : dec m_Law_law 781 = .ok (.iconst 0, 1) := by decide +kernel
theorem d_Law_law_782 : dec m_Law_law 782 = .ok (.ireturn, 1) := by decide +kernel
theorem d_Law_law_783 : dec m_Law_law 783 = .ok (.aload_n 1, 1) := by decide +kernel
theorem d_Law_law_784 : dec m_Law_law 784 = .ok (.aload_n 0, 1) := by decide +kernel
theorem d_Law_law_785 : dec m_Law_law 785 = .ok (.iload_n 3, 1) := by decide +kernel
theorem d_Law_law_786 : dec m_Law_law 786 = .ok (.iconst 1, 1) := by decide +kernel
theorem d_Law_law_787 : dec m_Law_law 787 = .ok (.iadd, 1) := by decide +kernel
theorem d_Law_law_788 : dec m_Law_law 788 = .ok (.iaload, 1) := by decide +kernel
theorem d_Law_law_789 : dec m_Law_law 789 = .ok (.aload_n 0, 1) := by decide +kernel
theorem d_Law_law_790 : dec m_Law_law 790 = .ok (.iload_n 3, 1) := by decide +kernel
theorem d_Law_law_791 : dec m_Law_law 791 = .ok (.iconst 2, 1) := by decide +kernel
theorem d_Law_law_792 : dec m_Law_law 792 = .ok (.iadd, 1) := by decide +kernel
theorem d_Law_law_793 : dec m_Law_law 793 = .ok (.iaload, 1) := by decide +kernel
theorem d_Law_law_794 : dec m_Law_law 794 = .ok (.aload_n 0, 1) := by decide +kernel
theorem d_Law_law_795 : dec m_Law_law 795 = .ok (.iload_n 3, 1) := by decide +kernel
theorem d_Law_law_796 : dec m_Law_law 796 = .ok (.iconst 3, 1) := by decide +kernel
theorem d_Law_law_797 : dec m_Law_law 797 = .ok (.iadd, 1) := by decide +kernel
theorem d_Law_law_798 : dec m_Law_law 798 = .ok (.iaload, 1) := by decide +kernel
theorem d_Law_law_799 : dec m_Law_law 799 = .ok (.invokevirtual 77, 3) := by decide +kernel
theorem d_Law_law_802 : dec m_Law_law 802 = .ok (.aload_n 2, 1) := by decide +kernel
theorem d_Law_law_803 : dec m_Law_law 803 = .ok (.aload_n 0, 1) := by decide +kernel
theorem d_Law_law_804 : dec m_Law_law 804 = .ok (.iload_n 3, 1) := by decide +kernel
theorem d_Law_law_805 : dec m_Law_law 805 = .ok (.iconst 1, 1) := by decide +kernel
theorem d_Law_law_806 : dec m_Law_law 806 = .ok (.iadd, 1) := by decide +kernel
theorem d_Law_law_807 : dec m_Law_law 807 = .ok (.iaload, 1) := by decide +kernel
theorem d_Law_law_808 : dec m_Law_law 808 = .ok (.aload_n 0, 1) := by decide +kernel
theorem d_Law_law_809 : dec m_Law_law 809 = .ok (.iload_n 3, 1) := by decide +kernel
theorem d_Law_law_810 : dec m_Law_law 810 = .ok (.iconst 2, 1) := by decide +kernel
theorem d_Law_law_811 : dec m_Law_law 811 = .ok (.iadd, 1) := by decide +kernel
theorem d_Law_law_812 : dec m_Law_law 812 = .ok (.iaload, 1) := by decide +kernel
theorem d_Law_law_813 : dec m_Law_law 813 = .ok (.aload_n 0, 1) := by decide +kernel
theorem d_Law_law_814 : dec m_Law_law 814 = .ok (.iload_n 3, 1) := by decide +kernel
theorem d_Law_law_815 : dec m_Law_law 815 = .ok (.iconst 3, 1) := by decide +kernel
theorem d_Law_law_816 : dec m_Law_law 816 = .ok (.iadd, 1) := by decide +kernel
theorem d_Law_law_817 : dec m_Law_law 817 = .ok (.iaload, 1) := by decide +kernel
theorem d_Law_law_818 : dec m_Law_law 818 = .ok (.invokevirtual 80, 3) := by decide +kernel
theorem d_Law_law_821 : dec m_Law_law 821 = .ok (.if_icmp .eq 1283, 3) := by decide +kernel
theorem d_Law_law_824 : dec m_Law_law 824 = .ok (.iconst 0, 1) := by decide +kernel
theorem d_Law_law_825 : dec m_Law_law 825 = .ok (.ireturn, 1) := by decide +kernel
theorem d_Law_law_826 : dec m_Law_law 826 = .ok (.aload_n 1, 1) := by decide +kernel
theorem d_Law_law_827 : dec m_Law_law 827 = .ok (.aload_n 0, 1) := by decide +kernel
theorem d_Law_law_828 : dec m_Law_law 828 = .ok (.iload_n 3, 1) := by decide +kernel
theorem d_Law_law_829 : dec m_Law_law 829 = .ok (.iconst 1, 1) := by decide +kernel
theorem d_Law_law_830 : dec m_Law_law 830 = .ok (.iadd, 1) := by decide +kernel
theorem d_Law_law_831 : dec m_Law_law 831 = .ok (.iaload, 1) := by decide +kernel
theorem d_Law_law_832 : dec m_Law_law 832 = .ok (.invokevirtual 81, 3) := by decide +kernel
theorem d_Law_law_835 : dec m_Law_law 835 = .ok (.aload_n 2, 1) := by decide +kernel
theorem d_Law_law_836 : dec m_Law_law 836 = .ok (.aload_n 0, 1) := by decide +kernel
theorem d_Law_law_837 : dec m_Law_law 837 = .ok (.iload_n 3, 1) := by decide +kernel
theorem d_Law_law_838 : dec m_Law_law 838 = .ok (.iconst 1, 1) := by decide +kernel
theorem d_Law_law_839 : dec m_Law_law 839 = .ok (.iadd, 1) := by decide +kernel
theorem d_Law_law_840 : dec m_Law_law 840 = .ok (.iaload, 1) := by decide +kernel
theorem d_Law_law_841 : dec m_Law_law 841 = .ok (.invokevirtual 84, 3) := by decide +kernel
theorem d_Law_law_844 : dec m_Law_law 844 = .ok (.if_icmp .eq 1260, 3) := by decide +kernel
theorem d_Law_law_847 : dec m_Law_law 847 = .ok (.iconst 0, 1) := by decide +kernel
theorem d_Law_law_848 : dec m_Law_law 848 = .ok (.ireturn, 1) := by decide +kernel
theorem d_Law_law_849 : dec m_Law_law 849 = .ok (.aload_n 1, 1) := by decide +kernel
theorem d_Law_law_850 : dec m_Law_law 850 = .ok (.aload_n 0, 1) := by decide +kernel
theorem d_Law_law_851 : dec m_Law_law 851 = .ok (.iload_n 3, 1) := by decide +kernel
theorem d_Law_law_852 : dec m_Law_law 852 = .ok (.iconst 1, 1) := by decide +kernel
theorem d_Law_law_853 : dec m_Law_law 853 = .ok (.iadd, 1) := by decide +kernel
theorem d_Law_law_854 : dec m_Law_law 854 = .ok (.iaload, 1) := by decide +kernel
theorem d_Law_law_855 : dec m_Law_law 855 = .ok (.invokevirtual 85, 3) := by decide +kernel
theorem d_Law_law_858 : dec m_Law_law 858 = .ok (.aload_n 2, 1) := by decide +kernel
theorem d_Law_law_859 : dec m_Law_law 859 = .ok (.aload_n 0, 1) := by decide +kernel
theorem d_Law_law_860 : dec m_Law_law 860 = .ok (.iload_n 3, 1) := by decide +kernel
theorem d_Law_law_861 : dec m_Law_law 861 = .ok (.iconst 1, 1) := by decide +kernel
theorem d_Law_law_862 : dec m_Law_law 862 = .ok (.iadd, 1) := by decide +kernel
theorem d_Law_law_863 : dec m_Law_law 863 = .ok (.iaload, 1) := by decide +kernel
theorem d_Law_law_864 : dec m_Law_law 864 = .ok (.invokevirtual 88, 3) := by decide +kernel
theorem d_Law_law_867 : dec m_Law_law 867 = .ok (.if_icmp .eq 1237, 3) := by decide +kernel
theorem d_Law_law_870 : dec m_Law_law 870 = .ok (.iconst 0, 1) := by decide +kernel
theorem d_Law_law_871 : dec m_Law_law 871 = .ok (.ireturn, 1) := by decide +kernel
theorem d_Law_law_872 : dec m_Law_law 872 = .ok (.aload_n 1, 1) := by decide +kernel
theorem d_Law_law_873 : dec m_Law_law 873 = .ok (.aload_n 0, 1) := by decide +kernel
theorem d_Law_law_874 : dec m_Law_law 874 = .ok (.iload_n 3, 1) := by decide +kernel
theorem d_Law_law_875 : dec m_Law_law 875 = .ok (.iconst 1, 1) := by decide +kernel
theorem d_Law_law_876 : dec m_Law_law 876 = .ok (.iadd, 1) := by decide +kernel
theorem d_Law_law_877 : dec m_Law_law 877 = .ok (.iaload, 1) := by decide +kernel
theorem d_Law_law_878 : dec m_Law_law 878 = .ok (.aload_n 0, 1) := by decide +kernel
theorem d_Law_law_879 : dec m_Law_law 879 = .ok (.iload_n 3, 1) := by decide +kernel
theorem d_Law_law_880 : dec m_Law_law 880 = .ok (.iconst 2, 1) := by decide +kernel
theorem d_Law_law_881 : dec m_Law_law 881 = .ok (.iadd, 1) := by decide +kernel
theorem d_Law_law_882 : dec m_Law_law 882 = .ok (.iaload, 1) := by decide +kernel
theorem d_Law_law_883 : dec m_Law_law 883 = .ok (.invokevirtual 89, 3) := by decide +kernel
theorem d_Law_law_886 : dec m_Law_law 886 = .ok (.aload_n 2, 1) := by decide +kernel
theorem d_Law_law_887 : dec m_Law_law 887 = .ok (.aload_n 0, 1) := by decide +kernel
theorem d_Law_law_888 : dec m_Law_law 888 = .ok (.iload_n 3, 1) := by decide +kernel
theorem d_Law_law_889 : dec m_Law_law 889 = .ok (.iconst 1, 1) := by decide +kernel
theorem d_Law_law_890 : dec m_Law_law 890 = .ok (.iadd, 1) := by decide +kernel
theorem d_Law_law_891 : dec m_Law_law 891 = .ok (.iaload, 1) := by decide +kernel
theorem d_Law_law_892 : dec m_Law_law 892 = .ok (.aload_n 0, 1) := by decide +kernel
theorem d_Law_law_893 : dec m_Law_law 893 = .ok (.iload_n 3, 1) := by decide +kernel
theorem d_Law_law_894 : dec m_Law_law 894 = .ok (.iconst 2, 1) := by decide +kernel
theorem d_Law_law_895 : dec m_Law_law 895 = .ok (.iadd, 1) := by decide +kernel
theorem d_Law_law_896 : dec m_Law_law 896 = .ok (.iaload, 1) := by decide +kernel
theorem d_Law_law_897 : dec m_Law_law 897 = .ok (.invokevirtual 92, 3) := by decide +kernel
theorem d_Law_law_900 : dec m_Law_law 900 = .ok (.if_icmp .eq 1204, 3) := by decide +kernel
theorem d_Law_law_903 : dec m_Law_law 903 = .ok (.iconst 0, 1) := by decide +kernel
theorem d_Law_law_904 : dec m_Law_law 904 = .ok (.ireturn, 1) := by decide +kernel
theorem d_Law_law_905 : dec m_Law_law 905 = .ok (.aload_n 1, 1) := by decide +kernel
theorem d_Law_law_906 : dec m_Law_law 906 = .ok (.aload_n 0, 1) := by decide +kernel
theorem d_Law_law_907 : dec m_Law_law 907 = .ok (.iload_n 3, 1) := by decide +kernel
theorem d_Law_law_908 : dec m_Law_law 908 = .ok (.iconst 1, 1) := by decide +kernel
theorem d_Law_law_909 : dec m_Law_law 909 = .ok (.iadd, 1) := by decide +kernel
theorem d_Law_law_910 : dec m_Law_law 910 = .ok (.iaload, 1) := by decide +kernel
theorem d_Law_law_911 : dec m_Law_law 911 = .ok (.aload_n 0, 1) := by decide +kernel
theorem d_Law_law_912 : dec m_Law_law 912 = .ok (.iload_n 3, 1) := by decide +kernel
theorem d_Law_law_913 : dec m_Law_law 913 = .ok (.iconst 2, 1) := by decide +kernel
theorem d_Law_law_914 : dec m_Law_law 914 = .ok (.iadd, 1) := by decide +kernel
theorem d_Law_law_915 : dec m_Law_law 915 = .ok (.iaload, 1) := by decide +kernel
theorem d_Law_law_916 : dec m_Law_law 916 = .ok (.invokevirtual 93, 3) := by decide +kernel
theorem d_Law_law_919 : dec m_Law_law 919 = .ok (.aload_n 2, 1) := by decide +kernel
theorem d_Law_law_920 : dec m_Law_law 920 = .ok (.aload_n 0, 1) := by decide +kernel
theorem d_Law_law_921 : dec m_Law_law 921 = .ok (.iload_n 3, 1) := by decide +kernel
theorem d_Law_law_922 : dec m_Law_law 922 = .ok (.iconst 1, 1) := by decide +kernel
theorem d_Law_law_923 : dec m_Law_law 923 = .ok (.iadd, 1) := by decide +kernel
theorem d_Law_law_924 : dec m_Law_law 924 = .ok (.iaload, 1) := by decide +kernel
theorem d_Law_law_925 : dec m_Law_law 925 = .ok (.aload_n 0, 1) := by decide +kernel
theorem d_Law_law_926 : dec m_Law_law 926 = .ok (.iload_n 3, 1) := by decide +kernel
theorem d_Law_law_927 : dec m_Law_law 927 = .ok (.iconst 2, 1) := by decide +kernel
theorem d_Law_law_928 : dec m_Law_law 928 = .ok (.iadd, 1) := by decide +kernel
theorem d_Law_law_929 : dec m_Law_law 929 = .ok (.iaload, 1) := by decide +kernel
theorem d_Law_law_930 : dec m_Law_law 930 = .ok (.invokevirtual 96, 3) := by decide +kernel
theorem d_Law_law_933 : dec m_Law_law 933 = .ok (.if_icmp .eq 1171, 3) := by decide +kernel
theorem d_Law_law_936 : dec m_Law_law 936 = .ok (.iconst 0, 1) := by decide +kernel
theorem d_Law_law_937 : dec m_Law_law 937 = .ok (.ireturn, 1) := by decide +kernel
theorem d_Law_law_938 : dec m_Law_law 938 = .ok (.aload_n 1, 1) := by decide +kernel
theorem d_Law_law_939 : dec m_Law_law 939 = .ok (.invokevirtual 97, 3) := by decide +kernel
theorem d_Law_law_942 : dec m_Law_law 942 = .ok (.aload_n 2, 1) := by decide +kernel
theorem d_Law_law_943 : dec m_Law_law 943 = .ok (.invokevirtual 101, 3) := by decide +kernel
theorem d_Law_law_946 : dec m_Law_law 946 = .ok (.if_icmp .eq 1158, 3) := by decide +kernel
theorem d_Law_law_949 : dec m_Law_law 949 = .ok (.iconst 0, 1) := by decide +kernel
theorem d_Law_law_950 : dec m_Law_law 950 = .ok (.ireturn, 1) := by decide +kernel
theorem d_Law_law_951 : dec m_Law_law 951 = .ok (.aload_n 1, 1) := by decide +kernel
theorem d_Law_law_952 : dec m_Law_law 952 = .ok (.aload_n 0, 1) := by decide +kernel
theorem d_Law_law_953 : dec m_Law_law 953 = .ok (.iload_n 3, 1) := by decide +kernel
theorem d_Law_law_954 : dec m_Law_law 954 = .ok (.iconst 1, 1) := by decide +kernel
theorem d_Law_law_955 : dec m_Law_law 955 = .ok (.iadd, 1) := by decide +kernel
theorem d_Law_law_956 : dec m_Law_law 956 = .ok (.iaload, 1) := by decide +kernel
theorem d_Law_law_957 : dec m_Law_law 957 = .ok (.aload_n 0, 1) := by decide +kernel
theorem d_Law_law_958 : dec m_Law_law 958 = .ok (.iload_n 3, 1) := by decide +kernel
theorem d_Law_law_959 : dec m_Law_law 959 = .ok (.iconst 2, 1) := by decide +kernel
theorem d_Law_law_960 : dec m_Law_law 960 = .ok (.iadd, 1) := by decide +kernel
theorem d_Law_law_961 : dec m_Law_law 961 = .ok (.iaload, 1) := by decide +kernel
theorem d_Law_law_962 : dec m_Law_law 962 = .ok (.aload_n 0, 1) := by decide +kernel
theorem d_Law_law_963 : dec m_Law_law 963 = .ok (.iload_n 3, 1) := by decide +kernel
theorem d_Law_law_964 : dec m_Law_law 964 = .ok (.iconst 3, 1) := by decide +kernel
theorem d_Law_law_965 : dec m_Law_law 965 = .ok (.iadd, 1) := by decide +kernel
theorem d_Law_law_966 : dec m_Law_law 966 = .ok (.iaload, 1) := by decide +kernel
theorem d_Law_law_967 : dec m_Law_law 967 = .ok (.invokevirtual 102, 3) := by decide +kernel
theorem d_Law_law_970 : dec m_Law_law 970 = .ok (.aload_n 2, 1) := by decide +kernel
theorem d_Law_law_971 : dec m_Law_law 971 = .ok (.aload_n 0, 1) := by decide +kernel
theorem d_Law_law_972 : dec m_Law_law 972 = .ok (.iload_n 3, 1) := by decide +kernel
theorem d_Law_law_973 : dec m_Law_law 973 = .ok (.iconst 1, 1) := by decide +kernel
theorem d_Law_law_974 : dec m_Law_law 974 = .ok (.iadd, 1) := by decide +kernel
theorem d_Law_law_975 : dec m_Law_law 975 = .ok (.iaload, 1) := by decide +kernel
theorem d_Law_law_976 : dec m_Law_law 976 = .ok (.aload_n 0, 1) := by decide +kernel
theorem d_Law_law_977 : dec m_Law_law 977 = .ok (.iload_n 3, 1) := by decide +kernel
theorem d_Law_law_978 : dec m_Law_law 978 = .ok (.iconst 2, 1) := by decide +kernel
theorem d_Law_law_979 : dec m_Law_law 979 = .ok (.iadd, 1) := by decide +kernel
theorem d_Law_law_980 : dec m_Law_law 980 = .ok (.iaload, 1) := by decide +kernel
theorem d_Law_law_981 : dec m_Law_law 981 = .ok (.aload_n 0, 1) := by decide +kernel
theorem d_Law_law_982 : dec m_Law_law 982 = .ok (.iload_n 3, 1) := by decide +kernel
theorem d_Law_law_983 : dec m_Law_law 983 = .ok (.iconst 3, 1) := by decide +kernel
theorem d_Law_law_984 : dec m_Law_law 984 = .ok (.iadd, 1) := by decide +kernel
theorem d_Law_law_985 : dec m_Law_law 985 = .ok (.iaload, 1) := by decide +kernel
theorem d_Law_law_986 : dec m_Law_law 986 = .ok (.invokevirtual 106, 3) := by decide +kernel
theorem d_Law_law_989 : dec m_Law_law 989 = .ok (.lcmp, 1) := by decide +kernel
theorem d_Law_law_990 : dec m_Law_law 990 = .ok (.ifCond .eq 1114, 3) := by decide +kernel
theorem d_Law_law_993 : dec m_Law_law 993 = .ok (.iconst 0, 1) := by decide +kernel
theorem d_Law_law_994 : dec m_Law_law 994 = .ok (.ireturn, 1) := by decide +kernel
theorem d_Law_law_995 : dec m_Law_law 995 = .ok (.aload_n 1, 1) := by decide +kernel
theorem d_Law_law_996 : dec m_Law_law 996 = .ok (.aload_n 0, 1) := by decide +kernel
theorem d_Law_law_997 : dec m_Law_law 997 = .ok (.iload_n 3, 1) := by decide +kernel
theorem d_Law_law_998 : dec m_Law_law 998 = .ok (.iconst 1, 1) := by decide +kernel
theorem d_Law_law_999 : dec m_Law_law 999 = .ok (.iadd, 1) := by decide +kernel
theorem d_Law_law_1000 : dec m_Law_law 1000 = .ok (.iaload, 1) := by decide +kernel
theorem d_Law_law_1001 : dec m_Law_law 1001 = .ok (.aload_n 0, 1) := by decide +kernel
theorem d_Law_law_1002 : dec m_Law_law 1002 = .ok (.iload_n 3, 1) := by decide +kernel
theorem d_Law_law_1003 : dec m_Law_law 1003 = .ok (.iconst 2, 1) := by decide +kernel
theorem d_Law_law_1004 : dec m_Law_law 1004 = .ok (.iadd, 1) := by decide +kernel
theorem d_Law_law_1005 : dec m_Law_law 1005 = .ok (.iaload, 1) := by decide +kernel
theorem d_Law_law_1006 : dec m_Law_law 1006 = .ok (.aload_n 0, 1) := by decide +kernel
theorem d_Law_law_1007 : dec m_Law_law 1007 = .ok (.iload_n 3, 1) := by decide +kernel
theorem d_Law_law_1008 : dec m_Law_law 1008 = .ok (.iconst 3, 1) := by decide +kernel
theorem d_Law_law_1009 : dec m_Law_law 1009 = .ok (.iadd, 1) := by decide +kernel
theorem d_Law_law_1010 : dec m_Law_law 1010 = .ok (.iaload, 1) := by decide +kernel
theorem d_Law_law_1011 : dec m_Law_law 1011 = .ok (.aload_n 0, 1) := by decide +kernel
theorem d_Law_law_1012 : dec m_Law_law 1012 = .ok (.iload_n 3, 1) := by decide +kernel
theorem d_Law_law_1013 : dec m_Law_law 1013 = .ok (.iconst 4, 1) := by decide +kernel
theorem d_Law_law_1014 : dec m_Law_law 1014 = .ok (.iadd, 1) := by decide +kernel
theorem d_Law_law_1015 : dec m_Law_law 1015 = .ok (.iaload, 1) := by decide +kernel
theorem d_Law_law_1016 : dec m_Law_law 1016 = .ok (.aload_n 0, 1) := by decide +kernel
theorem d_Law_law_1017 : dec m_Law_law 1017 = .ok (.iload_n 3, 1) := by decide +kernel
theorem d_Law_law_1018 : dec m_Law_law 1018 = .ok (.iconst 5, 1) := by decide +kernel
theorem d_Law_law_1019 : dec m_Law_law 1019 = .ok (.iadd, 1) := by decide +kernel
theorem d_Law_law_1020 : dec m_Law_law 1020 = .ok (.iaload, 1) := by decide +kernel
theorem d_Law_law_1021 : dec m_Law_law 1021 = .ok (.invokevirtual 107, 3) := by decide +kernel
theorem d_Law_law_1024 : dec m_Law_law 1024 = .ok (.aload_n 2, 1) := by decide +kernel
theorem d_Law_law_1025 : dec m_Law_law 1025 = .ok (.aload_n 0, 1) := by decide +kernel
theorem d_Law_law_1026 : dec m_Law_law 1026 = .ok (.iload_n 3, 1) := by decide +kernel
theorem d_Law_law_1027 : dec m_Law_law 1027 = .ok (.iconst 1, 1) := by decide +kernel
theorem d_Law_law_1028 : dec m_Law_law 1028 = .ok (.iadd, 1) := by decide +kernel
theorem d_Law_law_1029 : dec m_Law_law 1029 = .ok (.iaload, 1) := by decide +kernel
theorem d_Law_law_1030 : dec m_Law_law 1030 = .ok (.aload_n 0, 1) := by decide +kernel
theorem d_Law_law_1031 : dec m_Law_law 1031 = .ok (.iload_n 3, 1) := by decide +kernel
theorem d_Law_law_1032 : dec m_Law_law 1032 = .ok (.iconst 2, 1) := by decide +kernel
theorem d_Law_law_1033 : dec m_Law_law 1033 = .ok (.iadd, 1) := by decide +kernel
theorem d_Law_law_1034 : dec m_Law_law 1034 = .ok (.iaload, 1) := by decide +kernel
theorem d_Law_law_1035 : dec m_Law_law 1035 = .ok (.aload_n 0, 1) := by decide +kernel
theorem d_Law_law_1036 : dec m_Law_law 1036 = .ok (.iload_n 3, 1) := by decide +kernel
theorem d_Law_law_1037 : dec m_Law_law 1037 = .ok (.iconst 3, 1) := by decide +kernel
theorem d_Law_law_1038 : dec m_Law_law 1038 = .ok (.iadd, 1) := by decide +kernel
theorem d_Law_law_1039 : dec m_Law_law 1039 = .ok (.iaload, 1) := by decide +kernel
theorem d_Law_law_1040 : dec m_Law_law 1040 = .ok (.aload_n 0, 1) := by decide +kernel
theorem d_Law_law_1041 : dec m_Law_law 1041 = .ok (.iload_n 3, 1) := by decide +kernel
theorem d_Law_law_1042 : dec m_Law_law 1042 = .ok (.iconst 4, 1) := by decide +kernel
theorem d_Law_law_1043 : dec m_Law_law 1043 = .ok (.iadd, 1) := by decide +kernel
theorem d_Law_law_1044 : dec m_Law_law 1044 = .ok (.iaload, 1) := by decide +kernel
theorem d_Law_law_1045 : dec m_Law_law 1045 = .ok (.aload_n 0, 1) := by decide +kernel
theorem d_Law_law_1046 : dec m_Law_law 1046 = .ok (.iload_n 3, 1) := by decide +kernel
theorem d_Law_law_1047 : dec m_Law_law 1047 = .ok (.iconst 5, 1) := by decide +kernel
theorem d_Law_law_1048 : dec m_Law_law 1048 = .ok (.iadd, 1) := by decide +kernel
theorem d_Law_law_1049 : dec m_Law_law 1049 = .ok (.iaload, 1) := by decide +kernel
theorem d_Law_law_1050 : dec m_Law_law 1050 = .ok (.invokevirtual 110, 3) := by decide +kernel
theorem d_Law_law_1053 : dec m_Law_law 1053 = .ok (.lcmp, 1) := by decide +kernel
theorem d_Law_law_1054 : dec m_Law_law 1054 = .ok (.ifCond .eq 1050, 3) := by decide +kernel
theorem d_Law_law_1057 : dec m_Law_law 1057 = .ok (.iconst 0, 1) := by decide +kernel
theorem d_Law_law_1058 : dec m_Law_law 1058 = .ok (.ireturn, 1) := by decide +kernel
theorem d_Law_law_1059 : dec m_Law_law 1059 = .ok (.aload_n 1, 1) := by decide +kernel
theorem d_Law_law_1060 : dec m_Law_law 1060 = .ok (.invokevirtual 111, 3) := by decide +kernel
theorem d_Law_law_1063 : dec m_Law_law 1063 = .ok (.aload_n 2, 1) := by decide +kernel
theorem d_Law_law_1064 : dec m_Law_law 1064 = .ok (.invokevirtual 114, 3) := by decide +kernel
theorem d_Law_law_1067 : dec m_Law_law 1067 = .ok (.if_icmp .eq 1037, 3) := by decide +kernel
theorem d_Law_law_1070 : dec m_Law_law 1070 = .ok (.iconst 0, 1) := by decide +kernel
theorem d_Law_law_1071 : dec m_Law_law 1071 = .ok (.ireturn, 1) := by decide +kernel
theorem d_Law_law_1072 : dec m_Law_law 1072 = .ok (.aload_n 1, 1) := by decide +kernel
theorem d_Law_law_1073 : dec m_Law_law 1073 = .ok (.aload_n 0, 1) := by decide +kernel
theorem d_Law_law_1074 : dec m_Law_law 1074 = .ok (.iload_n 3, 1) := by decide +kernel
theorem d_Law_law_1075 : dec m_Law_law 1075 = .ok (.iconst 1, 1) := by decide +kernel
theorem d_Law_law_1076 : dec m_Law_law 1076 = .ok (.iadd, 1) := by decide +kernel
theorem d_Law_law_1077 : dec m_Law_law 1077 = .ok (.iaload, 1) := by decide +kernel
theorem d_Law_law_1078 : dec m_Law_law 1078 = .ok (.invokevirtual 115, 3) := by decide +kernel
theorem d_Law_law_1081 : dec m_Law_law 1081 = .ok (.aload_n 2, 1) := by decide +kernel
theorem d_Law_law_1082 : dec m_Law_law 1082 = .ok (.aload_n 0, 1) := by decide +kernel
theorem d_Law_law_1083 : dec m_Law_law 1083 = .ok (.iload_n 3, 1) := by decide +kernel
theorem d_Law_law_1084 : dec m_Law_law 1084 = .ok (.iconst 1, 1) := by decide +kernel
theorem d_Law_law_1085 : dec m_Law_law 1085 = .ok (.iadd, 1) := by decide +kernel
theorem d_Law_law_1086 : dec m_Law_law 1086 = .ok (.iaload, 1) := by decide +kernel
theorem d_Law_law_1087 : dec m_Law_law 1087 = .ok (.invokevirtual 118, 3) := by decide +kernel
theorem d_Law_law_1090 : dec m_Law_law 1090 = .ok (.if_icmp .eq 1014, 3) := by decide +kernel
theorem d_Law_law_1093 : dec m_Law_law 1093 = .ok (.iconst 0, 1) := by decide +kernel
theorem d_Law_law_1094 : dec m_Law_law 1094 = .ok (.ireturn, 1) := by decide +kernel
theorem d_Law_law_1095 : dec m_Law_law 1095 = .ok (.aload_n 1, 1) := by decide +kernel
theorem d_Law_law_1096 : dec m_Law_law 1096 = .ok (.aload_n 0, 1) := by decide +kernel
theorem d_Law_law_1097 : dec m_Law_law 1097 = .ok (.iload_n 3, 1) := by decide +kernel
theorem d_Law_law_1098 : dec m_Law_law 1098 = .ok (.iconst 1, 1) := by decide +kernel
theorem d_Law_law_1099 : dec m_Law_law 1099 = .ok (.iadd, 1) := by decide +kernel
theorem d_Law_law_1100 : dec m_Law_law 1100 = .ok (.iaload, 1) := by decide +kernel
theorem d_Law_law_1101 : dec m_Law_law 1101 = .ok (.aload_n 0, 1) := by decide +kernel
theorem d_Law_law_1102 : dec m_Law_law 1102 = .ok (.iload_n 3, 1) := by decide +kernel
theorem d_Law_law_1103 : dec m_Law_law 1103 = .ok (.iconst 2, 1) := by decide +kernel
theorem d_Law_law_1104 : dec m_Law_law 1104 = .ok (.iadd, 1) := by decide +kernel
theorem d_Law_law_1105 : dec m_Law_law 1105 = .ok (.iaload, 1) := by decide +kernel
theorem d_Law_law_1106 : dec m_Law_law 1106 = .ok (.aload_n 0, 1) := by decide +kernel
theorem d_Law_law_1107 : dec m_Law_law 1107 = .ok (.iload_n 3, 1) := by decide +kernel
theorem d_Law_law_1108 : dec m_Law_law 1108 = .ok (.iconst 3, 1) := by decide +kernel
theorem d_Law_law_1109 : dec m_Law_law 1109 = .ok (.iadd, 1) := by decide +kernel
theorem d_Law_law_1110 : dec m_Law_law 1110 = .ok (.iaload, 1) := by decide +kernel
theorem d_Law_law_1111 : dec m_Law_law 1111 = .ok (.invokevirtual 119, 3) := by decide +kernel
theorem d_Law_law_1114 : dec m_Law_law 1114 = .ok (.aload_n 2, 1) := by decide +kernel
theorem d_Law_law_1115 : dec m_Law_law 1115 = .ok (.aload_n 0, 1) := by decide +kernel
theorem d_Law_law_1116 : dec m_Law_law 1116 = .ok (.iload_n 3, 1) := by decide +kernel
theorem d_Law_law_1117 : dec m_Law_law 1117 = .ok (.iconst 1, 1) := by decide +kernel
theorem d_Law_law_1118 : dec m_Law_law 1118 = .ok (.iadd, 1) := by decide +kernel
theorem d_Law_law_1119 : dec m_Law_law 1119 = .ok (.iaload, 1) := by decide +kernel
theorem d_Law_law_1120 : dec m_Law_law 1120 = .ok (.aload_n 0, 1) := by decide +kernel
theorem d_Law_law_1121 : dec m_Law_law 1121 = .ok (.iload_n 3, 1) := by decide +kernel
theorem d_Law_law_1122 : dec m_Law_law 1122 = .ok (.iconst 2, 1) := by decide +kernel
theorem d_Law_law_1123 : dec m_Law_law 1123 = .ok (.iadd, 1) := by decide +kernel
theorem d_Law_law_1124 : dec m_Law_law 1124 = .ok (.iaload, 1) := by decide +kernel
theorem d_Law_law_1125 : dec m_Law_law 1125 = .ok (.aload_n 0, 1) := by decide +kernel
theorem d_Law_law_1126 : dec m_Law_law 1126 = .ok (.iload_n 3, 1) := by decide +kernel
theorem d_Law_law_1127 : dec m_Law_law 1127 = .ok (.iconst 3, 1) := by decide +kernel
theorem d_Law_law_1128 : dec m_Law_law 1128 = .ok (.iadd, 1) := by decide +kernel
theorem d_Law_law_1129 : dec m_Law_law 1129 = .ok (.iaload, 1) := by decide +kernel
theorem d_Law_law_1130 : dec m_Law_law 1130 = .ok (.invokevirtual 122, 3) := by decide +kernel
theorem d_Law_law_1133 : dec m_Law_law 1133 = .ok (.if_icmp .eq 971, 3) := by decide +kernel
theorem d_Law_law_1136 : dec m_Law_law 1136 = .ok (.iconst 0, 1) := by decide +kernel
theorem d_Law_law_1137 : dec m_Law_law 1137 = .ok (.ireturn, 1) := by decide +kernel
theorem d_Law_law_1138 : dec m_Law_law 1138 = .ok (.aload_n 1, 1) := by decide +kernel
theorem d_Law_law_1139 : dec m_Law_law 1139 = .ok (.aload_n 0, 1) := by decide +kernel
theorem d_Law_law_1140 : dec m_Law_law 1140 = .ok (.iload_n 3, 1) := by decide +kernel
theorem d_Law_law_1141 : dec m_Law_law 1141 = .ok (.iconst 1, 1) := by decide +kernel
theorem d_Law_law_1142 : dec m_Law_law 1142 = .ok (.iadd, 1) := by decide +kernel
theorem d_Law_law_1143 : dec m_Law_law 1143 = .ok (.iaload, 1) := by decide +kernel
theorem d_Law_law_1144 : dec m_Law_law 1144 = .ok (.aload_n 0, 1) := by decide +kernel
theorem d_Law_law_1145 : dec m_Law_law 1145 = .ok (.iload_n 3, 1) := by decide +kernel
theorem d_Law_law_1146 : dec m_Law_law 1146 = .ok (.iconst 2, 1) := by decide +kernel
theorem d_Law_law_1147 : dec m_Law_law 1147 = .ok (.iadd, 1) := by decide +kernel
theorem d_Law_law_1148 : dec m_Law_law 1148 = .ok (.iaload, 1) := by decide +kernel
theorem d_Law_law_1149 : dec m_Law_law 1149 = .ok (.aload_n 0, 1) := by decide +kernel
theorem d_Law_law_1150 : dec m_Law_law 1150 = .ok (.iload_n 3, 1) := by decide +kernel
theorem d_Law_law_1151 : dec m_Law_law 1151 = .ok (.iconst 3, 1) := by decide +kernel
theorem d_Law_law_1152 : dec m_Law_law 1152 = .ok (.iadd, 1) := by decide +kernel
theorem d_Law_law_1153 : dec m_Law_law 1153 = .ok (.iaload, 1) := by decide +kernel
theorem d_Law_law_1154 : dec m_Law_law 1154 = .ok (.aload_n 0, 1) := by decide +kernel
theorem d_Law_law_1155 : dec m_Law_law 1155 = .ok (.iload_n 3, 1) := by decide +kernel
theorem d_Law_law_1156 : dec m_Law_law 1156 = .ok (.iconst 4, 1) := by decide +kernel
theorem d_Law_law_1157 : dec m_Law_law 1157 = .ok (.iadd, 1) := by decide +kernel
theorem d_Law_law_1158 : dec m_Law_law 1158 = .ok (.iaload, 1) := by decide +kernel
theorem d_Law_law_1159 : dec m_Law_law 1159 = .ok (.aload_n 0, 1) := by decide +kernel
theorem d_Law_law_1160 : dec m_Law_law 1160 = .ok (.iload_n 3, 1) := by decide +kernel
theorem d_Law_law_1161 : dec m_Law_law 1161 = .ok (.iconst 5, 1) := by decide +kernel
theorem d_Law_law_1162 : dec m_Law_law 1162 = .ok (.iadd, 1) := by decide +kernel
theorem d_Law_law_1163 : dec m_Law_law 1163 = .ok (.iaload, 1) := by decide +kernel
theorem d_Law_law_1164 : dec m_Law_law 1164 = .ok (.invokevirtual 123, 3) := by decide +kernel
theorem d_Law_law_1167 : dec m_Law_law 1167 = .ok (.aload_n 2, 1) := by decide +kernel
theorem d_Law_law_1168 : dec m_Law_law 1168 = .ok (.aload_n 0, 1) := by decide +kernel
theorem d_Law_law_1169 : dec m_Law_law 1169 = .ok (.iload_n 3, 1) := by decide +kernel
theorem d_Law_law_1170 : dec m_Law_law 1170 = .ok (.iconst 1, 1) := by decide +kernel
theorem d_Law_law_1171 : dec m_Law_law 1171 = .ok (.iadd, 1) := by decide +kernel
theorem d_Law_law_1172 : dec m_Law_law 1172 = .ok (.iaload, 1) := by decide +kernel
theorem d_Law_law_1173 : dec m_Law_law 1173 = .ok (.aload_n 0, 1) := by decide +kernel
theorem d_Law_law_1174 : dec m_Law_law 1174 = .ok (.iload_n 3, 1) := by decide +kernel
theorem d_Law_law_1175 : dec m_Law_law 1175 = .ok (.iconst 2, 1) := by decide +kernel
theorem d_Law_law_1176 : dec m_Law_law 1176 = .ok (.iadd, 1) := by decide +kernel
theorem d_Law_law_1177 : dec m_Law_law 1177 = .ok (.iaload, 1) := by decide +kernel
theorem d_Law_law_1178 : dec m_Law_law 1178 = .ok (.aload_n 0, 1) := by decide +kernel
theorem d_Law_law_1179 : dec m_Law_law 1179 = .ok (.iload_n 3, 1) := by decide +kernel
theorem d_Law_law_1180 : dec m_Law_law 1180 = .ok (.iconst 3, 1) := by decide +kernel
theorem d_Law_law_1181 : dec m_Law_law 1181 = .ok (.iadd, 1) := by decide +kernel
theorem d_Law_law_1182 : dec m_Law_law 1182 = .ok (.iaload, 1) := by decide +kernel
theorem d_Law_law_1183 : dec m_Law_law 1183 = .ok (.aload_n 0, 1) := by decide +kernel
theorem d_Law_law_1184 : dec m_Law_law 1184 = .ok (.iload_n 3, 1) := by decide +kernel
theorem d_Law_law_1185 : dec m_Law_law 1185 = .ok (.iconst 4, 1) := by decide +kernel
theorem d_Law_law_1186 : dec m_Law_law 1186 = .ok (.iadd, 1) := by decide +kernel
theorem d_Law_law_1187 : dec m_Law_law 1187 = .ok (.iaload, 1) := by decide +kernel
theorem d_Law_law_1188 : dec m_Law_law 1188 = .ok (.aload_n 0, 1) := by decide +kernel
theorem d_Law_law_1189 : dec m_Law_law 1189 = .ok (.iload_n 3, 1) := by decide +kernel
theorem d_Law_law_1190 : dec m_Law_law 1190 = .ok (.iconst 5, 1) := by decide +kernel
theorem d_Law_law_1191 : dec m_Law_law 1191 = .ok (.iadd, 1) := by decide +kernel
theorem d_Law_law_1192 : dec m_Law_law 1192 = .ok (.iaload, 1) := by decide +kernel
theorem d_Law_law_1193 : dec m_Law_law 1193 = .ok (.invokevirtual 126, 3) := by decide +kernel
theorem d_Law_law_1196 : dec m_Law_law 1196 = .ok (.if_icmp .eq 908, 3) := by decide +kernel
theorem d_Law_law_1199 : dec m_Law_law 1199 = .ok (.iconst 0, 1) := by decide +kernel
theorem d_Law_law_1200 : dec m_Law_law 1200 = .ok (.ireturn, 1) := by decide +kernel
theorem d_Law_law_1201 : dec m_Law_law 1201 = .ok (.aload_n 1, 1) := by decide +kernel
theorem d_Law_law_1202 : dec m_Law_law 1202 = .ok (.aload_n 0, 1) := by decide +kernel
theorem d_Law_law_1203 : dec m_Law_law 1203 = .ok (.iload_n 3, 1) := by decide +kernel
theorem d_Law_law_1204 : dec m_Law_law 1204 = .ok (.iconst 1, 1) := by decide +kernel
theorem d_Law_law_1205 : dec m_Law_law 1205 = .ok (.iadd, 1) := by decide +kernel
theorem d_Law_law_1206 : dec m_Law_law 1206 = .ok (.iaload, 1) := by decide +kernel
theorem d_Law_law_1207 : dec m_Law_law 1207 = .ok (.aload_n 0, 1) := by decide +kernel
theorem d_Law_law_1208 : dec m_Law_law 1208 = .ok (.iload_n 3, 1) := by decide +kernel
theorem d_Law_law_1209 : dec m_Law_law 1209 = .ok (.iconst 2, 1) := by decide +kernel
theorem d_Law_law_1210 : dec m_Law_law 1210 = .ok (.iadd, 1) := by decide +kernel
theorem d_Law_law_1211 : dec m_Law_law 1211 = .ok (.iaload, 1) := by decide +kernel
theorem d_Law_law_1212 : dec m_Law_law 1212 = .ok (.invokevirtual 127, 3) := by decide +kernel
theorem d_Law_law_1215 : dec m_Law_law 1215 = .ok (.aload_n 2, 1) := by decide +kernel
theorem d_Law_law_1216 : dec m_Law_law 1216 = .ok (.aload_n 0, 1) := by decide +kernel
theorem d_Law_law_1217 : dec m_Law_law 1217 = .ok (.iload_n 3, 1) := by decide +kernel
theorem d_Law_law_1218 : dec m_Law_law 1218 = .ok (.iconst 1, 1) := by decide +kernel
theorem d_Law_law_1219 : dec m_Law_law 1219 = .ok (.iadd, 1) := by decide +kernel
theorem d_Law_law_1220 : dec m_Law_law 1220 = .ok (.iaload, 1) := by decide +kernel
theorem d_Law_law_1221 : dec m_Law_law 1221 = .ok (.aload_n 0, 1) := by decide +kernel
theorem d_Law_law_1222 : dec m_Law_law 1222 = .ok (.iload_n 3, 1) := by decide +kernel
theorem d_Law_law_1223 : dec m_Law_law 1223 = .ok (.iconst 2, 1) := by decide +kernel
theorem d_Law_law_1224 : dec m_Law_law 1224 = .ok (.iadd, 1) := by decide +kernel
theorem d_Law_law_1225 : dec m_Law_law 1225 = .ok (.iaload, 1) := by decide +kernel
theorem d_Law_law_1226 : dec m_Law_law 1226 = .ok (.invokevirtual 130, 3) := by decide +kernel
theorem d_Law_law_1229 : dec m_Law_law 1229 = .ok (.if_icmp .eq 875, 3) := by decide +kernel
theorem d_Law_law_1232 : dec m_Law_law 1232 = .ok (.iconst 0, 1) := by decide +kernel
theorem d_Law_law_1233 : dec m_Law_law 1233 = .ok (.ireturn, 1) := by decide +kernel
theorem d_Law_law_1234 : dec m_Law_law 1234 = .ok (.aload_n 1, 1) := by decide +kernel
theorem d_Law_law_1235 : dec m_Law_law 1235 = .ok (.aload_n 0, 1) := by decide +kernel
theorem d_Law_law_1236 : dec m_Law_law 1236 = .ok (.iload_n 3, 1) := by decide +kernel
theorem d_Law_law_1237 : dec m_Law_law 1237 = .ok (.iconst 1, 1) := by decide +kernel
theorem d_Law_law_1238 : dec m_Law_law 1238 = .ok (.iadd, 1) := by decide +kernel
theorem d_Law_law_1239 : dec m_Law_law 1239 = .ok (.iaload, 1) := by decide +kernel
theorem d_Law_law_1240 : dec m_Law_law 1240 = .ok (.aload_n 0, 1) := by decide +kernel
theorem d_Law_law_1241 : dec m_Law_law 1241 = .ok (.iload_n 3, 1) := by decide +kernel
theorem d_Law_law_1242 : dec m_Law_law 1242 = .ok (.iconst 2, 1) := by decide +kernel
theorem d_Law_law_1243 : dec m_Law_law 1243 = .ok (.iadd, 1) := by decide +kernel
theorem d_Law_law_1244 : dec m_Law_law 1244 = .ok (.iaload, 1) := by decide +kernel
theorem d_Law_law_1245 : dec m_Law_law 1245 = .ok (.aload_n 0, 1) := by decide +kernel
theorem d_Law_law_1246 : dec m_Law_law 1246 = .ok (.iload_n 3, 1) := by decide +kernel
theorem d_Law_law_1247 : dec m_Law_law 1247 = .ok (.iconst 3, 1) := by decide +kernel
theorem d_Law_law_1248 : dec m_Law_law 1248 = .ok (.iadd, 1) := by decide +kernel
theorem d_Law_law_1249 : dec m_Law_law 1249 = .ok (.iaload, 1) := by decide +kernel
theorem d_Law_law_1250 : dec m_Law_law 1250 = .ok (.invokevirtual 131, 3) := by decide +kernel
theorem d_Law_law_1253 : dec m_Law_law 1253 = .ok (.aload_n 2, 1) := by decide +kernel
theorem d_Law_law_1254 : dec m_Law_law 1254 = .ok (.aload_n 0, 1) := by decide +kernel
theorem d_Law_law_1255 : dec m_Law_law 1255 = .ok (.iload_n 3, 1) := by decide +kernel
theorem d_Law_law_1256 : dec m_Law_law 1256 = .ok (.iconst 1, 1) := by decide +kernel
theorem d_Law_law_1257 : dec m_Law_law 1257 = .ok (.iadd, 1) := by decide +kernel
theorem d_Law_law_1258 : dec m_Law_law 1258 = .ok (.iaload, 1) := by decide +kernel
theorem d_Law_law_1259 : dec m_Law_law 1259 = .ok (.aload_n 0, 1) := by decide +kernel
theorem d_Law_law_1260 : dec m_Law_law 1260 = .ok (.iload_n 3, 1) := by decide +kernel
theorem d_Law_law_1261 : dec m_Law_law 1261 = .ok (.iconst 2, 1) := by decide +kernel
theorem d_Law_law_1262 : dec m_Law_law 1262 = .ok (.iadd, 1) := by decide +kernel
theorem d_Law_law_1263 : dec m_Law_law 1263 = .ok (.iaload, 1) := by decide +kernel
theorem d_Law_law_1264 : dec m_Law_law 1264 = .ok (.aload_n 0, 1) := by decide +kernel
theorem d_Law_law_1265 : dec m_Law_law 1265 = .ok (.iload_n 3, 1) := by decide +kernel
theorem d_Law_law_1266 : dec m_Law_law 1266 = .ok (.iconst 3, 1) := by decide +kernel
theorem d_Law_law_1267 : dec m_Law_law 1267 = .ok (.iadd, 1) := by decide +kernel
theorem d_Law_law_1268 : dec m_Law_law 1268 = .ok (.iaload, 1) := by decide +kernel
theorem d_Law_law_1269 : dec m_Law_law 1269 = .ok (.invokevirtual 134, 3) := by decide +kernel
theorem d_Law_law_1272 : dec m_Law_law 1272 = .ok (.if_icmp .eq 832, 3) := by decide +kernel
theorem d_Law_law_1275 : dec m_Law_law 1275 = .ok (.iconst 0, 1) := by decide +kernel
theorem d_Law_law_1276 : dec m_Law_law 1276 = .ok (.ireturn, 1) := by decide +kernel
theorem d_Law_law_1277 : dec m_Law_law 1277 = .ok (.aload_n 1, 1) := by decide +kernel
theorem d_Law_law_1278 : dec m_Law_law 1278 = .ok (.aload_n 0, 1) := by decide +kernel
theorem d_Law_law_1279 : dec m_Law_law 1279 = .ok (.iload_n 3, 1) := by decide +kernel
theorem d_Law_law_1280 : dec m_Law_law 1280 = .ok (.iconst 1, 1) := by decide +kernel
theorem d_Law_law_1281 : dec m_Law_law 1281 = .ok (.iadd, 1) := by decide +kernel
theorem d_Law_law_1282 : dec m_Law_law 1282 = .ok (.iaload, 1) := by decide +kernel
theorem d_Law_law_1283 : dec m_Law_law 1283 = .ok (.invokevirtual 135, 3) := by decide +kernel
theorem d_Law_law_1286 : dec m_Law_law 1286 = .ok (.aload_n 2, 1) := by decide +kernel
theorem d_Law_law_1287 : dec m_Law_law 1287 = .ok (.aload_n 0, 1) := by decide +kernel
theorem d_Law_law_1288 : dec m_Law_law 1288 = .ok (.iload_n 3, 1) := by decide +kernel
theorem d_Law_law_1289 : dec m_Law_law 1289 = .ok (.iconst 1, 1) := by decide +kernel
theorem d_Law_law_1290 : dec m_Law_law 1290 = .ok (.iadd, 1) := by decide +kernel
theorem d_Law_law_1291 : dec m_Law_law 1291 = .ok (.iaload, 1) := by decide +kernel
theorem d_Law_law_1292 : dec m_Law_law 1292 = .ok (.invokevirtual 138, 3) := by decide +kernel
theorem d_Law_law_1295 : dec m_Law_law 1295 = .ok (.if_icmp .eq 809, 3) := by decide +kernel
theorem d_Law_law_1298 : dec m_Law_law 1298 = .ok (.iconst 0, 1) := by decide +kernel
theorem d_Law_law_1299 : dec m_Law_law 1299 = .ok (.ireturn, 1) := by decide +kernel
theorem d_Law_law_1300 : dec m_Law_law 1300 = .ok (.aload_n 1, 1) := by decide +kernel
theorem d_Law_law_1301 : dec m_Law_law 1301 = .ok (.aload_n 0, 1) := by decide +kernel
theorem d_Law_law_1302 : dec m_Law_law 1302 = .ok (.iload_n 3, 1) := by decide +kernel
theorem d_Law_law_1303 : dec m_Law_law 1303 = .ok (.iconst 1, 1) := by decide +kernel
theorem d_Law_law_1304 : dec m_Law_law 1304 = .ok (.iadd, 1) := by decide +kernel
theorem d_Law_law_1305 : dec m_Law_law 1305 = .ok (.iaload, 1) := by decide +kernel
theorem d_Law_law_1306 : dec m_Law_law 1306 = .ok (.aload_n 0, 1) := by decide +kernel
theorem d_Law_law_1307 : dec m_Law_law 1307 = .ok (.iload_n 3, 1) := by decide +kernel
theorem d_Law_law_1308 : dec m_Law_law 1308 = .ok (.iconst 2, 1) := by decide +kernel
theorem d_Law_law_1309 : dec m_Law_law 1309 = .ok (.iadd, 1) := by decide +kernel
theorem d_Law_law_1310 : dec m_Law_law 1310 = .ok (.iaload, 1) := by decide +kernel
theorem d_Law_law_1311 : dec m_Law_law 1311 = .ok (.invokevirtual 139, 3) := by decide +kernel
theorem d_Law_law_1314 : dec m_Law_law 1314 = .ok (.aload_n 2, 1) := by decide +kernel
theorem d_Law_law_1315 : dec m_Law_law 1315 = .ok (.aload_n 0, 1) := by decide +kernel
theorem d_Law_law_1316 : dec m_Law_law 1316 = .ok (.iload_n 3, 1) := by decide +kernel
theorem d_Law_law_1317 : dec m_Law_law 1317 = .ok (.iconst 1, 1) := by decide +kernel
theorem d_Law_law_1318 : dec m_Law_law 1318 = .ok (.iadd, 1) := by decide +kernel
theorem d_Law_law_1319 : dec m_Law_law 1319 = .ok (.iaload, 1) := by decide +kernel
theorem d_Law_law_1320 : dec m_Law_law 1320 = .ok (.aload_n 0, 1) := by decide +kernel
theorem d_Law_law_1321 : dec m_Law_law 1321 = .ok (.iload_n 3, 1) := by decide +kernel
theorem d_Law_law_1322 : dec m_Law_law 1322 = .ok (.iconst 2, 1) := by decide +kernel
theorem d_Law_law_1323 : dec m_Law_law 1323 = .ok (.iadd, 1) := by decide +kernel
theorem d_Law_law_1324 : dec m_Law_law 1324 = .ok (.iaload, 1) := by decide +kernel
theorem d_Law_law_1325 : dec m_Law_law 1325 = .ok (.invokevirtual 143, 3) := by decide +kernel
theorem d_Law_law_1328 : dec m_Law_law 1328 = .ok (.lcmp, 1) := by decide +kernel
theorem d_Law_law_1329 : dec m_Law_law 1329 = .ok (.ifCond .eq 775, 3) := by decide +kernel
theorem d_Law_law_1332 : dec m_Law_law 1332 = .ok (.iconst 0, 1) := by decide +kernel
theorem d_Law_law_1333 : dec m_Law_law 1333 = .ok (.ireturn, 1) := by decide +kernel
theorem d_Law_law_1334 : dec m_Law_law 1334 = .ok (.aload_n 1, 1) := by decide +kernel
theorem d_Law_law_1335 : dec m_Law_law 1335 = .ok (.aload_n 0, 1) := by decide +kernel
theorem d_Law_law_1336 : dec m_Law_law 1336 = .ok (.iload_n 3, 1) := by decide +kernel
theorem d_Law_law_1337 : dec m_Law_law 1337 = .ok (.iconst 1, 1) := by decide +kernel
theorem d_Law_law_1338 : dec m_Law_law 1338 = .ok (.iadd, 1) := by decide +kernel
theorem d_Law_law_1339 : dec m_Law_law 1339 = .ok (.iaload, 1) := by decide +kernel
theorem d_Law_law_1340 : dec m_Law_law 1340 = .ok (.aload_n 0, 1) := by decide +kernel
theorem d_Law_law_1341 : dec m_Law_law 1341 = .ok (.iload_n 3, 1) := by decide +kernel
theorem d_Law_law_1342 : dec m_Law_law 1342 = .ok (.iconst 2, 1) := by decide +kernel
theorem d_Law_law_1343 : dec m_Law_law 1343 = .ok (.iadd, 1) := by decide +kernel
theorem d_Law_law_1344 : dec m_Law_law 1344 = .ok (.iaload, 1) := by decide +kernel
theorem d_Law_law_1345 : dec m_Law_law 1345 = .ok (.invokevirtual 144, 3) := by decide +kernel
theorem d_Law_law_1348 : dec m_Law_law 1348 = .ok (.aload_n 2, 1) := by decide +kernel
theorem d_Law_law_1349 : dec m_Law_law 1349 = .ok (.aload_n 0, 1) := by decide +kernel
theorem d_Law_law_1350 : dec m_Law_law 1350 = .ok (.iload_n 3, 1) := by decide +kernel
theorem d_Law_law_1351 : dec m_Law_law 1351 = .ok (.iconst 1, 1) := by decide +kernel
theorem d_Law_law_1352 : dec m_Law_law 1352 = .ok (.iadd, 1) := by decide +kernel
theorem d_Law_law_1353 : dec m_Law_law 1353 = .ok (.iaload, 1) := by decide +kernel
theorem d_Law_law_1354 : dec m_Law_law 1354 = .ok (.aload_n 0, 1) := by decide +kernel
theorem d_Law_law_1355 : dec m_Law_law 1355 = .ok (.iload_n 3, 1) := by decide +kernel
theorem d_Law_law_1356 : dec m_Law_law 1356 = .ok (.iconst 2, 1) := by decide +kernel
theorem d_Law_law_1357 : dec m_Law_law 1357 = .ok (.iadd, 1) := by decide +kernel
theorem d_Law_law_1358 : dec m_Law_law 1358 = .ok (.iaload, 1) := by decide +kernel
theorem d_Law_law_1359 : dec m_Law_law 1359 = .ok (.invokevirtual 147, 3) := by decide +kernel
theorem d_Law_law_1362 : dec m_Law_law 1362 = .ok (.lcmp, 1) := by decide +kernel
theorem d_Law_law_1363 : dec m_Law_law 1363 = .ok (.ifCond .eq 741, 3) := by decide +kernel
theorem d_Law_law_1366 : dec m_Law_law 1366 = .ok (.iconst 0, 1) := by decide +kernel
theorem d_Law_law_1367 : dec m_Law_law 1367 = .ok (.ireturn, 1) := by decide +kernel
theorem d_Law_law_1368 : dec m_Law_law 1368 = .ok (.aload_n 1, 1) := by decide +kernel
theorem d_Law_law_1369 : dec m_Law_law 1369 = .ok (.aload_n 0, 1) := by decide +kernel
theorem d_Law_law_1370 : dec m_Law_law 1370 = .ok (.iload_n 3, 1) := by decide +kernel
theorem d_Law_law_1371 : dec m_Law_law 1371 = .ok (.iconst 1, 1) := by decide +kernel
theorem d_Law_law_1372 : dec m_Law_law 1372 = .ok (.iadd, 1) := by decide +kernel
theorem d_Law_law_1373 : dec m_Law_law 1373 = .ok (.iaload, 1) := by decide +kernel
theorem d_Law_law_1374 : dec m_Law_law 1374 = .ok (.aload_n 0, 1) := by decide +kernel
theorem d_Law_law_1375 : dec m_Law_law 1375 = .ok (.iload_n 3, 1) := by decide +kernel
theorem d_Law_law_1376 : dec m_Law_law 1376 = .ok (.iconst 2, 1) := by decide +kernel
theorem d_Law_law_1377 : dec m_Law_law 1377 = .ok (.iadd, 1) := by decide +kernel
theorem d_Law_law_1378 : dec m_Law_law 1378 = .ok (.iaload, 1) := by decide +kernel
theorem d_Law_law_1379 : dec m_Law_law 1379 = .ok (.aload_n 0, 1) := by decide +kernel
theorem d_Law_law_1380 : dec m_Law_law 1380 = .ok (.iload_n 3, 1) := by decide +kernel
theorem d_Law_law_1381 : dec m_Law_law 1381 = .ok (.iconst 3, 1) := by decide +kernel
theorem d_Law_law_1382 : dec m_Law_law 1382 = .ok (.iadd, 1) := by decide +kernel
theorem d_Law_law_1383 : dec m_Law_law 1383 = .ok (.iaload, 1) := by decide +kernel
theorem d_Law_law_1384 : dec m_Law_law 1384 = .ok (.invokevirtual 148, 3) := by decide +kernel
theorem d_Law_law_1387 : dec m_Law_law 1387 = .ok (.aload_n 2, 1) := by decide +kernel
theorem d_Law_law_1388 : dec m_Law_law 1388 = .ok (.aload_n 0, 1) := by decide +kernel
theorem d_Law_law_1389 : dec m_Law_law 1389 = .ok (.iload_n 3, 1) := by decide +kernel
theorem d_Law_law_1390 : dec m_Law_law 1390 = .ok (.iconst 1, 1) := by decide +kernel
theorem d_Law_law_1391 : dec m_Law_law 1391 = .ok (.iadd, 1) := by decide +kernel
theorem d_Law_law_1392 : dec m_Law_law 1392 = .ok (.iaload, 1) := by decide +kernel
theorem d_Law_law_1393 : dec m_Law_law 1393 = .ok (.aload_n 0, 1) := by decide +kernel
theorem d_Law_law_1394 : dec m_Law_law 1394 = .ok (.iload_n 3, 1) := by decide +kernel
theorem d_Law_law_1395 : dec m_Law_law 1395 = .ok (.iconst 2, 1) := by decide +kernel
theorem d_Law_law_1396 : dec m_Law_law 1396 = .ok (.iadd, 1) := by decide +kernel
theorem d_Law_law_1397 : dec m_Law_law 1397 = .ok (.iaload, 1) := by decide +kernel
theorem d_Law_law_1398 : dec m_Law_law 1398 = .ok (.aload_n 0, 1) := by decide +kernel
theorem d_Law_law_1399 : dec m_Law_law 1399 = .ok (.iload_n 3, 1) := by decide +kernel
theorem d_Law_law_1400 : dec m_Law_law 1400 = .ok (.iconst 3, 1) := by decide +kernel
theorem d_Law_law_1401 : dec m_Law_law 1401 = .ok (.iadd, 1) := by decide +kernel
theorem d_Law_law_1402 : dec m_Law_law 1402 = .ok (.iaload, 1) := by decide +kernel
theorem d_Law_law_1403 : dec m_Law_law 1403 = .ok (.invokevirtual 151, 3) := by decide +kernel
theorem d_Law_law_1406 : dec m_Law_law 1406 = .ok (.if_icmp .eq 698, 3) := by decide +kernel
theorem d_Law_law_1409 : dec m_Law_law 1409 = .ok (.iconst 0, 1) := by decide +kernel
theorem d_Law_law_1410 : dec m_Law_law 1410 = .ok (.ireturn, 1) := by decide +kernel
theorem d_Law_law_1411 : dec m_Law_law 1411 = .ok (.aload_n 1, 1) := by decide +kernel
theorem d_Law_law_1412 : dec m_Law_law 1412 = .ok (.invokevirtual 152, 3) := by decide +kernel
theorem d_Law_law_1415 : dec m_Law_law 1415 = .ok (.aload_n 2, 1) := by decide +kernel
theorem d_Law_law_1416 : dec m_Law_law 1416 = .ok (.invokevirtual 156, 3) := by decide +kernel
theorem d_Law_law_1419 : dec m_Law_law 1419 = .ok (.lcmp, 1) := by decide +kernel
theorem d_Law_law_1420 : dec m_Law_law 1420 = .ok (.ifCond .eq 684, 3) := by decide +kernel
theorem d_Law_law_1423 : dec m_Law_law 1423 = .ok (.iconst 0, 1) := by decide +kernel
theorem d_Law_law_1424 : dec m_Law_law 1424 = .ok (.ireturn, 1) := by decide +kernel
theorem d_Law_law_1425 : dec m_Law_law 1425 = .ok (.aload_n 1, 1) := by decide +kernel
theorem d_Law_law_1426 : dec m_Law_law 1426 = .ok (.aload_n 0, 1) := by decide +kernel
theorem d_Law_law_1427 : dec m_Law_law 1427 = .ok (.iload_n 3, 1) := by decide +kernel
theorem d_Law_law_1428 : dec m_Law_law 1428 = .ok (.iconst 1, 1) := by decide +kernel
theorem d_Law_law_1429 : dec m_Law_law 1429 = .ok (.iadd, 1) := by decide +kernel
theorem d_Law_law_1430 : dec m_Law_law 1430 = .ok (.iaload, 1) := by decide +kernel
theorem d_Law_law_1431 : dec m_Law_law 1431 = .ok (.invokevirtual 157, 3) := by decide +kernel
theorem d_Law_law_1434 : dec m_Law_law 1434 = .ok (.aload_n 2, 1) := by decide +kernel
theorem d_Law_law_1435 : dec m_Law_law 1435 = .ok (.aload_n 0, 1) := by decide +kernel
theorem d_Law_law_1436 : dec m_Law_law 1436 = .ok (.iload_n 3, 1) := by decide +kernel
theorem d_Law_law_1437 : dec m_Law_law 1437 = .ok (.iconst 1, 1) := by decide +kernel
theorem d_Law_law_1438 : dec m_Law_law 1438 = .ok (.iadd, 1) := by decide +kernel
theorem d_Law_law_1439 : dec m_Law_law 1439 = .ok (.iaload, 1) := by decide +kernel
theorem d_Law_law_1440 : dec m_Law_law 1440 = .ok (.invokevirtual 160, 3) := by decide +kernel
theorem d_Law_law_1443 : dec m_Law_law 1443 = .ok (.if_icmp .eq 661, 3) := by decide +kernel
theorem d_Law_law_1446 : dec m_Law_law 1446 = .ok (.iconst 0, 1) := by decide +kernel
theorem d_Law_law_1447 : dec m_Law_law 1447 = .ok (.ireturn, 1) := by decide +kernel
theorem d_Law_law_1448 : dec m_Law_law 1448 = .ok (.aload_n 1, 1) := by decide +kernel
theorem d_Law_law_1449 : dec m_Law_law 1449 = .ok (.aload_n 0, 1) := by decide +kernel
theorem d_Law_law_1450 : dec m_Law_law 1450 = .ok (.iload_n 3, 1) := by decide +kernel
theorem d_Law_law_1451 : dec m_Law_law 1451 = .ok (.iconst 1, 1) := by decide +kernel
theorem d_Law_law_1452 : dec m_Law_law 1452 = .ok (.iadd, 1) := by decide +kernel
theorem d_Law_law_1453 : dec m_Law_law 1453 = .ok (.iaload, 1) := by decide +kernel
theorem d_Law_law_1454 : dec m_Law_law 1454 = .ok (.aload_n 0, 1) := by decide +kernel
theorem d_Law_law_1455 : dec m_Law_law 1455 = .ok (.iload_n 3, 1) := by decide +kernel
theorem d_Law_law_1456 : dec m_Law_law 1456 = .ok (.iconst 2, 1) := by decide +kernel
theorem d_Law_law_1457 : dec m_Law_law 1457 = .ok (.iadd, 1) := by decide +kernel
theorem d_Law_law_1458 : dec m_Law_law 1458 = .ok (.iaload, 1) := by decide +kernel
theorem d_Law_law_1459 : dec m_Law_law 1459 = .ok (.aload_n 0, 1) := by decide +kernel
theorem d_Law_law_1460 : dec m_Law_law 1460 = .ok (.iload_n 3, 1) := by decide +kernel
theorem d_Law_law_1461 : dec m_Law_law 1461 = .ok (.iconst 3, 1) := by decide +kernel
theorem d_Law_law_1462 : dec m_Law_law 1462 = .ok (.iadd, 1) := by decide +kernel
theorem d_Law_law_1463 : dec m_Law_law 1463 = .ok (.iaload, 1) := by decide +kernel
theorem d_Law_law_1464 : dec m_Law_law 1464 = .ok (.aload_n 0, 1) := by decide +kernel
theorem d_Law_law_1465 : dec m_Law_law 1465 = .ok (.iload_n 3, 1) := by decide +kernel
theorem d_Law_law_1466 : dec m_Law_law 1466 = .ok (.iconst 4, 1) := by decide +kernel
theorem d_Law_law_1467 : dec m_Law_law 1467 = .ok (.iadd, 1) := by decide +kernel
theorem d_Law_law_1468 : dec m_Law_law 1468 = .ok (.iaload, 1) := by decide +kernel
theorem d_Law_law_1469 : dec m_Law_law 1469 = .ok (.invokevirtual 161, 3) := by decide +kernel
theorem d_Law_law_1472 : dec m_Law_law 1472 = .ok (.aload_n 2, 1) := by decide +kernel
theorem d_Law_law_1473 : dec m_Law_law 1473 = .ok (.aload_n 0, 1) := by decide +kernel
theorem d_Law_law_1474 : dec m_Law_law 1474 = .ok (.iload_n 3, 1) := by decide +kernel
theorem d_Law_law_1475 : dec m_Law_law 1475 = .ok (.iconst 1, 1) := by decide +kernel
theorem d_Law_law_1476 : dec m_Law_law 1476 = .ok (.iadd, 1) := by decide +kernel
theorem d_Law_law_1477 : dec m_Law_law 1477 = .ok (.iaload, 1) := by decide +kernel
theorem d_Law_law_1478 : dec m_Law_law 1478 = .ok (.aload_n 0, 1) := by decide +kernel
theorem d_Law_law_1479 : dec m_Law_law 1479 = .ok (.iload_n 3, 1) := by decide +kernel
theorem d_Law_law_1480 : dec m_Law_law 1480 = .ok (.iconst 2, 1) := by decide +kernel
theorem d_Law_law_1481 : dec m_Law_law 1481 = .ok (.iadd, 1) := by decide +kernel
theorem d_Law_law_1482 : dec m_Law_law 1482 = .ok (.iaload, 1) := by decide +kernel
theorem d_Law_law_1483 : dec m_Law_law 1483 = .ok (.aload_n 0, 1) := by decide +kernel
theorem d_Law_law_1484 : dec m_Law_law 1484 = .ok (.iload_n 3, 1) := by decide +kernel
theorem d_Law_law_1485 : dec m_Law_law 1485 = .ok (.iconst 3, 1) := by decide +kernel
theorem d_Law_law_1486 : dec m_Law_law 1486 = .ok (.iadd, 1) := by decide +kernel
theorem d_Law_law_1487 : dec m_Law_law 1487 = .ok (.iaload, 1) := by decide +kernel
theorem d_Law_law_1488 : dec m_Law_law 1488 = .ok (.aload_n 0, 1) := by decide +kernel
theorem d_Law_law_1489 : dec m_Law_law 1489 = .ok (.iload_n 3, 1) := by decide +kernel
theorem d_Law_law_1490 : dec m_Law_law 1490 = .ok (.iconst 4, 1) := by decide +kernel
theorem d_Law_law_1491 : dec m_Law_law 1491 = .ok (.iadd, 1) := by decide +kernel
theorem d_Law_law_1492 : dec m_Law_law 1492 = .ok (.iaload, 1) := by decide +kernel
theorem d_Law_law_1493 : dec m_Law_law 1493 = .ok (.invokevirtual 164, 3) := by decide +kernel
theorem d_Law_law_1496 : dec m_Law_law 1496 = .ok (.if_icmp .eq 608, 3) := by decide +kernel
theorem d_Law_law_1499 : dec m_Law_law 1499 = .ok (.iconst 0, 1) := by decide +kernel
theorem d_Law_law_1500 : dec m_Law_law 1500 = .ok (.ireturn, 1) := by decide +kernel
theorem d_Law_law_1501 : dec m_Law_law 1501 = .ok (.aload_n 1, 1) := by decide +kernel
theorem d_Law_law_1502 : dec m_Law_law 1502 = .ok (.aload_n 0, 1) := by decide +kernel
theorem d_Law_law_1503 : dec m_Law_law 1503 = .ok (.iload_n 3, 1) := by decide +kernel
theorem d_Law_law_1504 : dec m_Law_law 1504 = .ok (.iconst 1, 1) := by decide +kernel
theorem d_Law_law_1505 : dec m_Law_law 1505 = .ok (.iadd, 1) := by decide +kernel
theorem d_Law_law_1506 : dec m_Law_law 1506 = .ok (.iaload, 1) := by decide +kernel
theorem d_Law_law_1507 : dec m_Law_law 1507 = .ok (.aload_n 0, 1) := by decide +kernel
theorem d_Law_law_1508 : dec m_Law_law 1508 = .ok (.iload_n 3, 1) := by decide +kernel
theorem d_Law_law_1509 : dec m_Law_law 1509 = .ok (.iconst 2, 1) := by decide +kernel
theorem d_Law_law_1510 : dec m_Law_law 1510 = .ok (.iadd, 1) := by decide +kernel
theorem d_Law_law_1511 : dec m_Law_law 1511 = .ok (.iaload, 1) := by decide +kernel
theorem d_Law_law_1512 : dec m_Law_law 1512 = .ok (.aload_n 0, 1) := by decide +kernel
theorem d_Law_law_1513 : dec m_Law_law 1513 = .ok (.iload_n 3, 1) := by decide +kernel
theorem d_Law_law_1514 : dec m_Law_law 1514 = .ok (.iconst 3, 1) := by decide +kernel
theorem d_Law_law_1515 : dec m_Law_law 1515 = .ok (.iadd, 1) := by decide +kernel
theorem d_Law_law_1516 : dec m_Law_law 1516 = .ok (.iaload, 1) := by decide +kernel
theorem d_Law_law_1517 : dec m_Law_law 1517 = .ok (.invokevirtual 165, 3) := by decide +kernel
theorem d_Law_law_1520 : dec m_Law_law 1520 = .ok (.aload_n 2, 1) := by decide +kernel
theorem d_Law_law_1521 : dec m_Law_law 1521 = .ok (.aload_n 0, 1) := by decide +kernel
theorem d_Law_law_1522 : dec m_Law_law 1522 = .ok (.iload_n 3, 1) := by decide +kernel
theorem d_Law_law_1523 : dec m_Law_law 1523 = .ok (.iconst 1, 1) := by decide +kernel
theorem d_Law_law_1524 : dec m_Law_law 1524 = .ok (.iadd, 1) := by decide +kernel
theorem d_Law_law_1525 : dec m_Law_law 1525 = .ok (.iaload, 1) := by decide +kernel
theorem d_Law_law_1526 : dec m_Law_law 1526 = .ok (.aload_n 0, 1) := by decide +kernel
theorem d_Law_law_1527 : dec m_Law_law 1527 = .ok (.iload_n 3, 1) := by decide +kernel
theorem d_Law_law_1528 : dec m_Law_law 1528 = .ok (.iconst 2, 1) := by decide +kernel
theorem d_Law_law_1529 : dec m_Law_law 1529 = .ok (.iadd, 1) := by decide +kernel
theorem d_Law_law_1530 : dec m_Law_law 1530 = .ok (.iaload, 1) := by decide +kernel
theorem d_Law_law_1531 : dec m_Law_law 1531 = .ok (.aload_n 0, 1) := by decide +kernel
theorem d_Law_law_1532 : dec m_Law_law 1532 = .ok (.iload_n 3, 1) := by decide +kernel
theorem d_Law_law_1533 : dec m_Law_law 1533 = .ok (.iconst 3, 1) := by decide +kernel
theorem d_Law_law_1534 : dec m_Law_law 1534 = .ok (.iadd, 1) := by decide +kernel
theorem d_Law_law_1535 : dec m_Law_law 1535 = .ok (.iaload, 1) := by decide +kernel
theorem d_Law_law_1536 : dec m_Law_law 1536 = .ok (.invokevirtual 168, 3) := by decide +kernel
theorem d_Law_law_1539 : dec m_Law_law 1539 = .ok (.lcmp, 1) := by decide +kernel
theorem d_Law_law_1540 : dec m_Law_law 1540 = .ok (.ifCond .eq 564, 3) := by decide +kernel
theorem d_Law_law_1543 : dec m_Law_law 1543 = .ok (.iconst 0, 1) := by decide +kernel
theorem d_Law_law_1544 : dec m_Law_law 1544 = .ok (.ireturn, 1) := by decide +kernel
theorem d_Law_law_1545 : dec m_Law_law 1545 = .ok (.aload_n 1, 1) := by decide +kernel
theorem d_Law_law_1546 : dec m_Law_law 1546 = .ok (.aload_n 0, 1) := by decide +kernel
theorem d_Law_law_1547 : dec m_Law_law 1547 = .ok (.iload_n 3, 1) := by decide +kernel
theorem d_Law_law_1548 : dec m_Law_law 1548 = .ok (.iconst 1, 1) := by decide +kernel
theorem d_Law_law_1549 : dec m_Law_law 1549 = .ok (.iadd, 1) := by decide +kernel
theorem d_Law_law_1550 : dec m_Law_law 1550 = .ok (.iaload, 1) := by decide +kernel
theorem d_Law_law_1551 : dec m_Law_law 1551 = .ok (.aload_n 0, 1) := by decide +kernel
theorem d_Law_law_1552 : dec m_Law_law 1552 = .ok (.iload_n 3, 1) := by decide +kernel
theorem d_Law_law_1553 : dec m_Law_law 1553 = .ok (.iconst 2, 1) := by decide +kernel
theorem d_Law_law_1554 : dec m_Law_law 1554 = .ok (.iadd, 1) := by decide +kernel
theorem d_Law_law_1555 : dec m_Law_law 1555 = .ok (.iaload, 1) := by decide +kernel
theorem d_Law_law_1556 : dec m_Law_law 1556 = .ok (.aload_n 0, 1) := by decide +kernel
theorem d_Law_law_1557 : dec m_Law_law 1557 = .ok (.iload_n 3, 1) := by decide +kernel
theorem d_Law_law_1558 : dec m_Law_law 1558 = .ok (.iconst 3, 1) := by decide +kernel
theorem d_Law_law_1559 : dec m_Law_law 1559 = .ok (.iadd, 1) := by decide +kernel
theorem d_Law_law_1560 : dec m_Law_law 1560 = .ok (.iaload, 1) := by decide +kernel
theorem d_Law_law_1561 : dec m_Law_law 1561 = .ok (.invokevirtual 169, 3) := by decide +kernel
theorem d_Law_law_1564 : dec m_Law_law 1564 = .ok (.aload_n 2, 1) := by decide +kernel
theorem d_Law_law_1565 : dec m_Law_law 1565 = .ok (.aload_n 0, 1) := by decide +kernel
theorem d_Law_law_1566 : dec m_Law_law 1566 = .ok (.iload_n 3, 1) := by decide +kernel
theorem d_Law_law_1567 : dec m_Law_law 1567 = .ok (.iconst 1, 1) := by decide +kernel
theorem d_Law_law_1568 : dec m_Law_law 1568 = .ok (.iadd, 1) := by decide +kernel
theorem d_Law_law_1569 : dec m_Law_law 1569 = .ok (.iaload, 1) := by decide +kernel
theorem d_Law_law_1570 : dec m_Law_law 1570 = .ok (.aload_n 0, 1) := by decide +kernel
theorem d_Law_law_1571 : dec m_Law_law 1571 = .ok (.iload_n 3, 1) := by decide +kernel
theorem d_Law_law_1572 : dec m_Law_law 1572 = .ok (.iconst 2, 1) := by decide +kernel
theorem d_Law_law_1573 : dec m_Law_law 1573 = .ok (.iadd, 1) := by decide +kernel
theorem d_Law_law_1574 : dec m_Law_law 1574 = .ok (.iaload, 1) := by decide +kernel
theorem d_Law_law_1575 : dec m_Law_law 1575 = .ok (.aload_n 0, 1) := by decide +kernel
theorem d_Law_law_1576 : dec m_Law_law 1576 = .ok (.iload_n 3, 1) := by decide +kernel
theorem d_Law_law_1577 : dec m_Law_law 1577 = .ok (.iconst 3, 1) := by decide +kernel
theorem d_Law_law_1578 : dec m_Law_law 1578 = .ok (.iadd, 1) := by decide +kernel
theorem d_Law_law_1579 : dec m_Law_law 1579 = .ok (.iaload, 1) := by decide +kernel
theorem d_Law_law_1580 : dec m_Law_law 1580 = .ok (.invokevirtual 172, 3) := by decide +kernel
theorem d_Law_law_1583 : dec m_Law_law 1583 = .ok (.if_icmp .eq 521, 3) := by decide +kernel
theorem d_Law_law_1586 : dec m_Law_law 1586 = .ok (.iconst 0, 1) := by decide +kernel
theorem d_Law_law_1587 : dec m_Law_law 1587 = .ok (.ireturn, 1) := by decide +kernel
theorem d_Law_law_1588 : dec m_Law_law 1588 = .ok (.aload_n 1, 1) := by decide +kernel
theorem d_Law_law_1589 : dec m_Law_law 1589 = .ok (.aload_n 0, 1) := by decide +kernel
theorem d_Law_law_1590 : dec m_Law_law 1590 = .ok (.iload_n 3, 1) := by decide +kernel
theorem d_Law_law_1591 : dec m_Law_law 1591 = .ok (.iconst 1, 1) := by decide +kernel
theorem d_Law_law_1592 : dec m_Law_law 1592 = .ok (.iadd, 1) := by decide +kernel
theorem d_Law_law_1593 : dec m_Law_law 1593 = .ok (.iaload, 1) := by decide +kernel
theorem d_Law_law_1594 : dec m_Law_law 1594 = .ok (.invokevirtual 173, 3) := by decide +kernel
theorem d_Law_law_1597 : dec m_Law_law 1597 = .ok (.aload_n 2, 1) := by decide +kernel
theorem d_Law_law_1598 : dec m_Law_law 1598 = .ok (.aload_n 0, 1) := by decide +kernel
theorem d_Law_law_1599 : dec m_Law_law 1599 = .ok (.iload_n 3, 1) := by decide +kernel
theorem d_Law_law_1600 : dec m_Law_law 1600 = .ok (.iconst 1, 1) := by decide +kernel
theorem d_Law_law_1601 : dec m_Law_law 1601 = .ok (.iadd, 1) := by decide +kernel
theorem d_Law_law_1602 : dec m_Law_law 1602 = .ok (.iaload, 1) := by decide +kernel
theorem d_Law_law_1603 : dec m_Law_law 1603 = .ok (.invokevirtual 176, 3) := by decide +kernel
theorem d_Law_law_1606 : dec m_Law_law 1606 = .ok (.if_icmp .eq 498, 3) := by decide +kernel
theorem d_Law_law_1609 : dec m_Law_law 1609 = .ok (.iconst 0, 1) := by decide +kernel
theorem d_Law_law_1610 : dec m_Law_law 1610 = .ok (.ireturn, 1) := by decide +kernel
theorem d_Law_law_1611 : dec m_Law_law 1611 = .ok (.aload_n 1, 1) := by decide +kernel
theorem d_Law_law_1612 : dec m_Law_law 1612 = .ok (.aload_n 0, 1) := by decide +kernel
theorem d_Law_law_1613 : dec m_Law_law 1613 = .ok (.iload_n 3, 1) := by decide +kernel
theorem d_Law_law_1614 : dec m_Law_law 1614 = .ok (.iconst 1, 1) := by decide +kernel
theorem d_Law_law_1615 : dec m_Law_law 1615 = .ok (.iadd, 1) := by decide +kernel
theorem d_Law_law_1616 : dec m_Law_law 1616 = .ok (.iaload, 1) := by decide +kernel
theorem d_Law_law_1617 : dec m_Law_law 1617 = .ok (.invokevirtual 177, 3) := by decide +kernel
theorem d_Law_law_1620 : dec m_Law_law 1620 = .ok (.aload_n 2, 1) := by decide +kernel
theorem d_Law_law_1621 : dec m_Law_law 1621 = .ok (.aload_n 0, 1) := by decide +kernel
theorem d_Law_law_1622 : dec m_Law_law 1622 = .ok (.iload_n 3, 1) := by decide +kernel
theorem d_Law_law_1623 : dec m_Law_law 1623 = .ok (.iconst 1, 1) := by decide +kernel
theorem d_Law_law_1624 : dec m_Law_law 1624 = .ok (.iadd, 1) := by decide +kernel
theorem d_Law_law_1625 : dec m_Law_law 1625 = .ok (.iaload, 1) := by decide +kernel
theorem d_Law_law_1626 : dec m_Law_law 1626 = .ok (.invokevirtual 180, 3) := by decide +kernel
theorem d_Law_law_1629 : dec m_Law_law 1629 = .ok (.if_icmp .eq 475, 3) := by decide +kernel
theorem d_Law_law_1632 : dec m_Law_law 1632 = .ok (.iconst 0, 1) := by decide +kernel
theorem d_Law_law_1633 : dec m_Law_law 1633 = .ok (.ireturn, 1) := by decide +kernel
theorem d_Law_law_1634 : dec m_Law_law 1634 = .ok (.aload_n 1, 1) := by decide +kernel
theorem d_Law_law_1635 : dec m_Law_law 1635 = .ok (.aload_n 0, 1) := by decide +kernel
theorem d_Law_law_1636 : dec m_Law_law 1636 = .ok (.iload_n 3, 1) := by decide +kernel
theorem d_Law_law_1637 : dec m_Law_law 1637 = .ok (.iconst 1, 1) := by decide +kernel
theorem d_Law_law_1638 : dec m_Law_law 1638 = .ok (.iadd, 1) := by decide +kernel
theorem d_Law_law_1639 : dec m_Law_law 1639 = .ok (.iaload, 1) := by decide +kernel
theorem d_Law_law_1640 : dec m_Law_law 1640 = .ok (.aload_n 0, 1) := by decide +kernel
theorem d_Law_law_1641 : dec m_Law_law 1641 = .ok (.iload_n 3, 1) := by decide +kernel
theorem d_Law_law_1642 : dec m_Law_law 1642 = .ok (.iconst 2, 1) := by decide +kernel
theorem d_Law_law_1643 : dec m_Law_law 1643 = .ok (.iadd, 1) := by decide +kernel
theorem d_Law_law_1644 : dec m_Law_law 1644 = .ok (.iaload, 1) := by decide +kernel
theorem d_Law_law_1645 : dec m_Law_law 1645 = .ok (.invokevirtual 181, 3) := by decide +kernel
theorem d_Law_law_1648 : dec m_Law_law 1648 = .ok (.aload_n 2, 1) := by decide +kernel
theorem d_Law_law_1649 : dec m_Law_law 1649 = .ok (.aload_n 0, 1) := by decide +kernel
theorem d_Law_law_1650 : dec m_Law_law 1650 = .ok (.iload_n 3, 1) := by decide +kernel
theorem d_Law_law_1651 : dec m_Law_law 1651 = .ok (.iconst 1, 1) := by decide +kernel
theorem d_Law_law_1652 : dec m_Law_law 1652 = .ok (.iadd, 1) := by decide +kernel
theorem d_Law_law_1653 : dec m_Law_law 1653 = .ok (.iaload, 1) := by decide +kernel
theorem d_Law_law_1654 : dec m_Law_law 1654 = .ok (.aload_n 0, 1) := by decide +kernel
theorem d_Law_law_1655 : dec m_Law_law 1655 = .ok (.iload_n 3, 1) := by decide +kernel
theorem d_Law_law_1656 : dec m_Law_law 1656 = .ok (.iconst 2, 1) := by decide +kernel
theorem d_Law_law_1657 : dec m_Law_law 1657 = .ok (.iadd, 1) := by decide +kernel
theorem d_Law_law_1658 : dec m_Law_law 1658 = .ok (.iaload, 1) := by decide +kernel
theorem d_Law_law_1659 : dec m_Law_law 1659 = .ok (.invokevirtual 184, 3) := by decide +kernel
theorem d_Law_law_1662 : dec m_Law_law 1662 = .ok (.if_icmp .eq 442, 3) := by decide +kernel
theorem d_Law_law_1665 : dec m_Law_law 1665 = .ok (.iconst 0, 1) := by decide +kernel
theorem d_Law_law_1666 : dec m_Law_law 1666 = .ok (.ireturn, 1) := by decide +kernel
theorem d_Law_law_1667 : dec m_Law_law 1667 = .ok (.aload_n 1, 1) := by decide +kernel
theorem d_Law_law_1668 : dec m_Law_law 1668 = .ok (.aload_n 0, 1) := by decide +kernel
theorem d_Law_law_1669 : dec m_Law_law 1669 = .ok (.iload_n 3, 1) := by decide +kernel
theorem d_Law_law_1670 : dec m_Law_law 1670 = .ok (.iconst 1, 1) := by decide +kernel
theorem d_Law_law_1671 : dec m_Law_law 1671 = .ok (.iadd, 1) := by decide +kernel
theorem d_Law_law_1672 : dec m_Law_law 1672 = .ok (.iaload, 1) := by decide +kernel
theorem d_Law_law_1673 : dec m_Law_law 1673 = .ok (.invokevirtual 185, 3) := by decide +kernel
theorem d_Law_law_1676 : dec m_Law_law 1676 = .ok (.aload_n 2, 1) := by decide +kernel
theorem d_Law_law_1677 : dec m_Law_law 1677 = .ok (.aload_n 0, 1) := by decide +kernel
theorem d_Law_law_1678 : dec m_Law_law 1678 = .ok (.iload_n 3, 1) := by decide +kernel
theorem d_Law_law_1679 : dec m_Law_law 1679 = .ok (.iconst 1, 1) := by decide +kernel
theorem d_Law_law_1680 : dec m_Law_law 1680 = .ok (.iadd, 1) := by decide +kernel
theorem d_Law_law_1681 : dec m_Law_law 1681 = .ok (.iaload, 1) := by decide +kernel
theorem d_Law_law_1682 : dec m_Law_law 1682 = .ok (.invokevirtual 188, 3) := by decide +kernel
theorem d_Law_law_1685 : dec m_Law_law 1685 = .ok (.if_icmp .eq 419, 3) := by decide +kernel
theorem d_Law_law_1688 : dec m_Law_law 1688 = .ok (.iconst 0, 1) := by decide +kernel
theorem d_Law_law_1689 : dec m_Law_law 1689 = .ok (.ireturn, 1) := by decide +kernel
theorem d_Law_law_1690 : dec m_Law_law 1690 = .ok (.aload_n 1, 1) := by decide +kernel
theorem d_Law_law_1691 : dec m_Law_law 1691 = .ok (.aload_n 0, 1) := by decide +kernel
theorem d_Law_law_1692 : dec m_Law_law 1692 = .ok (.iload_n 3, 1) := by decide +kernel
theorem d_Law_law_1693 : dec m_Law_law 1693 = .ok (.iconst 1, 1) := by decide +kernel
theorem d_Law_law_1694 : dec m_Law_law 1694 = .ok (.iadd, 1) := by decide +kernel
theorem d_Law_law_1695 : dec m_Law_law 1695 = .ok (.iaload, 1) := by decide +kernel
theorem d_Law_law_1696 : dec m_Law_law 1696 = .ok (.invokevirtual 189, 3) := by decide +kernel
theorem d_Law_law_1699 : dec m_Law_law 1699 = .ok (.aload_n 2, 1) := by decide +kernel
theorem d_Law_law_1700 : dec m_Law_law 1700 = .ok (.aload_n 0, 1) := by decide +kernel
theorem d_Law_law_1701 : dec m_Law_law 1701 = .ok (.iload_n 3, 1) := by decide +kernel
theorem d_Law_law_1702 : dec m_Law_law 1702 = .ok (.iconst 1, 1) := by decide +kernel
theorem d_Law_law_1703 : dec m_Law_law 1703 = .ok (.iadd, 1) := by decide +kernel
theorem d_Law_law_1704 : dec m_Law_law 1704 = .ok (.iaload, 1) := by decide +kernel
theorem d_Law_law_1705 : dec m_Law_law 1705 = .ok (.invokevirtual 192, 3) := by decide +kernel
theorem d_Law_law_1708 : dec m_Law_law 1708 = .ok (.if_icmp .eq 396, 3) := by decide +kernel
theorem d_Law_law_1711 : dec m_Law_law 1711 = .ok (.iconst 0, 1) := by decide +kernel
theorem d_Law_law_1712 : dec m_Law_law 1712 = .ok (.ireturn, 1) := by decide +kernel
theorem d_Law_law_1713 : dec m_Law_law 1713 = .ok (.aload_n 1, 1) := by decide +kernel
theorem d_Law_law_1714 : dec m_Law_law 1714 = .ok (.aload_n 0, 1) := by decide +kernel
theorem d_Law_law_1715 : dec m_Law_law 1715 = .ok (.iload_n 3, 1) := by decide +kernel
theorem d_Law_law_1716 : dec m_Law_law 1716 = .ok (.iconst 1, 1) := by decide +kernel
theorem d_Law_law_1717 : dec m_Law_law 1717 = .ok (.iadd, 1) := by decide +kernel
theorem d_Law_law_1718 : dec m_Law_law 1718 = .ok (.iaload, 1) := by decide +kernel
theorem d_Law_law_1719 : dec m_Law_law 1719 = .ok (.invokevirtual 193, 3) := by decide +kernel
theorem d_Law_law_1722 : dec m_Law_law 1722 = .ok (.aload_n 2, 1) := by decide +kernel
theorem d_Law_law_1723 : dec m_Law_law 1723 = .ok (.aload_n 0, 1) := by decide +kernel
theorem d_Law_law_1724 : dec m_Law_law 1724 = .ok (.iload_n 3, 1) := by decide +kernel
theorem d_Law_law_1725 : dec m_Law_law 1725 = .ok (.iconst 1, 1) := by decide +kernel
theorem d_Law_law_1726 : dec m_Law_law 1726 = .ok (.iadd, 1) := by decide +kernel
theorem d_Law_law_1727 : dec m_Law_law 1727 = .ok (.iaload, 1) := by decide +kernel
theorem d_Law_law_1728 : dec m_Law_law 1728 = .ok (.invokevirtual 196, 3) := by decide +kernel
theorem d_Law_law_1731 : dec m_Law_law 1731 = .ok (.if_icmp .eq 373, 3) := by decide +kernel
theorem d_Law_law_1734 : dec m_Law_law 1734 = .ok (.iconst 0, 1) := by decide +kernel
theorem d_Law_law_1735 : dec m_Law_law 1735 = .ok (.ireturn, 1) := by decide +kernel
theorem d_Law_law_1736 : dec m_Law_law 1736 = .ok (.aload_n 1, 1) := by decide +kernel
theorem d_Law_law_1737 : dec m_Law_law 1737 = .ok (.aload_n 0, 1) := by decide +kernel
theorem d_Law_law_1738 : dec m_Law_law 1738 = .ok (.iload_n 3, 1) := by decide +kernel
theorem d_Law_law_1739 : dec m_Law_law 1739 = .ok (.iconst 1, 1) := by decide +kernel
theorem d_Law_law_1740 : dec m_Law_law 1740 = .ok (.iadd, 1) := by decide +kernel
theorem d_Law_law_1741 : dec m_Law_law 1741 = .ok (.iaload, 1) := by decide +kernel
theorem d_Law_law_1742 : dec m_Law_law 1742 = .ok (.aload_n 0, 1) := by decide +kernel
theorem d_Law_law_1743 : dec m_Law_law 1743 = .ok (.iload_n 3, 1) := by decide +kernel
theorem d_Law_law_1744 : dec m_Law_law 1744 = .ok (.iconst 2, 1) := by decide +kernel
theorem d_Law_law_1745 : dec m_Law_law 1745 = .ok (.iadd, 1) := by decide +kernel
theorem d_Law_law_1746 : dec m_Law_law 1746 = .ok (.iaload, 1) := by decide +kernel
theorem d_Law_law_1747 : dec m_Law_law 1747 = .ok (.invokevirtual 197, 3) := by decide +kernel
theorem d_Law_law_1750 : dec m_Law_law 1750 = .ok (.aload_n 2, 1) := by decide +kernel
theorem d_Law_law_1751 : dec m_Law_law 1751 = .ok (.aload_n 0, 1) := by decide +kernel
theorem d_Law_law_1752 : dec m_Law_law 1752 = .ok (.iload_n 3, 1) := by decide +kernel
theorem d_Law_law_1753 : dec m_Law_law 1753 = .ok (.iconst 1, 1) := by decide +kernel
theorem d_Law_law_1754 : dec m_Law_law 1754 = .ok (.iadd, 1) := by decide +kernel
theorem d_Law_law_1755 : dec m_Law_law 1755 = .ok (.iaload, 1) := by decide +kernel
theorem d_Law_law_1756 : dec m_Law_law 1756 = .ok (.aload_n 0, 1) := by decide +kernel
theorem d_Law_law_1757 : dec m_Law_law 1757 = .ok (.iload_n 3, 1) := by decide +kernel
theorem d_Law_law_1758 : dec m_Law_law 1758 = .ok (.iconst 2, 1) := by decide +kernel
theorem d_Law_law_1759 : dec m_Law_law 1759 = .ok (.iadd, 1) := by decide +kernel
theorem d_Law_law_1760 : dec m_Law_law 1760 = .ok (.iaload, 1) := by decide +kernel
theorem d_Law_law_1761 : dec m_Law_law 1761 = .ok (.invokevirtual 200, 3) := by decide +kernel
theorem d_Law_law_1764 : dec m_Law_law 1764 = .ok (.lcmp, 1) := by decide +kernel
theorem d_Law_law_1765 : dec m_Law_law 1765 = .ok (.ifCond .eq 339, 3) := by decide +kernel
theorem d_Law_law_1768 : dec m_Law_law 1768 = .ok (.iconst 0, 1) := by decide +kernel
theorem d_Law_law_1769 : dec m_Law_law 1769 = .ok (.ireturn, 1) := by decide +kernel
theorem d_Law_law_1770 : dec m_Law_law 1770 = .ok (.aload_n 1, 1) := by decide +kernel
theorem d_Law_law_1771 : dec m_Law_law 1771 = .ok (.aload_n 0, 1) := by decide +kernel
theorem d_Law_law_1772 : dec m_Law_law 1772 = .ok (.iload_n 3, 1) := by decide +kernel
theorem d_Law_law_1773 : dec m_Law_law 1773 = .ok (.iconst 1, 1) := by decide +kernel
theorem d_Law_law_1774 : dec m_Law_law 1774 = .ok (.iadd, 1) := by decide +kernel
theorem d_Law_law_1775 : dec m_Law_law 1775 = .ok (.iaload, 1) := by decide +kernel
theorem d_Law_law_1776 : dec m_Law_law 1776 = .ok (.invokevirtual 201, 3) := by decide +kernel
theorem d_Law_law_1779 : dec m_Law_law 1779 = .ok (.aload_n 2, 1) := by decide +kernel
theorem d_Law_law_1780 : dec m_Law_law 1780 = .ok (.aload_n 0, 1) := by decide +kernel
theorem d_Law_law_1781 : dec m_Law_law 1781 = .ok (.iload_n 3, 1) := by decide +kernel
theorem d_Law_law_1782 : dec m_Law_law 1782 = .ok (.iconst 1, 1) := by decide +kernel
theorem d_Law_law_1783 : dec m_Law_law 1783 = .ok (.iadd, 1) := by decide +kernel
theorem d_Law_law_1784 : dec m_Law_law 1784 = .ok (.iaload, 1) := by decide +kernel
theorem d_Law_law_1785 : dec m_Law_law 1785 = .ok (.invokevirtual 204, 3) := by decide +kernel
theorem d_Law_law_1788 : dec m_Law_law 1788 = .ok (.if_icmp .eq 316, 3) := by decide +kernel
theorem d_Law_law_1791 : dec m_Law_law 1791 = .ok (.iconst 0, 1) := by decide +kernel
theorem d_Law_law_1792 : dec m_Law_law 1792 = .ok (.ireturn, 1) := by decide +kernel
theorem d_Law_law_1793 : dec m_Law_law 1793 = .ok (.aload_n 1, 1) := by decide +kernel
theorem d_Law_law_1794 : dec m_Law_law 1794 = .ok (.aload_n 0, 1) := by decide +kernel
theorem d_Law_law_1795 : dec m_Law_law 1795 = .ok (.iload_n 3, 1) := by decide +kernel
theorem d_Law_law_1796 : dec m_Law_law 1796 = .ok (.iconst 1, 1) := by decide +kernel
theorem d_Law_law_1797 : dec m_Law_law 1797 = .ok (.iadd, 1) := by decide +kernel
theorem d_Law_law_1798 : dec m_Law_law 1798 = .ok (.iaload, 1) := by decide +kernel
theorem d_Law_law_1799 : dec m_Law_law 1799 = .ok (.aload_n 0, 1) := by decide +kernel
theorem d_Law_law_1800 : dec m_Law_law 1800 = .ok (.iload_n 3, 1) := by decide +kernel
theorem d_Law_law_1801 : dec m_Law_law 1801 = .ok (.iconst 2, 1) := by decide +kernel
theorem d_Law_law_1802 : dec m_Law_law 1802 = .ok (.iadd, 1) := by decide +kernel
theorem d_Law_law_1803 : dec m_Law_law 1803 = .ok (.iaload, 1) := by decide +kernel
theorem d_Law_law_1804 : dec m_Law_law 1804 = .ok (.aload_n 0, 1) := by decide +kernel
theorem d_Law_law_1805 : dec m_Law_law 1805 = .ok (.iload_n 3, 1) := by decide +kernel
theorem d_Law_law_1806 : dec m_Law_law 1806 = .ok (.iconst 3, 1) := by decide +kernel
theorem d_Law_law_1807 : dec m_Law_law 1807 = .ok (.iadd, 1) := by decide +kernel
theorem d_Law_law_1808 : dec m_Law_law 1808 = .ok (.iaload, 1) := by decide +kernel
theorem d_Law_law_1809 : dec m_Law_law 1809 = .ok (.invokevirtual 205, 3) := by decide +kernel
theorem d_Law_law_1812 : dec m_Law_law 1812 = .ok (.aload_n 2, 1) := by decide +kernel
theorem d_Law_law_1813 : dec m_Law_law 1813 = .ok (.aload_n 0, 1) := by decide +kernel
theorem d_Law_law_1814 : dec m_Law_law 1814 = .ok (.iload_n 3, 1) := by decide +kernel
theorem d_Law_law_1815 : dec m_Law_law 1815 = .ok (.iconst 1, 1) := by decide +kernel
theorem d_Law_law_1816 : dec m_Law_law 1816 = .ok (.iadd, 1) := by decide +kernel
theorem d_Law_law_1817 : dec m_Law_law 1817 = .ok (.iaload, 1) := by decide +kernel
theorem d_Law_law_1818 : dec m_Law_law 1818 = .ok (.aload_n 0, 1) := by decide +kernel
theorem d_Law_law_1819 : dec m_Law_law 1819 = .ok (.iload_n 3, 1) := by decide +kernel
theorem d_Law_law_1820 : dec m_Law_law 1820 = .ok (.iconst 2, 1) := by decide +kernel
theorem d_Law_law_1821 : dec m_Law_law 1821 = .ok (.iadd, 1) := by decide +kernel
theorem d_Law_law_1822 : dec m_Law_law 1822 = .ok (.iaload, 1) := by decide +kernel
theorem d_Law_law_1823 : dec m_Law_law 1823 = .ok (.aload_n 0, 1) := by decide +kernel
theorem d_Law_law_1824 : dec m_Law_law 1824 = .ok (.iload_n 3, 1) := by decide +kernel
theorem d_Law_law_1825 : dec m_Law_law 1825 = .ok (.iconst 3, 1) := by decide +kernel
theorem d_Law_law_1826 : dec m_Law_law 1826 = .ok (.iadd, 1) := by decide +kernel
theorem d_Law_law_1827 : dec m_Law_law 1827 = .ok (.iaload, 1) := by decide +kernel
theorem d_Law_law_1828 : dec m_Law_law 1828 = .ok (.invokevirtual 208, 3) := by decide +kernel
theorem d_Law_law_1831 : dec m_Law_law 1831 = .ok (.if_icmp .eq 273, 3) := by decide +kernel
theorem d_Law_law_1834 : dec m_Law_law 1834 = .ok (.iconst 0, 1) := by decide +kernel
theorem d_Law_law_1835 : dec m_Law_law 1835 = .ok (.ireturn, 1) := by decide +kernel
theorem d_Law_law_1836 : dec m_Law_law 1836 = .ok (.aload_n 1, 1) := by decide +kernel
theorem d_Law_law_1837 : dec m_Law_law 1837 = .ok (.aload_n 0, 1) := by decide +kernel
theorem d_Law_law_1838 : dec m_Law_law 1838 = .ok (.iload_n 3, 1) := by decide +kernel
theorem d_Law_law_1839 : dec m_Law_law 1839 = .ok (.iconst 1, 1) := by decide +kernel
theorem d_Law_law_1840 : dec m_Law_law 1840 = .ok (.iadd, 1) := by decide +kernel
theorem d_Law_law_1841 : dec m_Law_law 1841 = .ok (.iaload, 1) := by decide +kernel
theorem d_Law_law_1842 : dec m_Law_law 1842 = .ok (.aload_n 0, 1) := by decide +kernel
theorem d_Law_law_1843 : dec m_Law_law 1843 = .ok (.iload_n 3, 1) := by decide +kernel
theorem d_Law_law_1844 : dec m_Law_law 1844 = .ok (.iconst 2, 1) := by decide +kernel
theorem d_Law_law_1845 : dec m_Law_law 1845 = .ok (.iadd, 1) := by decide +kernel
theorem d_Law_law_1846 : dec m_Law_law 1846 = .ok (.iaload, 1) := by decide +kernel
theorem d_Law_law_1847 : dec m_Law_law 1847 = .ok (.aload_n 0, 1) := by decide +kernel
theorem d_Law_law_1848 : dec m_Law_law 1848 = .ok (.iload_n 3, 1) := by decide +kernel
theorem d_Law_law_1849 : dec m_Law_law 1849 = .ok (.iconst 3, 1) := by decide +kernel
theorem d_Law_law_1850 : dec m_Law_law 1850 = .ok (.iadd, 1) := by decide +kernel
theorem d_Law_law_1851 : dec m_Law_law 1851 = .ok (.iaload, 1) := by decide +kernel
theorem d_Law_law_1852 : dec m_Law_law 1852 = .ok (.invokevirtual 209, 3) := by decide +kernel
theorem d_Law_law_1855 : dec m_Law_law 1855 = .ok (.aload_n 2, 1) := by decide +kernel
theorem d_Law_law_1856 : dec m_Law_law 1856 = .ok (.aload_n 0, 1) := by decide +kernel
theorem d_Law_law_1857 : dec m_Law_law 1857 = .ok (.iload_n 3, 1) := by decide +kernel
theorem d_Law_law_1858 : dec m_Law_law 1858 = .ok (.iconst 1, 1) := by decide +kernel
theorem d_Law_law_1859 : dec m_Law_law 1859 = .ok (.iadd, 1) := by decide +kernel
theorem d_Law_law_1860 : dec m_Law_law 1860 = .ok (.iaload, 1) := by decide +kernel
theorem d_Law_law_1861 : dec m_Law_law 1861 = .ok (.aload_n 0, 1) := by decide +kernel
theorem d_Law_law_1862 : dec m_Law_law 1862 = .ok (.iload_n 3, 1) := by decide +kernel
theorem d_Law_law_1863 : dec m_Law_law 1863 = .ok (.iconst 2, 1) := by decide +kernel
theorem d_Law_law_1864 : dec m_Law_law 1864 = .ok (.iadd, 1) := by decide +kernel
theorem d_Law_law_1865 : dec m_Law_law 1865 = .ok (.iaload, 1) := by decide +kernel
theorem d_Law_law_1866 : dec m_Law_law 1866 = .ok (.aload_n 0, 1) := by decide +kernel
theorem d_Law_law_1867 : dec m_Law_law 1867 = .ok (.iload_n 3, 1) := by decide +kernel
theorem d_Law_law_1868 : dec m_Law_law 1868 = .ok (.iconst 3, 1) := by decide +kernel
theorem d_Law_law_1869 : dec m_Law_law 1869 = .ok (.iadd, 1) := by decide +kernel
theorem d_Law_law_1870 : dec m_Law_law 1870 = .ok (.iaload, 1) := by decide +kernel
theorem d_Law_law_1871 : dec m_Law_law 1871 = .ok (.invokevirtual 212, 3) := by decide +kernel
theorem d_Law_law_1874 : dec m_Law_law 1874 = .ok (.if_icmp .eq 230, 3) := by decide +kernel
theorem d_Law_law_1877 : dec m_Law_law 1877 = .ok (.iconst 0, 1) := by decide +kernel
theorem d_Law_law_1878 : dec m_Law_law 1878 = .ok (.ireturn, 1) := by decide +kernel
theorem d_Law_law_1879 : dec m_Law_law 1879 = .ok (.aload_n 1, 1) := by decide +kernel
theorem d_Law_law_1880 : dec m_Law_law 1880 = .ok (.aload_n 0, 1) := by decide +kernel
theorem d_Law_law_1881 : dec m_Law_law 1881 = .ok (.iload_n 3, 1) := by decide +kernel
theorem d_Law_law_1882 : dec m_Law_law 1882 = .ok (.iconst 1, 1) := by decide +kernel
theorem d_Law_law_1883 : dec m_Law_law 1883 = .ok (.iadd, 1) := by decide +kernel
theorem d_Law_law_1884 : dec m_Law_law 1884 = .ok (.iaload, 1) := by decide +kernel
theorem d_Law_law_1885 : dec m_Law_law 1885 = .ok (.aload_n 0, 1) := by decide +kernel
theorem d_Law_law_1886 : dec m_Law_law 1886 = .ok (.iload_n 3, 1) := by decide +kernel
theorem d_Law_law_1887 : dec m_Law_law 1887 = .ok (.iconst 2, 1) := by decide +kernel
theorem d_Law_law_1888 : dec m_Law_law 1888 = .ok (.iadd, 1) := by decide +kernel
theorem d_Law_law_1889 : dec m_Law_law 1889 = .ok (.iaload, 1) := by decide +kernel
theorem d_Law_law_1890 : dec m_Law_law 1890 = .ok (.invokevirtual 213, 3) := by decide +kernel
theorem d_Law_law_1893 : dec m_Law_law 1893 = .ok (.aload_n 2, 1) := by decide +kernel
theorem d_Law_law_1894 : dec m_Law_law 1894 = .ok (.aload_n 0, 1) := by decide +kernel
theorem d_Law_law_1895 : dec m_Law_law 1895 = .ok (.iload_n 3, 1) := by decide +kernel
theorem d_Law_law_1896 : dec m_Law_law 1896 = .ok (.iconst 1, 1) := by decide +kernel
theorem d_Law_law_1897 : dec m_Law_law 1897 = .ok (.iadd, 1) := by decide +kernel
theorem d_Law_law_1898 : dec m_Law_law 1898 = .ok (.iaload, 1) := by decide +kernel
theorem d_Law_law_1899 : dec m_Law_law 1899 = .ok (.aload_n 0, 1) := by decide +kernel
theorem d_Law_law_1900 : dec m_Law_law 1900 = .ok (.iload_n 3, 1) := by decide +kernel
theorem d_Law_law_1901 : dec m_Law_law 1901 = .ok (.iconst 2, 1) := by decide +kernel
theorem d_Law_law_1902 : dec m_Law_law 1902 = .ok (.iadd, 1) := by decide +kernel
theorem d_Law_law_1903 : dec m_Law_law 1903 = .ok (.iaload, 1) := by decide +kernel
theorem d_Law_law_1904 : dec m_Law_law 1904 = .ok (.invokevirtual 216, 3) := by decide +kernel
theorem d_Law_law_1907 : dec m_Law_law 1907 = .ok (.lcmp, 1) := by decide +kernel
theorem d_Law_law_1908 : dec m_Law_law 1908 = .ok (.ifCond .eq 196, 3) := by decide +kernel
theorem d_Law_law_1911 : dec m_Law_law 1911 = .ok (.iconst 0, 1) := by decide +kernel
theorem d_Law_law_1912 : dec m_Law_law 1912 = .ok (.ireturn, 1) := by decide +kernel
theorem d_Law_law_1913 : dec m_Law_law 1913 = .ok (.aload_n 1, 1) := by decide +kernel
theorem d_Law_law_1914 : dec m_Law_law 1914 = .ok (.aload_n 0, 1) := by decide +kernel
theorem d_Law_law_1915 : dec m_Law_law 1915 = .ok (.iload_n 3, 1) := by decide +kernel
theorem d_Law_law_1916 : dec m_Law_law 1916 = .ok (.iconst 1, 1) := by decide +kernel
theorem d_Law_law_1917 : dec m_Law_law 1917 = .ok (.iadd, 1) := by decide +kernel
theorem d_Law_law_1918 : dec m_Law_law 1918 = .ok (.iaload, 1) := by decide +kernel
theorem d_Law_law_1919 : dec m_Law_law 1919 = .ok (.aload_n 0, 1) := by decide +kernel
theorem d_Law_law_1920 : dec m_Law_law 1920 = .ok (.iload_n 3, 1) := by decide +kernel
theorem d_Law_law_1921 : dec m_Law_law 1921 = .ok (.iconst 2, 1) := by decide +kernel
theorem d_Law_law_1922 : dec m_Law_law 1922 = .ok (.iadd, 1) := by decide +kernel
theorem d_Law_law_1923 : dec m_Law_law 1923 = .ok (.iaload, 1) := by decide +kernel
theorem d_Law_law_1924 : dec m_Law_law 1924 = .ok (.aload_n 0, 1) := by decide +kernel
theorem d_Law_law_1925 : dec m_Law_law 1925 = .ok (.iload_n 3, 1) := by decide +kernel
theorem d_Law_law_1926 : dec m_Law_law 1926 = .ok (.iconst 3, 1) := by decide +kernel
theorem d_Law_law_1927 : dec m_Law_law 1927 = .ok (.iadd, 1) := by decide +kernel
theorem d_Law_law_1928 : dec m_Law_law 1928 = .ok (.iaload, 1) := by decide +kernel
theorem d_Law_law_1929 : dec m_Law_law 1929 = .ok (.aload_n 0, 1) := by decide +kernel
theorem d_Law_law_1930 : dec m_Law_law 1930 = .ok (.iload_n 3, 1) := by decide +kernel
theorem d_Law_law_1931 : dec m_Law_law 1931 = .ok (.iconst 4, 1) := by decide +kernel
theorem d_Law_law_1932 : dec m_Law_law 1932 = .ok (.iadd, 1) := by decide +kernel
theorem d_Law_law_1933 : dec m_Law_law 1933 = .ok (.iaload, 1) := by decide +kernel
theorem d_Law_law_1934 : dec m_Law_law 1934 = .ok (.aload_n 0, 1) := by decide +kernel
theorem d_Law_law_1935 : dec m_Law_law 1935 = .ok (.iload_n 3, 1) := by decide +kernel
theorem d_Law_law_1936 : dec m_Law_law 1936 = .ok (.iconst 5, 1) := by decide +kernel
theorem d_Law_law_1937 : dec m_Law_law 1937 = .ok (.iadd, 1) := by decide +kernel
theorem d_Law_law_1938 : dec m_Law_law 1938 = .ok (.iaload, 1) := by decide +kernel
theorem d_Law_law_1939 : dec m_Law_law 1939 = .ok (.invokevirtual 217, 3) := by decide +kernel
theorem d_Law_law_1942 : dec m_Law_law 1942 = .ok (.aload_n 2, 1) := by decide +kernel
theorem d_Law_law_1943 : dec m_Law_law 1943 = .ok (.aload_n 0, 1) := by decide +kernel
theorem d_Law_law_1944 : dec m_Law_law 1944 = .ok (.iload_n 3, 1) := by decide +kernel
theorem d_Law_law_1945 : dec m_Law_law 1945 = .ok (.iconst 1, 1) := by decide +kernel
theorem d_Law_law_1946 : dec m_Law_law 1946 = .ok (.iadd, 1) := by decide +kernel
theorem d_Law_law_1947 : dec m_Law_law 1947 = .ok (.iaload, 1) := by decide +kernel
theorem d_Law_law_1948 : dec m_Law_law 1948 = .ok (.aload_n 0, 1) := by decide +kernel
theorem d_Law_law_1949 : dec m_Law_law 1949 = .ok (.iload_n 3, 1) := by decide +kernel
theorem d_Law_law_1950 : dec m_Law_law 1950 = .ok (.iconst 2, 1) := by decide +kernel
theorem d_Law_law_1951 : dec m_Law_law 1951 = .ok (.iadd, 1) := by decide +kernel
theorem d_Law_law_1952 : dec m_Law_law 1952 = .ok (.iaload, 1) := by decide +kernel
theorem d_Law_law_1953 : dec m_Law_law 1953 = .ok (.aload_n 0, 1) := by decide +kernel
theorem d_Law_law_1954 : dec m_Law_law 1954 = .ok (.iload_n 3, 1) := by decide +kernel
theorem d_Law_law_1955 : dec m_Law_law 1955 = .ok (.iconst 3, 1) := by decide +kernel
theorem d_Law_law_1956 : dec m_Law_law 1956 = .ok (.iadd, 1) := by decide +kernel
theorem d_Law_law_1957 : dec m_Law_law 1957 = .ok (.iaload, 1) := by decide +kernel
theorem d_Law_law_1958 : dec m_Law_law 1958 = .ok (.aload_n 0, 1) := by decide +kernel
theorem d_Law_law_1959 : dec m_Law_law 1959 = .ok (.iload_n 3, 1) := by decide +kernel
theorem d_Law_law_1960 : dec m_Law_law 1960 = .ok (.iconst 4, 1) := by decide +kernel
theorem d_Law_law_1961 : dec m_Law_law 1961 = .ok (.iadd, 1) := by decide +kernel
theorem d_Law_law_1962 : dec m_Law_law 1962 = .ok (.iaload, 1) := by decide +kernel
theorem d_Law_law_1963 : dec m_Law_law 1963 = .ok (.aload_n 0, 1) := by decide +kernel
theorem d_Law_law_1964 : dec m_Law_law 1964 = .ok (.iload_n 3, 1) := by decide +kernel
theorem d_Law_law_1965 : dec m_Law_law 1965 = .ok (.iconst 5, 1) := by decide +kernel
theorem d_Law_law_1966 : dec m_Law_law 1966 = .ok (.iadd, 1) := by decide +kernel
theorem d_Law_law_1967 : dec m_Law_law 1967 = .ok (.iaload, 1) := by decide +kernel
theorem d_Law_law_1968 : dec m_Law_law 1968 = .ok (.invokevirtual 220, 3) := by decide +kernel
theorem d_Law_law_1971 : dec m_Law_law 1971 = .ok (.if_icmp .eq 133, 3) := by decide +kernel
theorem d_Law_law_1974 : dec m_Law_law 1974 = .ok (.iconst 0, 1) := by decide +kernel
theorem d_Law_law_1975 : dec m_Law_law 1975 = .ok (.ireturn, 1) := by decide +kernel
theorem d_Law_law_1976 : dec m_Law_law 1976 = .ok (.aload_n 1, 1) := by decide +kernel
theorem d_Law_law_1977 : dec m_Law_law 1977 = .ok (.aload_n 0, 1) := by decide +kernel
theorem d_Law_law_1978 : dec m_Law_law 1978 = .ok (.iload_n 3, 1) := by decide +kernel
theorem d_Law_law_1979 : dec m_Law_law 1979 = .ok (.iconst 1, 1) := by decide +kernel
theorem d_Law_law_1980 : dec m_Law_law 1980 = .ok (.iadd, 1) := by decide +kernel
theorem d_Law_law_1981 : dec m_Law_law 1981 = .ok (.iaload, 1) := by decide +kernel
theorem d_Law_law_1982 : dec m_Law_law 1982 = .ok (.aload_n 0, 1) := by decide +kernel
theorem d_Law_law_1983 : dec m_Law_law 1983 = .ok (.iload_n 3, 1) := by decide +kernel
theorem d_Law_law_1984 : dec m_Law_law 1984 = .ok (.iconst 2, 1) := by decide +kernel
theorem d_Law_law_1985 : dec m_Law_law 1985 = .ok (.iadd, 1) := by decide +kernel
theorem d_Law_law_1986 : dec m_Law_law 1986 = .ok (.iaload, 1) := by decide +kernel
theorem d_Law_law_1987 : dec m_Law_law 1987 = .ok (.invokevirtual 221, 3) := by decide +kernel
theorem d_Law_law_1990 : dec m_Law_law 1990 = .ok (.aload_n 2, 1) := by decide +kernel
theorem d_Law_law_1991 : dec m_Law_law 1991 = .ok (.aload_n 0, 1) := by decide +kernel
theorem d_Law_law_1992 : dec m_Law_law 1992 = .ok (.iload_n 3, 1) := by decide +kernel
theorem d_Law_law_1993 : dec m_Law_law 1993 = .ok (.iconst 1, 1) := by decide +kernel
theorem d_Law_law_1994 : dec m_Law_law 1994 = .ok (.iadd, 1) := by decide +kernel
theorem d_Law_law_1995 : dec m_Law_law 1995 = .ok (.iaload, 1) := by decide +kernel
theorem d_Law_law_1996 : dec m_Law_law 1996 = .ok (.aload_n 0, 1) := by decide +kernel
theorem d_Law_law_1997 : dec m_Law_law 1997 = .ok (.iload_n 3, 1) := by decide +kernel
theorem d_Law_law_1998 : dec m_Law_law 1998 = .ok (.iconst 2, 1) := by decide +kernel
theorem d_Law_law_1999 : dec m_Law_law 1999 = .ok (.iadd, 1) := by decide +kernel
theorem d_Law_law_2000 : dec m_Law_law 2000 = .ok (.iaload, 1) := by decide +kernel
theorem d_Law_law_2001 : dec m_Law_law 2001 = .ok (.invokevirtual 224, 3) := by decide +kernel
theorem d_Law_law_2004 : dec m_Law_law 2004 = .ok (.if_icmp .eq 100, 3) := by decide +kernel
theorem d_Law_law_2007 : dec m_Law_law 2007 = .ok (.iconst 0, 1) := by decide +kernel
theorem d_Law_law_2008 : dec m_Law_law 2008 = .ok (.ireturn, 1) := by decide +kernel
theorem d_Law_law_2009 : dec m_Law_law 2009 = .ok (.aload_n 1, 1) := by decide +kernel
theorem d_Law_law_2010 : dec m_Law_law 2010 = .ok (.aload_n 0, 1) := by decide +kernel
theorem d_Law_law_2011 : dec m_Law_law 2011 = .ok (.iload_n 3, 1) := by decide +kernel
theorem d_Law_law_2012 : dec m_Law_law 2012 = .ok (.iconst 1, 1) := by decide +kernel
theorem d_Law_law_2013 : dec m_Law_law 2013 = .ok (.iadd, 1) := by decide +kernel
theorem d_Law_law_2014 : dec m_Law_law 2014 = .ok (.iaload, 1) := by decide +kernel
theorem d_Law_law_2015 : dec m_Law_law 2015 = .ok (.aload_n 0, 1) := by decide +kernel
theorem d_Law_law_2016 : dec m_Law_law 2016 = .ok (.iload_n 3, 1) := by decide +kernel
theorem d_Law_law_2017 : dec m_Law_law 2017 = .ok (.iconst 2, 1) := by decide +kernel
theorem d_Law_law_2018 : dec m_Law_law 2018 = .ok (.iadd, 1) := by decide +kernel
theorem d_Law_law_2019 : dec m_Law_law 2019 = .ok (.iaload, 1) := by decide +kernel
theorem d_Law_law_2020 : dec m_Law_law 2020 = .ok (.invokevirtual 225, 3) := by decide +kernel
theorem d_Law_law_2023 : dec m_Law_law 2023 = .ok (.aload_n 2, 1) := by decide +kernel
theorem d_Law_law_2024 : dec m_Law_law 2024 = .ok (.aload_n 0, 1) := by decide +kernel
theorem d_Law_law_2025 : dec m_Law_law 2025 = .ok (.iload_n 3, 1) := by decide +kernel
theorem d_Law_law_2026 : dec m_Law_law 2026 = .ok (.iconst 1, 1) := by decide +kernel
theorem d_Law_law_2027 : dec m_Law_law 2027 = .ok (.iadd, 1) := by decide +kernel
theorem d_Law_law_2028 : dec m_Law_law 2028 = .ok (.iaload, 1) := by decide +kernel
theorem d_Law_law_2029 : dec m_Law_law 2029 = .ok (.aload_n 0, 1) := by decide +kernel
theorem d_Law_law_2030 : dec m_Law_law 2030 = .ok (.iload_n 3, 1) := by decide +kernel
theorem d_Law_law_2031 : dec m_Law_law 2031 = .ok (.iconst 2, 1) := by decide +kernel
theorem d_Law_law_2032 : dec m_Law_law 2032 = .ok (.iadd, 1) := by decide +kernel
theorem d_Law_law_2033 : dec m_Law_law 2033 = .ok (.iaload, 1) := by decide +kernel
theorem d_Law_law_2034 : dec m_Law_law 2034 = .ok (.invokevirtual 228, 3) := by decide +kernel
theorem d_Law_law_2037 : dec m_Law_law 2037 = .ok (.if_icmp .eq 67, 3) := by decide +kernel
theorem d_Law_law_2040 : dec m_Law_law 2040 = .ok (.iconst 0, 1) := by decide +kernel
theorem d_Law_law_2041 : dec m_Law_law 2041 = .ok (.ireturn, 1) := by decide +kernel
theorem d_Law_law_2042 : dec m_Law_law 2042 = .ok (.aload_n 1, 1) := by decide +kernel
theorem d_Law_law_2043 : dec m_Law_law 2043 = .ok (.invokevirtual 229, 3) := by decide +kernel
theorem d_Law_law_2046 : dec m_Law_law 2046 = .ok (.aload_n 2, 1) := by decide +kernel
theorem d_Law_law_2047 : dec m_Law_law 2047 = .ok (.invokevirtual 232, 3) := by decide +kernel
theorem d_Law_law_2050 : dec m_Law_law 2050 = .ok (.if_icmp .eq 54, 3) := by decide +kernel
theorem d_Law_law_2053 : dec m_Law_law 2053 = .ok (.iconst 0, 1) := by decide +kernel
theorem d_Law_law_2054 : dec m_Law_law 2054 = .ok (.ireturn, 1) := by decide +kernel
theorem d_Law_law_2055 : dec m_Law_law 2055 = .ok (.aload_n 1, 1) := by decide +kernel
theorem d_Law_law_2056 : dec m_Law_law 2056 = .ok (.invokevirtual 233, 3) := by decide +kernel
theorem d_Law_law_2059 : dec m_Law_law 2059 = .ok (.aload_n 2, 1) := by decide +kernel
theorem d_Law_law_2060 : dec m_Law_law 2060 = .ok (.invokevirtual 236, 3) := by decide +kernel
theorem d_Law_law_2063 : dec m_Law_law 2063 = .ok (.if_icmp .eq 41, 3) := by decide +kernel
theorem d_Law_law_2066 : dec m_Law_law 2066 = .ok (.iconst 0, 1) := by decide +kernel
theorem d_Law_law_2067 : dec m_Law_law 2067 = .ok (.ireturn, 1) := by decide +kernel
theorem d_Law_law_2068 : dec m_Law_law 2068 = .ok (.aload_n 1, 1) := by decide +kernel
theorem d_Law_law_2069 : dec m_Law_law 2069 = .ok (.invokevirtual 237, 3) := by decide +kernel
theorem d_Law_law_2072 : dec m_Law_law 2072 = .ok (.aload_n 2, 1) := by decide +kernel
theorem d_Law_law_2073 : dec m_Law_law 2073 = .ok (.invokevirtual 240, 3) := by decide +kernel
theorem d_Law_law_2076 : dec m_Law_law 2076 = .ok (.if_icmp .eq 28, 3) := by decide +kernel
theorem d_Law_law_2079 : dec m_Law_law 2079 = .ok (.iconst 0, 1) := by decide +kernel
theorem d_Law_law_2080 : dec m_Law_law 2080 = .ok (.ireturn, 1) := by decide +kernel
theorem d_Law_law_2081 : dec m_Law_law 2081 = .ok (.aload_n 1, 1) := by decide +kernel
theorem d_Law_law_2082 : dec m_Law_law 2082 = .ok (.aload_n 0, 1) := by decide +kernel
theorem d_Law_law_2083 : dec m_Law_law 2083 = .ok (.iload_n 3, 1) := by decide +kernel
theorem d_Law_law_2084 : dec m_Law_law 2084 = .ok (.iconst 1, 1) := by decide +kernel
theorem d_Law_law_2085 : dec m_Law_law 2085 = .ok (.iadd, 1) := by decide +kernel
theorem d_Law_law_2086 : dec m_Law_law 2086 = .ok (.iaload, 1) := by decide +kernel
theorem d_Law_law_2087 : dec m_Law_law 2087 = .ok (.invokevirtual 241, 3) := by decide +kernel
theorem d_Law_law_2090 : dec m_Law_law 2090 = .ok (.aload_n 2, 1) := by decide +kernel
theorem d_Law_law_2091 : dec m_Law_law 2091 = .ok (.aload_n 0, 1) := by decide +kernel
theorem d_Law_law_2092 : dec m_Law_law 2092 = .ok (.iload_n 3, 1) := by decide +kernel
theorem d_Law_law_2093 : dec m_Law_law 2093 = .ok (.iconst 1, 1) := by decide +kernel
theorem d_Law_law_2094 : dec m_Law_law 2094 = .ok (.iadd, 1) := by decide +kernel
theorem d_Law_law_2095 : dec m_Law_law 2095 = .ok (.iaload, 1) := by decide +kernel
theorem d_Law_law_2096 : dec m_Law_law 2096 = .ok (.invokevirtual 244, 3) := by decide +kernel
theorem d_Law_law_2099 : dec m_Law_law 2099 = .ok (.if_icmp .eq 5, 3) := by decide +kernel
theorem d_Law_law_2102 : dec m_Law_law 2102 = .ok (.iconst 0, 1) := by decide +kernel
theorem d_Law_law_2103 : dec m_Law_law 2103 = .ok (.ireturn, 1) := by decide +kernel
theorem d_Law_law_2104 : dec m_Law_law 2104 = .ok (.iinc 3 6, 3) := by decide +kernel
theorem d_Law_law_2107 : dec m_Law_law 2107 = .ok (.goto (-2089), 3) := by decide +kernel
theorem d_Law_law_2110 : dec m_Law_law 2110 = .ok (.iconst 1, 1) := by decide +kernel
theorem d_Law_law_2111 : dec m_Law_law 2111 = .ok (.ireturn, 1) := by decide +kernel
