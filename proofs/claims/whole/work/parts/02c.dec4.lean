theorem d_Mod_norm_12 : dec m_Mod_norm 12 = .ok (.goto 6, 3) := by decide +kernel
theorem d_Mod_norm_15 : dec m_Mod_norm 15 = .ok (.ldc2_w 235, 3) := by decide +kernel
theorem d_Mod_norm_18 : dec m_Mod_norm 18 = .ok (.lreturn, 1) := by decide +kernel
theorem d_Mod_modulo_0 : dec m_Mod_modulo 0 = .ok (.lload_n 0, 1) := by decide +kernel
theorem d_Mod_modulo_1 : dec m_Mod_modulo 1 = .ok (.lload_n 2, 1) := by decide +kernel
theorem d_Mod_modulo_2 : dec m_Mod_modulo 2 = .ok (.lrem, 1) := by decide +kernel
theorem d_Mod_modulo_3 : dec m_Mod_modulo 3 = .ok (.lstore 4, 2) := by decide +kernel
theorem d_Mod_modulo_5 : dec m_Mod_modulo 5 = .ok (.lload 4, 2) := by decide +kernel
theorem d_Mod_modulo_7 : dec m_Mod_modulo 7 = .ok (.lconst 0, 1) := by decide +kernel
theorem d_Mod_modulo_8 : dec m_Mod_modulo 8 = .ok (.lcmp, 1) := by decide +kernel
theorem d_Mod_modulo_9 : dec m_Mod_modulo 9 = .ok (.ifCond .ge 10, 3) := by decide +kernel
theorem d_Mod_modulo_12 : dec m_Mod_modulo 12 = .ok (.lload 4, 2) := by decide +kernel
theorem d_Mod_modulo_14 : dec m_Mod_modulo 14 = .ok (.lload_n 2, 1) := by decide +kernel
theorem d_Mod_modulo_15 : dec m_Mod_modulo 15 = .ok (.ladd, 1) := by decide +kernel
theorem d_Mod_modulo_16 : dec m_Mod_modulo 16 = .ok (.goto 5, 3) := by decide +kernel
theorem d_Mod_modulo_19 : dec m_Mod_modulo 19 = .ok (.lload 4, 2) := by decide +kernel
theorem d_Mod_modulo_21 : dec m_Mod_modulo 21 = .ok (.lreturn, 1) := by decide +kernel
theorem d_Mod_power_0 : dec m_Mod_power 0 = .ok (.lconst 1, 1) := by decide +kernel
theorem d_Mod_power_1 : dec m_Mod_power 1 = .ok (.lload_n 3, 1) := by decide +kernel
theorem d_Mod_power_2 : dec m_Mod_power 2 = .ok (.lrem, 1) := by decide +kernel
theorem d_Mod_power_3 : dec m_Mod_power 3 = .ok (.lstore 5, 2) := by decide +kernel
theorem d_Mod_power_5 : dec m_Mod_power 5 = .ok (.iconst 0, 1) := by decide +kernel
theorem d_Mod_power_6 : dec m_Mod_power 6 = .ok (.istore 7, 2) := by decide +kernel
theorem d_Mod_power_8 : dec m_Mod_power 8 = .ok (.iload 7, 2) := by decide +kernel
theorem d_Mod_power_10 : dec m_Mod_power 10 = .ok (.iload_n 2, 1) := by decide +kernel
theorem d_Mod_power_11 : dec m_Mod_power 11 = .ok (.if_icmp .ge 21, 3) := by decide +kernel
theorem d_Mod_power_14 : dec m_Mod_power 14 = .ok (.lload 5, 2) := by decide +kernel
theorem d_Mod_power_16 : dec m_Mod_power 16 = .ok (.lload_n 0, 1) := by decide +kernel
theorem d_Mod_power_17 : dec m_Mod_power 17 = .ok (.lload_n 3, 1) := by decide +kernel
theorem d_Mod_power_18 : dec m_Mod_power 18 = .ok (.invokestatic 245, 3) := by decide +kernel
theorem d_Mod_power_21 : dec m_Mod_power 21 = .ok (.lmul, 1) := by decide +kernel
theorem d_Mod_power_22 : dec m_Mod_power 22 = .ok (.lload_n 3, 1) := by decide +kernel
theorem d_Mod_power_23 : dec m_Mod_power 23 = .ok (.lrem, 1) := by decide +kernel
theorem d_Mod_power_24 : dec m_Mod_power 24 = .ok (.lstore 5, 2) := by decide +kernel
theorem d_Mod_power_26 : dec m_Mod_power 26 = .ok (.iinc 7 1, 3) := by decide +kernel
theorem d_Mod_power_29 : dec m_Mod_power 29 = .ok (.goto (-21), 3) := by decide +kernel
theorem d_Mod_power_32 : dec m_Mod_power 32 = .ok (.lload 5, 2) := by decide +kernel
theorem d_Mod_power_34 : dec m_Mod_power 34 = .ok (.lreturn, 1) := by decide +kernel
theorem d_Mod_worth_0 : dec m_Mod_worth 0 = .ok (.lconst 0, 1) := by decide +kernel
theorem d_Mod_worth_1 : dec m_Mod_worth 1 = .ok (.lstore 7, 2) := by decide +kernel
theorem d_Mod_worth_3 : dec m_Mod_worth 3 = .ok (.iconst 0, 1) := by decide +kernel
theorem d_Mod_worth_4 : dec m_Mod_worth 4 = .ok (.istore 9, 2) := by decide +kernel
theorem d_Mod_worth_6 : dec m_Mod_worth 6 = .ok (.iload 9, 2) := by decide +kernel
theorem d_Mod_worth_8 : dec m_Mod_worth 8 = .ok (.bipush 84, 2) := by decide +kernel
theorem d_Mod_worth_10 : dec m_Mod_worth 10 = .ok (.if_icmp .ge 98, 3) := by decide +kernel
theorem d_Mod_worth_13 : dec m_Mod_worth 13 = .ok (.aload_n 0, 1) := by decide +kernel
theorem d_Mod_worth_14 : dec m_Mod_worth 14 = .ok (.getfield 9, 3) := by decide +kernel
theorem d_Mod_worth_17 : dec m_Mod_worth 17 = .ok (.bipush 84, 2) := by decide +kernel
theorem d_Mod_worth_19 : dec m_Mod_worth 19 = .ok (.iload_n 1, 1) := by decide +kernel
theorem d_Mod_worth_20 : dec m_Mod_worth 20 = .ok (.imul, 1) := by decide +kernel
theorem d_Mod_worth_21 : dec m_Mod_worth 21 = .ok (.iload 9, 2) := by decide +kernel
theorem d_Mod_worth_23 : dec m_Mod_worth 23 = .ok (.iadd, 1) := by decide +kernel
theorem d_Mod_worth_24 : dec m_Mod_worth 24 = .ok (.laload, 1) := by decide +kernel
theorem d_Mod_worth_25 : dec m_Mod_worth 25 = .ok (.lload 5, 2) := by decide +kernel
theorem d_Mod_worth_27 : dec m_Mod_worth 27 = .ok (.invokestatic 245, 3) := by decide +kernel
theorem d_Mod_worth_30 : dec m_Mod_worth 30 = .ok (.lstore 10, 2) := by decide +kernel
theorem d_Mod_worth_32 : dec m_Mod_worth 32 = .ok (.lload 10, 2) := by decide +kernel
theorem d_Mod_worth_34 : dec m_Mod_worth 34 = .ok (.iload_n 2, 1) := by decide +kernel
theorem d_Mod_worth_35 : dec m_Mod_worth 35 = .ok (.i2l, 1) := by decide +kernel
theorem d_Mod_worth_36 : dec m_Mod_worth 36 = .ok (.aload_n 0, 1) := by decide +kernel
theorem d_Mod_worth_37 : dec m_Mod_worth 37 = .ok (.getfield 18, 3) := by decide +kernel
theorem d_Mod_worth_40 : dec m_Mod_worth 40 = .ok (.iload 9, 2) := by decide +kernel
theorem d_Mod_worth_42 : dec m_Mod_worth 42 = .ok (.iaload, 1) := by decide +kernel
theorem d_Mod_worth_43 : dec m_Mod_worth 43 = .ok (.lload 5, 2) := by decide +kernel
theorem d_Mod_worth_45 : dec m_Mod_worth 45 = .ok (.invokestatic 248, 3) := by decide +kernel
theorem d_Mod_worth_48 : dec m_Mod_worth 48 = .ok (.lmul, 1) := by decide +kernel
theorem d_Mod_worth_49 : dec m_Mod_worth 49 = .ok (.lload 5, 2) := by decide +kernel
theorem d_Mod_worth_51 : dec m_Mod_worth 51 = .ok (.lrem, 1) := by decide +kernel
theorem d_Mod_worth_52 : dec m_Mod_worth 52 = .ok (.lstore 10, 2) := by decide +kernel
theorem d_Mod_worth_54 : dec m_Mod_worth 54 = .ok (.lload 10, 2) := by decide +kernel
theorem d_Mod_worth_56 : dec m_Mod_worth 56 = .ok (.iload_n 3, 1) := by decide +kernel
theorem d_Mod_worth_57 : dec m_Mod_worth 57 = .ok (.i2l, 1) := by decide +kernel
theorem d_Mod_worth_58 : dec m_Mod_worth 58 = .ok (.aload_n 0, 1) := by decide +kernel
theorem d_Mod_worth_59 : dec m_Mod_worth 59 = .ok (.getfield 22, 3) := by decide +kernel
theorem d_Mod_worth_62 : dec m_Mod_worth 62 = .ok (.iload 9, 2) := by decide +kernel
theorem d_Mod_worth_64 : dec m_Mod_worth 64 = .ok (.iaload, 1) := by decide +kernel
theorem d_Mod_worth_65 : dec m_Mod_worth 65 = .ok (.lload 5, 2) := by decide +kernel
theorem d_Mod_worth_67 : dec m_Mod_worth 67 = .ok (.invokestatic 248, 3) := by decide +kernel
theorem d_Mod_worth_70 : dec m_Mod_worth 70 = .ok (.lmul, 1) := by decide +kernel
theorem d_Mod_worth_71 : dec m_Mod_worth 71 = .ok (.lload 5, 2) := by decide +kernel
theorem d_Mod_worth_73 : dec m_Mod_worth 73 = .ok (.lrem, 1) := by decide +kernel
theorem d_Mod_worth_74 : dec m_Mod_worth 74 = .ok (.lstore 10, 2) := by decide +kernel
theorem d_Mod_worth_76 : dec m_Mod_worth 76 = .ok (.lload 7, 2) := by decide +kernel
theorem d_Mod_worth_78 : dec m_Mod_worth 78 = .ok (.lload 10, 2) := by decide +kernel
theorem d_Mod_worth_80 : dec m_Mod_worth 80 = .ok (.iload 4, 2) := by decide +kernel
theorem d_Mod_worth_82 : dec m_Mod_worth 82 = .ok (.i2l, 1) := by decide +kernel
theorem d_Mod_worth_83 : dec m_Mod_worth 83 = .ok (.aload_n 0, 1) := by decide +kernel
theorem d_Mod_worth_84 : dec m_Mod_worth 84 = .ok (.getfield 25, 3) := by decide +kernel
theorem d_Mod_worth_87 : dec m_Mod_worth 87 = .ok (.iload 9, 2) := by decide +kernel
theorem d_Mod_worth_89 : dec m_Mod_worth 89 = .ok (.iaload, 1) := by decide +kernel
theorem d_Mod_worth_90 : dec m_Mod_worth 90 = .ok (.lload 5, 2) := by decide +kernel
theorem d_Mod_worth_92 : dec m_Mod_worth 92 = .ok (.invokestatic 248, 3) := by decide +kernel
theorem d_Mod_worth_95 : dec m_Mod_worth 95 = .ok (.lmul, 1) := by decide +kernel
theorem d_Mod_worth_96 : dec m_Mod_worth 96 = .ok (.ladd, 1) := by decide +kernel
theorem d_Mod_worth_97 : dec m_Mod_worth 97 = .ok (.lload 5, 2) := by decide +kernel
theorem d_Mod_worth_99 : dec m_Mod_worth 99 = .ok (.lrem, 1) := by decide +kernel
theorem d_Mod_worth_100 : dec m_Mod_worth 100 = .ok (.lstore 7, 2) := by decide +kernel
theorem d_Mod_worth_102 : dec m_Mod_worth 102 = .ok (.iinc 9 1, 3) := by decide +kernel
theorem d_Mod_worth_105 : dec m_Mod_worth 105 = .ok (.goto (-99), 3) := by decide +kernel
theorem d_Mod_worth_108 : dec m_Mod_worth 108 = .ok (.lload 7, 2) := by decide +kernel
theorem d_Mod_worth_110 : dec m_Mod_worth 110 = .ok (.lreturn, 1) := by decide +kernel
theorem d_Mod_at_0 : dec m_Mod_at 0 = .ok (.iload_n 1, 1) := by decide +kernel
theorem d_Mod_at_1 : dec m_Mod_at 1 = .ok (.invokestatic 182, 3) := by decide +kernel
theorem d_Mod_at_4 : dec m_Mod_at 4 = .ok (.ifCond .eq 33, 3) := by decide +kernel
theorem d_Mod_at_7 : dec m_Mod_at 7 = .ok (.iload 5, 2) := by decide +kernel
theorem d_Mod_at_9 : dec m_Mod_at 9 = .ok (.i2l, 1) := by decide +kernel
theorem d_Mod_at_10 : dec m_Mod_at 10 = .ok (.ldc2_w 180, 3) := by decide +kernel
theorem d_Mod_at_13 : dec m_Mod_at 13 = .ok (.ldc2_w 252, 3) := by decide +kernel
theorem d_Mod_at_16 : dec m_Mod_at 16 = .ok (.invokestatic 139, 3) := by decide +kernel
theorem d_Mod_at_19 : dec m_Mod_at 19 = .ok (.ifCond .eq 18, 3) := by decide +kernel
theorem d_Mod_at_22 : dec m_Mod_at 22 = .ok (.aload_n 0, 1) := by decide +kernel
theorem d_Mod_at_23 : dec m_Mod_at 23 = .ok (.iload_n 1, 1) := by decide +kernel
theorem d_Mod_at_24 : dec m_Mod_at 24 = .ok (.iload_n 2, 1) := by decide +kernel
theorem d_Mod_at_25 : dec m_Mod_at 25 = .ok (.iload_n 3, 1) := by decide +kernel
theorem d_Mod_at_26 : dec m_Mod_at 26 = .ok (.iload 4, 2) := by decide +kernel
theorem d_Mod_at_28 : dec m_Mod_at 28 = .ok (.iload 5, 2) := by decide +kernel
theorem d_Mod_at_30 : dec m_Mod_at 30 = .ok (.i2l, 1) := by decide +kernel
theorem d_Mod_at_31 : dec m_Mod_at 31 = .ok (.invokevirtual 254, 3) := by decide +kernel
theorem d_Mod_at_34 : dec m_Mod_at 34 = .ok (.goto 6, 3) := by decide +kernel
theorem d_Mod_at_37 : dec m_Mod_at 37 = .ok (.ldc2_w 235, 3) := by decide +kernel
theorem d_Mod_at_40 : dec m_Mod_at 40 = .ok (.lreturn, 1) := by decide +kernel
theorem d_Mod_tellOne_0 : dec m_Mod_tellOne 0 = .ok (.lload_n 3, 1) := by decide +kernel
theorem d_Mod_tellOne_1 : dec m_Mod_tellOne 1 = .ok (.lconst 0, 1) := by decide +kernel
theorem d_Mod_tellOne_2 : dec m_Mod_tellOne 2 = .ok (.lcmp, 1) := by decide +kernel
theorem d_Mod_tellOne_3 : dec m_Mod_tellOne 3 = .ok (.ifCond .lt 19, 3) := by decide +kernel
theorem d_Mod_tellOne_6 : dec m_Mod_tellOne 6 = .ok (.lload_n 3, 1) := by decide +kernel
theorem d_Mod_tellOne_7 : dec m_Mod_tellOne 7 = .ok (.ldc2_w 237, 3) := by decide +kernel
theorem d_Mod_tellOne_10 : dec m_Mod_tellOne 10 = .ok (.ladd, 1) := by decide +kernel
theorem d_Mod_tellOne_11 : dec m_Mod_tellOne 11 = .ok (.aload_n 0, 1) := by decide +kernel
theorem d_Mod_tellOne_12 : dec m_Mod_tellOne 12 = .ok (.getfield 124, 3) := by decide +kernel
theorem d_Mod_tellOne_15 : dec m_Mod_tellOne 15 = .ok (.iload_n 2, 1) := by decide +kernel
theorem d_Mod_tellOne_16 : dec m_Mod_tellOne 16 = .ok (.iaload, 1) := by decide +kernel
theorem d_Mod_tellOne_17 : dec m_Mod_tellOne 17 = .ok (.i2l, 1) := by decide +kernel
theorem d_Mod_tellOne_18 : dec m_Mod_tellOne 18 = .ok (.lcmp, 1) := by decide +kernel
theorem d_Mod_tellOne_19 : dec m_Mod_tellOne 19 = .ok (.ifCond .le 6, 3) := by decide +kernel
theorem d_Mod_tellOne_22 : dec m_Mod_tellOne 22 = .ok (.bipush (-12), 2) := by decide +kernel
theorem d_Mod_tellOne_24 : dec m_Mod_tellOne 24 = .ok (.ireturn, 1) := by decide +kernel
theorem d_Mod_tellOne_25 : dec m_Mod_tellOne 25 = .ok (.bipush 40, 2) := by decide +kernel
theorem d_Mod_tellOne_27 : dec m_Mod_tellOne 27 = .ok (.iload_n 2, 1) := by decide +kernel
theorem d_Mod_tellOne_28 : dec m_Mod_tellOne 28 = .ok (.imul, 1) := by decide +kernel
theorem d_Mod_tellOne_29 : dec m_Mod_tellOne 29 = .ok (.lload_n 3, 1) := by decide +kernel
theorem d_Mod_tellOne_30 : dec m_Mod_tellOne 30 = .ok (.l2i, 1) := by decide +kernel
theorem d_Mod_tellOne_31 : dec m_Mod_tellOne 31 = .ok (.iadd, 1) := by decide +kernel
theorem d_Mod_tellOne_32 : dec m_Mod_tellOne 32 = .ok (.istore 5, 2) := by decide +kernel
theorem d_Mod_tellOne_34 : dec m_Mod_tellOne 34 = .ok (.aload_n 0, 1) := by decide +kernel
theorem d_Mod_tellOne_35 : dec m_Mod_tellOne 35 = .ok (.getfield 127, 3) := by decide +kernel
theorem d_Mod_tellOne_38 : dec m_Mod_tellOne 38 = .ok (.iload 5, 2) := by decide +kernel
theorem d_Mod_tellOne_40 : dec m_Mod_tellOne 40 = .ok (.iaload, 1) := by decide +kernel
theorem d_Mod_tellOne_41 : dec m_Mod_tellOne 41 = .ok (.istore 6, 2) := by decide +kernel
theorem d_Mod_tellOne_43 : dec m_Mod_tellOne 43 = .ok (.iload 6, 2) := by decide +kernel
theorem d_Mod_tellOne_45 : dec m_Mod_tellOne 45 = .ok (.i2l, 1) := by decide +kernel
theorem d_Mod_tellOne_46 : dec m_Mod_tellOne 46 = .ok (.ldc2_w 186, 3) := by decide +kernel
theorem d_Mod_tellOne_49 : dec m_Mod_tellOne 49 = .ok (.ldc2_w 188, 3) := by decide +kernel
theorem d_Mod_tellOne_52 : dec m_Mod_tellOne 52 = .ok (.invokestatic 139, 3) := by decide +kernel
theorem d_Mod_tellOne_55 : dec m_Mod_tellOne 55 = .ok (.ifCond .eq 36, 3) := by decide +kernel
theorem d_Mod_tellOne_58 : dec m_Mod_tellOne 58 = .ok (.aload_n 0, 1) := by decide +kernel
theorem d_Mod_tellOne_59 : dec m_Mod_tellOne 59 = .ok (.getfield 127, 3) := by decide +kernel
theorem d_Mod_tellOne_62 : dec m_Mod_tellOne 62 = .ok (.iload 5, 2) := by decide +kernel
theorem d_Mod_tellOne_64 : dec m_Mod_tellOne 64 = .ok (.iconst 1, 1) := by decide +kernel
theorem d_Mod_tellOne_65 : dec m_Mod_tellOne 65 = .ok (.iadd, 1) := by decide +kernel
theorem d_Mod_tellOne_66 : dec m_Mod_tellOne 66 = .ok (.iaload, 1) := by decide +kernel
theorem d_Mod_tellOne_67 : dec m_Mod_tellOne 67 = .ok (.aload_n 0, 1) := by decide +kernel
theorem d_Mod_tellOne_68 : dec m_Mod_tellOne 68 = .ok (.getfield 127, 3) := by decide +kernel
theorem d_Mod_tellOne_71 : dec m_Mod_tellOne 71 = .ok (.iload 5, 2) := by decide +kernel
theorem d_Mod_tellOne_73 : dec m_Mod_tellOne 73 = .ok (.iconst 2, 1) := by decide +kernel
theorem d_Mod_tellOne_74 : dec m_Mod_tellOne 74 = .ok (.iadd, 1) := by decide +kernel
theorem d_Mod_tellOne_75 : dec m_Mod_tellOne 75 = .ok (.iaload, 1) := by decide +kernel
theorem d_Mod_tellOne_76 : dec m_Mod_tellOne 76 = .ok (.aload_n 0, 1) := by decide +kernel
theorem d_Mod_tellOne_77 : dec m_Mod_tellOne 77 = .ok (.getfield 127, 3) := by decide +kernel
theorem d_Mod_tellOne_80 : dec m_Mod_tellOne 80 = .ok (.iload 5, 2) := by decide +kernel
theorem d_Mod_tellOne_82 : dec m_Mod_tellOne 82 = .ok (.iconst 3, 1) := by decide +kernel
theorem d_Mod_tellOne_83 : dec m_Mod_tellOne 83 = .ok (.iadd, 1) := by decide +kernel
theorem d_Mod_tellOne_84 : dec m_Mod_tellOne 84 = .ok (.iaload, 1) := by decide +kernel
theorem d_Mod_tellOne_85 : dec m_Mod_tellOne 85 = .ok (.invokestatic 190, 3) := by decide +kernel
theorem d_Mod_tellOne_88 : dec m_Mod_tellOne 88 = .ok (.ifCond .ne 5, 3) := by decide +kernel
theorem d_Mod_tellOne_91 : dec m_Mod_tellOne 91 = .ok (.iconst (-1), 1) := by decide +kernel
theorem d_Mod_tellOne_92 : dec m_Mod_tellOne 92 = .ok (.ireturn, 1) := by decide +kernel
theorem d_Mod_tellOne_93 : dec m_Mod_tellOne 93 = .ok (.aload_n 0, 1) := by decide +kernel
theorem d_Mod_tellOne_94 : dec m_Mod_tellOne 94 = .ok (.aload_n 0, 1) := by decide +kernel
theorem d_Mod_tellOne_95 : dec m_Mod_tellOne 95 = .ok (.getfield 127, 3) := by decide +kernel
theorem d_Mod_tellOne_98 : dec m_Mod_tellOne 98 = .ok (.iload 5, 2) := by decide +kernel
theorem d_Mod_tellOne_100 : dec m_Mod_tellOne 100 = .ok (.iconst 1, 1) := by decide +kernel
theorem d_Mod_tellOne_101 : dec m_Mod_tellOne 101 = .ok (.iadd, 1) := by decide +kernel
theorem d_Mod_tellOne_102 : dec m_Mod_tellOne 102 = .ok (.iaload, 1) := by decide +kernel
theorem d_Mod_tellOne_103 : dec m_Mod_tellOne 103 = .ok (.aload_n 0, 1) := by decide +kernel
theorem d_Mod_tellOne_104 : dec m_Mod_tellOne 104 = .ok (.getfield 127, 3) := by decide +kernel
theorem d_Mod_tellOne_107 : dec m_Mod_tellOne 107 = .ok (.iload 5, 2) := by decide +kernel
theorem d_Mod_tellOne_109 : dec m_Mod_tellOne 109 = .ok (.iconst 2, 1) := by decide +kernel
theorem d_Mod_tellOne_110 : dec m_Mod_tellOne 110 = .ok (.iadd, 1) := by decide +kernel
theorem d_Mod_tellOne_111 : dec m_Mod_tellOne 111 = .ok (.iaload, 1) := by decide +kernel
theorem d_Mod_tellOne_112 : dec m_Mod_tellOne 112 = .ok (.aload_n 0, 1) := by decide +kernel
theorem d_Mod_tellOne_113 : dec m_Mod_tellOne 113 = .ok (.getfield 127, 3) := by decide +kernel
theorem d_Mod_tellOne_116 : dec m_Mod_tellOne 116 = .ok (.iload 5, 2) := by decide +kernel
theorem d_Mod_tellOne_118 : dec m_Mod_tellOne 118 = .ok (.iconst 3, 1) := by decide +kernel
theorem d_Mod_tellOne_119 : dec m_Mod_tellOne 119 = .ok (.iadd, 1) := by decide +kernel
theorem d_Mod_tellOne_120 : dec m_Mod_tellOne 120 = .ok (.iaload, 1) := by decide +kernel
theorem d_Mod_tellOne_121 : dec m_Mod_tellOne 121 = .ok (.invokevirtual 176, 3) := by decide +kernel
theorem d_Mod_tellOne_124 : dec m_Mod_tellOne 124 = .ok (.istore 7, 2) := by decide +kernel
theorem d_Mod_tellOne_126 : dec m_Mod_tellOne 126 = .ok (.aload_n 0, 1) := by decide +kernel
theorem d_Mod_tellOne_127 : dec m_Mod_tellOne 127 = .ok (.getfield 9, 3) := by decide +kernel
theorem d_Mod_tellOne_130 : dec m_Mod_tellOne 130 = .ok (.bipush 84, 2) := by decide +kernel
theorem d_Mod_tellOne_132 : dec m_Mod_tellOne 132 = .ok (.iload_n 1, 1) := by decide +kernel
theorem d_Mod_tellOne_133 : dec m_Mod_tellOne 133 = .ok (.imul, 1) := by decide +kernel
theorem d_Mod_tellOne_134 : dec m_Mod_tellOne 134 = .ok (.iload 7, 2) := by decide +kernel
theorem d_Mod_tellOne_136 : dec m_Mod_tellOne 136 = .ok (.iadd, 1) := by decide +kernel
theorem d_Mod_tellOne_137 : dec m_Mod_tellOne 137 = .ok (.dup2, 1) := by decide +kernel
theorem d_Mod_tellOne_138 : dec m_Mod_tellOne 138 = .ok (.laload, 1) := by decide +kernel
theorem d_Mod_tellOne_139 : dec m_Mod_tellOne 139 = .ok (.iload 6, 2) := by decide +kernel
theorem d_Mod_tellOne_141 : dec m_Mod_tellOne 141 = .ok (.i2l, 1) := by decide +kernel
theorem d_Mod_tellOne_142 : dec m_Mod_tellOne 142 = .ok (.ladd, 1) := by decide +kernel
theorem d_Mod_tellOne_143 : dec m_Mod_tellOne 143 = .ok (.lastore, 1) := by decide +kernel
theorem d_Mod_tellOne_144 : dec m_Mod_tellOne 144 = .ok (.aload_n 0, 1) := by decide +kernel
theorem d_Mod_tellOne_145 : dec m_Mod_tellOne 145 = .ok (.dup, 1) := by decide +kernel
theorem d_Mod_tellOne_146 : dec m_Mod_tellOne 146 = .ok (.getfield 258, 3) := by decide +kernel
theorem d_Mod_tellOne_149 : dec m_Mod_tellOne 149 = .ok (.aload_n 0, 1) := by decide +kernel
theorem d_Mod_tellOne_150 : dec m_Mod_tellOne 150 = .ok (.getfield 9, 3) := by decide +kernel
theorem d_Mod_tellOne_153 : dec m_Mod_tellOne 153 = .ok (.sipush 1176, 3) := by decide +kernel
theorem d_Mod_tellOne_156 : dec m_Mod_tellOne 156 = .ok (.iload 7, 2) := by decide +kernel
theorem d_Mod_tellOne_158 : dec m_Mod_tellOne 158 = .ok (.iadd, 1) := by decide +kernel
theorem d_Mod_tellOne_159 : dec m_Mod_tellOne 159 = .ok (.laload, 1) := by decide +kernel
theorem d_Mod_tellOne_160 : dec m_Mod_tellOne 160 = .ok (.lconst 0, 1) := by decide +kernel
theorem d_Mod_tellOne_161 : dec m_Mod_tellOne 161 = .ok (.lcmp, 1) := by decide +kernel
theorem d_Mod_tellOne_162 : dec m_Mod_tellOne 162 = .ok (.ifCond .ne 7, 3) := by decide +kernel
theorem d_Mod_tellOne_165 : dec m_Mod_tellOne 165 = .ok (.iconst 1, 1) := by decide +kernel
theorem d_Mod_tellOne_166 : dec m_Mod_tellOne 166 = .ok (.goto 4, 3) := by decide +kernel
theorem d_Mod_tellOne_169 : dec m_Mod_tellOne 169 = .ok (.iconst 0, 1) := by decide +kernel
theorem d_Mod_tellOne_170 : dec m_Mod_tellOne 170 = .ok (.iadd, 1) := by decide +kernel
theorem d_Mod_tellOne_171 : dec m_Mod_tellOne 171 = .ok (.putfield 258, 3) := by decide +kernel
theorem d_Mod_tellOne_174 : dec m_Mod_tellOne 174 = .ok (.aload_n 0, 1) := by decide +kernel
theorem d_Mod_tellOne_175 : dec m_Mod_tellOne 175 = .ok (.getfield 9, 3) := by decide +kernel
theorem d_Mod_tellOne_178 : dec m_Mod_tellOne 178 = .ok (.sipush 1176, 3) := by decide +kernel
theorem d_Mod_tellOne_181 : dec m_Mod_tellOne 181 = .ok (.iload 7, 2) := by decide +kernel
theorem d_Mod_tellOne_183 : dec m_Mod_tellOne 183 = .ok (.iadd, 1) := by decide +kernel
theorem d_Mod_tellOne_184 : dec m_Mod_tellOne 184 = .ok (.lconst 1, 1) := by decide +kernel
theorem d_Mod_tellOne_185 : dec m_Mod_tellOne 185 = .ok (.lastore, 1) := by decide +kernel
theorem d_Mod_tellOne_186 : dec m_Mod_tellOne 186 = .ok (.iconst 0, 1) := by decide +kernel
theorem d_Mod_tellOne_187 : dec m_Mod_tellOne 187 = .ok (.ireturn, 1) := by decide +kernel
theorem d_Mod_poly_0 : dec m_Mod_poly 0 = .ok (.iload_n 1, 1) := by decide +kernel
theorem d_Mod_poly_1 : dec m_Mod_poly 1 = .ok (.invokestatic 182, 3) := by decide +kernel
theorem d_Mod_poly_4 : dec m_Mod_poly 4 = .ok (.ifCond .eq 23, 3) := by decide +kernel
theorem d_Mod_poly_7 : dec m_Mod_poly 7 = .ok (.iload_n 2, 1) := by decide +kernel
theorem d_Mod_poly_8 : dec m_Mod_poly 8 = .ok (.invokestatic 261, 3) := by decide +kernel
theorem d_Mod_poly_11 : dec m_Mod_poly 11 = .ok (.ifCond .eq 16, 3) := by decide +kernel
theorem d_Mod_poly_14 : dec m_Mod_poly 14 = .ok (.iload 4, 2) := by decide +kernel
theorem d_Mod_poly_16 : dec m_Mod_poly 16 = .ok (.i2l, 1) := by decide +kernel
theorem d_Mod_poly_17 : dec m_Mod_poly 17 = .ok (.lconst 0, 1) := by decide +kernel
theorem d_Mod_poly_18 : dec m_Mod_poly 18 = .ok (.ldc2_w 264, 3) := by decide +kernel
theorem d_Mod_poly_21 : dec m_Mod_poly 21 = .ok (.invokestatic 139, 3) := by decide +kernel
theorem d_Mod_poly_24 : dec m_Mod_poly 24 = .ok (.ifCond .ne 5, 3) := by decide +kernel
theorem d_Mod_poly_27 : dec m_Mod_poly 27 = .ok (.iconst (-1), 1) := by decide +kernel
theorem d_Mod_poly_28 : dec m_Mod_poly 28 = .ok (.ireturn, 1) := by decide +kernel
theorem d_Mod_poly_29 : dec m_Mod_poly 29 = .ok (.aload_n 0, 1) := by decide +kernel
theorem d_Mod_poly_30 : dec m_Mod_poly 30 = .ok (.getfield 121, 3) := by decide +kernel
theorem d_Mod_poly_33 : dec m_Mod_poly 33 = .ok (.iload_n 2, 1) := by decide +kernel
theorem d_Mod_poly_34 : dec m_Mod_poly 34 = .ok (.iaload, 1) := by decide +kernel
theorem d_Mod_poly_35 : dec m_Mod_poly 35 = .ok (.ifCond .ge 6, 3) := by decide +kernel
theorem d_Mod_poly_38 : dec m_Mod_poly 38 = .ok (.bipush (-11), 2) := by decide +kernel
theorem d_Mod_poly_40 : dec m_Mod_poly 40 = .ok (.ireturn, 1) := by decide +kernel
theorem d_Mod_poly_41 : dec m_Mod_poly 41 = .ok (.aload_n 0, 1) := by decide +kernel
theorem d_Mod_poly_42 : dec m_Mod_poly 42 = .ok (.bipush 13, 2) := by decide +kernel
theorem d_Mod_poly_44 : dec m_Mod_poly 44 = .ok (.invokevirtual 162, 3) := by decide +kernel
theorem d_Mod_poly_47 : dec m_Mod_poly 47 = .ok (.aload_n 0, 1) := by decide +kernel
theorem d_Mod_poly_48 : dec m_Mod_poly 48 = .ok (.bipush 14, 2) := by decide +kernel
theorem d_Mod_poly_50 : dec m_Mod_poly 50 = .ok (.invokevirtual 162, 3) := by decide +kernel
theorem d_Mod_poly_53 : dec m_Mod_poly 53 = .ok (.aload_n 0, 1) := by decide +kernel
theorem d_Mod_poly_54 : dec m_Mod_poly 54 = .ok (.iconst 0, 1) := by decide +kernel
theorem d_Mod_poly_55 : dec m_Mod_poly 55 = .ok (.putfield 258, 3) := by decide +kernel
theorem d_Mod_poly_58 : dec m_Mod_poly 58 = .ok (.iconst 0, 1) := by decide +kernel
theorem d_Mod_poly_59 : dec m_Mod_poly 59 = .ok (.istore 5, 2) := by decide +kernel
theorem d_Mod_poly_61 : dec m_Mod_poly 61 = .ok (.iload 5, 2) := by decide +kernel
theorem d_Mod_poly_63 : dec m_Mod_poly 63 = .ok (.iload 4, 2) := by decide +kernel
theorem d_Mod_poly_65 : dec m_Mod_poly 65 = .ok (.if_icmp .ge 36, 3) := by decide +kernel
theorem d_Mod_poly_68 : dec m_Mod_poly 68 = .ok (.aload_n 0, 1) := by decide +kernel
theorem d_Mod_poly_69 : dec m_Mod_poly 69 = .ok (.bipush 13, 2) := by decide +kernel
theorem d_Mod_poly_71 : dec m_Mod_poly 71 = .ok (.iload_n 2, 1) := by decide +kernel
theorem d_Mod_poly_72 : dec m_Mod_poly 72 = .ok (.iload_n 3, 1) := by decide +kernel
theorem d_Mod_poly_73 : dec m_Mod_poly 73 = .ok (.i2l, 1) := by decide +kernel
theorem d_Mod_poly_74 : dec m_Mod_poly 74 = .ok (.ldc2_w 237, 3) := by decide +kernel
theorem d_Mod_poly_77 : dec m_Mod_poly 77 = .ok (.iload 5, 2) := by decide +kernel
theorem d_Mod_poly_79 : dec m_Mod_poly 79 = .ok (.i2l, 1) := by decide +kernel
theorem d_Mod_poly_80 : dec m_Mod_poly 80 = .ok (.lmul, 1) := by decide +kernel
theorem d_Mod_poly_81 : dec m_Mod_poly 81 = .ok (.ladd, 1) := by decide +kernel
theorem d_Mod_poly_82 : dec m_Mod_poly 82 = .ok (.invokevirtual 266, 3) := by decide +kernel
theorem d_Mod_poly_85 : dec m_Mod_poly 85 = .ok (.istore 6, 2) := by decide +kernel
theorem d_Mod_poly_87 : dec m_Mod_poly 87 = .ok (.iload 6, 2) := by decide +kernel
theorem d_Mod_poly_89 : dec m_Mod_poly 89 = .ok (.ifCond .eq 6, 3) := by decide +kernel
theorem d_Mod_poly_92 : dec m_Mod_poly 92 = .ok (.iload 6, 2) := by decide +kernel
theorem d_Mod_poly_94 : dec m_Mod_poly 94 = .ok (.ireturn, 1) := by decide +kernel
theorem d_Mod_poly_95 : dec m_Mod_poly 95 = .ok (.iinc 5 1, 3) := by decide +kernel
theorem d_Mod_poly_98 : dec m_Mod_poly 98 = .ok (.goto (-37), 3) := by decide +kernel
theorem d_Mod_poly_101 : dec m_Mod_poly 101 = .ok (.aload_n 0, 1) := by decide +kernel
theorem d_Mod_poly_102 : dec m_Mod_poly 102 = .ok (.bipush 13, 2) := by decide +kernel
theorem d_Mod_poly_104 : dec m_Mod_poly 104 = .ok (.iload_n 1, 1) := by decide +kernel
theorem d_Mod_poly_105 : dec m_Mod_poly 105 = .ok (.invokevirtual 208, 3) := by decide +kernel
theorem d_Mod_poly_108 : dec m_Mod_poly 108 = .ok (.aload_n 0, 1) := by decide +kernel
theorem d_Mod_poly_109 : dec m_Mod_poly 109 = .ok (.getfield 258, 3) := by decide +kernel
theorem d_Mod_poly_112 : dec m_Mod_poly 112 = .ok (.ireturn, 1) := by decide +kernel
theorem d_Mod_spread_0 : dec m_Mod_spread 0 = .ok (.iload_n 1, 1) := by decide +kernel
theorem d_Mod_spread_1 : dec m_Mod_spread 1 = .ok (.invokestatic 182, 3) := by decide +kernel
theorem d_Mod_spread_4 : dec m_Mod_spread 4 = .ok (.ifCond .eq 10, 3) := by decide +kernel
theorem d_Mod_spread_7 : dec m_Mod_spread 7 = .ok (.iload_n 2, 1) := by decide +kernel
theorem d_Mod_spread_8 : dec m_Mod_spread 8 = .ok (.invokestatic 261, 3) := by decide +kernel
theorem d_Mod_spread_11 : dec m_Mod_spread 11 = .ok (.ifCond .ne 5, 3) := by decide +kernel
theorem d_Mod_spread_14 : dec m_Mod_spread 14 = .ok (.iconst (-1), 1) := by decide +kernel
theorem d_Mod_spread_15 : dec m_Mod_spread 15 = .ok (.ireturn, 1) := by decide +kernel
theorem d_Mod_spread_16 : dec m_Mod_spread 16 = .ok (.aload_n 0, 1) := by decide +kernel
theorem d_Mod_spread_17 : dec m_Mod_spread 17 = .ok (.getfield 121, 3) := by decide +kernel
theorem d_Mod_spread_20 : dec m_Mod_spread 20 = .ok (.iload_n 2, 1) := by decide +kernel
theorem d_Mod_spread_21 : dec m_Mod_spread 21 = .ok (.iaload, 1) := by decide +kernel
theorem d_Mod_spread_22 : dec m_Mod_spread 22 = .ok (.ifCond .ge 6, 3) := by decide +kernel
theorem d_Mod_spread_25 : dec m_Mod_spread 25 = .ok (.bipush (-11), 2) := by decide +kernel
theorem d_Mod_spread_27 : dec m_Mod_spread 27 = .ok (.ireturn, 1) := by decide +kernel
theorem d_Mod_spread_28 : dec m_Mod_spread 28 = .ok (.iload_n 3, 1) := by decide +kernel
theorem d_Mod_spread_29 : dec m_Mod_spread 29 = .ok (.i2l, 1) := by decide +kernel
theorem d_Mod_spread_30 : dec m_Mod_spread 30 = .ok (.lconst 0, 1) := by decide +kernel
theorem d_Mod_spread_31 : dec m_Mod_spread 31 = .ok (.aload_n 0, 1) := by decide +kernel
theorem d_Mod_spread_32 : dec m_Mod_spread 32 = .ok (.getfield 124, 3) := by decide +kernel
theorem d_Mod_spread_35 : dec m_Mod_spread 35 = .ok (.iload_n 2, 1) := by decide +kernel
theorem d_Mod_spread_36 : dec m_Mod_spread 36 = .ok (.iaload, 1) := by decide +kernel
theorem d_Mod_spread_37 : dec m_Mod_spread 37 = .ok (.i2l, 1) := by decide +kernel
theorem d_Mod_spread_38 : dec m_Mod_spread 38 = .ok (.invokestatic 139, 3) := by decide +kernel
theorem d_Mod_spread_41 : dec m_Mod_spread 41 = .ok (.ifCond .ne 6, 3) := by decide +kernel
theorem d_Mod_spread_44 : dec m_Mod_spread 44 = .ok (.bipush (-12), 2) := by decide +kernel
theorem d_Mod_spread_46 : dec m_Mod_spread 46 = .ok (.ireturn, 1) := by decide +kernel
theorem d_Mod_spread_47 : dec m_Mod_spread 47 = .ok (.iconst 0, 1) := by decide +kernel
theorem d_Mod_spread_48 : dec m_Mod_spread 48 = .ok (.istore 4, 2) := by decide +kernel
theorem d_Mod_spread_50 : dec m_Mod_spread 50 = .ok (.bipush 83, 2) := by decide +kernel
theorem d_Mod_spread_52 : dec m_Mod_spread 52 = .ok (.istore 5, 2) := by decide +kernel
theorem d_Mod_spread_54 : dec m_Mod_spread 54 = .ok (.iload 5, 2) := by decide +kernel
theorem d_Mod_spread_56 : dec m_Mod_spread 56 = .ok (.ifCond .lt 140, 3) := by decide +kernel
theorem d_Mod_spread_59 : dec m_Mod_spread 59 = .ok (.aload_n 0, 1) := by decide +kernel
theorem d_Mod_spread_60 : dec m_Mod_spread 60 = .ok (.getfield 31, 3) := by decide +kernel
theorem d_Mod_spread_63 : dec m_Mod_spread 63 = .ok (.iload 5, 2) := by decide +kernel
theorem d_Mod_spread_65 : dec m_Mod_spread 65 = .ok (.iaload, 1) := by decide +kernel
theorem d_Mod_spread_66 : dec m_Mod_spread 66 = .ok (.istore 6, 2) := by decide +kernel
theorem d_Mod_spread_68 : dec m_Mod_spread 68 = .ok (.aload_n 0, 1) := by decide +kernel
theorem d_Mod_spread_69 : dec m_Mod_spread 69 = .ok (.getfield 9, 3) := by decide +kernel
theorem d_Mod_spread_72 : dec m_Mod_spread 72 = .ok (.bipush 84, 2) := by decide +kernel
theorem d_Mod_spread_74 : dec m_Mod_spread 74 = .ok (.iload_n 1, 1) := by decide +kernel
theorem d_Mod_spread_75 : dec m_Mod_spread 75 = .ok (.imul, 1) := by decide +kernel
theorem d_Mod_spread_76 : dec m_Mod_spread 76 = .ok (.iload 6, 2) := by decide +kernel
theorem d_Mod_spread_78 : dec m_Mod_spread 78 = .ok (.iadd, 1) := by decide +kernel
theorem d_Mod_spread_79 : dec m_Mod_spread 79 = .ok (.laload, 1) := by decide +kernel
theorem d_Mod_spread_80 : dec m_Mod_spread 80 = .ok (.lconst 0, 1) := by decide +kernel
theorem d_Mod_spread_81 : dec m_Mod_spread 81 = .ok (.lcmp, 1) := by decide +kernel
theorem d_Mod_spread_82 : dec m_Mod_spread 82 = .ok (.ifCond .eq 108, 3) := by decide +kernel
theorem d_Mod_spread_85 : dec m_Mod_spread 85 = .ok (.iload_n 3, 1) := by decide +kernel
theorem d_Mod_spread_86 : dec m_Mod_spread 86 = .ok (.iconst 4, 1) := by decide +kernel
theorem d_Mod_spread_87 : dec m_Mod_spread 87 = .ok (.iload 4, 2) := by decide +kernel
theorem d_Mod_spread_89 : dec m_Mod_spread 89 = .ok (.imul, 1) := by decide +kernel
theorem d_Mod_spread_90 : dec m_Mod_spread 90 = .ok (.iadd, 1) := by decide +kernel
theorem d_Mod_spread_91 : dec m_Mod_spread 91 = .ok (.iconst 4, 1) := by decide +kernel
theorem d_Mod_spread_92 : dec m_Mod_spread 92 = .ok (.iadd, 1) := by decide +kernel
theorem d_Mod_spread_93 : dec m_Mod_spread 93 = .ok (.aload_n 0, 1) := by decide +kernel
theorem d_Mod_spread_94 : dec m_Mod_spread 94 = .ok (.getfield 124, 3) := by decide +kernel
theorem d_Mod_spread_97 : dec m_Mod_spread 97 = .ok (.iload_n 2, 1) := by decide +kernel
theorem d_Mod_spread_98 : dec m_Mod_spread 98 = .ok (.iaload, 1) := by decide +kernel
theorem d_Mod_spread_99 : dec m_Mod_spread 99 = .ok (.if_icmp .gt 91, 3) := by decide +kernel
theorem d_Mod_spread_102 : dec m_Mod_spread 102 = .ok (.bipush 40, 2) := by decide +kernel
theorem d_Mod_spread_104 : dec m_Mod_spread 104 = .ok (.iload_n 2, 1) := by decide +kernel
theorem d_Mod_spread_105 : dec m_Mod_spread 105 = .ok (.imul, 1) := by decide +kernel
theorem d_Mod_spread_106 : dec m_Mod_spread 106 = .ok (.iload_n 3, 1) := by decide +kernel
theorem d_Mod_spread_107 : dec m_Mod_spread 107 = .ok (.iadd, 1) := by decide +kernel
theorem d_Mod_spread_108 : dec m_Mod_spread 108 = .ok (.iconst 4, 1) := by decide +kernel
theorem d_Mod_spread_109 : dec m_Mod_spread 109 = .ok (.iload 4, 2) := by decide +kernel
theorem d_Mod_spread_111 : dec m_Mod_spread 111 = .ok (.imul, 1) := by decide +kernel
theorem d_Mod_spread_112 : dec m_Mod_spread 112 = .ok (.iadd, 1) := by decide +kernel
theorem d_Mod_spread_113 : dec m_Mod_spread 113 = .ok (.istore 7, 2) := by decide +kernel
theorem d_Mod_spread_115 : dec m_Mod_spread 115 = .ok (.aload_n 0, 1) := by decide +kernel
theorem d_Mod_spread_116 : dec m_Mod_spread 116 = .ok (.getfield 127, 3) := by decide +kernel
theorem d_Mod_spread_119 : dec m_Mod_spread 119 = .ok (.iload 7, 2) := by decide +kernel
theorem d_Mod_spread_121 : dec m_Mod_spread 121 = .ok (.aload_n 0, 1) := by decide +kernel
theorem d_Mod_spread_122 : dec m_Mod_spread 122 = .ok (.iload_n 2, 1) := by decide +kernel
theorem d_Mod_spread_123 : dec m_Mod_spread 123 = .ok (.aload_n 0, 1) := by decide +kernel
theorem d_Mod_spread_124 : dec m_Mod_spread 124 = .ok (.getfield 9, 3) := by decide +kernel
theorem d_Mod_spread_127 : dec m_Mod_spread 127 = .ok (.bipush 84, 2) := by decide +kernel
theorem d_Mod_spread_129 : dec m_Mod_spread 129 = .ok (.iload_n 1, 1) := by decide +kernel
theorem d_Mod_spread_130 : dec m_Mod_spread 130 = .ok (.imul, 1) := by decide +kernel
theorem d_Mod_spread_131 : dec m_Mod_spread 131 = .ok (.iload 6, 2) := by decide +kernel
theorem d_Mod_spread_133 : dec m_Mod_spread 133 = .ok (.iadd, 1) := by decide +kernel
theorem d_Mod_spread_134 : dec m_Mod_spread 134 = .ok (.laload, 1) := by decide +kernel
theorem d_Mod_spread_135 : dec m_Mod_spread 135 = .ok (.invokevirtual 270, 3) := by decide +kernel
theorem d_Mod_spread_138 : dec m_Mod_spread 138 = .ok (.iastore, 1) := by decide +kernel
theorem d_Mod_spread_139 : dec m_Mod_spread 139 = .ok (.aload_n 0, 1) := by decide +kernel
theorem d_Mod_spread_140 : dec m_Mod_spread 140 = .ok (.getfield 127, 3) := by decide +kernel
theorem d_Mod_spread_143 : dec m_Mod_spread 143 = .ok (.iload 7, 2) := by decide +kernel
theorem d_Mod_spread_145 : dec m_Mod_spread 145 = .ok (.iconst 1, 1) := by decide +kernel
theorem d_Mod_spread_146 : dec m_Mod_spread 146 = .ok (.iadd, 1) := by decide +kernel
theorem d_Mod_spread_147 : dec m_Mod_spread 147 = .ok (.aload_n 0, 1) := by decide +kernel
theorem d_Mod_spread_148 : dec m_Mod_spread 148 = .ok (.getfield 18, 3) := by decide +kernel
theorem d_Mod_spread_151 : dec m_Mod_spread 151 = .ok (.iload 6, 2) := by decide +kernel
theorem d_Mod_spread_153 : dec m_Mod_spread 153 = .ok (.iaload, 1) := by decide +kernel
theorem d_Mod_spread_154 : dec m_Mod_spread 154 = .ok (.iastore, 1) := by decide +kernel
theorem d_Mod_spread_155 : dec m_Mod_spread 155 = .ok (.aload_n 0, 1) := by decide +kernel
theorem d_Mod_spread_156 : dec m_Mod_spread 156 = .ok (.getfield 127, 3) := by decide +kernel
theorem d_Mod_spread_159 : dec m_Mod_spread 159 = .ok (.iload 7, 2) := by decide +kernel
theorem d_Mod_spread_161 : dec m_Mod_spread 161 = .ok (.iconst 2, 1) := by decide +kernel
theorem d_Mod_spread_162 : dec m_Mod_spread 162 = .ok (.iadd, 1) := by decide +kernel
theorem d_Mod_spread_163 : dec m_Mod_spread 163 = .ok (.aload_n 0, 1) := by decide +kernel
theorem d_Mod_spread_164 : dec m_Mod_spread 164 = .ok (.getfield 22, 3) := by decide +kernel
theorem d_Mod_spread_167 : dec m_Mod_spread 167 = .ok (.iload 6, 2) := by decide +kernel
theorem d_Mod_spread_169 : dec m_Mod_spread 169 = .ok (.iaload, 1) := by decide +kernel
theorem d_Mod_spread_170 : dec m_Mod_spread 170 = .ok (.iastore, 1) := by decide +kernel
theorem d_Mod_spread_171 : dec m_Mod_spread 171 = .ok (.aload_n 0, 1) := by decide +kernel
theorem d_Mod_spread_172 : dec m_Mod_spread 172 = .ok (.getfield 127, 3) := by decide +kernel
theorem d_Mod_spread_175 : dec m_Mod_spread 175 = .ok (.iload 7, 2) := by decide +kernel
theorem d_Mod_spread_177 : dec m_Mod_spread 177 = .ok (.iconst 3, 1) := by decide +kernel
theorem d_Mod_spread_178 : dec m_Mod_spread 178 = .ok (.iadd, 1) := by decide +kernel
theorem d_Mod_spread_179 : dec m_Mod_spread 179 = .ok (.aload_n 0, 1) := by decide +kernel
theorem d_Mod_spread_180 : dec m_Mod_spread 180 = .ok (.getfield 25, 3) := by decide +kernel
theorem d_Mod_spread_183 : dec m_Mod_spread 183 = .ok (.iload 6, 2) := by decide +kernel
theorem d_Mod_spread_185 : dec m_Mod_spread 185 = .ok (.iaload, 1) := by decide +kernel
theorem d_Mod_spread_186 : dec m_Mod_spread 186 = .ok (.iastore, 1) := by decide +kernel
theorem d_Mod_spread_187 : dec m_Mod_spread 187 = .ok (.iinc 4 1, 3) := by decide +kernel
theorem d_Mod_spread_190 : dec m_Mod_spread 190 = .ok (.iinc 5 (-1), 3) := by decide +kernel
theorem d_Mod_spread_193 : dec m_Mod_spread 193 = .ok (.goto (-139), 3) := by decide +kernel
theorem d_Mod_spread_196 : dec m_Mod_spread 196 = .ok (.iload 4, 2) := by decide +kernel
theorem d_Mod_spread_198 : dec m_Mod_spread 198 = .ok (.ireturn, 1) := by decide +kernel
theorem d_Mod_lay_0 : dec m_Mod_lay 0 = .ok (.aload_n 0, 1) := by decide +kernel
theorem d_Mod_lay_1 : dec m_Mod_lay 1 = .ok (.getfield 9, 3) := by decide +kernel
theorem d_Mod_lay_4 : dec m_Mod_lay 4 = .ok (.bipush 84, 2) := by decide +kernel
theorem d_Mod_lay_6 : dec m_Mod_lay 6 = .ok (.iload_n 1, 1) := by decide +kernel
theorem d_Mod_lay_7 : dec m_Mod_lay 7 = .ok (.imul, 1) := by decide +kernel
theorem d_Mod_lay_8 : dec m_Mod_lay 8 = .ok (.aload_n 0, 1) := by decide +kernel
theorem d_Mod_lay_9 : dec m_Mod_lay 9 = .ok (.iload_n 3, 1) := by decide +kernel
theorem d_Mod_lay_10 : dec m_Mod_lay 10 = .ok (.iload 4, 2) := by decide +kernel
theorem d_Mod_lay_12 : dec m_Mod_lay 12 = .ok (.iload 5, 2) := by decide +kernel
theorem d_Mod_lay_14 : dec m_Mod_lay 14 = .ok (.invokevirtual 176, 3) := by decide +kernel
theorem d_Mod_lay_17 : dec m_Mod_lay 17 = .ok (.iadd, 1) := by decide +kernel
theorem d_Mod_lay_18 : dec m_Mod_lay 18 = .ok (.dup2, 1) := by decide +kernel
theorem d_Mod_lay_19 : dec m_Mod_lay 19 = .ok (.laload, 1) := by decide +kernel
theorem d_Mod_lay_20 : dec m_Mod_lay 20 = .ok (.iload_n 2, 1) := by decide +kernel
theorem d_Mod_lay_21 : dec m_Mod_lay 21 = .ok (.i2l, 1) := by decide +kernel
theorem d_Mod_lay_22 : dec m_Mod_lay 22 = .ok (.ladd, 1) := by decide +kernel
theorem d_Mod_lay_23 : dec m_Mod_lay 23 = .ok (.lastore, 1) := by decide +kernel
theorem d_Mod_lay_24 : dec m_Mod_lay 24 = .ok (.return_, 1) := by decide +kernel
theorem d_Mod_powers_0 : dec m_Mod_powers 0 = .ok (.aload_n 0, 1) := by decide +kernel
theorem d_Mod_powers_1 : dec m_Mod_powers 1 = .ok (.iload_n 1, 1) := by decide +kernel
theorem d_Mod_powers_2 : dec m_Mod_powers 2 = .ok (.iconst 1, 1) := by decide +kernel
theorem d_Mod_powers_3 : dec m_Mod_powers 3 = .ok (.iload_n 2, 1) := by decide +kernel
theorem d_Mod_powers_4 : dec m_Mod_powers 4 = .ok (.iconst 0, 1) := by decide +kernel
theorem d_Mod_powers_5 : dec m_Mod_powers 5 = .ok (.iconst 0, 1) := by decide +kernel
theorem d_Mod_powers_6 : dec m_Mod_powers 6 = .ok (.invokevirtual 274, 3) := by decide +kernel
theorem d_Mod_powers_9 : dec m_Mod_powers 9 = .ok (.aload_n 0, 1) := by decide +kernel
theorem d_Mod_powers_10 : dec m_Mod_powers 10 = .ok (.iload_n 1, 1) := by decide +kernel
theorem d_Mod_powers_11 : dec m_Mod_powers 11 = .ok (.iconst 1, 1) := by decide +kernel
theorem d_Mod_powers_12 : dec m_Mod_powers 12 = .ok (.iconst 0, 1) := by decide +kernel
theorem d_Mod_powers_13 : dec m_Mod_powers 13 = .ok (.iload_n 2, 1) := by decide +kernel
theorem d_Mod_powers_14 : dec m_Mod_powers 14 = .ok (.iconst 0, 1) := by decide +kernel
theorem d_Mod_powers_15 : dec m_Mod_powers 15 = .ok (.invokevirtual 274, 3) := by decide +kernel
theorem d_Mod_powers_18 : dec m_Mod_powers 18 = .ok (.aload_n 0, 1) := by decide +kernel
theorem d_Mod_powers_19 : dec m_Mod_powers 19 = .ok (.iload_n 1, 1) := by decide +kernel
theorem d_Mod_powers_20 : dec m_Mod_powers 20 = .ok (.iconst 1, 1) := by decide +kernel
theorem d_Mod_powers_21 : dec m_Mod_powers 21 = .ok (.iconst 0, 1) := by decide +kernel
theorem d_Mod_powers_22 : dec m_Mod_powers 22 = .ok (.iconst 0, 1) := by decide +kernel
theorem d_Mod_powers_23 : dec m_Mod_powers 23 = .ok (.iload_n 2, 1) := by decide +kernel
theorem d_Mod_powers_24 : dec m_Mod_powers 24 = .ok (.invokevirtual 274, 3) := by decide +kernel
theorem d_Mod_powers_27 : dec m_Mod_powers 27 = .ok (.return_, 1) := by decide +kernel
theorem d_Mod_family_0 : dec m_Mod_family 0 = .ok (.iload_n 1, 1) := by decide +kernel
theorem d_Mod_family_1 : dec m_Mod_family 1 = .ok (.i2l, 1) := by decide +kernel
theorem d_Mod_family_2 : dec m_Mod_family 2 = .ok (.lconst 0, 1) := by decide +kernel
theorem d_Mod_family_3 : dec m_Mod_family 3 = .ok (.ldc2_w 227, 3) := by decide +kernel
theorem d_Mod_family_6 : dec m_Mod_family 6 = .ok (.invokestatic 139, 3) := by decide +kernel
theorem d_Mod_family_9 : dec m_Mod_family 9 = .ok (.ifCond .ne 5, 3) := by decide +kernel
theorem d_Mod_family_12 : dec m_Mod_family 12 = .ok (.iconst (-1), 1) := by decide +kernel
theorem d_Mod_family_13 : dec m_Mod_family 13 = .ok (.ireturn, 1) := by decide +kernel
theorem d_Mod_family_14 : dec m_Mod_family 14 = .ok (.iload_n 1, 1) := by decide +kernel
theorem d_Mod_family_15 : dec m_Mod_family 15 = .ok (.iconst 3, 1) := by decide +kernel
theorem d_Mod_family_16 : dec m_Mod_family 16 = .ok (.if_icmp .eq 8, 3) := by decide +kernel
theorem d_Mod_family_19 : dec m_Mod_family 19 = .ok (.iload_n 1, 1) := by decide +kernel
theorem d_Mod_family_20 : dec m_Mod_family 20 = .ok (.iconst 4, 1) := by decide +kernel
theorem d_Mod_family_21 : dec m_Mod_family 21 = .ok (.if_icmp .ne 7, 3) := by decide +kernel
theorem d_Mod_family_24 : dec m_Mod_family 24 = .ok (.iconst 4, 1) := by decide +kernel
theorem d_Mod_family_25 : dec m_Mod_family 25 = .ok (.goto 4, 3) := by decide +kernel
theorem d_Mod_family_28 : dec m_Mod_family 28 = .ok (.iconst 3, 1) := by decide +kernel
theorem d_Mod_family_29 : dec m_Mod_family 29 = .ok (.istore_n 2, 1) := by decide +kernel
theorem d_Mod_family_30 : dec m_Mod_family 30 = .ok (.iconst 0, 1) := by decide +kernel
theorem d_Mod_family_31 : dec m_Mod_family 31 = .ok (.istore_n 3, 1) := by decide +kernel
theorem d_Mod_family_32 : dec m_Mod_family 32 = .ok (.iload_n 3, 1) := by decide +kernel
theorem d_Mod_family_33 : dec m_Mod_family 33 = .ok (.iload_n 2, 1) := by decide +kernel
theorem d_Mod_family_34 : dec m_Mod_family 34 = .ok (.if_icmp .ge 14, 3) := by decide +kernel
theorem d_Mod_family_37 : dec m_Mod_family 37 = .ok (.aload_n 0, 1) := by decide +kernel
theorem d_Mod_family_38 : dec m_Mod_family 38 = .ok (.iload_n 3, 1) := by decide +kernel
theorem d_Mod_family_39 : dec m_Mod_family 39 = .ok (.invokevirtual 162, 3) := by decide +kernel
theorem d_Mod_family_42 : dec m_Mod_family 42 = .ok (.iinc 3 1, 3) := by decide +kernel
theorem d_Mod_family_45 : dec m_Mod_family 45 = .ok (.goto (-13), 3) := by decide +kernel
theorem d_Mod_family_48 : dec m_Mod_family 48 = .ok (.iload_n 1, 1) := by decide +kernel
theorem d_Mod_family_49 : dec m_Mod_family 49 = .ok (.ifCond .ne 42, 3) := by decide +kernel
theorem d_Mod_family_52 : dec m_Mod_family 52 = .ok (.aload_n 0, 1) := by decide +kernel
theorem d_Mod_family_53 : dec m_Mod_family 53 = .ok (.iconst 0, 1) := by decide +kernel
theorem d_Mod_family_54 : dec m_Mod_family 54 = .ok (.iconst 1, 1) := by decide +kernel
theorem d_Mod_family_55 : dec m_Mod_family 55 = .ok (.iconst 1, 1) := by decide +kernel
theorem d_Mod_family_56 : dec m_Mod_family 56 = .ok (.iconst 0, 1) := by decide +kernel
theorem d_Mod_family_57 : dec m_Mod_family 57 = .ok (.iconst 0, 1) := by decide +kernel
theorem d_Mod_family_58 : dec m_Mod_family 58 = .ok (.invokevirtual 274, 3) := by decide +kernel
theorem d_Mod_family_61 : dec m_Mod_family 61 = .ok (.aload_n 0, 1) := by decide +kernel
theorem d_Mod_family_62 : dec m_Mod_family 62 = .ok (.iconst 0, 1) := by decide +kernel
theorem d_Mod_family_63 : dec m_Mod_family 63 = .ok (.iconst 1, 1) := by decide +kernel
theorem d_Mod_family_64 : dec m_Mod_family 64 = .ok (.iconst 0, 1) := by decide +kernel
theorem d_Mod_family_65 : dec m_Mod_family 65 = .ok (.iconst 1, 1) := by decide +kernel
theorem d_Mod_family_66 : dec m_Mod_family 66 = .ok (.iconst 0, 1) := by decide +kernel
theorem d_Mod_family_67 : dec m_Mod_family 67 = .ok (.invokevirtual 274, 3) := by decide +kernel
theorem d_Mod_family_70 : dec m_Mod_family 70 = .ok (.aload_n 0, 1) := by decide +kernel
theorem d_Mod_family_71 : dec m_Mod_family 71 = .ok (.iconst 1, 1) := by decide +kernel
theorem d_Mod_family_72 : dec m_Mod_family 72 = .ok (.iconst 1, 1) := by decide +kernel
theorem d_Mod_family_73 : dec m_Mod_family 73 = .ok (.iconst 1, 1) := by decide +kernel
theorem d_Mod_family_74 : dec m_Mod_family 74 = .ok (.iconst 1, 1) := by decide +kernel
theorem d_Mod_family_75 : dec m_Mod_family 75 = .ok (.iconst 0, 1) := by decide +kernel
theorem d_Mod_family_76 : dec m_Mod_family 76 = .ok (.invokevirtual 274, 3) := by decide +kernel
theorem d_Mod_family_79 : dec m_Mod_family 79 = .ok (.aload_n 0, 1) := by decide +kernel
theorem d_Mod_family_80 : dec m_Mod_family 80 = .ok (.iconst 2, 1) := by decide +kernel
theorem d_Mod_family_81 : dec m_Mod_family 81 = .ok (.iconst 1, 1) := by decide +kernel
theorem d_Mod_family_82 : dec m_Mod_family 82 = .ok (.iconst 1, 1) := by decide +kernel
theorem d_Mod_family_83 : dec m_Mod_family 83 = .ok (.iconst 2, 1) := by decide +kernel
theorem d_Mod_family_84 : dec m_Mod_family 84 = .ok (.iconst 0, 1) := by decide +kernel
theorem d_Mod_family_85 : dec m_Mod_family 85 = .ok (.invokevirtual 274, 3) := by decide +kernel
theorem d_Mod_family_88 : dec m_Mod_family 88 = .ok (.goto 64, 3) := by decide +kernel
theorem d_Mod_family_91 : dec m_Mod_family 91 = .ok (.iload_n 1, 1) := by decide +kernel
theorem d_Mod_family_92 : dec m_Mod_family 92 = .ok (.iconst 4, 1) := by decide +kernel
theorem d_Mod_family_93 : dec m_Mod_family 93 = .ok (.if_icmp .ne 42, 3) := by decide +kernel
theorem d_Mod_family_96 : dec m_Mod_family 96 = .ok (.aload_n 0, 1) := by decide +kernel
theorem d_Mod_family_97 : dec m_Mod_family 97 = .ok (.iconst 0, 1) := by decide +kernel
theorem d_Mod_family_98 : dec m_Mod_family 98 = .ok (.iconst 1, 1) := by decide +kernel
theorem d_Mod_family_99 : dec m_Mod_family 99 = .ok (.iconst 2, 1) := by decide +kernel
theorem d_Mod_family_100 : dec m_Mod_family 100 = .ok (.iconst 0, 1) := by decide +kernel
theorem d_Mod_family_101 : dec m_Mod_family 101 = .ok (.iconst 0, 1) := by decide +kernel
theorem d_Mod_family_102 : dec m_Mod_family 102 = .ok (.invokevirtual 274, 3) := by decide +kernel
theorem d_Mod_family_105 : dec m_Mod_family 105 = .ok (.aload_n 0, 1) := by decide +kernel
theorem d_Mod_family_106 : dec m_Mod_family 106 = .ok (.iconst 1, 1) := by decide +kernel
theorem d_Mod_family_107 : dec m_Mod_family 107 = .ok (.iconst 1, 1) := by decide +kernel
theorem d_Mod_family_108 : dec m_Mod_family 108 = .ok (.iconst 1, 1) := by decide +kernel
theorem d_Mod_family_109 : dec m_Mod_family 109 = .ok (.iconst 1, 1) := by decide +kernel
theorem d_Mod_family_110 : dec m_Mod_family 110 = .ok (.iconst 0, 1) := by decide +kernel
theorem d_Mod_family_111 : dec m_Mod_family 111 = .ok (.invokevirtual 274, 3) := by decide +kernel
theorem d_Mod_family_114 : dec m_Mod_family 114 = .ok (.aload_n 0, 1) := by decide +kernel
theorem d_Mod_family_115 : dec m_Mod_family 115 = .ok (.iconst 2, 1) := by decide +kernel
theorem d_Mod_family_116 : dec m_Mod_family 116 = .ok (.iconst 1, 1) := by decide +kernel
theorem d_Mod_family_117 : dec m_Mod_family 117 = .ok (.iconst 0, 1) := by decide +kernel
theorem d_Mod_family_118 : dec m_Mod_family 118 = .ok (.iconst 2, 1) := by decide +kernel
theorem d_Mod_family_119 : dec m_Mod_family 119 = .ok (.iconst 0, 1) := by decide +kernel
theorem d_Mod_family_120 : dec m_Mod_family 120 = .ok (.invokevirtual 274, 3) := by decide +kernel
theorem d_Mod_family_123 : dec m_Mod_family 123 = .ok (.aload_n 0, 1) := by decide +kernel
theorem d_Mod_family_124 : dec m_Mod_family 124 = .ok (.iconst 3, 1) := by decide +kernel
theorem d_Mod_family_125 : dec m_Mod_family 125 = .ok (.iconst 1, 1) := by decide +kernel
theorem d_Mod_family_126 : dec m_Mod_family 126 = .ok (.iconst 0, 1) := by decide +kernel
theorem d_Mod_family_127 : dec m_Mod_family 127 = .ok (.iconst 0, 1) := by decide +kernel
theorem d_Mod_family_128 : dec m_Mod_family 128 = .ok (.iconst 1, 1) := by decide +kernel
theorem d_Mod_family_129 : dec m_Mod_family 129 = .ok (.invokevirtual 274, 3) := by decide +kernel
theorem d_Mod_family_132 : dec m_Mod_family 132 = .ok (.goto 20, 3) := by decide +kernel
theorem d_Mod_family_135 : dec m_Mod_family 135 = .ok (.iload_n 1, 1) := by decide +kernel
theorem d_Mod_family_136 : dec m_Mod_family 136 = .ok (.iconst 5, 1) := by decide +kernel
theorem d_Mod_family_137 : dec m_Mod_family 137 = .ok (.if_icmp .ne 10, 3) := by decide +kernel
theorem d_Mod_family_140 : dec m_Mod_family 140 = .ok (.aload_n 0, 1) := by decide +kernel
theorem d_Mod_family_141 : dec m_Mod_family 141 = .ok (.invokevirtual 278, 3) := by decide +kernel
theorem d_Mod_family_144 : dec m_Mod_family 144 = .ok (.goto 8, 3) := by decide +kernel
theorem d_Mod_family_147 : dec m_Mod_family 147 = .ok (.aload_n 0, 1) := by decide +kernel
theorem d_Mod_family_148 : dec m_Mod_family 148 = .ok (.iload_n 1, 1) := by decide +kernel
theorem d_Mod_family_149 : dec m_Mod_family 149 = .ok (.invokevirtual 281, 3) := by decide +kernel
theorem d_Mod_family_152 : dec m_Mod_family 152 = .ok (.iload_n 2, 1) := by decide +kernel
theorem d_Mod_family_153 : dec m_Mod_family 153 = .ok (.ireturn, 1) := by decide +kernel
theorem d_Mod_layFifth_0 : dec m_Mod_layFifth 0 = .ok (.aload_n 0, 1) := by decide +kernel
theorem d_Mod_layFifth_1 : dec m_Mod_layFifth 1 = .ok (.iconst 0, 1) := by decide +kernel
theorem d_Mod_layFifth_2 : dec m_Mod_layFifth 2 = .ok (.iconst 1, 1) := by decide +kernel
theorem d_Mod_layFifth_3 : dec m_Mod_layFifth 3 = .ok (.iconst 2, 1) := by decide +kernel
theorem d_Mod_layFifth_4 : dec m_Mod_layFifth 4 = .ok (.iconst 0, 1) := by decide +kernel
theorem d_Mod_layFifth_5 : dec m_Mod_layFifth 5 = .ok (.iconst 0, 1) := by decide +kernel
theorem d_Mod_layFifth_6 : dec m_Mod_layFifth 6 = .ok (.invokevirtual 274, 3) := by decide +kernel
theorem d_Mod_layFifth_9 : dec m_Mod_layFifth 9 = .ok (.aload_n 0, 1) := by decide +kernel
theorem d_Mod_layFifth_10 : dec m_Mod_layFifth 10 = .ok (.iconst 0, 1) := by decide +kernel
theorem d_Mod_layFifth_11 : dec m_Mod_layFifth 11 = .ok (.iconst 1, 1) := by decide +kernel
theorem d_Mod_layFifth_12 : dec m_Mod_layFifth 12 = .ok (.iconst 1, 1) := by decide +kernel
theorem d_Mod_layFifth_13 : dec m_Mod_layFifth 13 = .ok (.iconst 0, 1) := by decide +kernel
theorem d_Mod_layFifth_14 : dec m_Mod_layFifth 14 = .ok (.iconst 0, 1) := by decide +kernel
theorem d_Mod_layFifth_15 : dec m_Mod_layFifth 15 = .ok (.invokevirtual 274, 3) := by decide +kernel
theorem d_Mod_layFifth_18 : dec m_Mod_layFifth 18 = .ok (.aload_n 0, 1) := by decide +kernel
theorem d_Mod_layFifth_19 : dec m_Mod_layFifth 19 = .ok (.iconst 1, 1) := by decide +kernel
theorem d_Mod_layFifth_20 : dec m_Mod_layFifth 20 = .ok (.iconst 1, 1) := by decide +kernel
theorem d_Mod_layFifth_21 : dec m_Mod_layFifth 21 = .ok (.iconst 3, 1) := by decide +kernel
theorem d_Mod_layFifth_22 : dec m_Mod_layFifth 22 = .ok (.iconst 0, 1) := by decide +kernel
theorem d_Mod_layFifth_23 : dec m_Mod_layFifth 23 = .ok (.iconst 0, 1) := by decide +kernel
theorem d_Mod_layFifth_24 : dec m_Mod_layFifth 24 = .ok (.invokevirtual 274, 3) := by decide +kernel
theorem d_Mod_layFifth_27 : dec m_Mod_layFifth 27 = .ok (.aload_n 0, 1) := by decide +kernel
theorem d_Mod_layFifth_28 : dec m_Mod_layFifth 28 = .ok (.iconst 1, 1) := by decide +kernel
theorem d_Mod_layFifth_29 : dec m_Mod_layFifth 29 = .ok (.bipush (-2), 2) := by decide +kernel
theorem d_Mod_layFifth_31 : dec m_Mod_layFifth 31 = .ok (.iconst 0, 1) := by decide +kernel
theorem d_Mod_layFifth_32 : dec m_Mod_layFifth 32 = .ok (.iconst 0, 1) := by decide +kernel
theorem d_Mod_layFifth_33 : dec m_Mod_layFifth 33 = .ok (.iconst 0, 1) := by decide +kernel
theorem d_Mod_layFifth_34 : dec m_Mod_layFifth 34 = .ok (.invokevirtual 274, 3) := by decide +kernel
theorem d_Mod_layFifth_37 : dec m_Mod_layFifth 37 = .ok (.aload_n 0, 1) := by decide +kernel
theorem d_Mod_layFifth_38 : dec m_Mod_layFifth 38 = .ok (.iconst 2, 1) := by decide +kernel
theorem d_Mod_layFifth_39 : dec m_Mod_layFifth 39 = .ok (.iconst 1, 1) := by decide +kernel
theorem d_Mod_layFifth_40 : dec m_Mod_layFifth 40 = .ok (.iconst 0, 1) := by decide +kernel
theorem d_Mod_layFifth_41 : dec m_Mod_layFifth 41 = .ok (.iconst 1, 1) := by decide +kernel
theorem d_Mod_layFifth_42 : dec m_Mod_layFifth 42 = .ok (.iconst 1, 1) := by decide +kernel
theorem d_Mod_layFifth_43 : dec m_Mod_layFifth 43 = .ok (.invokevirtual 274, 3) := by decide +kernel
theorem d_Mod_layFifth_46 : dec m_Mod_layFifth 46 = .ok (.aload_n 0, 1) := by decide +kernel
theorem d_Mod_layFifth_47 : dec m_Mod_layFifth 47 = .ok (.iconst 2, 1) := by decide +kernel
theorem d_Mod_layFifth_48 : dec m_Mod_layFifth 48 = .ok (.iconst 1, 1) := by decide +kernel
theorem d_Mod_layFifth_49 : dec m_Mod_layFifth 49 = .ok (.iconst 1, 1) := by decide +kernel
theorem d_Mod_layFifth_50 : dec m_Mod_layFifth 50 = .ok (.iconst 0, 1) := by decide +kernel
theorem d_Mod_layFifth_51 : dec m_Mod_layFifth 51 = .ok (.iconst 0, 1) := by decide +kernel
theorem d_Mod_layFifth_52 : dec m_Mod_layFifth 52 = .ok (.invokevirtual 274, 3) := by decide +kernel
theorem d_Mod_layFifth_55 : dec m_Mod_layFifth 55 = .ok (.return_, 1) := by decide +kernel
theorem d_Mod_layEven_0 : dec m_Mod_layEven 0 = .ok (.aload_n 0, 1) := by decide +kernel
theorem d_Mod_layEven_1 : dec m_Mod_layEven 1 = .ok (.iconst 0, 1) := by decide +kernel
theorem d_Mod_layEven_2 : dec m_Mod_layEven 2 = .ok (.iconst 1, 1) := by decide +kernel
theorem d_Mod_layEven_3 : dec m_Mod_layEven 3 = .ok (.invokevirtual 284, 3) := by decide +kernel
theorem d_Mod_layEven_6 : dec m_Mod_layEven 6 = .ok (.iload_n 1, 1) := by decide +kernel
theorem d_Mod_layEven_7 : dec m_Mod_layEven 7 = .ok (.iconst 2, 1) := by decide +kernel
theorem d_Mod_layEven_8 : dec m_Mod_layEven 8 = .ok (.if_icmp .ne 16, 3) := by decide +kernel
theorem d_Mod_layEven_11 : dec m_Mod_layEven 11 = .ok (.aload_n 0, 1) := by decide +kernel
theorem d_Mod_layEven_12 : dec m_Mod_layEven 12 = .ok (.iconst 1, 1) := by decide +kernel
theorem d_Mod_layEven_13 : dec m_Mod_layEven 13 = .ok (.iconst 2, 1) := by decide +kernel
theorem d_Mod_layEven_14 : dec m_Mod_layEven 14 = .ok (.invokevirtual 284, 3) := by decide +kernel
theorem d_Mod_layEven_17 : dec m_Mod_layEven 17 = .ok (.aload_n 0, 1) := by decide +kernel
theorem d_Mod_layEven_18 : dec m_Mod_layEven 18 = .ok (.iconst 2, 1) := by decide +kernel
theorem d_Mod_layEven_19 : dec m_Mod_layEven 19 = .ok (.iconst 3, 1) := by decide +kernel
theorem d_Mod_layEven_20 : dec m_Mod_layEven 20 = .ok (.invokevirtual 284, 3) := by decide +kernel
theorem d_Mod_layEven_23 : dec m_Mod_layEven 23 = .ok (.return_, 1) := by decide +kernel
theorem d_Mod_layEven_24 : dec m_Mod_layEven 24 = .ok (.aload_n 0, 1) := by decide +kernel
theorem d_Mod_layEven_25 : dec m_Mod_layEven 25 = .ok (.iconst 1, 1) := by decide +kernel
theorem d_Mod_layEven_26 : dec m_Mod_layEven 26 = .ok (.iconst 1, 1) := by decide +kernel
theorem d_Mod_layEven_27 : dec m_Mod_layEven 27 = .ok (.iconst 1, 1) := by decide +kernel
theorem d_Mod_layEven_28 : dec m_Mod_layEven 28 = .ok (.iconst 1, 1) := by decide +kernel
theorem d_Mod_layEven_29 : dec m_Mod_layEven 29 = .ok (.iconst 0, 1) := by decide +kernel
theorem d_Mod_layEven_30 : dec m_Mod_layEven 30 = .ok (.invokevirtual 274, 3) := by decide +kernel
theorem d_Mod_layEven_33 : dec m_Mod_layEven 33 = .ok (.aload_n 0, 1) := by decide +kernel
theorem d_Mod_layEven_34 : dec m_Mod_layEven 34 = .ok (.iconst 1, 1) := by decide +kernel
theorem d_Mod_layEven_35 : dec m_Mod_layEven 35 = .ok (.iconst 1, 1) := by decide +kernel
theorem d_Mod_layEven_36 : dec m_Mod_layEven 36 = .ok (.iconst 1, 1) := by decide +kernel
theorem d_Mod_layEven_37 : dec m_Mod_layEven 37 = .ok (.iconst 0, 1) := by decide +kernel
theorem d_Mod_layEven_38 : dec m_Mod_layEven 38 = .ok (.iconst 1, 1) := by decide +kernel
theorem d_Mod_layEven_39 : dec m_Mod_layEven 39 = .ok (.invokevirtual 274, 3) := by decide +kernel
theorem d_Mod_layEven_42 : dec m_Mod_layEven 42 = .ok (.aload_n 0, 1) := by decide +kernel
theorem d_Mod_layEven_43 : dec m_Mod_layEven 43 = .ok (.iconst 1, 1) := by decide +kernel
theorem d_Mod_layEven_44 : dec m_Mod_layEven 44 = .ok (.iconst 1, 1) := by decide +kernel
theorem d_Mod_layEven_45 : dec m_Mod_layEven 45 = .ok (.iconst 0, 1) := by decide +kernel
theorem d_Mod_layEven_46 : dec m_Mod_layEven 46 = .ok (.iconst 1, 1) := by decide +kernel
theorem d_Mod_layEven_47 : dec m_Mod_layEven 47 = .ok (.iconst 1, 1) := by decide +kernel
theorem d_Mod_layEven_48 : dec m_Mod_layEven 48 = .ok (.invokevirtual 274, 3) := by decide +kernel
theorem d_Mod_layEven_51 : dec m_Mod_layEven 51 = .ok (.aload_n 0, 1) := by decide +kernel
theorem d_Mod_layEven_52 : dec m_Mod_layEven 52 = .ok (.iconst 2, 1) := by decide +kernel
theorem d_Mod_layEven_53 : dec m_Mod_layEven 53 = .ok (.iconst 1, 1) := by decide +kernel
theorem d_Mod_layEven_54 : dec m_Mod_layEven 54 = .ok (.iconst 1, 1) := by decide +kernel
theorem d_Mod_layEven_55 : dec m_Mod_layEven 55 = .ok (.iconst 1, 1) := by decide +kernel
theorem d_Mod_layEven_56 : dec m_Mod_layEven 56 = .ok (.iconst 1, 1) := by decide +kernel
theorem d_Mod_layEven_57 : dec m_Mod_layEven 57 = .ok (.invokevirtual 274, 3) := by decide +kernel
theorem d_Mod_layEven_60 : dec m_Mod_layEven 60 = .ok (.iload_n 1, 1) := by decide +kernel
theorem d_Mod_layEven_61 : dec m_Mod_layEven 61 = .ok (.iconst 3, 1) := by decide +kernel
theorem d_Mod_layEven_62 : dec m_Mod_layEven 62 = .ok (.if_icmp .ne 30, 3) := by decide +kernel
theorem d_Mod_layEven_65 : dec m_Mod_layEven 65 = .ok (.aload_n 0, 1) := by decide +kernel
theorem d_Mod_layEven_66 : dec m_Mod_layEven 66 = .ok (.iconst 3, 1) := by decide +kernel
theorem d_Mod_layEven_67 : dec m_Mod_layEven 67 = .ok (.iconst 1, 1) := by decide +kernel
theorem d_Mod_layEven_68 : dec m_Mod_layEven 68 = .ok (.iconst 2, 1) := by decide +kernel
theorem d_Mod_layEven_69 : dec m_Mod_layEven 69 = .ok (.iconst 1, 1) := by decide +kernel
theorem d_Mod_layEven_70 : dec m_Mod_layEven 70 = .ok (.iconst 0, 1) := by decide +kernel
theorem d_Mod_layEven_71 : dec m_Mod_layEven 71 = .ok (.invokevirtual 274, 3) := by decide +kernel
theorem d_Mod_layEven_74 : dec m_Mod_layEven 74 = .ok (.aload_n 0, 1) := by decide +kernel
theorem d_Mod_layEven_75 : dec m_Mod_layEven 75 = .ok (.iconst 3, 1) := by decide +kernel
theorem d_Mod_layEven_76 : dec m_Mod_layEven 76 = .ok (.iconst 1, 1) := by decide +kernel
theorem d_Mod_layEven_77 : dec m_Mod_layEven 77 = .ok (.iconst 0, 1) := by decide +kernel
theorem d_Mod_layEven_78 : dec m_Mod_layEven 78 = .ok (.iconst 2, 1) := by decide +kernel
theorem d_Mod_layEven_79 : dec m_Mod_layEven 79 = .ok (.iconst 1, 1) := by decide +kernel
theorem d_Mod_layEven_80 : dec m_Mod_layEven 80 = .ok (.invokevirtual 274, 3) := by decide +kernel
theorem d_Mod_layEven_83 : dec m_Mod_layEven 83 = .ok (.aload_n 0, 1) := by decide +kernel
theorem d_Mod_layEven_84 : dec m_Mod_layEven 84 = .ok (.iconst 3, 1) := by decide +kernel
theorem d_Mod_layEven_85 : dec m_Mod_layEven 85 = .ok (.iconst 1, 1) := by decide +kernel
theorem d_Mod_layEven_86 : dec m_Mod_layEven 86 = .ok (.iconst 1, 1) := by decide +kernel
theorem d_Mod_layEven_87 : dec m_Mod_layEven 87 = .ok (.iconst 0, 1) := by decide +kernel
theorem d_Mod_layEven_88 : dec m_Mod_layEven 88 = .ok (.iconst 2, 1) := by decide +kernel
theorem d_Mod_layEven_89 : dec m_Mod_layEven 89 = .ok (.invokevirtual 274, 3) := by decide +kernel
theorem d_Mod_layEven_92 : dec m_Mod_layEven 92 = .ok (.return_, 1) := by decide +kernel
theorem d_Mod_generator_0 : dec m_Mod_generator 0 = .ok (.iload_n 1, 1) := by decide +kernel
theorem d_Mod_generator_1 : dec m_Mod_generator 1 = .ok (.invokestatic 182, 3) := by decide +kernel
theorem d_Mod_generator_4 : dec m_Mod_generator 4 = .ok (.ifCond .ne 5, 3) := by decide +kernel
theorem d_Mod_generator_7 : dec m_Mod_generator 7 = .ok (.iconst (-1), 1) := by decide +kernel
theorem d_Mod_generator_8 : dec m_Mod_generator 8 = .ok (.ireturn, 1) := by decide +kernel
theorem d_Mod_generator_9 : dec m_Mod_generator 9 = .ok (.aload_n 0, 1) := by decide +kernel
theorem d_Mod_generator_10 : dec m_Mod_generator 10 = .ok (.iload_n 1, 1) := by decide +kernel
theorem d_Mod_generator_11 : dec m_Mod_generator 11 = .ok (.invokevirtual 239, 3) := by decide +kernel
theorem d_Mod_generator_14 : dec m_Mod_generator 14 = .ok (.istore_n 2, 1) := by decide +kernel
theorem d_Mod_generator_15 : dec m_Mod_generator 15 = .ok (.iload_n 2, 1) := by decide +kernel
theorem d_Mod_generator_16 : dec m_Mod_generator 16 = .ok (.ifCond .le 23, 3) := by decide +kernel
theorem d_Mod_generator_19 : dec m_Mod_generator 19 = .ok (.aload_n 0, 1) := by decide +kernel
theorem d_Mod_generator_20 : dec m_Mod_generator 20 = .ok (.getfield 9, 3) := by decide +kernel
theorem d_Mod_generator_23 : dec m_Mod_generator 23 = .ok (.bipush 84, 2) := by decide +kernel
theorem d_Mod_generator_25 : dec m_Mod_generator 25 = .ok (.iload_n 1, 1) := by decide +kernel
theorem d_Mod_generator_26 : dec m_Mod_generator 26 = .ok (.imul, 1) := by decide +kernel
theorem d_Mod_generator_27 : dec m_Mod_generator 27 = .ok (.iload_n 2, 1) := by decide +kernel
theorem d_Mod_generator_28 : dec m_Mod_generator 28 = .ok (.iadd, 1) := by decide +kernel
theorem d_Mod_generator_29 : dec m_Mod_generator 29 = .ok (.laload, 1) := by decide +kernel
theorem d_Mod_generator_30 : dec m_Mod_generator 30 = .ok (.lconst 1, 1) := by decide +kernel
theorem d_Mod_generator_31 : dec m_Mod_generator 31 = .ok (.lcmp, 1) := by decide +kernel
theorem d_Mod_generator_32 : dec m_Mod_generator 32 = .ok (.ifCond .ne 7, 3) := by decide +kernel
theorem d_Mod_generator_35 : dec m_Mod_generator 35 = .ok (.iconst 1, 1) := by decide +kernel
theorem d_Mod_generator_36 : dec m_Mod_generator 36 = .ok (.goto 4, 3) := by decide +kernel
theorem d_Mod_generator_39 : dec m_Mod_generator 39 = .ok (.iconst 0, 1) := by decide +kernel
theorem d_Mod_generator_40 : dec m_Mod_generator 40 = .ok (.istore_n 3, 1) := by decide +kernel
theorem d_Mod_generator_41 : dec m_Mod_generator 41 = .ok (.iconst 0, 1) := by decide +kernel
theorem d_Mod_generator_42 : dec m_Mod_generator 42 = .ok (.istore 4, 2) := by decide +kernel
theorem d_Mod_generator_44 : dec m_Mod_generator 44 = .ok (.iload 4, 2) := by decide +kernel
theorem d_Mod_generator_46 : dec m_Mod_generator 46 = .ok (.aload_n 0, 1) := by decide +kernel
theorem d_Mod_generator_47 : dec m_Mod_generator 47 = .ok (.getfield 133, 3) := by decide +kernel
theorem d_Mod_generator_50 : dec m_Mod_generator 50 = .ok (.if_icmp .ge 30, 3) := by decide +kernel
theorem d_Mod_generator_53 : dec m_Mod_generator 53 = .ok (.iload_n 3, 1) := by decide +kernel
theorem d_Mod_generator_54 : dec m_Mod_generator 54 = .ok (.ifCond .eq 26, 3) := by decide +kernel
theorem d_Mod_generator_57 : dec m_Mod_generator 57 = .ok (.aload_n 0, 1) := by decide +kernel
theorem d_Mod_generator_58 : dec m_Mod_generator 58 = .ok (.getfield 37, 3) := by decide +kernel
theorem d_Mod_generator_61 : dec m_Mod_generator 61 = .ok (.iload 4, 2) := by decide +kernel
theorem d_Mod_generator_63 : dec m_Mod_generator 63 = .ok (.iaload, 1) := by decide +kernel
theorem d_Mod_generator_64 : dec m_Mod_generator 64 = .ok (.iload_n 2, 1) := by decide +kernel
theorem d_Mod_generator_65 : dec m_Mod_generator 65 = .ok (.if_icmp .eq 7, 3) := by decide +kernel
theorem d_Mod_generator_68 : dec m_Mod_generator 68 = .ok (.iconst 1, 1) := by decide +kernel
theorem d_Mod_generator_69 : dec m_Mod_generator 69 = .ok (.goto 4, 3) := by decide +kernel
theorem d_Mod_generator_72 : dec m_Mod_generator 72 = .ok (.iconst 0, 1) := by decide +kernel
theorem d_Mod_generator_73 : dec m_Mod_generator 73 = .ok (.istore_n 3, 1) := by decide +kernel
theorem d_Mod_generator_74 : dec m_Mod_generator 74 = .ok (.iinc 4 1, 3) := by decide +kernel
theorem d_Mod_generator_77 : dec m_Mod_generator 77 = .ok (.goto (-33), 3) := by decide +kernel
theorem d_Mod_generator_80 : dec m_Mod_generator 80 = .ok (.iload_n 3, 1) := by decide +kernel
theorem d_Mod_generator_81 : dec m_Mod_generator 81 = .ok (.ifCond .ne 6, 3) := by decide +kernel
theorem d_Mod_generator_84 : dec m_Mod_generator 84 = .ok (.bipush (-3), 2) := by decide +kernel
theorem d_Mod_generator_86 : dec m_Mod_generator 86 = .ok (.ireturn, 1) := by decide +kernel
theorem d_Mod_generator_87 : dec m_Mod_generator 87 = .ok (.aload_n 0, 1) := by decide +kernel
theorem d_Mod_generator_88 : dec m_Mod_generator 88 = .ok (.getfield 133, 3) := by decide +kernel
theorem d_Mod_generator_91 : dec m_Mod_generator 91 = .ok (.bipush 7, 2) := by decide +kernel
theorem d_Mod_generator_93 : dec m_Mod_generator 93 = .ok (.if_icmp .ne 6, 3) := by decide +kernel
theorem d_Mod_generator_96 : dec m_Mod_generator 96 = .ok (.bipush (-4), 2) := by decide +kernel
theorem d_Mod_generator_98 : dec m_Mod_generator 98 = .ok (.ireturn, 1) := by decide +kernel
theorem d_Mod_generator_99 : dec m_Mod_generator 99 = .ok (.aload_n 0, 1) := by decide +kernel
theorem d_Mod_generator_100 : dec m_Mod_generator 100 = .ok (.iload_n 1, 1) := by decide +kernel
theorem d_Mod_generator_101 : dec m_Mod_generator 101 = .ok (.bipush 6, 2) := by decide +kernel
theorem d_Mod_generator_103 : dec m_Mod_generator 103 = .ok (.aload_n 0, 1) := by decide +kernel
theorem d_Mod_generator_104 : dec m_Mod_generator 104 = .ok (.getfield 133, 3) := by decide +kernel
theorem d_Mod_generator_107 : dec m_Mod_generator 107 = .ok (.iadd, 1) := by decide +kernel
theorem d_Mod_generator_108 : dec m_Mod_generator 108 = .ok (.invokevirtual 208, 3) := by decide +kernel
theorem d_Mod_generator_111 : dec m_Mod_generator 111 = .ok (.aload_n 0, 1) := by decide +kernel
theorem d_Mod_generator_112 : dec m_Mod_generator 112 = .ok (.getfield 37, 3) := by decide +kernel
theorem d_Mod_generator_115 : dec m_Mod_generator 115 = .ok (.aload_n 0, 1) := by decide +kernel
theorem d_Mod_generator_116 : dec m_Mod_generator 116 = .ok (.getfield 133, 3) := by decide +kernel
theorem d_Mod_generator_119 : dec m_Mod_generator 119 = .ok (.iload_n 2, 1) := by decide +kernel
theorem d_Mod_generator_120 : dec m_Mod_generator 120 = .ok (.iastore, 1) := by decide +kernel
theorem d_Mod_generator_121 : dec m_Mod_generator 121 = .ok (.aload_n 0, 1) := by decide +kernel
theorem d_Mod_generator_122 : dec m_Mod_generator 122 = .ok (.getfield 40, 3) := by decide +kernel
theorem d_Mod_generator_125 : dec m_Mod_generator 125 = .ok (.aload_n 0, 1) := by decide +kernel
theorem d_Mod_generator_126 : dec m_Mod_generator 126 = .ok (.getfield 133, 3) := by decide +kernel
theorem d_Mod_generator_129 : dec m_Mod_generator 129 = .ok (.iconst 0, 1) := by decide +kernel
theorem d_Mod_generator_130 : dec m_Mod_generator 130 = .ok (.iastore, 1) := by decide +kernel
theorem d_Mod_generator_131 : dec m_Mod_generator 131 = .ok (.aload_n 0, 1) := by decide +kernel
theorem d_Mod_generator_132 : dec m_Mod_generator 132 = .ok (.dup, 1) := by decide +kernel
theorem d_Mod_generator_133 : dec m_Mod_generator 133 = .ok (.getfield 133, 3) := by decide +kernel
theorem d_Mod_generator_136 : dec m_Mod_generator 136 = .ok (.iconst 1, 1) := by decide +kernel
theorem d_Mod_generator_137 : dec m_Mod_generator 137 = .ok (.iadd, 1) := by decide +kernel
theorem d_Mod_generator_138 : dec m_Mod_generator 138 = .ok (.putfield 133, 3) := by decide +kernel
theorem d_Mod_generator_141 : dec m_Mod_generator 141 = .ok (.aload_n 0, 1) := by decide +kernel
theorem d_Mod_generator_142 : dec m_Mod_generator 142 = .ok (.getfield 133, 3) := by decide +kernel
theorem d_Mod_generator_145 : dec m_Mod_generator 145 = .ok (.iconst 1, 1) := by decide +kernel
theorem d_Mod_generator_146 : dec m_Mod_generator 146 = .ok (.isub, 1) := by decide +kernel
theorem d_Mod_generator_147 : dec m_Mod_generator 147 = .ok (.ireturn, 1) := by decide +kernel
theorem d_Mod_give_0 : dec m_Mod_give 0 = .ok (.aload_n 0, 1) := by decide +kernel
theorem d_Mod_give_1 : dec m_Mod_give 1 = .ok (.iload_n 1, 1) := by decide +kernel
theorem d_Mod_give_2 : dec m_Mod_give 2 = .ok (.invokevirtual 287, 3) := by decide +kernel
theorem d_Mod_give_5 : dec m_Mod_give 5 = .ok (.ifCond .eq 10, 3) := by decide +kernel
theorem d_Mod_give_8 : dec m_Mod_give 8 = .ok (.iload_n 2, 1) := by decide +kernel
theorem d_Mod_give_9 : dec m_Mod_give 9 = .ok (.invokestatic 182, 3) := by decide +kernel
theorem d_Mod_give_12 : dec m_Mod_give 12 = .ok (.ifCond .ne 5, 3) := by decide +kernel
theorem d_Mod_give_15 : dec m_Mod_give 15 = .ok (.iconst (-1), 1) := by decide +kernel
theorem d_Mod_give_16 : dec m_Mod_give 16 = .ok (.ireturn, 1) := by decide +kernel
theorem d_Mod_give_17 : dec m_Mod_give 17 = .ok (.aload_n 0, 1) := by decide +kernel
theorem d_Mod_give_18 : dec m_Mod_give 18 = .ok (.bipush 6, 2) := by decide +kernel
theorem d_Mod_give_20 : dec m_Mod_give 20 = .ok (.iload_n 1, 1) := by decide +kernel
theorem d_Mod_give_21 : dec m_Mod_give 21 = .ok (.iadd, 1) := by decide +kernel
theorem d_Mod_give_22 : dec m_Mod_give 22 = .ok (.iload_n 2, 1) := by decide +kernel
theorem d_Mod_give_23 : dec m_Mod_give 23 = .ok (.invokevirtual 208, 3) := by decide +kernel
theorem d_Mod_give_26 : dec m_Mod_give 26 = .ok (.aload_n 0, 1) := by decide +kernel
theorem d_Mod_give_27 : dec m_Mod_give 27 = .ok (.iload_n 2, 1) := by decide +kernel
theorem d_Mod_give_28 : dec m_Mod_give 28 = .ok (.invokevirtual 202, 3) := by decide +kernel
theorem d_Mod_give_31 : dec m_Mod_give 31 = .ok (.ireturn, 1) := by decide +kernel
theorem d_Mod_heightOf_0 : dec m_Mod_heightOf 0 = .ok (.iconst 0, 1) := by decide +kernel
theorem d_Mod_heightOf_1 : dec m_Mod_heightOf 1 = .ok (.istore_n 2, 1) := by decide +kernel
theorem d_Mod_heightOf_2 : dec m_Mod_heightOf 2 = .ok (.iconst 0, 1) := by decide +kernel
theorem d_Mod_heightOf_3 : dec m_Mod_heightOf 3 = .ok (.istore_n 3, 1) := by decide +kernel
theorem d_Mod_heightOf_4 : dec m_Mod_heightOf 4 = .ok (.iload_n 3, 1) := by decide +kernel
theorem d_Mod_heightOf_5 : dec m_Mod_heightOf 5 = .ok (.iload_n 1, 1) := by decide +kernel
theorem d_Mod_heightOf_6 : dec m_Mod_heightOf 6 = .ok (.if_icmp .gt 22, 3) := by decide +kernel
theorem d_Mod_heightOf_9 : dec m_Mod_heightOf 9 = .ok (.aload_n 0, 1) := by decide +kernel
theorem d_Mod_heightOf_10 : dec m_Mod_heightOf 10 = .ok (.iload_n 3, 1) := by decide +kernel
theorem d_Mod_heightOf_11 : dec m_Mod_heightOf 11 = .ok (.invokevirtual 290, 3) := by decide +kernel
theorem d_Mod_heightOf_14 : dec m_Mod_heightOf 14 = .ok (.istore_n 2, 1) := by decide +kernel
theorem d_Mod_heightOf_15 : dec m_Mod_heightOf 15 = .ok (.aload_n 0, 1) := by decide +kernel
theorem d_Mod_heightOf_16 : dec m_Mod_heightOf 16 = .ok (.getfield 70, 3) := by decide +kernel
theorem d_Mod_heightOf_19 : dec m_Mod_heightOf 19 = .ok (.iload_n 3, 1) := by decide +kernel
theorem d_Mod_heightOf_20 : dec m_Mod_heightOf 20 = .ok (.iload_n 2, 1) := by decide +kernel
theorem d_Mod_heightOf_21 : dec m_Mod_heightOf 21 = .ok (.iastore, 1) := by decide +kernel
theorem d_Mod_heightOf_22 : dec m_Mod_heightOf 22 = .ok (.iinc 3 1, 3) := by decide +kernel
theorem d_Mod_heightOf_25 : dec m_Mod_heightOf 25 = .ok (.goto (-21), 3) := by decide +kernel
theorem d_Mod_heightOf_28 : dec m_Mod_heightOf 28 = .ok (.iload_n 2, 1) := by decide +kernel
theorem d_Mod_heightOf_29 : dec m_Mod_heightOf 29 = .ok (.ireturn, 1) := by decide +kernel
theorem d_Mod_heightFrom_0 : dec m_Mod_heightFrom 0 = .ok (.iconst 0, 1) := by decide +kernel
theorem d_Mod_heightFrom_1 : dec m_Mod_heightFrom 1 = .ok (.istore_n 2, 1) := by decide +kernel
theorem d_Mod_heightFrom_2 : dec m_Mod_heightFrom 2 = .ok (.iconst 0, 1) := by decide +kernel
theorem d_Mod_heightFrom_3 : dec m_Mod_heightFrom 3 = .ok (.istore_n 3, 1) := by decide +kernel
theorem d_Mod_heightFrom_4 : dec m_Mod_heightFrom 4 = .ok (.iload_n 3, 1) := by decide +kernel
theorem d_Mod_heightFrom_5 : dec m_Mod_heightFrom 5 = .ok (.aload_n 0, 1) := by decide +kernel
theorem d_Mod_heightFrom_6 : dec m_Mod_heightFrom 6 = .ok (.getfield 40, 3) := by decide +kernel
theorem d_Mod_heightFrom_9 : dec m_Mod_heightFrom 9 = .ok (.iload_n 1, 1) := by decide +kernel
theorem d_Mod_heightFrom_10 : dec m_Mod_heightFrom 10 = .ok (.iaload, 1) := by decide +kernel
theorem d_Mod_heightFrom_11 : dec m_Mod_heightFrom 11 = .ok (.if_icmp .ge 83, 3) := by decide +kernel
theorem d_Mod_heightFrom_14 : dec m_Mod_heightFrom 14 = .ok (.iconst 0, 1) := by decide +kernel
theorem d_Mod_heightFrom_15 : dec m_Mod_heightFrom 15 = .ok (.istore 4, 2) := by decide +kernel
theorem d_Mod_heightFrom_17 : dec m_Mod_heightFrom 17 = .ok (.iload 4, 2) := by decide +kernel
theorem d_Mod_heightFrom_19 : dec m_Mod_heightFrom 19 = .ok (.iload_n 1, 1) := by decide +kernel
theorem d_Mod_heightFrom_20 : dec m_Mod_heightFrom 20 = .ok (.if_icmp .ge 68, 3) := by decide +kernel
theorem d_Mod_heightFrom_23 : dec m_Mod_heightFrom 23 = .ok (.aload_n 0, 1) := by decide +kernel
theorem d_Mod_heightFrom_24 : dec m_Mod_heightFrom 24 = .ok (.getfield 46, 3) := by decide +kernel
theorem d_Mod_heightFrom_27 : dec m_Mod_heightFrom 27 = .ok (.bipush 7, 2) := by decide +kernel
theorem d_Mod_heightFrom_29 : dec m_Mod_heightFrom 29 = .ok (.bipush 86, 2) := by decide +kernel
theorem d_Mod_heightFrom_31 : dec m_Mod_heightFrom 31 = .ok (.iload_n 1, 1) := by decide +kernel
theorem d_Mod_heightFrom_32 : dec m_Mod_heightFrom 32 = .ok (.imul, 1) := by decide +kernel
theorem d_Mod_heightFrom_33 : dec m_Mod_heightFrom 33 = .ok (.iload_n 3, 1) := by decide +kernel
theorem d_Mod_heightFrom_34 : dec m_Mod_heightFrom 34 = .ok (.iadd, 1) := by decide +kernel
theorem d_Mod_heightFrom_35 : dec m_Mod_heightFrom 35 = .ok (.imul, 1) := by decide +kernel
theorem d_Mod_heightFrom_36 : dec m_Mod_heightFrom 36 = .ok (.iload 4, 2) := by decide +kernel
theorem d_Mod_heightFrom_38 : dec m_Mod_heightFrom 38 = .ok (.iadd, 1) := by decide +kernel
theorem d_Mod_heightFrom_39 : dec m_Mod_heightFrom 39 = .ok (.iaload, 1) := by decide +kernel
theorem d_Mod_heightFrom_40 : dec m_Mod_heightFrom 40 = .ok (.ifCond .le 7, 3) := by decide +kernel
theorem d_Mod_heightFrom_43 : dec m_Mod_heightFrom 43 = .ok (.iconst 1, 1) := by decide +kernel
theorem d_Mod_heightFrom_44 : dec m_Mod_heightFrom 44 = .ok (.goto 4, 3) := by decide +kernel
theorem d_Mod_heightFrom_47 : dec m_Mod_heightFrom 47 = .ok (.iconst 0, 1) := by decide +kernel
theorem d_Mod_heightFrom_48 : dec m_Mod_heightFrom 48 = .ok (.istore 5, 2) := by decide +kernel
theorem d_Mod_heightFrom_50 : dec m_Mod_heightFrom 50 = .ok (.iload 5, 2) := by decide +kernel
theorem d_Mod_heightFrom_52 : dec m_Mod_heightFrom 52 = .ok (.ifCond .eq 28, 3) := by decide +kernel
theorem d_Mod_heightFrom_55 : dec m_Mod_heightFrom 55 = .ok (.aload_n 0, 1) := by decide +kernel
theorem d_Mod_heightFrom_56 : dec m_Mod_heightFrom 56 = .ok (.getfield 70, 3) := by decide +kernel
theorem d_Mod_heightFrom_59 : dec m_Mod_heightFrom 59 = .ok (.iload 4, 2) := by decide +kernel
theorem d_Mod_heightFrom_61 : dec m_Mod_heightFrom 61 = .ok (.iaload, 1) := by decide +kernel
theorem d_Mod_heightFrom_62 : dec m_Mod_heightFrom 62 = .ok (.iconst 1, 1) := by decide +kernel
theorem d_Mod_heightFrom_63 : dec m_Mod_heightFrom 63 = .ok (.iadd, 1) := by decide +kernel
theorem d_Mod_heightFrom_64 : dec m_Mod_heightFrom 64 = .ok (.iload_n 2, 1) := by decide +kernel
theorem d_Mod_heightFrom_65 : dec m_Mod_heightFrom 65 = .ok (.if_icmp .le 15, 3) := by decide +kernel
theorem d_Mod_heightFrom_68 : dec m_Mod_heightFrom 68 = .ok (.aload_n 0, 1) := by decide +kernel
theorem d_Mod_heightFrom_69 : dec m_Mod_heightFrom 69 = .ok (.getfield 70, 3) := by decide +kernel
theorem d_Mod_heightFrom_72 : dec m_Mod_heightFrom 72 = .ok (.iload 4, 2) := by decide +kernel
theorem d_Mod_heightFrom_74 : dec m_Mod_heightFrom 74 = .ok (.iaload, 1) := by decide +kernel
theorem d_Mod_heightFrom_75 : dec m_Mod_heightFrom 75 = .ok (.iconst 1, 1) := by decide +kernel
theorem d_Mod_heightFrom_76 : dec m_Mod_heightFrom 76 = .ok (.iadd, 1) := by decide +kernel
theorem d_Mod_heightFrom_77 : dec m_Mod_heightFrom 77 = .ok (.goto 4, 3) := by decide +kernel
theorem d_Mod_heightFrom_80 : dec m_Mod_heightFrom 80 = .ok (.iload_n 2, 1) := by decide +kernel
theorem d_Mod_heightFrom_81 : dec m_Mod_heightFrom 81 = .ok (.istore_n 2, 1) := by decide +kernel
theorem d_Mod_heightFrom_82 : dec m_Mod_heightFrom 82 = .ok (.iinc 4 1, 3) := by decide +kernel
theorem d_Mod_heightFrom_85 : dec m_Mod_heightFrom 85 = .ok (.goto (-68), 3) := by decide +kernel
theorem d_Mod_heightFrom_88 : dec m_Mod_heightFrom 88 = .ok (.iinc 3 1, 3) := by decide +kernel
theorem d_Mod_heightFrom_91 : dec m_Mod_heightFrom 91 = .ok (.goto (-87), 3) := by decide +kernel
theorem d_Mod_heightFrom_94 : dec m_Mod_heightFrom 94 = .ok (.aload_n 0, 1) := by decide +kernel
theorem d_Mod_heightFrom_95 : dec m_Mod_heightFrom 95 = .ok (.getfield 40, 3) := by decide +kernel
theorem d_Mod_heightFrom_98 : dec m_Mod_heightFrom 98 = .ok (.iload_n 1, 1) := by decide +kernel
theorem d_Mod_heightFrom_99 : dec m_Mod_heightFrom 99 = .ok (.iaload, 1) := by decide +kernel
theorem d_Mod_heightFrom_100 : dec m_Mod_heightFrom 100 = .ok (.ifCond .le 11, 3) := by decide +kernel
theorem d_Mod_heightFrom_103 : dec m_Mod_heightFrom 103 = .ok (.iload_n 2, 1) := by decide +kernel
theorem d_Mod_heightFrom_104 : dec m_Mod_heightFrom 104 = .ok (.ifCond .ne 7, 3) := by decide +kernel
theorem d_Mod_heightFrom_107 : dec m_Mod_heightFrom 107 = .ok (.iconst 1, 1) := by decide +kernel
theorem d_Mod_heightFrom_108 : dec m_Mod_heightFrom 108 = .ok (.goto 4, 3) := by decide +kernel
theorem d_Mod_heightFrom_111 : dec m_Mod_heightFrom 111 = .ok (.iload_n 2, 1) := by decide +kernel
theorem d_Mod_heightFrom_112 : dec m_Mod_heightFrom 112 = .ok (.ireturn, 1) := by decide +kernel
theorem d_Mod_ofGenerator_0 : dec m_Mod_ofGenerator 0 = .ok (.aload_n 0, 1) := by decide +kernel
theorem d_Mod_ofGenerator_1 : dec m_Mod_ofGenerator 1 = .ok (.iload_n 1, 1) := by decide +kernel
theorem d_Mod_ofGenerator_2 : dec m_Mod_ofGenerator 2 = .ok (.invokevirtual 287, 3) := by decide +kernel
theorem d_Mod_ofGenerator_5 : dec m_Mod_ofGenerator 5 = .ok (.ifCond .eq 15, 3) := by decide +kernel
theorem d_Mod_ofGenerator_8 : dec m_Mod_ofGenerator 8 = .ok (.iload_n 2, 1) := by decide +kernel
theorem d_Mod_ofGenerator_9 : dec m_Mod_ofGenerator 9 = .ok (.i2l, 1) := by decide +kernel
theorem d_Mod_ofGenerator_10 : dec m_Mod_ofGenerator 10 = .ok (.lconst 0, 1) := by decide +kernel
theorem d_Mod_ofGenerator_11 : dec m_Mod_ofGenerator 11 = .ok (.ldc2_w 293, 3) := by decide +kernel
theorem d_Mod_ofGenerator_14 : dec m_Mod_ofGenerator 14 = .ok (.invokestatic 139, 3) := by decide +kernel
theorem d_Mod_ofGenerator_17 : dec m_Mod_ofGenerator 17 = .ok (.ifCond .ne 5, 3) := by decide +kernel
theorem d_Mod_ofGenerator_20 : dec m_Mod_ofGenerator 20 = .ok (.iconst (-1), 1) := by decide +kernel
theorem d_Mod_ofGenerator_21 : dec m_Mod_ofGenerator 21 = .ok (.ireturn, 1) := by decide +kernel
theorem d_Mod_ofGenerator_22 : dec m_Mod_ofGenerator 22 = .ok (.iload_n 2, 1) := by decide +kernel
theorem d_Mod_ofGenerator_23 : dec m_Mod_ofGenerator 23 = .ok (.tableswitch 98 4 8 #[33, 48, 54, 61, 89], 33) := by decide +kernel
theorem d_Mod_ofGenerator_56 : dec m_Mod_ofGenerator 56 = .ok (.aload_n 0, 1) := by decide +kernel
theorem d_Mod_ofGenerator_57 : dec m_Mod_ofGenerator 57 = .ok (.getfield 40, 3) := by decide +kernel
theorem d_Mod_ofGenerator_60 : dec m_Mod_ofGenerator 60 = .ok (.iload_n 1, 1) := by decide +kernel
theorem d_Mod_ofGenerator_61 : dec m_Mod_ofGenerator 61 = .ok (.iaload, 1) := by decide +kernel
theorem d_Mod_ofGenerator_62 : dec m_Mod_ofGenerator 62 = .ok (.ifCond .le 7, 3) := by decide +kernel
theorem d_Mod_ofGenerator_65 : dec m_Mod_ofGenerator 65 = .ok (.iconst 1, 1) := by decide +kernel
theorem d_Mod_ofGenerator_66 : dec m_Mod_ofGenerator 66 = .ok (.goto 4, 3) := by decide +kernel
theorem d_Mod_ofGenerator_69 : dec m_Mod_ofGenerator 69 = .ok (.iconst 0, 1) := by decide +kernel
theorem d_Mod_ofGenerator_70 : dec m_Mod_ofGenerator 70 = .ok (.ireturn, 1) := by decide +kernel
theorem d_Mod_ofGenerator_71 : dec m_Mod_ofGenerator 71 = .ok (.aload_n 0, 1) := by decide +kernel
theorem d_Mod_ofGenerator_72 : dec m_Mod_ofGenerator 72 = .ok (.iload_n 1, 1) := by decide +kernel
theorem d_Mod_ofGenerator_73 : dec m_Mod_ofGenerator 73 = .ok (.invokevirtual 295, 3) := by decide +kernel
theorem d_Mod_ofGenerator_76 : dec m_Mod_ofGenerator 76 = .ok (.ireturn, 1) := by decide +kernel
theorem d_Mod_ofGenerator_77 : dec m_Mod_ofGenerator 77 = .ok (.aload_n 0, 1) := by decide +kernel
theorem d_Mod_ofGenerator_78 : dec m_Mod_ofGenerator 78 = .ok (.getfield 40, 3) := by decide +kernel
theorem d_Mod_ofGenerator_81 : dec m_Mod_ofGenerator 81 = .ok (.iload_n 1, 1) := by decide +kernel
theorem d_Mod_ofGenerator_82 : dec m_Mod_ofGenerator 82 = .ok (.iaload, 1) := by decide +kernel
theorem d_Mod_ofGenerator_83 : dec m_Mod_ofGenerator 83 = .ok (.ireturn, 1) := by decide +kernel
theorem d_Mod_ofGenerator_84 : dec m_Mod_ofGenerator 84 = .ok (.aload_n 0, 1) := by decide +kernel
theorem d_Mod_ofGenerator_85 : dec m_Mod_ofGenerator 85 = .ok (.aload_n 0, 1) := by decide +kernel
theorem d_Mod_ofGenerator_86 : dec m_Mod_ofGenerator 86 = .ok (.getfield 37, 3) := by decide +kernel
theorem d_Mod_ofGenerator_89 : dec m_Mod_ofGenerator 89 = .ok (.iload_n 1, 1) := by decide +kernel
theorem d_Mod_ofGenerator_90 : dec m_Mod_ofGenerator 90 = .ok (.iaload, 1) := by decide +kernel
theorem d_Mod_ofGenerator_91 : dec m_Mod_ofGenerator 91 = .ok (.aload_n 0, 1) := by decide +kernel
theorem d_Mod_ofGenerator_92 : dec m_Mod_ofGenerator 92 = .ok (.getfield 133, 3) := by decide +kernel
theorem d_Mod_ofGenerator_95 : dec m_Mod_ofGenerator 95 = .ok (.invokevirtual 298, 3) := by decide +kernel
theorem d_Mod_ofGenerator_98 : dec m_Mod_ofGenerator 98 = .ok (.aload_n 0, 1) := by decide +kernel
theorem d_Mod_ofGenerator_99 : dec m_Mod_ofGenerator 99 = .ok (.getfield 301, 3) := by decide +kernel
theorem d_Mod_ofGenerator_102 : dec m_Mod_ofGenerator 102 = .ok (.iconst 1, 1) := by decide +kernel
theorem d_Mod_ofGenerator_103 : dec m_Mod_ofGenerator 103 = .ok (.if_icmp .le 7, 3) := by decide +kernel
theorem d_Mod_ofGenerator_106 : dec m_Mod_ofGenerator 106 = .ok (.iconst 1, 1) := by decide +kernel
theorem d_Mod_ofGenerator_107 : dec m_Mod_ofGenerator 107 = .ok (.goto 4, 3) := by decide +kernel
theorem d_Mod_ofGenerator_110 : dec m_Mod_ofGenerator 110 = .ok (.iconst 0, 1) := by decide +kernel
theorem d_Mod_ofGenerator_111 : dec m_Mod_ofGenerator 111 = .ok (.ireturn, 1) := by decide +kernel
theorem d_Mod_ofGenerator_112 : dec m_Mod_ofGenerator 112 = .ok (.aload_n 0, 1) := by decide +kernel
theorem d_Mod_ofGenerator_113 : dec m_Mod_ofGenerator 113 = .ok (.bipush 6, 2) := by decide +kernel
theorem d_Mod_ofGenerator_115 : dec m_Mod_ofGenerator 115 = .ok (.iload_n 1, 1) := by decide +kernel
theorem d_Mod_ofGenerator_116 : dec m_Mod_ofGenerator 116 = .ok (.iadd, 1) := by decide +kernel
theorem d_Mod_ofGenerator_117 : dec m_Mod_ofGenerator 117 = .ok (.invokevirtual 202, 3) := by decide +kernel
theorem d_Mod_ofGenerator_120 : dec m_Mod_ofGenerator 120 = .ok (.ireturn, 1) := by decide +kernel
theorem d_Mod_ofGenerator_121 : dec m_Mod_ofGenerator 121 = .ok (.aload_n 0, 1) := by decide +kernel
theorem d_Mod_ofGenerator_122 : dec m_Mod_ofGenerator 122 = .ok (.aload_n 0, 1) := by decide +kernel
theorem d_Mod_ofGenerator_123 : dec m_Mod_ofGenerator 123 = .ok (.getfield 37, 3) := by decide +kernel
theorem d_Mod_ofGenerator_126 : dec m_Mod_ofGenerator 126 = .ok (.iload_n 1, 1) := by decide +kernel
theorem d_Mod_ofGenerator_127 : dec m_Mod_ofGenerator 127 = .ok (.iaload, 1) := by decide +kernel
theorem d_Mod_ofGenerator_128 : dec m_Mod_ofGenerator 128 = .ok (.iload_n 2, 1) := by decide +kernel
theorem d_Mod_ofGenerator_129 : dec m_Mod_ofGenerator 129 = .ok (.invokevirtual 242, 3) := by decide +kernel
theorem d_Mod_ofGenerator_132 : dec m_Mod_ofGenerator 132 = .ok (.ireturn, 1) := by decide +kernel
theorem d_Mod_drop_0 : dec m_Mod_drop 0 = .ok (.aload_n 0, 1) := by decide +kernel
theorem d_Mod_drop_1 : dec m_Mod_drop 1 = .ok (.getfield 133, 3) := by decide +kernel
theorem d_Mod_drop_4 : dec m_Mod_drop 4 = .ok (.ifCond .ne 6, 3) := by decide +kernel
theorem d_Mod_drop_7 : dec m_Mod_drop 7 = .ok (.bipush (-3), 2) := by decide +kernel
theorem d_Mod_drop_9 : dec m_Mod_drop 9 = .ok (.ireturn, 1) := by decide +kernel
theorem d_Mod_drop_10 : dec m_Mod_drop 10 = .ok (.aload_n 0, 1) := by decide +kernel
theorem d_Mod_drop_11 : dec m_Mod_drop 11 = .ok (.dup, 1) := by decide +kernel
theorem d_Mod_drop_12 : dec m_Mod_drop 12 = .ok (.getfield 133, 3) := by decide +kernel
theorem d_Mod_drop_15 : dec m_Mod_drop 15 = .ok (.iconst 1, 1) := by decide +kernel
theorem d_Mod_drop_16 : dec m_Mod_drop 16 = .ok (.isub, 1) := by decide +kernel
theorem d_Mod_drop_17 : dec m_Mod_drop 17 = .ok (.putfield 133, 3) := by decide +kernel
theorem d_Mod_drop_20 : dec m_Mod_drop 20 = .ok (.aload_n 0, 1) := by decide +kernel
theorem d_Mod_drop_21 : dec m_Mod_drop 21 = .ok (.iconst 0, 1) := by decide +kernel
theorem d_Mod_drop_22 : dec m_Mod_drop 22 = .ok (.putfield 304, 3) := by decide +kernel
theorem d_Mod_drop_25 : dec m_Mod_drop 25 = .ok (.aload_n 0, 1) := by decide +kernel
theorem d_Mod_drop_26 : dec m_Mod_drop 26 = .ok (.getfield 133, 3) := by decide +kernel
theorem d_Mod_drop_29 : dec m_Mod_drop 29 = .ok (.ireturn, 1) := by decide +kernel
theorem d_Mod_made_0 : dec m_Mod_made 0 = .ok (.aload_n 0, 1) := by decide +kernel
theorem d_Mod_made_1 : dec m_Mod_made 1 = .ok (.iload_n 1, 1) := by decide +kernel
theorem d_Mod_made_2 : dec m_Mod_made 2 = .ok (.invokevirtual 287, 3) := by decide +kernel
theorem d_Mod_made_5 : dec m_Mod_made 5 = .ok (.ifCond .eq 35, 3) := by decide +kernel
theorem d_Mod_made_8 : dec m_Mod_made 8 = .ok (.iload_n 3, 1) := by decide +kernel
theorem d_Mod_made_9 : dec m_Mod_made 9 = .ok (.i2l, 1) := by decide +kernel
theorem d_Mod_made_10 : dec m_Mod_made 10 = .ok (.ldc2_w 145, 3) := by decide +kernel
theorem d_Mod_made_13 : dec m_Mod_made 13 = .ok (.ldc2_w 137, 3) := by decide +kernel
theorem d_Mod_made_16 : dec m_Mod_made 16 = .ok (.invokestatic 139, 3) := by decide +kernel
theorem d_Mod_made_19 : dec m_Mod_made 19 = .ok (.ifCond .eq 21, 3) := by decide +kernel
theorem d_Mod_made_22 : dec m_Mod_made 22 = .ok (.iload_n 2, 1) := by decide +kernel
theorem d_Mod_made_23 : dec m_Mod_made 23 = .ok (.i2l, 1) := by decide +kernel
theorem d_Mod_made_24 : dec m_Mod_made 24 = .ok (.lconst 0, 1) := by decide +kernel
theorem d_Mod_made_25 : dec m_Mod_made 25 = .ok (.aload_n 0, 1) := by decide +kernel
theorem d_Mod_made_26 : dec m_Mod_made 26 = .ok (.getfield 40, 3) := by decide +kernel
theorem d_Mod_made_29 : dec m_Mod_made 29 = .ok (.iload_n 1, 1) := by decide +kernel
theorem d_Mod_made_30 : dec m_Mod_made 30 = .ok (.iaload, 1) := by decide +kernel
theorem d_Mod_made_31 : dec m_Mod_made 31 = .ok (.iconst 1, 1) := by decide +kernel
theorem d_Mod_made_32 : dec m_Mod_made 32 = .ok (.isub, 1) := by decide +kernel
theorem d_Mod_made_33 : dec m_Mod_made 33 = .ok (.i2l, 1) := by decide +kernel
theorem d_Mod_made_34 : dec m_Mod_made 34 = .ok (.invokestatic 139, 3) := by decide +kernel
theorem d_Mod_made_37 : dec m_Mod_made 37 = .ok (.ifCond .ne 7, 3) := by decide +kernel
theorem d_Mod_made_40 : dec m_Mod_made 40 = .ok (.ldc2_w 235, 3) := by decide +kernel
theorem d_Mod_made_43 : dec m_Mod_made 43 = .ok (.lreturn, 1) := by decide +kernel
theorem d_Mod_made_44 : dec m_Mod_made 44 = .ok (.bipush 86, 2) := by decide +kernel
theorem d_Mod_made_46 : dec m_Mod_made 46 = .ok (.iload_n 1, 1) := by decide +kernel
theorem d_Mod_made_47 : dec m_Mod_made 47 = .ok (.imul, 1) := by decide +kernel
theorem d_Mod_made_48 : dec m_Mod_made 48 = .ok (.iload_n 2, 1) := by decide +kernel
theorem d_Mod_made_49 : dec m_Mod_made 49 = .ok (.iadd, 1) := by decide +kernel
theorem d_Mod_made_50 : dec m_Mod_made 50 = .ok (.istore 4, 2) := by decide +kernel
theorem d_Mod_made_52 : dec m_Mod_made 52 = .ok (.iload_n 3, 1) := by decide +kernel
theorem d_Mod_made_53 : dec m_Mod_made 53 = .ok (.ifCond .ge 13, 3) := by decide +kernel
theorem d_Mod_made_56 : dec m_Mod_made 56 = .ok (.aload_n 0, 1) := by decide +kernel
theorem d_Mod_made_57 : dec m_Mod_made 57 = .ok (.getfield 43, 3) := by decide +kernel
theorem d_Mod_made_60 : dec m_Mod_made 60 = .ok (.iload 4, 2) := by decide +kernel
theorem d_Mod_made_62 : dec m_Mod_made 62 = .ok (.laload, 1) := by decide +kernel
theorem d_Mod_made_63 : dec m_Mod_made 63 = .ok (.goto 16, 3) := by decide +kernel
theorem d_Mod_made_66 : dec m_Mod_made 66 = .ok (.aload_n 0, 1) := by decide +kernel
theorem d_Mod_made_67 : dec m_Mod_made 67 = .ok (.getfield 46, 3) := by decide +kernel
theorem d_Mod_made_70 : dec m_Mod_made 70 = .ok (.bipush 7, 2) := by decide +kernel
theorem d_Mod_made_72 : dec m_Mod_made 72 = .ok (.iload 4, 2) := by decide +kernel
theorem d_Mod_made_74 : dec m_Mod_made 74 = .ok (.imul, 1) := by decide +kernel
theorem d_Mod_made_75 : dec m_Mod_made 75 = .ok (.iload_n 3, 1) := by decide +kernel
theorem d_Mod_made_76 : dec m_Mod_made 76 = .ok (.iadd, 1) := by decide +kernel
theorem d_Mod_made_77 : dec m_Mod_made 77 = .ok (.iaload, 1) := by decide +kernel
theorem d_Mod_made_78 : dec m_Mod_made 78 = .ok (.i2l, 1) := by decide +kernel
theorem d_Mod_made_79 : dec m_Mod_made 79 = .ok (.lreturn, 1) := by decide +kernel
theorem d_Mod_partWorth_0 : dec m_Mod_partWorth 0 = .ok (.aload_n 0, 1) := by decide +kernel
theorem d_Mod_partWorth_1 : dec m_Mod_partWorth 1 = .ok (.getfield 43, 3) := by decide +kernel
theorem d_Mod_partWorth_4 : dec m_Mod_partWorth 4 = .ok (.iload_n 1, 1) := by decide +kernel
theorem d_Mod_partWorth_5 : dec m_Mod_partWorth 5 = .ok (.laload, 1) := by decide +kernel
theorem d_Mod_partWorth_6 : dec m_Mod_partWorth 6 = .ok (.lload_n 2, 1) := by decide +kernel
theorem d_Mod_partWorth_7 : dec m_Mod_partWorth 7 = .ok (.invokestatic 245, 3) := by decide +kernel
theorem d_Mod_partWorth_10 : dec m_Mod_partWorth 10 = .ok (.lstore 4, 2) := by decide +kernel
theorem d_Mod_partWorth_12 : dec m_Mod_partWorth 12 = .ok (.iconst 0, 1) := by decide +kernel
theorem d_Mod_partWorth_13 : dec m_Mod_partWorth 13 = .ok (.istore 6, 2) := by decide +kernel
theorem d_Mod_partWorth_15 : dec m_Mod_partWorth 15 = .ok (.iload 6, 2) := by decide +kernel
theorem d_Mod_partWorth_17 : dec m_Mod_partWorth 17 = .ok (.bipush 7, 2) := by decide +kernel
theorem d_Mod_partWorth_19 : dec m_Mod_partWorth 19 = .ok (.if_icmp .ge 39, 3) := by decide +kernel
theorem d_Mod_partWorth_22 : dec m_Mod_partWorth 22 = .ok (.lload 4, 2) := by decide +kernel
theorem d_Mod_partWorth_24 : dec m_Mod_partWorth 24 = .ok (.aload_n 0, 1) := by decide +kernel
theorem d_Mod_partWorth_25 : dec m_Mod_partWorth 25 = .ok (.getfield 73, 3) := by decide +kernel
theorem d_Mod_partWorth_28 : dec m_Mod_partWorth 28 = .ok (.iload 6, 2) := by decide +kernel
theorem d_Mod_partWorth_30 : dec m_Mod_partWorth 30 = .ok (.laload, 1) := by decide +kernel
theorem d_Mod_partWorth_31 : dec m_Mod_partWorth 31 = .ok (.aload_n 0, 1) := by decide +kernel
theorem d_Mod_partWorth_32 : dec m_Mod_partWorth 32 = .ok (.getfield 46, 3) := by decide +kernel
theorem d_Mod_partWorth_35 : dec m_Mod_partWorth 35 = .ok (.bipush 7, 2) := by decide +kernel
theorem d_Mod_partWorth_37 : dec m_Mod_partWorth 37 = .ok (.iload_n 1, 1) := by decide +kernel
theorem d_Mod_partWorth_38 : dec m_Mod_partWorth 38 = .ok (.imul, 1) := by decide +kernel
theorem d_Mod_partWorth_39 : dec m_Mod_partWorth 39 = .ok (.iload 6, 2) := by decide +kernel
theorem d_Mod_partWorth_41 : dec m_Mod_partWorth 41 = .ok (.iadd, 1) := by decide +kernel
theorem d_Mod_partWorth_42 : dec m_Mod_partWorth 42 = .ok (.iaload, 1) := by decide +kernel
theorem d_Mod_partWorth_43 : dec m_Mod_partWorth 43 = .ok (.lload_n 2, 1) := by decide +kernel
theorem d_Mod_partWorth_44 : dec m_Mod_partWorth 44 = .ok (.invokestatic 248, 3) := by decide +kernel
theorem d_Mod_partWorth_47 : dec m_Mod_partWorth 47 = .ok (.lmul, 1) := by decide +kernel
theorem d_Mod_partWorth_48 : dec m_Mod_partWorth 48 = .ok (.lload_n 2, 1) := by decide +kernel
theorem d_Mod_partWorth_49 : dec m_Mod_partWorth 49 = .ok (.lrem, 1) := by decide +kernel
theorem d_Mod_partWorth_50 : dec m_Mod_partWorth 50 = .ok (.lstore 4, 2) := by decide +kernel
theorem d_Mod_partWorth_52 : dec m_Mod_partWorth 52 = .ok (.iinc 6 1, 3) := by decide +kernel
theorem d_Mod_partWorth_55 : dec m_Mod_partWorth 55 = .ok (.goto (-40), 3) := by decide +kernel
theorem d_Mod_partWorth_58 : dec m_Mod_partWorth 58 = .ok (.lload 4, 2) := by decide +kernel
theorem d_Mod_partWorth_60 : dec m_Mod_partWorth 60 = .ok (.lreturn, 1) := by decide +kernel
theorem d_Mod_grown_0 : dec m_Mod_grown 0 = .ok (.aload_n 0, 1) := by decide +kernel
theorem d_Mod_grown_1 : dec m_Mod_grown 1 = .ok (.iload_n 1, 1) := by decide +kernel
theorem d_Mod_grown_2 : dec m_Mod_grown 2 = .ok (.invokevirtual 287, 3) := by decide +kernel
theorem d_Mod_grown_5 : dec m_Mod_grown 5 = .ok (.ifCond .eq 18, 3) := by decide +kernel
theorem d_Mod_grown_8 : dec m_Mod_grown 8 = .ok (.iload 5, 2) := by decide +kernel
theorem d_Mod_grown_10 : dec m_Mod_grown 10 = .ok (.i2l, 1) := by decide +kernel
theorem d_Mod_grown_11 : dec m_Mod_grown 11 = .ok (.ldc2_w 180, 3) := by decide +kernel
theorem d_Mod_grown_14 : dec m_Mod_grown 14 = .ok (.ldc2_w 252, 3) := by decide +kernel
theorem d_Mod_grown_17 : dec m_Mod_grown 17 = .ok (.invokestatic 139, 3) := by decide +kernel
theorem d_Mod_grown_20 : dec m_Mod_grown 20 = .ok (.ifCond .ne 7, 3) := by decide +kernel
theorem d_Mod_grown_23 : dec m_Mod_grown 23 = .ok (.ldc2_w 235, 3) := by decide +kernel
theorem d_Mod_grown_26 : dec m_Mod_grown 26 = .ok (.lreturn, 1) := by decide +kernel
theorem d_Mod_grown_27 : dec m_Mod_grown 27 = .ok (.iconst 0, 1) := by decide +kernel
theorem d_Mod_grown_28 : dec m_Mod_grown 28 = .ok (.istore 6, 2) := by decide +kernel
theorem d_Mod_grown_30 : dec m_Mod_grown 30 = .ok (.iload 6, 2) := by decide +kernel
theorem d_Mod_grown_32 : dec m_Mod_grown 32 = .ok (.bipush 7, 2) := by decide +kernel
theorem d_Mod_grown_34 : dec m_Mod_grown 34 = .ok (.if_icmp .ge 17, 3) := by decide +kernel
theorem d_Mod_grown_37 : dec m_Mod_grown 37 = .ok (.aload_n 0, 1) := by decide +kernel
theorem d_Mod_grown_38 : dec m_Mod_grown 38 = .ok (.getfield 73, 3) := by decide +kernel
theorem d_Mod_grown_41 : dec m_Mod_grown 41 = .ok (.iload 6, 2) := by decide +kernel
theorem d_Mod_grown_43 : dec m_Mod_grown 43 = .ok (.lconst 0, 1) := by decide +kernel
theorem d_Mod_grown_44 : dec m_Mod_grown 44 = .ok (.lastore, 1) := by decide +kernel
theorem d_Mod_grown_45 : dec m_Mod_grown 45 = .ok (.iinc 6 1, 3) := by decide +kernel
theorem d_Mod_grown_48 : dec m_Mod_grown 48 = .ok (.goto (-18), 3) := by decide +kernel
theorem d_Mod_grown_51 : dec m_Mod_grown 51 = .ok (.iconst 0, 1) := by decide +kernel
theorem d_Mod_grown_52 : dec m_Mod_grown 52 = .ok (.istore 6, 2) := by decide +kernel
theorem d_Mod_grown_54 : dec m_Mod_grown 54 = .ok (.iload 6, 2) := by decide +kernel
theorem d_Mod_grown_56 : dec m_Mod_grown 56 = .ok (.iload_n 1, 1) := by decide +kernel
theorem d_Mod_grown_57 : dec m_Mod_grown 57 = .ok (.if_icmp .gt 95, 3) := by decide +kernel
theorem d_Mod_grown_60 : dec m_Mod_grown 60 = .ok (.aload_n 0, 1) := by decide +kernel
theorem d_Mod_grown_61 : dec m_Mod_grown 61 = .ok (.getfield 40, 3) := by decide +kernel
theorem d_Mod_grown_64 : dec m_Mod_grown 64 = .ok (.iload 6, 2) := by decide +kernel
theorem d_Mod_grown_66 : dec m_Mod_grown 66 = .ok (.iaload, 1) := by decide +kernel
theorem d_Mod_grown_67 : dec m_Mod_grown 67 = .ok (.ifCond .ne 22, 3) := by decide +kernel
theorem d_Mod_grown_70 : dec m_Mod_grown 70 = .ok (.aload_n 0, 1) := by decide +kernel
theorem d_Mod_grown_71 : dec m_Mod_grown 71 = .ok (.bipush 6, 2) := by decide +kernel
theorem d_Mod_grown_73 : dec m_Mod_grown 73 = .ok (.iload 6, 2) := by decide +kernel
theorem d_Mod_grown_75 : dec m_Mod_grown 75 = .ok (.iadd, 1) := by decide +kernel
theorem d_Mod_grown_76 : dec m_Mod_grown 76 = .ok (.iload_n 2, 1) := by decide +kernel
theorem d_Mod_grown_77 : dec m_Mod_grown 77 = .ok (.iload_n 3, 1) := by decide +kernel
theorem d_Mod_grown_78 : dec m_Mod_grown 78 = .ok (.iload 4, 2) := by decide +kernel
theorem d_Mod_grown_80 : dec m_Mod_grown 80 = .ok (.iload 5, 2) := by decide +kernel
theorem d_Mod_grown_82 : dec m_Mod_grown 82 = .ok (.i2l, 1) := by decide +kernel
theorem d_Mod_grown_83 : dec m_Mod_grown 83 = .ok (.invokevirtual 254, 3) := by decide +kernel
theorem d_Mod_grown_86 : dec m_Mod_grown 86 = .ok (.goto 4, 3) := by decide +kernel
theorem d_Mod_grown_89 : dec m_Mod_grown 89 = .ok (.lconst 0, 1) := by decide +kernel
theorem d_Mod_grown_90 : dec m_Mod_grown 90 = .ok (.lstore 7, 2) := by decide +kernel
theorem d_Mod_grown_92 : dec m_Mod_grown 92 = .ok (.iconst 0, 1) := by decide +kernel
theorem d_Mod_grown_93 : dec m_Mod_grown 93 = .ok (.istore 9, 2) := by decide +kernel
theorem d_Mod_grown_95 : dec m_Mod_grown 95 = .ok (.iload 9, 2) := by decide +kernel
theorem d_Mod_grown_97 : dec m_Mod_grown 97 = .ok (.aload_n 0, 1) := by decide +kernel
theorem d_Mod_grown_98 : dec m_Mod_grown 98 = .ok (.getfield 40, 3) := by decide +kernel
theorem d_Mod_grown_101 : dec m_Mod_grown 101 = .ok (.iload 6, 2) := by decide +kernel
theorem d_Mod_grown_103 : dec m_Mod_grown 103 = .ok (.iaload, 1) := by decide +kernel
theorem d_Mod_grown_104 : dec m_Mod_grown 104 = .ok (.if_icmp .ge 33, 3) := by decide +kernel
theorem d_Mod_grown_107 : dec m_Mod_grown 107 = .ok (.lload 7, 2) := by decide +kernel
theorem d_Mod_grown_109 : dec m_Mod_grown 109 = .ok (.aload_n 0, 1) := by decide +kernel
theorem d_Mod_grown_110 : dec m_Mod_grown 110 = .ok (.bipush 86, 2) := by decide +kernel
theorem d_Mod_grown_112 : dec m_Mod_grown 112 = .ok (.iload 6, 2) := by decide +kernel
theorem d_Mod_grown_114 : dec m_Mod_grown 114 = .ok (.imul, 1) := by decide +kernel
theorem d_Mod_grown_115 : dec m_Mod_grown 115 = .ok (.iload 9, 2) := by decide +kernel
theorem d_Mod_grown_117 : dec m_Mod_grown 117 = .ok (.iadd, 1) := by decide +kernel
theorem d_Mod_grown_118 : dec m_Mod_grown 118 = .ok (.iload 5, 2) := by decide +kernel
theorem d_Mod_grown_120 : dec m_Mod_grown 120 = .ok (.i2l, 1) := by decide +kernel
theorem d_Mod_grown_121 : dec m_Mod_grown 121 = .ok (.invokevirtual 308, 3) := by decide +kernel
theorem d_Mod_grown_124 : dec m_Mod_grown 124 = .ok (.ladd, 1) := by decide +kernel
theorem d_Mod_grown_125 : dec m_Mod_grown 125 = .ok (.iload 5, 2) := by decide +kernel
theorem d_Mod_grown_127 : dec m_Mod_grown 127 = .ok (.i2l, 1) := by decide +kernel
theorem d_Mod_grown_128 : dec m_Mod_grown 128 = .ok (.lrem, 1) := by decide +kernel
theorem d_Mod_grown_129 : dec m_Mod_grown 129 = .ok (.lstore 7, 2) := by decide +kernel
theorem d_Mod_grown_131 : dec m_Mod_grown 131 = .ok (.iinc 9 1, 3) := by decide +kernel
theorem d_Mod_grown_134 : dec m_Mod_grown 134 = .ok (.goto (-39), 3) := by decide +kernel
theorem d_Mod_grown_137 : dec m_Mod_grown 137 = .ok (.aload_n 0, 1) := by decide +kernel
theorem d_Mod_grown_138 : dec m_Mod_grown 138 = .ok (.getfield 73, 3) := by decide +kernel
theorem d_Mod_grown_141 : dec m_Mod_grown 141 = .ok (.iload 6, 2) := by decide +kernel
theorem d_Mod_grown_143 : dec m_Mod_grown 143 = .ok (.lload 7, 2) := by decide +kernel
theorem d_Mod_grown_145 : dec m_Mod_grown 145 = .ok (.lastore, 1) := by decide +kernel
theorem d_Mod_grown_146 : dec m_Mod_grown 146 = .ok (.iinc 6 1, 3) := by decide +kernel
theorem d_Mod_grown_149 : dec m_Mod_grown 149 = .ok (.goto (-95), 3) := by decide +kernel
theorem d_Mod_grown_152 : dec m_Mod_grown 152 = .ok (.aload_n 0, 1) := by decide +kernel
theorem d_Mod_grown_153 : dec m_Mod_grown 153 = .ok (.getfield 73, 3) := by decide +kernel
theorem d_Mod_grown_156 : dec m_Mod_grown 156 = .ok (.iload_n 1, 1) := by decide +kernel
theorem d_Mod_grown_157 : dec m_Mod_grown 157 = .ok (.laload, 1) := by decide +kernel
theorem d_Mod_grown_158 : dec m_Mod_grown 158 = .ok (.lreturn, 1) := by decide +kernel
theorem d_Mod_closed_0 : dec m_Mod_closed 0 = .ok (.iconst 0, 1) := by decide +kernel
theorem d_Mod_closed_1 : dec m_Mod_closed 1 = .ok (.istore_n 1, 1) := by decide +kernel
theorem d_Mod_closed_2 : dec m_Mod_closed 2 = .ok (.iconst 0, 1) := by decide +kernel
theorem d_Mod_closed_3 : dec m_Mod_closed 3 = .ok (.istore_n 2, 1) := by decide +kernel
theorem d_Mod_closed_4 : dec m_Mod_closed 4 = .ok (.iload_n 2, 1) := by decide +kernel
theorem d_Mod_closed_5 : dec m_Mod_closed 5 = .ok (.bipush 6, 2) := by decide +kernel
theorem d_Mod_closed_7 : dec m_Mod_closed 7 = .ok (.if_icmp .ge 117, 3) := by decide +kernel
theorem d_Mod_closed_10 : dec m_Mod_closed 10 = .ok (.iconst 1, 1) := by decide +kernel
theorem d_Mod_closed_11 : dec m_Mod_closed 11 = .ok (.istore_n 3, 1) := by decide +kernel
theorem d_Mod_closed_12 : dec m_Mod_closed 12 = .ok (.iconst 0, 1) := by decide +kernel
theorem d_Mod_closed_13 : dec m_Mod_closed 13 = .ok (.istore 4, 2) := by decide +kernel
theorem d_Mod_closed_15 : dec m_Mod_closed 15 = .ok (.iload 4, 2) := by decide +kernel
theorem d_Mod_closed_17 : dec m_Mod_closed 17 = .ok (.aload_n 0, 1) := by decide +kernel
theorem d_Mod_closed_18 : dec m_Mod_closed 18 = .ok (.getfield 133, 3) := by decide +kernel
theorem d_Mod_closed_21 : dec m_Mod_closed 21 = .ok (.if_icmp .ge 83, 3) := by decide +kernel
theorem d_Mod_closed_24 : dec m_Mod_closed 24 = .ok (.aload_n 0, 1) := by decide +kernel
theorem d_Mod_closed_25 : dec m_Mod_closed 25 = .ok (.bipush 6, 2) := by decide +kernel
theorem d_Mod_closed_27 : dec m_Mod_closed 27 = .ok (.iload 4, 2) := by decide +kernel
theorem d_Mod_closed_29 : dec m_Mod_closed 29 = .ok (.iadd, 1) := by decide +kernel
theorem d_Mod_closed_30 : dec m_Mod_closed 30 = .ok (.iload_n 2, 1) := by decide +kernel
theorem d_Mod_closed_31 : dec m_Mod_closed 31 = .ok (.bipush 13, 2) := by decide +kernel
theorem d_Mod_closed_33 : dec m_Mod_closed 33 = .ok (.invokevirtual 229, 3) := by decide +kernel
theorem d_Mod_closed_36 : dec m_Mod_closed 36 = .ok (.iconst 0, 1) := by decide +kernel
theorem d_Mod_closed_37 : dec m_Mod_closed 37 = .ok (.istore 5, 2) := by decide +kernel
theorem d_Mod_closed_39 : dec m_Mod_closed 39 = .ok (.iconst 0, 1) := by decide +kernel
theorem d_Mod_closed_40 : dec m_Mod_closed 40 = .ok (.istore 6, 2) := by decide +kernel
theorem d_Mod_closed_42 : dec m_Mod_closed 42 = .ok (.iload 6, 2) := by decide +kernel
theorem d_Mod_closed_44 : dec m_Mod_closed 44 = .ok (.aload_n 0, 1) := by decide +kernel
theorem d_Mod_closed_45 : dec m_Mod_closed 45 = .ok (.getfield 133, 3) := by decide +kernel
theorem d_Mod_closed_48 : dec m_Mod_closed 48 = .ok (.if_icmp .ge 35, 3) := by decide +kernel
theorem d_Mod_closed_51 : dec m_Mod_closed 51 = .ok (.iload 5, 2) := by decide +kernel
theorem d_Mod_closed_53 : dec m_Mod_closed 53 = .ok (.ifCond .ne 17, 3) := by decide +kernel
theorem d_Mod_closed_56 : dec m_Mod_closed 56 = .ok (.aload_n 0, 1) := by decide +kernel
theorem d_Mod_closed_57 : dec m_Mod_closed 57 = .ok (.bipush 13, 2) := by decide +kernel
theorem d_Mod_closed_59 : dec m_Mod_closed 59 = .ok (.bipush 6, 2) := by decide +kernel
theorem d_Mod_closed_61 : dec m_Mod_closed 61 = .ok (.iload 6, 2) := by decide +kernel
theorem d_Mod_closed_63 : dec m_Mod_closed 63 = .ok (.iadd, 1) := by decide +kernel
theorem d_Mod_closed_64 : dec m_Mod_closed 64 = .ok (.invokevirtual 232, 3) := by decide +kernel
theorem d_Mod_closed_67 : dec m_Mod_closed 67 = .ok (.ifCond .eq 7, 3) := by decide +kernel
theorem d_Mod_closed_70 : dec m_Mod_closed 70 = .ok (.iconst 1, 1) := by decide +kernel
theorem d_Mod_closed_71 : dec m_Mod_closed 71 = .ok (.goto 4, 3) := by decide +kernel
theorem d_Mod_closed_74 : dec m_Mod_closed 74 = .ok (.iconst 0, 1) := by decide +kernel
theorem d_Mod_closed_75 : dec m_Mod_closed 75 = .ok (.istore 5, 2) := by decide +kernel
theorem d_Mod_closed_77 : dec m_Mod_closed 77 = .ok (.iinc 6 1, 3) := by decide +kernel
theorem d_Mod_closed_80 : dec m_Mod_closed 80 = .ok (.goto (-38), 3) := by decide +kernel
theorem d_Mod_closed_83 : dec m_Mod_closed 83 = .ok (.iload_n 3, 1) := by decide +kernel
theorem d_Mod_closed_84 : dec m_Mod_closed 84 = .ok (.ifCond .eq 12, 3) := by decide +kernel
theorem d_Mod_closed_87 : dec m_Mod_closed 87 = .ok (.iload 5, 2) := by decide +kernel
theorem d_Mod_closed_89 : dec m_Mod_closed 89 = .ok (.ifCond .eq 7, 3) := by decide +kernel
theorem d_Mod_closed_92 : dec m_Mod_closed 92 = .ok (.iconst 1, 1) := by decide +kernel
theorem d_Mod_closed_93 : dec m_Mod_closed 93 = .ok (.goto 4, 3) := by decide +kernel
theorem d_Mod_closed_96 : dec m_Mod_closed 96 = .ok (.iconst 0, 1) := by decide +kernel
theorem d_Mod_closed_97 : dec m_Mod_closed 97 = .ok (.istore_n 3, 1) := by decide +kernel
theorem d_Mod_closed_98 : dec m_Mod_closed 98 = .ok (.iinc 4 1, 3) := by decide +kernel
theorem d_Mod_closed_101 : dec m_Mod_closed 101 = .ok (.goto (-86), 3) := by decide +kernel
theorem d_Mod_closed_104 : dec m_Mod_closed 104 = .ok (.iload_n 1, 1) := by decide +kernel
theorem d_Mod_closed_105 : dec m_Mod_closed 105 = .ok (.iload_n 3, 1) := by decide +kernel
theorem d_Mod_closed_106 : dec m_Mod_closed 106 = .ok (.ifCond .eq 9, 3) := by decide +kernel
theorem d_Mod_closed_109 : dec m_Mod_closed 109 = .ok (.iconst 1, 1) := by decide +kernel
theorem d_Mod_closed_110 : dec m_Mod_closed 110 = .ok (.iload_n 2, 1) := by decide +kernel
theorem d_Mod_closed_111 : dec m_Mod_closed 111 = .ok (.ishl, 1) := by decide +kernel
theorem d_Mod_closed_112 : dec m_Mod_closed 112 = .ok (.goto 4, 3) := by decide +kernel
theorem d_Mod_closed_115 : dec m_Mod_closed 115 = .ok (.iconst 0, 1) := by decide +kernel
theorem d_Mod_closed_116 : dec m_Mod_closed 116 = .ok (.ior, 1) := by decide +kernel
theorem d_Mod_closed_117 : dec m_Mod_closed 117 = .ok (.istore_n 1, 1) := by decide +kernel
theorem d_Mod_closed_118 : dec m_Mod_closed 118 = .ok (.iinc 2 1, 3) := by decide +kernel
theorem d_Mod_closed_121 : dec m_Mod_closed 121 = .ok (.goto (-117), 3) := by decide +kernel
theorem d_Mod_closed_124 : dec m_Mod_closed 124 = .ok (.iload_n 1, 1) := by decide +kernel
theorem d_Mod_closed_125 : dec m_Mod_closed 125 = .ok (.ireturn, 1) := by decide +kernel
theorem d_Mod_fits_0 : dec m_Mod_fits 0 = .ok (.iload_n 1, 1) := by decide +kernel
theorem d_Mod_fits_1 : dec m_Mod_fits 1 = .ok (.ifCond .ne 8, 3) := by decide +kernel
theorem d_Mod_fits_4 : dec m_Mod_fits 4 = .ok (.bipush 6, 2) := by decide +kernel
theorem d_Mod_fits_6 : dec m_Mod_fits 6 = .ok (.goto 6, 3) := by decide +kernel
theorem d_Mod_fits_9 : dec m_Mod_fits 9 = .ok (.iload_n 0, 1) := by decide +kernel
theorem d_Mod_fits_10 : dec m_Mod_fits 10 = .ok (.iload_n 1, 1) := by decide +kernel
theorem d_Mod_fits_11 : dec m_Mod_fits 11 = .ok (.idiv, 1) := by decide +kernel
theorem d_Mod_fits_12 : dec m_Mod_fits 12 = .ok (.ireturn, 1) := by decide +kernel
theorem d_Mod_most_0 : dec m_Mod_most 0 = .ok (.aload_n 0, 1) := by decide +kernel
theorem d_Mod_most_1 : dec m_Mod_most 1 = .ok (.getfield 37, 3) := by decide +kernel
theorem d_Mod_most_4 : dec m_Mod_most 4 = .ok (.iload_n 1, 1) := by decide +kernel
theorem d_Mod_most_5 : dec m_Mod_most 5 = .ok (.iaload, 1) := by decide +kernel
theorem d_Mod_most_6 : dec m_Mod_most 6 = .ok (.istore_n 2, 1) := by decide +kernel
theorem d_Mod_most_7 : dec m_Mod_most 7 = .ok (.aload_n 0, 1) := by decide +kernel
theorem d_Mod_most_8 : dec m_Mod_most 8 = .ok (.getfield 79, 3) := by decide +kernel
theorem d_Mod_most_11 : dec m_Mod_most 11 = .ok (.iload_n 1, 1) := by decide +kernel
theorem d_Mod_most_12 : dec m_Mod_most 12 = .ok (.iaload, 1) := by decide +kernel
theorem d_Mod_most_13 : dec m_Mod_most 13 = .ok (.aload_n 0, 1) := by decide +kernel
theorem d_Mod_most_14 : dec m_Mod_most 14 = .ok (.getfield 18, 3) := by decide +kernel
theorem d_Mod_most_17 : dec m_Mod_most 17 = .ok (.iload_n 2, 1) := by decide +kernel
theorem d_Mod_most_18 : dec m_Mod_most 18 = .ok (.iaload, 1) := by decide +kernel
theorem d_Mod_most_19 : dec m_Mod_most 19 = .ok (.invokestatic 312, 3) := by decide +kernel
theorem d_Mod_most_22 : dec m_Mod_most 22 = .ok (.istore_n 3, 1) := by decide +kernel
theorem d_Mod_most_23 : dec m_Mod_most 23 = .ok (.aload_n 0, 1) := by decide +kernel
theorem d_Mod_most_24 : dec m_Mod_most 24 = .ok (.getfield 82, 3) := by decide +kernel
theorem d_Mod_most_27 : dec m_Mod_most 27 = .ok (.iload_n 1, 1) := by decide +kernel
theorem d_Mod_most_28 : dec m_Mod_most 28 = .ok (.iaload, 1) := by decide +kernel
theorem d_Mod_most_29 : dec m_Mod_most 29 = .ok (.aload_n 0, 1) := by decide +kernel
theorem d_Mod_most_30 : dec m_Mod_most 30 = .ok (.getfield 22, 3) := by decide +kernel
theorem d_Mod_most_33 : dec m_Mod_most 33 = .ok (.iload_n 2, 1) := by decide +kernel
theorem d_Mod_most_34 : dec m_Mod_most 34 = .ok (.iaload, 1) := by decide +kernel
theorem d_Mod_most_35 : dec m_Mod_most 35 = .ok (.invokestatic 312, 3) := by decide +kernel
theorem d_Mod_most_38 : dec m_Mod_most 38 = .ok (.iload_n 3, 1) := by decide +kernel
theorem d_Mod_most_39 : dec m_Mod_most 39 = .ok (.if_icmp .ge 21, 3) := by decide +kernel
theorem d_Mod_most_42 : dec m_Mod_most 42 = .ok (.aload_n 0, 1) := by decide +kernel
theorem d_Mod_most_43 : dec m_Mod_most 43 = .ok (.getfield 82, 3) := by decide +kernel
theorem d_Mod_most_46 : dec m_Mod_most 46 = .ok (.iload_n 1, 1) := by decide +kernel
theorem d_Mod_most_47 : dec m_Mod_most 47 = .ok (.iaload, 1) := by decide +kernel
theorem d_Mod_most_48 : dec m_Mod_most 48 = .ok (.aload_n 0, 1) := by decide +kernel
theorem d_Mod_most_49 : dec m_Mod_most 49 = .ok (.getfield 22, 3) := by decide +kernel
theorem d_Mod_most_52 : dec m_Mod_most 52 = .ok (.iload_n 2, 1) := by decide +kernel
theorem d_Mod_most_53 : dec m_Mod_most 53 = .ok (.iaload, 1) := by decide +kernel
theorem d_Mod_most_54 : dec m_Mod_most 54 = .ok (.invokestatic 312, 3) := by decide +kernel
theorem d_Mod_most_57 : dec m_Mod_most 57 = .ok (.goto 4, 3) := by decide +kernel
theorem d_Mod_most_60 : dec m_Mod_most 60 = .ok (.iload_n 3, 1) := by decide +kernel
theorem d_Mod_most_61 : dec m_Mod_most 61 = .ok (.istore_n 3, 1) := by decide +kernel
theorem d_Mod_most_62 : dec m_Mod_most 62 = .ok (.aload_n 0, 1) := by decide +kernel
theorem d_Mod_most_63 : dec m_Mod_most 63 = .ok (.getfield 85, 3) := by decide +kernel
theorem d_Mod_most_66 : dec m_Mod_most 66 = .ok (.iload_n 1, 1) := by decide +kernel
theorem d_Mod_most_67 : dec m_Mod_most 67 = .ok (.iaload, 1) := by decide +kernel
theorem d_Mod_most_68 : dec m_Mod_most 68 = .ok (.aload_n 0, 1) := by decide +kernel
theorem d_Mod_most_69 : dec m_Mod_most 69 = .ok (.getfield 25, 3) := by decide +kernel
theorem d_Mod_most_72 : dec m_Mod_most 72 = .ok (.iload_n 2, 1) := by decide +kernel
theorem d_Mod_most_73 : dec m_Mod_most 73 = .ok (.iaload, 1) := by decide +kernel
theorem d_Mod_most_74 : dec m_Mod_most 74 = .ok (.invokestatic 312, 3) := by decide +kernel
theorem d_Mod_most_77 : dec m_Mod_most 77 = .ok (.iload_n 3, 1) := by decide +kernel
theorem d_Mod_most_78 : dec m_Mod_most 78 = .ok (.if_icmp .ge 21, 3) := by decide +kernel
theorem d_Mod_most_81 : dec m_Mod_most 81 = .ok (.aload_n 0, 1) := by decide +kernel
theorem d_Mod_most_82 : dec m_Mod_most 82 = .ok (.getfield 85, 3) := by decide +kernel
theorem d_Mod_most_85 : dec m_Mod_most 85 = .ok (.iload_n 1, 1) := by decide +kernel
theorem d_Mod_most_86 : dec m_Mod_most 86 = .ok (.iaload, 1) := by decide +kernel
theorem d_Mod_most_87 : dec m_Mod_most 87 = .ok (.aload_n 0, 1) := by decide +kernel
theorem d_Mod_most_88 : dec m_Mod_most 88 = .ok (.getfield 25, 3) := by decide +kernel
theorem d_Mod_most_91 : dec m_Mod_most 91 = .ok (.iload_n 2, 1) := by decide +kernel
theorem d_Mod_most_92 : dec m_Mod_most 92 = .ok (.iaload, 1) := by decide +kernel
theorem d_Mod_most_93 : dec m_Mod_most 93 = .ok (.invokestatic 312, 3) := by decide +kernel
theorem d_Mod_most_96 : dec m_Mod_most 96 = .ok (.goto 4, 3) := by decide +kernel
theorem d_Mod_most_99 : dec m_Mod_most 99 = .ok (.iload_n 3, 1) := by decide +kernel
theorem d_Mod_most_100 : dec m_Mod_most 100 = .ok (.ireturn, 1) := by decide +kernel
theorem d_Mod_passOn_0 : dec m_Mod_passOn 0 = .ok (.aload_n 0, 1) := by decide +kernel
theorem d_Mod_passOn_1 : dec m_Mod_passOn 1 = .ok (.getfield 37, 3) := by decide +kernel
theorem d_Mod_passOn_4 : dec m_Mod_passOn 4 = .ok (.iload_n 1, 1) := by decide +kernel
theorem d_Mod_passOn_5 : dec m_Mod_passOn 5 = .ok (.iaload, 1) := by decide +kernel
theorem d_Mod_passOn_6 : dec m_Mod_passOn 6 = .ok (.istore_n 2, 1) := by decide +kernel
theorem d_Mod_passOn_7 : dec m_Mod_passOn 7 = .ok (.aload_n 0, 1) := by decide +kernel
theorem d_Mod_passOn_8 : dec m_Mod_passOn 8 = .ok (.getfield 79, 3) := by decide +kernel
theorem d_Mod_passOn_11 : dec m_Mod_passOn 11 = .ok (.iload_n 1, 1) := by decide +kernel
theorem d_Mod_passOn_12 : dec m_Mod_passOn 12 = .ok (.iconst 1, 1) := by decide +kernel
theorem d_Mod_passOn_13 : dec m_Mod_passOn 13 = .ok (.iadd, 1) := by decide +kernel
theorem d_Mod_passOn_14 : dec m_Mod_passOn 14 = .ok (.aload_n 0, 1) := by decide +kernel
theorem d_Mod_passOn_15 : dec m_Mod_passOn 15 = .ok (.getfield 79, 3) := by decide +kernel
theorem d_Mod_passOn_18 : dec m_Mod_passOn 18 = .ok (.iload_n 1, 1) := by decide +kernel
theorem d_Mod_passOn_19 : dec m_Mod_passOn 19 = .ok (.iaload, 1) := by decide +kernel
theorem d_Mod_passOn_20 : dec m_Mod_passOn 20 = .ok (.aload_n 0, 1) := by decide +kernel
theorem d_Mod_passOn_21 : dec m_Mod_passOn 21 = .ok (.getfield 88, 3) := by decide +kernel
theorem d_Mod_passOn_24 : dec m_Mod_passOn 24 = .ok (.iload_n 1, 1) := by decide +kernel
theorem d_Mod_passOn_25 : dec m_Mod_passOn 25 = .ok (.iaload, 1) := by decide +kernel
theorem d_Mod_passOn_26 : dec m_Mod_passOn 26 = .ok (.aload_n 0, 1) := by decide +kernel
theorem d_Mod_passOn_27 : dec m_Mod_passOn 27 = .ok (.getfield 18, 3) := by decide +kernel
theorem d_Mod_passOn_30 : dec m_Mod_passOn 30 = .ok (.iload_n 2, 1) := by decide +kernel
theorem d_Mod_passOn_31 : dec m_Mod_passOn 31 = .ok (.iaload, 1) := by decide +kernel
theorem d_Mod_passOn_32 : dec m_Mod_passOn 32 = .ok (.imul, 1) := by decide +kernel
theorem d_Mod_passOn_33 : dec m_Mod_passOn 33 = .ok (.isub, 1) := by decide +kernel
theorem d_Mod_passOn_34 : dec m_Mod_passOn 34 = .ok (.iastore, 1) := by decide +kernel
theorem d_Mod_passOn_35 : dec m_Mod_passOn 35 = .ok (.aload_n 0, 1) := by decide +kernel
theorem d_Mod_passOn_36 : dec m_Mod_passOn 36 = .ok (.getfield 82, 3) := by decide +kernel
theorem d_Mod_passOn_39 : dec m_Mod_passOn 39 = .ok (.iload_n 1, 1) := by decide +kernel
theorem d_Mod_passOn_40 : dec m_Mod_passOn 40 = .ok (.iconst 1, 1) := by decide +kernel
theorem d_Mod_passOn_41 : dec m_Mod_passOn 41 = .ok (.iadd, 1) := by decide +kernel
theorem d_Mod_passOn_42 : dec m_Mod_passOn 42 = .ok (.aload_n 0, 1) := by decide +kernel
theorem d_Mod_passOn_43 : dec m_Mod_passOn 43 = .ok (.getfield 82, 3) := by decide +kernel
theorem d_Mod_passOn_46 : dec m_Mod_passOn 46 = .ok (.iload_n 1, 1) := by decide +kernel
theorem d_Mod_passOn_47 : dec m_Mod_passOn 47 = .ok (.iaload, 1) := by decide +kernel
theorem d_Mod_passOn_48 : dec m_Mod_passOn 48 = .ok (.aload_n 0, 1) := by decide +kernel
theorem d_Mod_passOn_49 : dec m_Mod_passOn 49 = .ok (.getfield 88, 3) := by decide +kernel
theorem d_Mod_passOn_52 : dec m_Mod_passOn 52 = .ok (.iload_n 1, 1) := by decide +kernel
theorem d_Mod_passOn_53 : dec m_Mod_passOn 53 = .ok (.iaload, 1) := by decide +kernel
theorem d_Mod_passOn_54 : dec m_Mod_passOn 54 = .ok (.aload_n 0, 1) := by decide +kernel
theorem d_Mod_passOn_55 : dec m_Mod_passOn 55 = .ok (.getfield 22, 3) := by decide +kernel
theorem d_Mod_passOn_58 : dec m_Mod_passOn 58 = .ok (.iload_n 2, 1) := by decide +kernel
theorem d_Mod_passOn_59 : dec m_Mod_passOn 59 = .ok (.iaload, 1) := by decide +kernel
theorem d_Mod_passOn_60 : dec m_Mod_passOn 60 = .ok (.imul, 1) := by decide +kernel
theorem d_Mod_passOn_61 : dec m_Mod_passOn 61 = .ok (.isub, 1) := by decide +kernel
theorem d_Mod_passOn_62 : dec m_Mod_passOn 62 = .ok (.iastore, 1) := by decide +kernel
theorem d_Mod_passOn_63 : dec m_Mod_passOn 63 = .ok (.aload_n 0, 1) := by decide +kernel
theorem d_Mod_passOn_64 : dec m_Mod_passOn 64 = .ok (.getfield 85, 3) := by decide +kernel
theorem d_Mod_passOn_67 : dec m_Mod_passOn 67 = .ok (.iload_n 1, 1) := by decide +kernel
theorem d_Mod_passOn_68 : dec m_Mod_passOn 68 = .ok (.iconst 1, 1) := by decide +kernel
theorem d_Mod_passOn_69 : dec m_Mod_passOn 69 = .ok (.iadd, 1) := by decide +kernel
theorem d_Mod_passOn_70 : dec m_Mod_passOn 70 = .ok (.aload_n 0, 1) := by decide +kernel
theorem d_Mod_passOn_71 : dec m_Mod_passOn 71 = .ok (.getfield 85, 3) := by decide +kernel
theorem d_Mod_passOn_74 : dec m_Mod_passOn 74 = .ok (.iload_n 1, 1) := by decide +kernel
theorem d_Mod_passOn_75 : dec m_Mod_passOn 75 = .ok (.iaload, 1) := by decide +kernel
theorem d_Mod_passOn_76 : dec m_Mod_passOn 76 = .ok (.aload_n 0, 1) := by decide +kernel
theorem d_Mod_passOn_77 : dec m_Mod_passOn 77 = .ok (.getfield 88, 3) := by decide +kernel
theorem d_Mod_passOn_80 : dec m_Mod_passOn 80 = .ok (.iload_n 1, 1) := by decide +kernel
theorem d_Mod_passOn_81 : dec m_Mod_passOn 81 = .ok (.iaload, 1) := by decide +kernel
theorem d_Mod_passOn_82 : dec m_Mod_passOn 82 = .ok (.aload_n 0, 1) := by decide +kernel
theorem d_Mod_passOn_83 : dec m_Mod_passOn 83 = .ok (.getfield 25, 3) := by decide +kernel
theorem d_Mod_passOn_86 : dec m_Mod_passOn 86 = .ok (.iload_n 2, 1) := by decide +kernel
theorem d_Mod_passOn_87 : dec m_Mod_passOn 87 = .ok (.iaload, 1) := by decide +kernel
theorem d_Mod_passOn_88 : dec m_Mod_passOn 88 = .ok (.imul, 1) := by decide +kernel
theorem d_Mod_passOn_89 : dec m_Mod_passOn 89 = .ok (.isub, 1) := by decide +kernel
theorem d_Mod_passOn_90 : dec m_Mod_passOn 90 = .ok (.iastore, 1) := by decide +kernel
theorem d_Mod_passOn_91 : dec m_Mod_passOn 91 = .ok (.return_, 1) := by decide +kernel
theorem d_Mod_note_0 : dec m_Mod_note 0 = .ok (.iconst 0, 1) := by decide +kernel
theorem d_Mod_note_1 : dec m_Mod_note 1 = .ok (.istore_n 2, 1) := by decide +kernel
theorem d_Mod_note_2 : dec m_Mod_note 2 = .ok (.iload_n 2, 1) := by decide +kernel
theorem d_Mod_note_3 : dec m_Mod_note 3 = .ok (.bipush 7, 2) := by decide +kernel
theorem d_Mod_note_5 : dec m_Mod_note 5 = .ok (.if_icmp .ge 38, 3) := by decide +kernel
theorem d_Mod_note_8 : dec m_Mod_note 8 = .ok (.aload_n 0, 1) := by decide +kernel
theorem d_Mod_note_9 : dec m_Mod_note 9 = .ok (.getfield 76, 3) := by decide +kernel
theorem d_Mod_note_12 : dec m_Mod_note 12 = .ok (.bipush 7, 2) := by decide +kernel
theorem d_Mod_note_14 : dec m_Mod_note 14 = .ok (.aload_n 0, 1) := by decide +kernel
theorem d_Mod_note_15 : dec m_Mod_note 15 = .ok (.getfield 301, 3) := by decide +kernel
theorem d_Mod_note_18 : dec m_Mod_note 18 = .ok (.imul, 1) := by decide +kernel
theorem d_Mod_note_19 : dec m_Mod_note 19 = .ok (.iload_n 2, 1) := by decide +kernel
theorem d_Mod_note_20 : dec m_Mod_note 20 = .ok (.iadd, 1) := by decide +kernel
theorem d_Mod_note_21 : dec m_Mod_note 21 = .ok (.iload_n 2, 1) := by decide +kernel
theorem d_Mod_note_22 : dec m_Mod_note 22 = .ok (.iload_n 1, 1) := by decide +kernel
theorem d_Mod_note_23 : dec m_Mod_note 23 = .ok (.if_icmp .ge 12, 3) := by decide +kernel
theorem d_Mod_note_26 : dec m_Mod_note 26 = .ok (.aload_n 0, 1) := by decide +kernel
theorem d_Mod_note_27 : dec m_Mod_note 27 = .ok (.getfield 88, 3) := by decide +kernel
theorem d_Mod_note_30 : dec m_Mod_note 30 = .ok (.iload_n 2, 1) := by decide +kernel
theorem d_Mod_note_31 : dec m_Mod_note 31 = .ok (.iaload, 1) := by decide +kernel
theorem d_Mod_note_32 : dec m_Mod_note 32 = .ok (.goto 4, 3) := by decide +kernel
theorem d_Mod_note_35 : dec m_Mod_note 35 = .ok (.iconst 0, 1) := by decide +kernel
theorem d_Mod_note_36 : dec m_Mod_note 36 = .ok (.iastore, 1) := by decide +kernel
theorem d_Mod_note_37 : dec m_Mod_note 37 = .ok (.iinc 2 1, 3) := by decide +kernel
theorem d_Mod_note_40 : dec m_Mod_note 40 = .ok (.goto (-38), 3) := by decide +kernel
theorem d_Mod_note_43 : dec m_Mod_note 43 = .ok (.aload_n 0, 1) := by decide +kernel
theorem d_Mod_note_44 : dec m_Mod_note 44 = .ok (.dup, 1) := by decide +kernel
theorem d_Mod_note_45 : dec m_Mod_note 45 = .ok (.getfield 301, 3) := by decide +kernel
theorem d_Mod_note_48 : dec m_Mod_note 48 = .ok (.iconst 1, 1) := by decide +kernel
theorem d_Mod_note_49 : dec m_Mod_note 49 = .ok (.iadd, 1) := by decide +kernel
theorem d_Mod_note_50 : dec m_Mod_note 50 = .ok (.putfield 301, 3) := by decide +kernel
theorem d_Mod_note_53 : dec m_Mod_note 53 = .ok (.return_, 1) := by decide +kernel
theorem d_Mod_layRows_0 : dec m_Mod_layRows 0 = .ok (.aload_n 0, 1) := by decide +kernel
theorem d_Mod_layRows_1 : dec m_Mod_layRows 1 = .ok (.iload_n 1, 1) := by decide +kernel
theorem d_Mod_layRows_2 : dec m_Mod_layRows 2 = .ok (.iload_n 2, 1) := by decide +kernel
theorem d_Mod_layRows_3 : dec m_Mod_layRows 3 = .ok (.sipush 128, 3) := by decide +kernel
theorem d_Mod_layRows_6 : dec m_Mod_layRows 6 = .ok (.invokevirtual 315, 3) := by decide +kernel
theorem d_Mod_layRows_9 : dec m_Mod_layRows 9 = .ok (.return_, 1) := by decide +kernel
theorem d_Mod_layRowsTo_0 : dec m_Mod_layRowsTo 0 = .ok (.aload_n 0, 1) := by decide +kernel
theorem d_Mod_layRowsTo_1 : dec m_Mod_layRowsTo 1 = .ok (.iconst 0, 1) := by decide +kernel
theorem d_Mod_layRowsTo_2 : dec m_Mod_layRowsTo 2 = .ok (.putfield 301, 3) := by decide +kernel
theorem d_Mod_layRowsTo_5 : dec m_Mod_layRowsTo 5 = .ok (.aload_n 0, 1) := by decide +kernel
theorem d_Mod_layRowsTo_6 : dec m_Mod_layRowsTo 6 = .ok (.getfield 79, 3) := by decide +kernel
theorem d_Mod_layRowsTo_9 : dec m_Mod_layRowsTo 9 = .ok (.iconst 0, 1) := by decide +kernel
theorem d_Mod_layRowsTo_10 : dec m_Mod_layRowsTo 10 = .ok (.aload_n 0, 1) := by decide +kernel
theorem d_Mod_layRowsTo_11 : dec m_Mod_layRowsTo 11 = .ok (.getfield 18, 3) := by decide +kernel
theorem d_Mod_layRowsTo_14 : dec m_Mod_layRowsTo 14 = .ok (.iload_n 1, 1) := by decide +kernel
theorem d_Mod_layRowsTo_15 : dec m_Mod_layRowsTo 15 = .ok (.iaload, 1) := by decide +kernel
theorem d_Mod_layRowsTo_16 : dec m_Mod_layRowsTo 16 = .ok (.iastore, 1) := by decide +kernel
theorem d_Mod_layRowsTo_17 : dec m_Mod_layRowsTo 17 = .ok (.aload_n 0, 1) := by decide +kernel
theorem d_Mod_layRowsTo_18 : dec m_Mod_layRowsTo 18 = .ok (.getfield 82, 3) := by decide +kernel
theorem d_Mod_layRowsTo_21 : dec m_Mod_layRowsTo 21 = .ok (.iconst 0, 1) := by decide +kernel
theorem d_Mod_layRowsTo_22 : dec m_Mod_layRowsTo 22 = .ok (.aload_n 0, 1) := by decide +kernel
theorem d_Mod_layRowsTo_23 : dec m_Mod_layRowsTo 23 = .ok (.getfield 22, 3) := by decide +kernel
theorem d_Mod_layRowsTo_26 : dec m_Mod_layRowsTo 26 = .ok (.iload_n 1, 1) := by decide +kernel
theorem d_Mod_layRowsTo_27 : dec m_Mod_layRowsTo 27 = .ok (.iaload, 1) := by decide +kernel
theorem d_Mod_layRowsTo_28 : dec m_Mod_layRowsTo 28 = .ok (.iastore, 1) := by decide +kernel
theorem d_Mod_layRowsTo_29 : dec m_Mod_layRowsTo 29 = .ok (.aload_n 0, 1) := by decide +kernel
theorem d_Mod_layRowsTo_30 : dec m_Mod_layRowsTo 30 = .ok (.getfield 85, 3) := by decide +kernel
theorem d_Mod_layRowsTo_33 : dec m_Mod_layRowsTo 33 = .ok (.iconst 0, 1) := by decide +kernel
theorem d_Mod_layRowsTo_34 : dec m_Mod_layRowsTo 34 = .ok (.aload_n 0, 1) := by decide +kernel
theorem d_Mod_layRowsTo_35 : dec m_Mod_layRowsTo 35 = .ok (.getfield 25, 3) := by decide +kernel
theorem d_Mod_layRowsTo_38 : dec m_Mod_layRowsTo 38 = .ok (.iload_n 1, 1) := by decide +kernel
theorem d_Mod_layRowsTo_39 : dec m_Mod_layRowsTo 39 = .ok (.iaload, 1) := by decide +kernel
theorem d_Mod_layRowsTo_40 : dec m_Mod_layRowsTo 40 = .ok (.iastore, 1) := by decide +kernel
theorem d_Mod_layRowsTo_41 : dec m_Mod_layRowsTo 41 = .ok (.iload_n 2, 1) := by decide +kernel
theorem d_Mod_layRowsTo_42 : dec m_Mod_layRowsTo 42 = .ok (.ifCond .ne 13, 3) := by decide +kernel
theorem d_Mod_layRowsTo_45 : dec m_Mod_layRowsTo 45 = .ok (.iload_n 1, 1) := by decide +kernel
theorem d_Mod_layRowsTo_46 : dec m_Mod_layRowsTo 46 = .ok (.ifCond .ne 8, 3) := by decide +kernel
theorem d_Mod_layRowsTo_49 : dec m_Mod_layRowsTo 49 = .ok (.aload_n 0, 1) := by decide +kernel
theorem d_Mod_layRowsTo_50 : dec m_Mod_layRowsTo 50 = .ok (.iconst 0, 1) := by decide +kernel
theorem d_Mod_layRowsTo_51 : dec m_Mod_layRowsTo 51 = .ok (.invokevirtual 318, 3) := by decide +kernel
theorem d_Mod_layRowsTo_54 : dec m_Mod_layRowsTo 54 = .ok (.return_, 1) := by decide +kernel
theorem d_Mod_layRowsTo_55 : dec m_Mod_layRowsTo 55 = .ok (.iconst 0, 1) := by decide +kernel
theorem d_Mod_layRowsTo_56 : dec m_Mod_layRowsTo 56 = .ok (.istore 4, 2) := by decide +kernel
theorem d_Mod_layRowsTo_58 : dec m_Mod_layRowsTo 58 = .ok (.aload_n 0, 1) := by decide +kernel
theorem d_Mod_layRowsTo_59 : dec m_Mod_layRowsTo 59 = .ok (.getfield 88, 3) := by decide +kernel
theorem d_Mod_layRowsTo_62 : dec m_Mod_layRowsTo 62 = .ok (.iconst 0, 1) := by decide +kernel
theorem d_Mod_layRowsTo_63 : dec m_Mod_layRowsTo 63 = .ok (.aload_n 0, 1) := by decide +kernel
theorem d_Mod_layRowsTo_64 : dec m_Mod_layRowsTo 64 = .ok (.iconst 0, 1) := by decide +kernel
theorem d_Mod_layRowsTo_65 : dec m_Mod_layRowsTo 65 = .ok (.invokevirtual 321, 3) := by decide +kernel
theorem d_Mod_layRowsTo_68 : dec m_Mod_layRowsTo 68 = .ok (.iconst 1, 1) := by decide +kernel
theorem d_Mod_layRowsTo_69 : dec m_Mod_layRowsTo 69 = .ok (.iadd, 1) := by decide +kernel
theorem d_Mod_layRowsTo_70 : dec m_Mod_layRowsTo 70 = .ok (.iastore, 1) := by decide +kernel
theorem d_Mod_layRowsTo_71 : dec m_Mod_layRowsTo 71 = .ok (.iload 4, 2) := by decide +kernel
theorem d_Mod_layRowsTo_73 : dec m_Mod_layRowsTo 73 = .ok (.ifCond .lt 104, 3) := by decide +kernel
theorem d_Mod_layRowsTo_76 : dec m_Mod_layRowsTo 76 = .ok (.aload_n 0, 1) := by decide +kernel
theorem d_Mod_layRowsTo_77 : dec m_Mod_layRowsTo 77 = .ok (.getfield 301, 3) := by decide +kernel
theorem d_Mod_layRowsTo_80 : dec m_Mod_layRowsTo 80 = .ok (.iload_n 3, 1) := by decide +kernel
theorem d_Mod_layRowsTo_81 : dec m_Mod_layRowsTo 81 = .ok (.if_icmp .ge 96, 3) := by decide +kernel
theorem d_Mod_layRowsTo_84 : dec m_Mod_layRowsTo 84 = .ok (.aload_n 0, 1) := by decide +kernel
theorem d_Mod_layRowsTo_85 : dec m_Mod_layRowsTo 85 = .ok (.getfield 88, 3) := by decide +kernel
theorem d_Mod_layRowsTo_88 : dec m_Mod_layRowsTo 88 = .ok (.iload 4, 2) := by decide +kernel
theorem d_Mod_layRowsTo_90 : dec m_Mod_layRowsTo 90 = .ok (.dup2, 1) := by decide +kernel
theorem d_Mod_layRowsTo_91 : dec m_Mod_layRowsTo 91 = .ok (.iaload, 1) := by decide +kernel
theorem d_Mod_layRowsTo_92 : dec m_Mod_layRowsTo 92 = .ok (.iconst 1, 1) := by decide +kernel
theorem d_Mod_layRowsTo_93 : dec m_Mod_layRowsTo 93 = .ok (.isub, 1) := by decide +kernel
theorem d_Mod_layRowsTo_94 : dec m_Mod_layRowsTo 94 = .ok (.iastore, 1) := by decide +kernel
theorem d_Mod_layRowsTo_95 : dec m_Mod_layRowsTo 95 = .ok (.aload_n 0, 1) := by decide +kernel
theorem d_Mod_layRowsTo_96 : dec m_Mod_layRowsTo 96 = .ok (.getfield 88, 3) := by decide +kernel
theorem d_Mod_layRowsTo_99 : dec m_Mod_layRowsTo 99 = .ok (.iload 4, 2) := by decide +kernel
theorem d_Mod_layRowsTo_101 : dec m_Mod_layRowsTo 101 = .ok (.iaload, 1) := by decide +kernel
theorem d_Mod_layRowsTo_102 : dec m_Mod_layRowsTo 102 = .ok (.ifCond .ge 9, 3) := by decide +kernel
theorem d_Mod_layRowsTo_105 : dec m_Mod_layRowsTo 105 = .ok (.iinc 4 (-1), 3) := by decide +kernel
theorem d_Mod_layRowsTo_108 : dec m_Mod_layRowsTo 108 = .ok (.goto (-37), 3) := by decide +kernel
theorem d_Mod_layRowsTo_111 : dec m_Mod_layRowsTo 111 = .ok (.aload_n 0, 1) := by decide +kernel
theorem d_Mod_layRowsTo_112 : dec m_Mod_layRowsTo 112 = .ok (.iload 4, 2) := by decide +kernel
theorem d_Mod_layRowsTo_114 : dec m_Mod_layRowsTo 114 = .ok (.invokevirtual 324, 3) := by decide +kernel
theorem d_Mod_layRowsTo_117 : dec m_Mod_layRowsTo 117 = .ok (.iload 4, 2) := by decide +kernel
theorem d_Mod_layRowsTo_119 : dec m_Mod_layRowsTo 119 = .ok (.iload_n 2, 1) := by decide +kernel
theorem d_Mod_layRowsTo_120 : dec m_Mod_layRowsTo 120 = .ok (.iconst 1, 1) := by decide +kernel
theorem d_Mod_layRowsTo_121 : dec m_Mod_layRowsTo 121 = .ok (.isub, 1) := by decide +kernel
theorem d_Mod_layRowsTo_122 : dec m_Mod_layRowsTo 122 = .ok (.if_icmp .ge 24, 3) := by decide +kernel
theorem d_Mod_layRowsTo_125 : dec m_Mod_layRowsTo 125 = .ok (.iinc 4 1, 3) := by decide +kernel
theorem d_Mod_layRowsTo_128 : dec m_Mod_layRowsTo 128 = .ok (.aload_n 0, 1) := by decide +kernel
theorem d_Mod_layRowsTo_129 : dec m_Mod_layRowsTo 129 = .ok (.getfield 88, 3) := by decide +kernel
theorem d_Mod_layRowsTo_132 : dec m_Mod_layRowsTo 132 = .ok (.iload 4, 2) := by decide +kernel
theorem d_Mod_layRowsTo_134 : dec m_Mod_layRowsTo 134 = .ok (.aload_n 0, 1) := by decide +kernel
theorem d_Mod_layRowsTo_135 : dec m_Mod_layRowsTo 135 = .ok (.iload 4, 2) := by decide +kernel
theorem d_Mod_layRowsTo_137 : dec m_Mod_layRowsTo 137 = .ok (.invokevirtual 321, 3) := by decide +kernel
theorem d_Mod_layRowsTo_140 : dec m_Mod_layRowsTo 140 = .ok (.iconst 1, 1) := by decide +kernel
theorem d_Mod_layRowsTo_141 : dec m_Mod_layRowsTo 141 = .ok (.iadd, 1) := by decide +kernel
theorem d_Mod_layRowsTo_142 : dec m_Mod_layRowsTo 142 = .ok (.iastore, 1) := by decide +kernel
theorem d_Mod_layRowsTo_143 : dec m_Mod_layRowsTo 143 = .ok (.goto (-72), 3) := by decide +kernel
theorem d_Mod_layRowsTo_146 : dec m_Mod_layRowsTo 146 = .ok (.aload_n 0, 1) := by decide +kernel
theorem d_Mod_layRowsTo_147 : dec m_Mod_layRowsTo 147 = .ok (.getfield 79, 3) := by decide +kernel
theorem d_Mod_layRowsTo_150 : dec m_Mod_layRowsTo 150 = .ok (.iload_n 2, 1) := by decide +kernel
theorem d_Mod_layRowsTo_151 : dec m_Mod_layRowsTo 151 = .ok (.iaload, 1) := by decide +kernel
theorem d_Mod_layRowsTo_152 : dec m_Mod_layRowsTo 152 = .ok (.aload_n 0, 1) := by decide +kernel
theorem d_Mod_layRowsTo_153 : dec m_Mod_layRowsTo 153 = .ok (.getfield 82, 3) := by decide +kernel
theorem d_Mod_layRowsTo_156 : dec m_Mod_layRowsTo 156 = .ok (.iload_n 2, 1) := by decide +kernel
theorem d_Mod_layRowsTo_157 : dec m_Mod_layRowsTo 157 = .ok (.iaload, 1) := by decide +kernel
theorem d_Mod_layRowsTo_158 : dec m_Mod_layRowsTo 158 = .ok (.iadd, 1) := by decide +kernel
theorem d_Mod_layRowsTo_159 : dec m_Mod_layRowsTo 159 = .ok (.aload_n 0, 1) := by decide +kernel
theorem d_Mod_layRowsTo_160 : dec m_Mod_layRowsTo 160 = .ok (.getfield 85, 3) := by decide +kernel
theorem d_Mod_layRowsTo_163 : dec m_Mod_layRowsTo 163 = .ok (.iload_n 2, 1) := by decide +kernel
theorem d_Mod_layRowsTo_164 : dec m_Mod_layRowsTo 164 = .ok (.iaload, 1) := by decide +kernel
theorem d_Mod_layRowsTo_165 : dec m_Mod_layRowsTo 165 = .ok (.iadd, 1) := by decide +kernel
theorem d_Mod_layRowsTo_166 : dec m_Mod_layRowsTo 166 = .ok (.ifCond .ne (-95), 3) := by decide +kernel
theorem d_Mod_layRowsTo_169 : dec m_Mod_layRowsTo 169 = .ok (.aload_n 0, 1) := by decide +kernel
theorem d_Mod_layRowsTo_170 : dec m_Mod_layRowsTo 170 = .ok (.iload_n 2, 1) := by decide +kernel
theorem d_Mod_layRowsTo_171 : dec m_Mod_layRowsTo 171 = .ok (.invokevirtual 318, 3) := by decide +kernel
theorem d_Mod_layRowsTo_174 : dec m_Mod_layRowsTo 174 = .ok (.goto (-103), 3) := by decide +kernel
theorem d_Mod_layRowsTo_177 : dec m_Mod_layRowsTo 177 = .ok (.return_, 1) := by decide +kernel
theorem d_Mod_rows_0 : dec m_Mod_rows 0 = .ok (.iload_n 1, 1) := by decide +kernel
theorem d_Mod_rows_1 : dec m_Mod_rows 1 = .ok (.iload_n 2, 1) := by decide +kernel
theorem d_Mod_rows_2 : dec m_Mod_rows 2 = .ok (.iload_n 3, 1) := by decide +kernel
theorem d_Mod_rows_3 : dec m_Mod_rows 3 = .ok (.invokestatic 190, 3) := by decide +kernel
theorem d_Mod_rows_6 : dec m_Mod_rows 6 = .ok (.ifCond .ne 5, 3) := by decide +kernel
theorem d_Mod_rows_9 : dec m_Mod_rows 9 = .ok (.iconst (-1), 1) := by decide +kernel
theorem d_Mod_rows_10 : dec m_Mod_rows 10 = .ok (.ireturn, 1) := by decide +kernel
theorem d_Mod_rows_11 : dec m_Mod_rows 11 = .ok (.aload_n 0, 1) := by decide +kernel
theorem d_Mod_rows_12 : dec m_Mod_rows 12 = .ok (.aload_n 0, 1) := by decide +kernel
theorem d_Mod_rows_13 : dec m_Mod_rows 13 = .ok (.iload_n 1, 1) := by decide +kernel
theorem d_Mod_rows_14 : dec m_Mod_rows 14 = .ok (.iload_n 2, 1) := by decide +kernel
theorem d_Mod_rows_15 : dec m_Mod_rows 15 = .ok (.iload_n 3, 1) := by decide +kernel
theorem d_Mod_rows_16 : dec m_Mod_rows 16 = .ok (.invokevirtual 176, 3) := by decide +kernel
theorem d_Mod_rows_19 : dec m_Mod_rows 19 = .ok (.aload_n 0, 1) := by decide +kernel
theorem d_Mod_rows_20 : dec m_Mod_rows 20 = .ok (.getfield 133, 3) := by decide +kernel
theorem d_Mod_rows_23 : dec m_Mod_rows 23 = .ok (.invokevirtual 298, 3) := by decide +kernel
theorem d_Mod_rows_26 : dec m_Mod_rows 26 = .ok (.aload_n 0, 1) := by decide +kernel
theorem d_Mod_rows_27 : dec m_Mod_rows 27 = .ok (.getfield 301, 3) := by decide +kernel
theorem d_Mod_rows_30 : dec m_Mod_rows 30 = .ok (.ireturn, 1) := by decide +kernel
theorem d_Mod_row_0 : dec m_Mod_row 0 = .ok (.iload_n 1, 1) := by decide +kernel
theorem d_Mod_row_1 : dec m_Mod_row 1 = .ok (.iload_n 2, 1) := by decide +kernel
theorem d_Mod_row_2 : dec m_Mod_row 2 = .ok (.iload_n 3, 1) := by decide +kernel
theorem d_Mod_row_3 : dec m_Mod_row 3 = .ok (.invokestatic 190, 3) := by decide +kernel
theorem d_Mod_row_6 : dec m_Mod_row 6 = .ok (.ifCond .eq 12, 3) := by decide +kernel
theorem d_Mod_row_9 : dec m_Mod_row 9 = .ok (.aload_n 0, 1) := by decide +kernel
theorem d_Mod_row_10 : dec m_Mod_row 10 = .ok (.iload 5, 2) := by decide +kernel
theorem d_Mod_row_12 : dec m_Mod_row 12 = .ok (.invokevirtual 287, 3) := by decide +kernel
theorem d_Mod_row_15 : dec m_Mod_row 15 = .ok (.ifCond .ne 5, 3) := by decide +kernel
theorem d_Mod_row_18 : dec m_Mod_row 18 = .ok (.iconst (-1), 1) := by decide +kernel
theorem d_Mod_row_19 : dec m_Mod_row 19 = .ok (.ireturn, 1) := by decide +kernel
theorem d_Mod_row_20 : dec m_Mod_row 20 = .ok (.aload_n 0, 1) := by decide +kernel
theorem d_Mod_row_21 : dec m_Mod_row 21 = .ok (.aload_n 0, 1) := by decide +kernel
theorem d_Mod_row_22 : dec m_Mod_row 22 = .ok (.iload_n 1, 1) := by decide +kernel
theorem d_Mod_row_23 : dec m_Mod_row 23 = .ok (.iload_n 2, 1) := by decide +kernel
theorem d_Mod_row_24 : dec m_Mod_row 24 = .ok (.iload_n 3, 1) := by decide +kernel
theorem d_Mod_row_25 : dec m_Mod_row 25 = .ok (.invokevirtual 176, 3) := by decide +kernel
theorem d_Mod_row_28 : dec m_Mod_row 28 = .ok (.aload_n 0, 1) := by decide +kernel
theorem d_Mod_row_29 : dec m_Mod_row 29 = .ok (.getfield 133, 3) := by decide +kernel
theorem d_Mod_row_32 : dec m_Mod_row 32 = .ok (.invokevirtual 298, 3) := by decide +kernel
theorem d_Mod_row_35 : dec m_Mod_row 35 = .ok (.iload 4, 2) := by decide +kernel
theorem d_Mod_row_37 : dec m_Mod_row 37 = .ok (.i2l, 1) := by decide +kernel
theorem d_Mod_row_38 : dec m_Mod_row 38 = .ok (.lconst 0, 1) := by decide +kernel
theorem d_Mod_row_39 : dec m_Mod_row 39 = .ok (.aload_n 0, 1) := by decide +kernel
theorem d_Mod_row_40 : dec m_Mod_row 40 = .ok (.getfield 301, 3) := by decide +kernel
theorem d_Mod_row_43 : dec m_Mod_row 43 = .ok (.iconst 1, 1) := by decide +kernel
theorem d_Mod_row_44 : dec m_Mod_row 44 = .ok (.isub, 1) := by decide +kernel
theorem d_Mod_row_45 : dec m_Mod_row 45 = .ok (.i2l, 1) := by decide +kernel
theorem d_Mod_row_46 : dec m_Mod_row 46 = .ok (.invokestatic 139, 3) := by decide +kernel
theorem d_Mod_row_49 : dec m_Mod_row 49 = .ok (.ifCond .eq 19, 3) := by decide +kernel
theorem d_Mod_row_52 : dec m_Mod_row 52 = .ok (.aload_n 0, 1) := by decide +kernel
theorem d_Mod_row_53 : dec m_Mod_row 53 = .ok (.getfield 76, 3) := by decide +kernel
theorem d_Mod_row_56 : dec m_Mod_row 56 = .ok (.bipush 7, 2) := by decide +kernel
theorem d_Mod_row_58 : dec m_Mod_row 58 = .ok (.iload 4, 2) := by decide +kernel
theorem d_Mod_row_60 : dec m_Mod_row 60 = .ok (.imul, 1) := by decide +kernel
theorem d_Mod_row_61 : dec m_Mod_row 61 = .ok (.iload 5, 2) := by decide +kernel
theorem d_Mod_row_63 : dec m_Mod_row 63 = .ok (.iadd, 1) := by decide +kernel
theorem d_Mod_row_64 : dec m_Mod_row 64 = .ok (.iaload, 1) := by decide +kernel
theorem d_Mod_row_65 : dec m_Mod_row 65 = .ok (.goto 5, 3) := by decide +kernel
theorem d_Mod_row_68 : dec m_Mod_row 68 = .ok (.bipush (-2), 2) := by decide +kernel
theorem d_Mod_row_70 : dec m_Mod_row 70 = .ok (.ireturn, 1) := by decide +kernel
theorem d_Mod_monoid_0 : dec m_Mod_monoid 0 = .ok (.iload_n 1, 1) := by decide +kernel
theorem d_Mod_monoid_1 : dec m_Mod_monoid 1 = .ok (.i2l, 1) := by decide +kernel
theorem d_Mod_monoid_2 : dec m_Mod_monoid 2 = .ok (.lconst 0, 1) := by decide +kernel
theorem d_Mod_monoid_3 : dec m_Mod_monoid 3 = .ok (.ldc2_w 137, 3) := by decide +kernel
theorem d_Mod_monoid_6 : dec m_Mod_monoid 6 = .ok (.invokestatic 139, 3) := by decide +kernel
theorem d_Mod_monoid_9 : dec m_Mod_monoid 9 = .ok (.ifCond .eq 15, 3) := by decide +kernel
theorem d_Mod_monoid_12 : dec m_Mod_monoid 12 = .ok (.iload_n 2, 1) := by decide +kernel
theorem d_Mod_monoid_13 : dec m_Mod_monoid 13 = .ok (.i2l, 1) := by decide +kernel
theorem d_Mod_monoid_14 : dec m_Mod_monoid 14 = .ok (.lconst 0, 1) := by decide +kernel
theorem d_Mod_monoid_15 : dec m_Mod_monoid 15 = .ok (.ldc2_w 180, 3) := by decide +kernel
theorem d_Mod_monoid_18 : dec m_Mod_monoid 18 = .ok (.invokestatic 139, 3) := by decide +kernel
theorem d_Mod_monoid_21 : dec m_Mod_monoid 21 = .ok (.ifCond .ne 5, 3) := by decide +kernel
theorem d_Mod_monoid_24 : dec m_Mod_monoid 24 = .ok (.iconst (-1), 1) := by decide +kernel
theorem d_Mod_monoid_25 : dec m_Mod_monoid 25 = .ok (.ireturn, 1) := by decide +kernel
theorem d_Mod_monoid_26 : dec m_Mod_monoid 26 = .ok (.iconst 0, 1) := by decide +kernel
theorem d_Mod_monoid_27 : dec m_Mod_monoid 27 = .ok (.istore_n 3, 1) := by decide +kernel
theorem d_Mod_monoid_28 : dec m_Mod_monoid 28 = .ok (.iconst 0, 1) := by decide +kernel
theorem d_Mod_monoid_29 : dec m_Mod_monoid 29 = .ok (.istore 4, 2) := by decide +kernel
theorem d_Mod_monoid_31 : dec m_Mod_monoid 31 = .ok (.iconst 0, 1) := by decide +kernel
theorem d_Mod_monoid_32 : dec m_Mod_monoid 32 = .ok (.istore 5, 2) := by decide +kernel
theorem d_Mod_monoid_34 : dec m_Mod_monoid 34 = .ok (.iconst 0, 1) := by decide +kernel
theorem d_Mod_monoid_35 : dec m_Mod_monoid 35 = .ok (.istore 6, 2) := by decide +kernel
theorem d_Mod_monoid_37 : dec m_Mod_monoid 37 = .ok (.iload 6, 2) := by decide +kernel
theorem d_Mod_monoid_39 : dec m_Mod_monoid 39 = .ok (.bipush 84, 2) := by decide +kernel
theorem d_Mod_monoid_41 : dec m_Mod_monoid 41 = .ok (.if_icmp .ge 70, 3) := by decide +kernel
theorem d_Mod_monoid_44 : dec m_Mod_monoid 44 = .ok (.aload_n 0, 1) := by decide +kernel
theorem d_Mod_monoid_45 : dec m_Mod_monoid 45 = .ok (.iload 6, 2) := by decide +kernel
theorem d_Mod_monoid_47 : dec m_Mod_monoid 47 = .ok (.invokevirtual 147, 3) := by decide +kernel
theorem d_Mod_monoid_50 : dec m_Mod_monoid 50 = .ok (.iload_n 1, 1) := by decide +kernel
theorem d_Mod_monoid_51 : dec m_Mod_monoid 51 = .ok (.if_icmp .ne 54, 3) := by decide +kernel
theorem d_Mod_monoid_54 : dec m_Mod_monoid 54 = .ok (.aload_n 0, 1) := by decide +kernel
theorem d_Mod_monoid_55 : dec m_Mod_monoid 55 = .ok (.iload 6, 2) := by decide +kernel
theorem d_Mod_monoid_57 : dec m_Mod_monoid 57 = .ok (.aload_n 0, 1) := by decide +kernel
theorem d_Mod_monoid_58 : dec m_Mod_monoid 58 = .ok (.getfield 133, 3) := by decide +kernel
theorem d_Mod_monoid_61 : dec m_Mod_monoid 61 = .ok (.invokevirtual 298, 3) := by decide +kernel
theorem d_Mod_monoid_64 : dec m_Mod_monoid 64 = .ok (.iload_n 3, 1) := by decide +kernel
theorem d_Mod_monoid_65 : dec m_Mod_monoid 65 = .ok (.aload_n 0, 1) := by decide +kernel
theorem d_Mod_monoid_66 : dec m_Mod_monoid 66 = .ok (.getfield 301, 3) := by decide +kernel
theorem d_Mod_monoid_69 : dec m_Mod_monoid 69 = .ok (.ifCond .le 7, 3) := by decide +kernel
theorem d_Mod_monoid_72 : dec m_Mod_monoid 72 = .ok (.iconst 1, 1) := by decide +kernel
theorem d_Mod_monoid_73 : dec m_Mod_monoid 73 = .ok (.goto 4, 3) := by decide +kernel
theorem d_Mod_monoid_76 : dec m_Mod_monoid 76 = .ok (.iconst 0, 1) := by decide +kernel
theorem d_Mod_monoid_77 : dec m_Mod_monoid 77 = .ok (.iadd, 1) := by decide +kernel
theorem d_Mod_monoid_78 : dec m_Mod_monoid 78 = .ok (.istore_n 3, 1) := by decide +kernel
theorem d_Mod_monoid_79 : dec m_Mod_monoid 79 = .ok (.iload 4, 2) := by decide +kernel
theorem d_Mod_monoid_81 : dec m_Mod_monoid 81 = .ok (.aload_n 0, 1) := by decide +kernel
theorem d_Mod_monoid_82 : dec m_Mod_monoid 82 = .ok (.getfield 301, 3) := by decide +kernel
theorem d_Mod_monoid_85 : dec m_Mod_monoid 85 = .ok (.ifCond .le 7, 3) := by decide +kernel
theorem d_Mod_monoid_88 : dec m_Mod_monoid 88 = .ok (.iconst 0, 1) := by decide +kernel
theorem d_Mod_monoid_89 : dec m_Mod_monoid 89 = .ok (.goto 4, 3) := by decide +kernel
theorem d_Mod_monoid_92 : dec m_Mod_monoid 92 = .ok (.iconst 1, 1) := by decide +kernel
theorem d_Mod_monoid_93 : dec m_Mod_monoid 93 = .ok (.iadd, 1) := by decide +kernel
theorem d_Mod_monoid_94 : dec m_Mod_monoid 94 = .ok (.istore 4, 2) := by decide +kernel
theorem d_Mod_monoid_96 : dec m_Mod_monoid 96 = .ok (.iload 5, 2) := by decide +kernel
theorem d_Mod_monoid_98 : dec m_Mod_monoid 98 = .ok (.aload_n 0, 1) := by decide +kernel
theorem d_Mod_monoid_99 : dec m_Mod_monoid 99 = .ok (.getfield 301, 3) := by decide +kernel
theorem d_Mod_monoid_102 : dec m_Mod_monoid 102 = .ok (.iadd, 1) := by decide +kernel
theorem d_Mod_monoid_103 : dec m_Mod_monoid 103 = .ok (.istore 5, 2) := by decide +kernel
theorem d_Mod_monoid_105 : dec m_Mod_monoid 105 = .ok (.iinc 6 1, 3) := by decide +kernel
theorem d_Mod_monoid_108 : dec m_Mod_monoid 108 = .ok (.goto (-71), 3) := by decide +kernel
theorem d_Mod_monoid_111 : dec m_Mod_monoid 111 = .ok (.iload_n 2, 1) := by decide +kernel
theorem d_Mod_monoid_112 : dec m_Mod_monoid 112 = .ok (.ifCond .ne 7, 3) := by decide +kernel
theorem d_Mod_monoid_115 : dec m_Mod_monoid 115 = .ok (.iload_n 3, 1) := by decide +kernel
theorem d_Mod_monoid_116 : dec m_Mod_monoid 116 = .ok (.goto 15, 3) := by decide +kernel
theorem d_Mod_monoid_119 : dec m_Mod_monoid 119 = .ok (.iload_n 2, 1) := by decide +kernel
theorem d_Mod_monoid_120 : dec m_Mod_monoid 120 = .ok (.iconst 1, 1) := by decide +kernel
theorem d_Mod_monoid_121 : dec m_Mod_monoid 121 = .ok (.if_icmp .ne 8, 3) := by decide +kernel
theorem d_Mod_monoid_124 : dec m_Mod_monoid 124 = .ok (.iload 4, 2) := by decide +kernel
theorem d_Mod_monoid_126 : dec m_Mod_monoid 126 = .ok (.goto 5, 3) := by decide +kernel
theorem d_Mod_monoid_129 : dec m_Mod_monoid 129 = .ok (.iload 5, 2) := by decide +kernel
theorem d_Mod_monoid_131 : dec m_Mod_monoid 131 = .ok (.ireturn, 1) := by decide +kernel
theorem d_Mod_root_0 : dec m_Mod_root 0 = .ok (.iload_n 1, 1) := by decide +kernel
theorem d_Mod_root_1 : dec m_Mod_root 1 = .ok (.iload_n 2, 1) := by decide +kernel
theorem d_Mod_root_2 : dec m_Mod_root 2 = .ok (.iload_n 3, 1) := by decide +kernel
theorem d_Mod_root_3 : dec m_Mod_root 3 = .ok (.invokestatic 190, 3) := by decide +kernel
theorem d_Mod_root_6 : dec m_Mod_root 6 = .ok (.ifCond .ne 5, 3) := by decide +kernel
theorem d_Mod_root_9 : dec m_Mod_root 9 = .ok (.iconst (-1), 1) := by decide +kernel
theorem d_Mod_root_10 : dec m_Mod_root 10 = .ok (.ireturn, 1) := by decide +kernel
theorem d_Mod_root_11 : dec m_Mod_root 11 = .ok (.iconst 1, 1) := by decide +kernel
theorem d_Mod_root_12 : dec m_Mod_root 12 = .ok (.istore 4, 2) := by decide +kernel
theorem d_Mod_root_14 : dec m_Mod_root 14 = .ok (.iload 4, 2) := by decide +kernel
theorem d_Mod_root_16 : dec m_Mod_root 16 = .ok (.bipush 6, 2) := by decide +kernel
theorem d_Mod_root_18 : dec m_Mod_root 18 = .ok (.if_icmp .gt 57, 3) := by decide +kernel
theorem d_Mod_root_21 : dec m_Mod_root 21 = .ok (.iload 4, 2) := by decide +kernel
theorem d_Mod_root_23 : dec m_Mod_root 23 = .ok (.iload_n 1, 1) := by decide +kernel
theorem d_Mod_root_24 : dec m_Mod_root 24 = .ok (.iload_n 2, 1) := by decide +kernel
theorem d_Mod_root_25 : dec m_Mod_root 25 = .ok (.iadd, 1) := by decide +kernel
theorem d_Mod_root_26 : dec m_Mod_root 26 = .ok (.iload_n 3, 1) := by decide +kernel
theorem d_Mod_root_27 : dec m_Mod_root 27 = .ok (.iadd, 1) := by decide +kernel
theorem d_Mod_root_28 : dec m_Mod_root 28 = .ok (.imul, 1) := by decide +kernel
theorem d_Mod_root_29 : dec m_Mod_root 29 = .ok (.bipush 6, 2) := by decide +kernel
theorem d_Mod_root_31 : dec m_Mod_root 31 = .ok (.if_icmp .gt 44, 3) := by decide +kernel
theorem d_Mod_root_34 : dec m_Mod_root 34 = .ok (.aload_n 0, 1) := by decide +kernel
theorem d_Mod_root_35 : dec m_Mod_root 35 = .ok (.aload_n 0, 1) := by decide +kernel
theorem d_Mod_root_36 : dec m_Mod_root 36 = .ok (.iload 4, 2) := by decide +kernel
theorem d_Mod_root_38 : dec m_Mod_root 38 = .ok (.iload_n 1, 1) := by decide +kernel
theorem d_Mod_root_39 : dec m_Mod_root 39 = .ok (.imul, 1) := by decide +kernel
theorem d_Mod_root_40 : dec m_Mod_root 40 = .ok (.iload 4, 2) := by decide +kernel
theorem d_Mod_root_42 : dec m_Mod_root 42 = .ok (.iload_n 2, 1) := by decide +kernel
theorem d_Mod_root_43 : dec m_Mod_root 43 = .ok (.imul, 1) := by decide +kernel
theorem d_Mod_root_44 : dec m_Mod_root 44 = .ok (.iload 4, 2) := by decide +kernel
theorem d_Mod_root_46 : dec m_Mod_root 46 = .ok (.iload_n 3, 1) := by decide +kernel
theorem d_Mod_root_47 : dec m_Mod_root 47 = .ok (.imul, 1) := by decide +kernel
theorem d_Mod_root_48 : dec m_Mod_root 48 = .ok (.invokevirtual 176, 3) := by decide +kernel
theorem d_Mod_root_51 : dec m_Mod_root 51 = .ok (.aload_n 0, 1) := by decide +kernel
theorem d_Mod_root_52 : dec m_Mod_root 52 = .ok (.getfield 133, 3) := by decide +kernel
theorem d_Mod_root_55 : dec m_Mod_root 55 = .ok (.iconst 1, 1) := by decide +kernel
theorem d_Mod_root_56 : dec m_Mod_root 56 = .ok (.invokevirtual 315, 3) := by decide +kernel
theorem d_Mod_root_59 : dec m_Mod_root 59 = .ok (.aload_n 0, 1) := by decide +kernel
theorem d_Mod_root_60 : dec m_Mod_root 60 = .ok (.getfield 301, 3) := by decide +kernel
theorem d_Mod_root_63 : dec m_Mod_root 63 = .ok (.ifCond .le 6, 3) := by decide +kernel
theorem d_Mod_root_66 : dec m_Mod_root 66 = .ok (.iload 4, 2) := by decide +kernel
theorem d_Mod_root_68 : dec m_Mod_root 68 = .ok (.ireturn, 1) := by decide +kernel
theorem d_Mod_root_69 : dec m_Mod_root 69 = .ok (.iinc 4 1, 3) := by decide +kernel
theorem d_Mod_root_72 : dec m_Mod_root 72 = .ok (.goto (-58), 3) := by decide +kernel
theorem d_Mod_root_75 : dec m_Mod_root 75 = .ok (.bipush (-2), 2) := by decide +kernel
theorem d_Mod_root_77 : dec m_Mod_root 77 = .ok (.ireturn, 1) := by decide +kernel
theorem d_Mod_takeRow_0 : dec m_Mod_takeRow 0 = .ok (.iconst 0, 1) := by decide +kernel
theorem d_Mod_takeRow_1 : dec m_Mod_takeRow 1 = .ok (.istore 4, 2) := by decide +kernel
theorem d_Mod_takeRow_3 : dec m_Mod_takeRow 3 = .ok (.iload 4, 2) := by decide +kernel
theorem d_Mod_takeRow_5 : dec m_Mod_takeRow 5 = .ok (.bipush 7, 2) := by decide +kernel
theorem d_Mod_takeRow_7 : dec m_Mod_takeRow 7 = .ok (.if_icmp .ge 30, 3) := by decide +kernel
theorem d_Mod_takeRow_10 : dec m_Mod_takeRow 10 = .ok (.aload_n 0, 1) := by decide +kernel
theorem d_Mod_takeRow_11 : dec m_Mod_takeRow 11 = .ok (.getfield 91, 3) := by decide +kernel
theorem d_Mod_takeRow_14 : dec m_Mod_takeRow 14 = .ok (.bipush 7, 2) := by decide +kernel
theorem d_Mod_takeRow_16 : dec m_Mod_takeRow 16 = .ok (.iload_n 3, 1) := by decide +kernel
theorem d_Mod_takeRow_17 : dec m_Mod_takeRow 17 = .ok (.imul, 1) := by decide +kernel
theorem d_Mod_takeRow_18 : dec m_Mod_takeRow 18 = .ok (.iload 4, 2) := by decide +kernel
theorem d_Mod_takeRow_20 : dec m_Mod_takeRow 20 = .ok (.iadd, 1) := by decide +kernel
theorem d_Mod_takeRow_21 : dec m_Mod_takeRow 21 = .ok (.aload_n 1, 1) := by decide +kernel
theorem d_Mod_takeRow_22 : dec m_Mod_takeRow 22 = .ok (.bipush 7, 2) := by decide +kernel
theorem d_Mod_takeRow_24 : dec m_Mod_takeRow 24 = .ok (.iload_n 2, 1) := by decide +kernel
theorem d_Mod_takeRow_25 : dec m_Mod_takeRow 25 = .ok (.imul, 1) := by decide +kernel
theorem d_Mod_takeRow_26 : dec m_Mod_takeRow 26 = .ok (.iload 4, 2) := by decide +kernel
theorem d_Mod_takeRow_28 : dec m_Mod_takeRow 28 = .ok (.iadd, 1) := by decide +kernel
theorem d_Mod_takeRow_29 : dec m_Mod_takeRow 29 = .ok (.iaload, 1) := by decide +kernel
theorem d_Mod_takeRow_30 : dec m_Mod_takeRow 30 = .ok (.iastore, 1) := by decide +kernel
theorem d_Mod_takeRow_31 : dec m_Mod_takeRow 31 = .ok (.iinc 4 1, 3) := by decide +kernel
theorem d_Mod_takeRow_34 : dec m_Mod_takeRow 34 = .ok (.goto (-31), 3) := by decide +kernel
theorem d_Mod_takeRow_37 : dec m_Mod_takeRow 37 = .ok (.return_, 1) := by decide +kernel
theorem d_Mod_costOf_0 : dec m_Mod_costOf 0 = .ok (.lconst 1, 1) := by decide +kernel
theorem d_Mod_costOf_1 : dec m_Mod_costOf 1 = .ok (.lstore_n 2, 1) := by decide +kernel
theorem d_Mod_costOf_2 : dec m_Mod_costOf 2 = .ok (.iconst 0, 1) := by decide +kernel
theorem d_Mod_costOf_3 : dec m_Mod_costOf 3 = .ok (.istore 4, 2) := by decide +kernel
theorem d_Mod_costOf_5 : dec m_Mod_costOf 5 = .ok (.iload 4, 2) := by decide +kernel
theorem d_Mod_costOf_7 : dec m_Mod_costOf 7 = .ok (.aload_n 0, 1) := by decide +kernel
theorem d_Mod_costOf_8 : dec m_Mod_costOf 8 = .ok (.getfield 133, 3) := by decide +kernel
theorem d_Mod_costOf_11 : dec m_Mod_costOf 11 = .ok (.if_icmp .ge 49, 3) := by decide +kernel
theorem d_Mod_costOf_14 : dec m_Mod_costOf 14 = .ok (.iconst 0, 1) := by decide +kernel
theorem d_Mod_costOf_15 : dec m_Mod_costOf 15 = .ok (.istore 5, 2) := by decide +kernel
theorem d_Mod_costOf_17 : dec m_Mod_costOf 17 = .ok (.iload 5, 2) := by decide +kernel
theorem d_Mod_costOf_19 : dec m_Mod_costOf 19 = .ok (.aload_n 0, 1) := by decide +kernel
theorem d_Mod_costOf_20 : dec m_Mod_costOf 20 = .ok (.getfield 91, 3) := by decide +kernel
theorem d_Mod_costOf_23 : dec m_Mod_costOf 23 = .ok (.bipush 7, 2) := by decide +kernel
theorem d_Mod_costOf_25 : dec m_Mod_costOf 25 = .ok (.iload_n 1, 1) := by decide +kernel
theorem d_Mod_costOf_26 : dec m_Mod_costOf 26 = .ok (.imul, 1) := by decide +kernel
theorem d_Mod_costOf_27 : dec m_Mod_costOf 27 = .ok (.iload 4, 2) := by decide +kernel
theorem d_Mod_costOf_29 : dec m_Mod_costOf 29 = .ok (.iadd, 1) := by decide +kernel
theorem d_Mod_costOf_30 : dec m_Mod_costOf 30 = .ok (.iaload, 1) := by decide +kernel
theorem d_Mod_costOf_31 : dec m_Mod_costOf 31 = .ok (.if_icmp .ge 23, 3) := by decide +kernel
theorem d_Mod_costOf_34 : dec m_Mod_costOf 34 = .ok (.lload_n 2, 1) := by decide +kernel
theorem d_Mod_costOf_35 : dec m_Mod_costOf 35 = .ok (.aload_n 0, 1) := by decide +kernel
theorem d_Mod_costOf_36 : dec m_Mod_costOf 36 = .ok (.bipush 6, 2) := by decide +kernel
theorem d_Mod_costOf_38 : dec m_Mod_costOf 38 = .ok (.iload 4, 2) := by decide +kernel
theorem d_Mod_costOf_40 : dec m_Mod_costOf 40 = .ok (.iadd, 1) := by decide +kernel
theorem d_Mod_costOf_41 : dec m_Mod_costOf 41 = .ok (.invokevirtual 194, 3) := by decide +kernel
theorem d_Mod_costOf_44 : dec m_Mod_costOf 44 = .ok (.invokestatic 205, 3) := by decide +kernel
theorem d_Mod_costOf_47 : dec m_Mod_costOf 47 = .ok (.lstore_n 2, 1) := by decide +kernel
theorem d_Mod_costOf_48 : dec m_Mod_costOf 48 = .ok (.iinc 5 1, 3) := by decide +kernel
theorem d_Mod_costOf_51 : dec m_Mod_costOf 51 = .ok (.goto (-34), 3) := by decide +kernel
theorem d_Mod_costOf_54 : dec m_Mod_costOf 54 = .ok (.iinc 4 1, 3) := by decide +kernel
theorem d_Mod_costOf_57 : dec m_Mod_costOf 57 = .ok (.goto (-52), 3) := by decide +kernel
theorem d_Mod_costOf_60 : dec m_Mod_costOf 60 = .ok (.lload_n 2, 1) := by decide +kernel
theorem d_Mod_costOf_61 : dec m_Mod_costOf 61 = .ok (.lreturn, 1) := by decide +kernel
theorem d_Mod_productTo_0 : dec m_Mod_productTo 0 = .ok (.aload_n 0, 1) := by decide +kernel
theorem d_Mod_productTo_1 : dec m_Mod_productTo 1 = .ok (.bipush 14, 2) := by decide +kernel
theorem d_Mod_productTo_3 : dec m_Mod_productTo 3 = .ok (.invokevirtual 162, 3) := by decide +kernel
theorem d_Mod_productTo_6 : dec m_Mod_productTo 6 = .ok (.aload_n 0, 1) := by decide +kernel
theorem d_Mod_productTo_7 : dec m_Mod_productTo 7 = .ok (.getfield 9, 3) := by decide +kernel
theorem d_Mod_productTo_10 : dec m_Mod_productTo 10 = .ok (.sipush 1176, 3) := by decide +kernel
theorem d_Mod_productTo_13 : dec m_Mod_productTo 13 = .ok (.lconst 1, 1) := by decide +kernel
theorem d_Mod_productTo_14 : dec m_Mod_productTo 14 = .ok (.lastore, 1) := by decide +kernel
theorem d_Mod_productTo_15 : dec m_Mod_productTo 15 = .ok (.iconst 0, 1) := by decide +kernel
theorem d_Mod_productTo_16 : dec m_Mod_productTo 16 = .ok (.istore_n 3, 1) := by decide +kernel
theorem d_Mod_productTo_17 : dec m_Mod_productTo 17 = .ok (.iload_n 3, 1) := by decide +kernel
theorem d_Mod_productTo_18 : dec m_Mod_productTo 18 = .ok (.aload_n 0, 1) := by decide +kernel
theorem d_Mod_productTo_19 : dec m_Mod_productTo 19 = .ok (.getfield 133, 3) := by decide +kernel
theorem d_Mod_productTo_22 : dec m_Mod_productTo 22 = .ok (.if_icmp .ge 54, 3) := by decide +kernel
theorem d_Mod_productTo_25 : dec m_Mod_productTo 25 = .ok (.iconst 0, 1) := by decide +kernel
theorem d_Mod_productTo_26 : dec m_Mod_productTo 26 = .ok (.istore 4, 2) := by decide +kernel
theorem d_Mod_productTo_28 : dec m_Mod_productTo 28 = .ok (.iload 4, 2) := by decide +kernel
theorem d_Mod_productTo_30 : dec m_Mod_productTo 30 = .ok (.aload_n 0, 1) := by decide +kernel
theorem d_Mod_productTo_31 : dec m_Mod_productTo 31 = .ok (.getfield 91, 3) := by decide +kernel
theorem d_Mod_productTo_34 : dec m_Mod_productTo 34 = .ok (.bipush 7, 2) := by decide +kernel
theorem d_Mod_productTo_36 : dec m_Mod_productTo 36 = .ok (.iload_n 1, 1) := by decide +kernel
theorem d_Mod_productTo_37 : dec m_Mod_productTo 37 = .ok (.imul, 1) := by decide +kernel
theorem d_Mod_productTo_38 : dec m_Mod_productTo 38 = .ok (.iload_n 3, 1) := by decide +kernel
theorem d_Mod_productTo_39 : dec m_Mod_productTo 39 = .ok (.iadd, 1) := by decide +kernel
theorem d_Mod_productTo_40 : dec m_Mod_productTo 40 = .ok (.iaload, 1) := by decide +kernel
theorem d_Mod_productTo_41 : dec m_Mod_productTo 41 = .ok (.if_icmp .ge 29, 3) := by decide +kernel
theorem d_Mod_productTo_44 : dec m_Mod_productTo 44 = .ok (.aload_n 0, 1) := by decide +kernel
theorem d_Mod_productTo_45 : dec m_Mod_productTo 45 = .ok (.bipush 14, 2) := by decide +kernel
theorem d_Mod_productTo_47 : dec m_Mod_productTo 47 = .ok (.bipush 6, 2) := by decide +kernel
theorem d_Mod_productTo_49 : dec m_Mod_productTo 49 = .ok (.iload_n 3, 1) := by decide +kernel
theorem d_Mod_productTo_50 : dec m_Mod_productTo 50 = .ok (.iadd, 1) := by decide +kernel
theorem d_Mod_productTo_51 : dec m_Mod_productTo 51 = .ok (.bipush 15, 2) := by decide +kernel
theorem d_Mod_productTo_53 : dec m_Mod_productTo 53 = .ok (.invokevirtual 216, 3) := by decide +kernel
theorem d_Mod_productTo_56 : dec m_Mod_productTo 56 = .ok (.aload_n 0, 1) := by decide +kernel
theorem d_Mod_productTo_57 : dec m_Mod_productTo 57 = .ok (.bipush 15, 2) := by decide +kernel
theorem d_Mod_productTo_59 : dec m_Mod_productTo 59 = .ok (.bipush 14, 2) := by decide +kernel
theorem d_Mod_productTo_61 : dec m_Mod_productTo 61 = .ok (.invokevirtual 208, 3) := by decide +kernel
theorem d_Mod_productTo_64 : dec m_Mod_productTo 64 = .ok (.iinc 4 1, 3) := by decide +kernel
theorem d_Mod_productTo_67 : dec m_Mod_productTo 67 = .ok (.goto (-39), 3) := by decide +kernel
theorem d_Mod_productTo_70 : dec m_Mod_productTo 70 = .ok (.iinc 3 1, 3) := by decide +kernel
theorem d_Mod_productTo_73 : dec m_Mod_productTo 73 = .ok (.goto (-56), 3) := by decide +kernel
theorem d_Mod_productTo_76 : dec m_Mod_productTo 76 = .ok (.aload_n 0, 1) := by decide +kernel
theorem d_Mod_productTo_77 : dec m_Mod_productTo 77 = .ok (.bipush 14, 2) := by decide +kernel
theorem d_Mod_productTo_79 : dec m_Mod_productTo 79 = .ok (.iload_n 2, 1) := by decide +kernel
theorem d_Mod_productTo_80 : dec m_Mod_productTo 80 = .ok (.invokevirtual 208, 3) := by decide +kernel
theorem d_Mod_productTo_83 : dec m_Mod_productTo 83 = .ok (.return_, 1) := by decide +kernel
theorem d_Mod_takeApart_0 : dec m_Mod_takeApart 0 = .ok (.aload_n 0, 1) := by decide +kernel
theorem d_Mod_takeApart_1 : dec m_Mod_takeApart 1 = .ok (.iconst 0, 1) := by decide +kernel
theorem d_Mod_takeApart_2 : dec m_Mod_takeApart 2 = .ok (.putfield 327, 3) := by decide +kernel
theorem d_Mod_takeApart_5 : dec m_Mod_takeApart 5 = .ok (.bipush 83, 2) := by decide +kernel
theorem d_Mod_takeApart_7 : dec m_Mod_takeApart 7 = .ok (.istore_n 1, 1) := by decide +kernel
theorem d_Mod_takeApart_8 : dec m_Mod_takeApart 8 = .ok (.iload_n 1, 1) := by decide +kernel
theorem d_Mod_takeApart_9 : dec m_Mod_takeApart 9 = .ok (.ifCond .lt 44, 3) := by decide +kernel
theorem d_Mod_takeApart_12 : dec m_Mod_takeApart 12 = .ok (.aload_n 0, 1) := by decide +kernel
theorem d_Mod_takeApart_13 : dec m_Mod_takeApart 13 = .ok (.getfield 31, 3) := by decide +kernel
theorem d_Mod_takeApart_16 : dec m_Mod_takeApart 16 = .ok (.iload_n 1, 1) := by decide +kernel
theorem d_Mod_takeApart_17 : dec m_Mod_takeApart 17 = .ok (.iaload, 1) := by decide +kernel
theorem d_Mod_takeApart_18 : dec m_Mod_takeApart 18 = .ok (.istore_n 2, 1) := by decide +kernel
theorem d_Mod_takeApart_19 : dec m_Mod_takeApart 19 = .ok (.aload_n 0, 1) := by decide +kernel
theorem d_Mod_takeApart_20 : dec m_Mod_takeApart 20 = .ok (.getfield 9, 3) := by decide +kernel
theorem d_Mod_takeApart_23 : dec m_Mod_takeApart 23 = .ok (.sipush 1512, 3) := by decide +kernel
theorem d_Mod_takeApart_26 : dec m_Mod_takeApart 26 = .ok (.iload_n 2, 1) := by decide +kernel
theorem d_Mod_takeApart_27 : dec m_Mod_takeApart 27 = .ok (.iadd, 1) := by decide +kernel
theorem d_Mod_takeApart_28 : dec m_Mod_takeApart 28 = .ok (.laload, 1) := by decide +kernel
theorem d_Mod_takeApart_29 : dec m_Mod_takeApart 29 = .ok (.lstore_n 3, 1) := by decide +kernel
theorem d_Mod_takeApart_30 : dec m_Mod_takeApart 30 = .ok (.lload_n 3, 1) := by decide +kernel
theorem d_Mod_takeApart_31 : dec m_Mod_takeApart 31 = .ok (.lconst 0, 1) := by decide +kernel
theorem d_Mod_takeApart_32 : dec m_Mod_takeApart 32 = .ok (.lcmp, 1) := by decide +kernel
theorem d_Mod_takeApart_33 : dec m_Mod_takeApart 33 = .ok (.ifCond .eq 14, 3) := by decide +kernel
theorem d_Mod_takeApart_36 : dec m_Mod_takeApart 36 = .ok (.aload_n 0, 1) := by decide +kernel
theorem d_Mod_takeApart_37 : dec m_Mod_takeApart 37 = .ok (.iload_n 2, 1) := by decide +kernel
theorem d_Mod_takeApart_38 : dec m_Mod_takeApart 38 = .ok (.lload_n 3, 1) := by decide +kernel
theorem d_Mod_takeApart_39 : dec m_Mod_takeApart 39 = .ok (.invokevirtual 330, 3) := by decide +kernel
theorem d_Mod_takeApart_42 : dec m_Mod_takeApart 42 = .ok (.ifCond .ne 5, 3) := by decide +kernel
theorem d_Mod_takeApart_45 : dec m_Mod_takeApart 45 = .ok (.iconst 0, 1) := by decide +kernel
theorem d_Mod_takeApart_46 : dec m_Mod_takeApart 46 = .ok (.ireturn, 1) := by decide +kernel
theorem d_Mod_takeApart_47 : dec m_Mod_takeApart 47 = .ok (.iinc 1 (-1), 3) := by decide +kernel
theorem d_Mod_takeApart_50 : dec m_Mod_takeApart 50 = .ok (.goto (-42), 3) := by decide +kernel
theorem d_Mod_takeApart_53 : dec m_Mod_takeApart 53 = .ok (.iconst 1, 1) := by decide +kernel
theorem d_Mod_takeApart_54 : dec m_Mod_takeApart 54 = .ok (.ireturn, 1) := by decide +kernel
theorem d_Mod_takeStep_0 : dec m_Mod_takeStep 0 = .ok (.aload_n 0, 1) := by decide +kernel
theorem d_Mod_takeStep_1 : dec m_Mod_takeStep 1 = .ok (.iload_n 1, 1) := by decide +kernel
theorem d_Mod_takeStep_2 : dec m_Mod_takeStep 2 = .ok (.aload_n 0, 1) := by decide +kernel
theorem d_Mod_takeStep_3 : dec m_Mod_takeStep 3 = .ok (.getfield 133, 3) := by decide +kernel
theorem d_Mod_takeStep_6 : dec m_Mod_takeStep 6 = .ok (.iconst 1, 1) := by decide +kernel
theorem d_Mod_takeStep_7 : dec m_Mod_takeStep 7 = .ok (.invokevirtual 315, 3) := by decide +kernel
theorem d_Mod_takeStep_10 : dec m_Mod_takeStep 10 = .ok (.aload_n 0, 1) := by decide +kernel
theorem d_Mod_takeStep_11 : dec m_Mod_takeStep 11 = .ok (.getfield 301, 3) := by decide +kernel
theorem d_Mod_takeStep_14 : dec m_Mod_takeStep 14 = .ok (.ifCond .ne 5, 3) := by decide +kernel
theorem d_Mod_takeStep_17 : dec m_Mod_takeStep 17 = .ok (.iconst 1, 1) := by decide +kernel
theorem d_Mod_takeStep_18 : dec m_Mod_takeStep 18 = .ok (.ireturn, 1) := by decide +kernel
theorem d_Mod_takeStep_19 : dec m_Mod_takeStep 19 = .ok (.aload_n 0, 1) := by decide +kernel
theorem d_Mod_takeStep_20 : dec m_Mod_takeStep 20 = .ok (.aload_n 0, 1) := by decide +kernel
theorem d_Mod_takeStep_21 : dec m_Mod_takeStep 21 = .ok (.getfield 76, 3) := by decide +kernel
theorem d_Mod_takeStep_24 : dec m_Mod_takeStep 24 = .ok (.iconst 0, 1) := by decide +kernel
theorem d_Mod_takeStep_25 : dec m_Mod_takeStep 25 = .ok (.iconst 2, 1) := by decide +kernel
theorem d_Mod_takeStep_26 : dec m_Mod_takeStep 26 = .ok (.invokevirtual 334, 3) := by decide +kernel
theorem d_Mod_takeStep_29 : dec m_Mod_takeStep 29 = .ok (.aload_n 0, 1) := by decide +kernel
theorem d_Mod_takeStep_30 : dec m_Mod_takeStep 30 = .ok (.bipush 18, 2) := by decide +kernel
theorem d_Mod_takeStep_32 : dec m_Mod_takeStep 32 = .ok (.invokevirtual 194, 3) := by decide +kernel
theorem d_Mod_takeStep_35 : dec m_Mod_takeStep 35 = .ok (.lload_n 2, 1) := by decide +kernel
theorem d_Mod_takeStep_36 : dec m_Mod_takeStep 36 = .ok (.invokestatic 158, 3) := by decide +kernel
theorem d_Mod_takeStep_39 : dec m_Mod_takeStep 39 = .ok (.aload_n 0, 1) := by decide +kernel
theorem d_Mod_takeStep_40 : dec m_Mod_takeStep 40 = .ok (.iconst 2, 1) := by decide +kernel
theorem d_Mod_takeStep_41 : dec m_Mod_takeStep 41 = .ok (.invokevirtual 338, 3) := by decide +kernel
theorem d_Mod_takeStep_44 : dec m_Mod_takeStep 44 = .ok (.invokestatic 205, 3) := by decide +kernel
theorem d_Mod_takeStep_47 : dec m_Mod_takeStep 47 = .ok (.invokestatic 198, 3) := by decide +kernel
theorem d_Mod_takeStep_50 : dec m_Mod_takeStep 50 = .ok (.lstore 4, 2) := by decide +kernel
theorem d_Mod_takeStep_52 : dec m_Mod_takeStep 52 = .ok (.lload 4, 2) := by decide +kernel
theorem d_Mod_takeStep_54 : dec m_Mod_takeStep 54 = .ok (.lconst 0, 1) := by decide +kernel
theorem d_Mod_takeStep_55 : dec m_Mod_takeStep 55 = .ok (.lcmp, 1) := by decide +kernel
theorem d_Mod_takeStep_56 : dec m_Mod_takeStep 56 = .ok (.ifCond .ge 5, 3) := by decide +kernel
theorem d_Mod_takeStep_59 : dec m_Mod_takeStep 59 = .ok (.iconst 0, 1) := by decide +kernel
theorem d_Mod_takeStep_60 : dec m_Mod_takeStep 60 = .ok (.ireturn, 1) := by decide +kernel
theorem d_Mod_takeStep_61 : dec m_Mod_takeStep 61 = .ok (.aload_n 0, 1) := by decide +kernel
theorem d_Mod_takeStep_62 : dec m_Mod_takeStep 62 = .ok (.iconst 2, 1) := by decide +kernel
theorem d_Mod_takeStep_63 : dec m_Mod_takeStep 63 = .ok (.bipush 13, 2) := by decide +kernel
theorem d_Mod_takeStep_65 : dec m_Mod_takeStep 65 = .ok (.invokevirtual 341, 3) := by decide +kernel
theorem d_Mod_takeStep_68 : dec m_Mod_takeStep 68 = .ok (.aload_n 0, 1) := by decide +kernel
theorem d_Mod_takeStep_69 : dec m_Mod_takeStep 69 = .ok (.bipush 18, 2) := by decide +kernel
theorem d_Mod_takeStep_71 : dec m_Mod_takeStep 71 = .ok (.bipush 13, 2) := by decide +kernel
theorem d_Mod_takeStep_73 : dec m_Mod_takeStep 73 = .ok (.lload_n 2, 1) := by decide +kernel
theorem d_Mod_takeStep_74 : dec m_Mod_takeStep 74 = .ok (.lneg, 1) := by decide +kernel
theorem d_Mod_takeStep_75 : dec m_Mod_takeStep 75 = .ok (.invokevirtual 212, 3) := by decide +kernel
theorem d_Mod_takeStep_78 : dec m_Mod_takeStep 78 = .ok (.aload_n 0, 1) := by decide +kernel
theorem d_Mod_takeStep_79 : dec m_Mod_takeStep 79 = .ok (.getfield 58, 3) := by decide +kernel
theorem d_Mod_takeStep_82 : dec m_Mod_takeStep 82 = .ok (.aload_n 0, 1) := by decide +kernel
theorem d_Mod_takeStep_83 : dec m_Mod_takeStep 83 = .ok (.getfield 327, 3) := by decide +kernel
theorem d_Mod_takeStep_86 : dec m_Mod_takeStep 86 = .ok (.lload_n 2, 1) := by decide +kernel
theorem d_Mod_takeStep_87 : dec m_Mod_takeStep 87 = .ok (.lastore, 1) := by decide +kernel
theorem d_Mod_takeStep_88 : dec m_Mod_takeStep 88 = .ok (.iconst 0, 1) := by decide +kernel
theorem d_Mod_takeStep_89 : dec m_Mod_takeStep 89 = .ok (.istore 6, 2) := by decide +kernel
theorem d_Mod_takeStep_91 : dec m_Mod_takeStep 91 = .ok (.iload 6, 2) := by decide +kernel
theorem d_Mod_takeStep_93 : dec m_Mod_takeStep 93 = .ok (.bipush 7, 2) := by decide +kernel
theorem d_Mod_takeStep_95 : dec m_Mod_takeStep 95 = .ok (.if_icmp .ge 34, 3) := by decide +kernel
theorem d_Mod_takeStep_98 : dec m_Mod_takeStep 98 = .ok (.aload_n 0, 1) := by decide +kernel
theorem d_Mod_takeStep_99 : dec m_Mod_takeStep 99 = .ok (.getfield 61, 3) := by decide +kernel
theorem d_Mod_takeStep_102 : dec m_Mod_takeStep 102 = .ok (.bipush 7, 2) := by decide +kernel
theorem d_Mod_takeStep_104 : dec m_Mod_takeStep 104 = .ok (.aload_n 0, 1) := by decide +kernel
theorem d_Mod_takeStep_105 : dec m_Mod_takeStep 105 = .ok (.getfield 327, 3) := by decide +kernel
theorem d_Mod_takeStep_108 : dec m_Mod_takeStep 108 = .ok (.imul, 1) := by decide +kernel
theorem d_Mod_takeStep_109 : dec m_Mod_takeStep 109 = .ok (.iload 6, 2) := by decide +kernel
theorem d_Mod_takeStep_111 : dec m_Mod_takeStep 111 = .ok (.iadd, 1) := by decide +kernel
theorem d_Mod_takeStep_112 : dec m_Mod_takeStep 112 = .ok (.aload_n 0, 1) := by decide +kernel
theorem d_Mod_takeStep_113 : dec m_Mod_takeStep 113 = .ok (.getfield 91, 3) := by decide +kernel
theorem d_Mod_takeStep_116 : dec m_Mod_takeStep 116 = .ok (.bipush 14, 2) := by decide +kernel
theorem d_Mod_takeStep_118 : dec m_Mod_takeStep 118 = .ok (.iload 6, 2) := by decide +kernel
theorem d_Mod_takeStep_120 : dec m_Mod_takeStep 120 = .ok (.iadd, 1) := by decide +kernel
theorem d_Mod_takeStep_121 : dec m_Mod_takeStep 121 = .ok (.iaload, 1) := by decide +kernel
theorem d_Mod_takeStep_122 : dec m_Mod_takeStep 122 = .ok (.iastore, 1) := by decide +kernel
theorem d_Mod_takeStep_123 : dec m_Mod_takeStep 123 = .ok (.iinc 6 1, 3) := by decide +kernel
theorem d_Mod_takeStep_126 : dec m_Mod_takeStep 126 = .ok (.goto (-35), 3) := by decide +kernel
theorem d_Mod_takeStep_129 : dec m_Mod_takeStep 129 = .ok (.aload_n 0, 1) := by decide +kernel
theorem d_Mod_takeStep_130 : dec m_Mod_takeStep 130 = .ok (.dup, 1) := by decide +kernel
theorem d_Mod_takeStep_131 : dec m_Mod_takeStep 131 = .ok (.getfield 327, 3) := by decide +kernel
theorem d_Mod_takeStep_134 : dec m_Mod_takeStep 134 = .ok (.iconst 1, 1) := by decide +kernel
theorem d_Mod_takeStep_135 : dec m_Mod_takeStep 135 = .ok (.iadd, 1) := by decide +kernel
theorem d_Mod_takeStep_136 : dec m_Mod_takeStep 136 = .ok (.putfield 327, 3) := by decide +kernel
theorem d_Mod_takeStep_139 : dec m_Mod_takeStep 139 = .ok (.iconst 1, 1) := by decide +kernel
theorem d_Mod_takeStep_140 : dec m_Mod_takeStep 140 = .ok (.ireturn, 1) := by decide +kernel
theorem d_Mod_isNothing_0 : dec m_Mod_isNothing 0 = .ok (.aload_n 0, 1) := by decide +kernel
theorem d_Mod_isNothing_1 : dec m_Mod_isNothing 1 = .ok (.iload_n 1, 1) := by decide +kernel
theorem d_Mod_isNothing_2 : dec m_Mod_isNothing 2 = .ok (.invokevirtual 239, 3) := by decide +kernel
theorem d_Mod_isNothing_5 : dec m_Mod_isNothing 5 = .ok (.ifCond .ge 7, 3) := by decide +kernel
theorem d_Mod_isNothing_8 : dec m_Mod_isNothing 8 = .ok (.iconst 1, 1) := by decide +kernel
theorem d_Mod_isNothing_9 : dec m_Mod_isNothing 9 = .ok (.goto 4, 3) := by decide +kernel
theorem d_Mod_isNothing_12 : dec m_Mod_isNothing 12 = .ok (.iconst 0, 1) := by decide +kernel
theorem d_Mod_isNothing_13 : dec m_Mod_isNothing 13 = .ok (.ireturn, 1) := by decide +kernel
theorem d_Mod_subduct_0 : dec m_Mod_subduct 0 = .ok (.iload_n 1, 1) := by decide +kernel
theorem d_Mod_subduct_1 : dec m_Mod_subduct 1 = .ok (.invokestatic 182, 3) := by decide +kernel
theorem d_Mod_subduct_4 : dec m_Mod_subduct 4 = .ok (.ifCond .ne 5, 3) := by decide +kernel
theorem d_Mod_subduct_7 : dec m_Mod_subduct 7 = .ok (.iconst (-1), 1) := by decide +kernel
theorem d_Mod_subduct_8 : dec m_Mod_subduct 8 = .ok (.ireturn, 1) := by decide +kernel
theorem d_Mod_subduct_9 : dec m_Mod_subduct 9 = .ok (.aload_n 0, 1) := by decide +kernel
theorem d_Mod_subduct_10 : dec m_Mod_subduct 10 = .ok (.iload_n 1, 1) := by decide +kernel
theorem d_Mod_subduct_11 : dec m_Mod_subduct 11 = .ok (.bipush 18, 2) := by decide +kernel
theorem d_Mod_subduct_13 : dec m_Mod_subduct 13 = .ok (.invokevirtual 208, 3) := by decide +kernel
theorem d_Mod_subduct_16 : dec m_Mod_subduct 16 = .ok (.aload_n 0, 1) := by decide +kernel
theorem d_Mod_subduct_17 : dec m_Mod_subduct 17 = .ok (.invokevirtual 344, 3) := by decide +kernel
theorem d_Mod_subduct_20 : dec m_Mod_subduct 20 = .ok (.ifCond .ne 6, 3) := by decide +kernel
theorem d_Mod_subduct_23 : dec m_Mod_subduct 23 = .ok (.bipush (-5), 2) := by decide +kernel
theorem d_Mod_subduct_25 : dec m_Mod_subduct 25 = .ok (.ireturn, 1) := by decide +kernel
theorem d_Mod_subduct_26 : dec m_Mod_subduct 26 = .ok (.aload_n 0, 1) := by decide +kernel
theorem d_Mod_subduct_27 : dec m_Mod_subduct 27 = .ok (.bipush 18, 2) := by decide +kernel
theorem d_Mod_subduct_29 : dec m_Mod_subduct 29 = .ok (.iload_n 1, 1) := by decide +kernel
theorem d_Mod_subduct_30 : dec m_Mod_subduct 30 = .ok (.invokevirtual 208, 3) := by decide +kernel
theorem d_Mod_subduct_33 : dec m_Mod_subduct 33 = .ok (.aload_n 0, 1) := by decide +kernel
theorem d_Mod_subduct_34 : dec m_Mod_subduct 34 = .ok (.iconst 1, 1) := by decide +kernel
theorem d_Mod_subduct_35 : dec m_Mod_subduct 35 = .ok (.putfield 304, 3) := by decide +kernel
theorem d_Mod_subduct_38 : dec m_Mod_subduct 38 = .ok (.aload_n 0, 1) := by decide +kernel
theorem d_Mod_subduct_39 : dec m_Mod_subduct 39 = .ok (.aload_n 0, 1) := by decide +kernel
theorem d_Mod_subduct_40 : dec m_Mod_subduct 40 = .ok (.getfield 327, 3) := by decide +kernel
theorem d_Mod_subduct_43 : dec m_Mod_subduct 43 = .ok (.putfield 348, 3) := by decide +kernel
theorem d_Mod_subduct_46 : dec m_Mod_subduct 46 = .ok (.iconst 0, 1) := by decide +kernel
theorem d_Mod_subduct_47 : dec m_Mod_subduct 47 = .ok (.istore_n 2, 1) := by decide +kernel
theorem d_Mod_subduct_48 : dec m_Mod_subduct 48 = .ok (.iload_n 2, 1) := by decide +kernel
theorem d_Mod_subduct_49 : dec m_Mod_subduct 49 = .ok (.aload_n 0, 1) := by decide +kernel
theorem d_Mod_subduct_50 : dec m_Mod_subduct 50 = .ok (.getfield 327, 3) := by decide +kernel
theorem d_Mod_subduct_53 : dec m_Mod_subduct 53 = .ok (.if_icmp .ge 57, 3) := by decide +kernel
theorem d_Mod_subduct_56 : dec m_Mod_subduct 56 = .ok (.aload_n 0, 1) := by decide +kernel
theorem d_Mod_subduct_57 : dec m_Mod_subduct 57 = .ok (.getfield 64, 3) := by decide +kernel
theorem d_Mod_subduct_60 : dec m_Mod_subduct 60 = .ok (.iload_n 2, 1) := by decide +kernel
theorem d_Mod_subduct_61 : dec m_Mod_subduct 61 = .ok (.aload_n 0, 1) := by decide +kernel
theorem d_Mod_subduct_62 : dec m_Mod_subduct 62 = .ok (.getfield 58, 3) := by decide +kernel
theorem d_Mod_subduct_65 : dec m_Mod_subduct 65 = .ok (.iload_n 2, 1) := by decide +kernel
theorem d_Mod_subduct_66 : dec m_Mod_subduct 66 = .ok (.laload, 1) := by decide +kernel
theorem d_Mod_subduct_67 : dec m_Mod_subduct 67 = .ok (.lastore, 1) := by decide +kernel
theorem d_Mod_subduct_68 : dec m_Mod_subduct 68 = .ok (.iconst 0, 1) := by decide +kernel
theorem d_Mod_subduct_69 : dec m_Mod_subduct 69 = .ok (.istore_n 3, 1) := by decide +kernel
theorem d_Mod_subduct_70 : dec m_Mod_subduct 70 = .ok (.iload_n 3, 1) := by decide +kernel
theorem d_Mod_subduct_71 : dec m_Mod_subduct 71 = .ok (.bipush 7, 2) := by decide +kernel
theorem d_Mod_subduct_73 : dec m_Mod_subduct 73 = .ok (.if_icmp .ge 31, 3) := by decide +kernel
theorem d_Mod_subduct_76 : dec m_Mod_subduct 76 = .ok (.aload_n 0, 1) := by decide +kernel
theorem d_Mod_subduct_77 : dec m_Mod_subduct 77 = .ok (.getfield 67, 3) := by decide +kernel
theorem d_Mod_subduct_80 : dec m_Mod_subduct 80 = .ok (.bipush 7, 2) := by decide +kernel
theorem d_Mod_subduct_82 : dec m_Mod_subduct 82 = .ok (.iload_n 2, 1) := by decide +kernel
theorem d_Mod_subduct_83 : dec m_Mod_subduct 83 = .ok (.imul, 1) := by decide +kernel
theorem d_Mod_subduct_84 : dec m_Mod_subduct 84 = .ok (.iload_n 3, 1) := by decide +kernel
theorem d_Mod_subduct_85 : dec m_Mod_subduct 85 = .ok (.iadd, 1) := by decide +kernel
theorem d_Mod_subduct_86 : dec m_Mod_subduct 86 = .ok (.aload_n 0, 1) := by decide +kernel
theorem d_Mod_subduct_87 : dec m_Mod_subduct 87 = .ok (.getfield 61, 3) := by decide +kernel
theorem d_Mod_subduct_90 : dec m_Mod_subduct 90 = .ok (.bipush 7, 2) := by decide +kernel
theorem d_Mod_subduct_92 : dec m_Mod_subduct 92 = .ok (.iload_n 2, 1) := by decide +kernel
theorem d_Mod_subduct_93 : dec m_Mod_subduct 93 = .ok (.imul, 1) := by decide +kernel
theorem d_Mod_subduct_94 : dec m_Mod_subduct 94 = .ok (.iload_n 3, 1) := by decide +kernel
theorem d_Mod_subduct_95 : dec m_Mod_subduct 95 = .ok (.iadd, 1) := by decide +kernel
theorem d_Mod_subduct_96 : dec m_Mod_subduct 96 = .ok (.iaload, 1) := by decide +kernel
theorem d_Mod_subduct_97 : dec m_Mod_subduct 97 = .ok (.iastore, 1) := by decide +kernel
theorem d_Mod_subduct_98 : dec m_Mod_subduct 98 = .ok (.iinc 3 1, 3) := by decide +kernel
theorem d_Mod_subduct_101 : dec m_Mod_subduct 101 = .ok (.goto (-31), 3) := by decide +kernel
theorem d_Mod_subduct_104 : dec m_Mod_subduct 104 = .ok (.iinc 2 1, 3) := by decide +kernel
theorem d_Mod_subduct_107 : dec m_Mod_subduct 107 = .ok (.goto (-59), 3) := by decide +kernel
theorem d_Mod_subduct_110 : dec m_Mod_subduct 110 = .ok (.aload_n 0, 1) := by decide +kernel
theorem d_Mod_subduct_111 : dec m_Mod_subduct 111 = .ok (.getfield 327, 3) := by decide +kernel
theorem d_Mod_subduct_114 : dec m_Mod_subduct 114 = .ok (.ireturn, 1) := by decide +kernel
theorem d_Mod_member_0 : dec m_Mod_member 0 = .ok (.iload_n 1, 1) := by decide +kernel
theorem d_Mod_member_1 : dec m_Mod_member 1 = .ok (.invokestatic 182, 3) := by decide +kernel
theorem d_Mod_member_4 : dec m_Mod_member 4 = .ok (.ifCond .ne 5, 3) := by decide +kernel
theorem d_Mod_member_7 : dec m_Mod_member 7 = .ok (.iconst (-1), 1) := by decide +kernel
theorem d_Mod_member_8 : dec m_Mod_member 8 = .ok (.ireturn, 1) := by decide +kernel
theorem d_Mod_member_9 : dec m_Mod_member 9 = .ok (.aload_n 0, 1) := by decide +kernel
theorem d_Mod_member_10 : dec m_Mod_member 10 = .ok (.iload_n 1, 1) := by decide +kernel
theorem d_Mod_member_11 : dec m_Mod_member 11 = .ok (.bipush 18, 2) := by decide +kernel
theorem d_Mod_member_13 : dec m_Mod_member 13 = .ok (.invokevirtual 208, 3) := by decide +kernel
theorem d_Mod_member_16 : dec m_Mod_member 16 = .ok (.aload_n 0, 1) := by decide +kernel
theorem d_Mod_member_17 : dec m_Mod_member 17 = .ok (.invokevirtual 344, 3) := by decide +kernel
theorem d_Mod_member_20 : dec m_Mod_member 20 = .ok (.ifCond .ne 8, 3) := by decide +kernel
theorem d_Mod_member_23 : dec m_Mod_member 23 = .ok (.bipush (-5), 2) := by decide +kernel
theorem d_Mod_member_25 : dec m_Mod_member 25 = .ok (.goto 17, 3) := by decide +kernel
theorem d_Mod_member_28 : dec m_Mod_member 28 = .ok (.aload_n 0, 1) := by decide +kernel
theorem d_Mod_member_29 : dec m_Mod_member 29 = .ok (.bipush 18, 2) := by decide +kernel
theorem d_Mod_member_31 : dec m_Mod_member 31 = .ok (.invokevirtual 351, 3) := by decide +kernel
theorem d_Mod_member_34 : dec m_Mod_member 34 = .ok (.ifCond .eq 7, 3) := by decide +kernel
theorem d_Mod_member_37 : dec m_Mod_member 37 = .ok (.iconst 1, 1) := by decide +kernel
theorem d_Mod_member_38 : dec m_Mod_member 38 = .ok (.goto 4, 3) := by decide +kernel
theorem d_Mod_member_41 : dec m_Mod_member 41 = .ok (.iconst 0, 1) := by decide +kernel
theorem d_Mod_member_42 : dec m_Mod_member 42 = .ok (.ireturn, 1) := by decide +kernel
theorem d_Mod_witnessMany_0 : dec m_Mod_witnessMany 0 = .ok (.aload_n 0, 1) := by decide +kernel
theorem d_Mod_witnessMany_1 : dec m_Mod_witnessMany 1 = .ok (.getfield 304, 3) := by decide +kernel
theorem d_Mod_witnessMany_4 : dec m_Mod_witnessMany 4 = .ok (.ifCond .eq 10, 3) := by decide +kernel
theorem d_Mod_witnessMany_7 : dec m_Mod_witnessMany 7 = .ok (.aload_n 0, 1) := by decide +kernel
theorem d_Mod_witnessMany_8 : dec m_Mod_witnessMany 8 = .ok (.getfield 348, 3) := by decide +kernel
theorem d_Mod_witnessMany_11 : dec m_Mod_witnessMany 11 = .ok (.goto 4, 3) := by decide +kernel
theorem d_Mod_witnessMany_14 : dec m_Mod_witnessMany 14 = .ok (.iconst 0, 1) := by decide +kernel
theorem d_Mod_witnessMany_15 : dec m_Mod_witnessMany 15 = .ok (.ireturn, 1) := by decide +kernel
theorem d_Mod_step_0 : dec m_Mod_step 0 = .ok (.iload_n 2, 1) := by decide +kernel
theorem d_Mod_step_1 : dec m_Mod_step 1 = .ok (.i2l, 1) := by decide +kernel
theorem d_Mod_step_2 : dec m_Mod_step 2 = .ok (.ldc2_w 145, 3) := by decide +kernel
theorem d_Mod_step_5 : dec m_Mod_step 5 = .ok (.ldc2_w 137, 3) := by decide +kernel
theorem d_Mod_step_8 : dec m_Mod_step 8 = .ok (.invokestatic 139, 3) := by decide +kernel
theorem d_Mod_step_11 : dec m_Mod_step 11 = .ok (.ifCond .eq 19, 3) := by decide +kernel
theorem d_Mod_step_14 : dec m_Mod_step 14 = .ok (.iload_n 1, 1) := by decide +kernel
theorem d_Mod_step_15 : dec m_Mod_step 15 = .ok (.i2l, 1) := by decide +kernel
theorem d_Mod_step_16 : dec m_Mod_step 16 = .ok (.lconst 0, 1) := by decide +kernel
theorem d_Mod_step_17 : dec m_Mod_step 17 = .ok (.aload_n 0, 1) := by decide +kernel
theorem d_Mod_step_18 : dec m_Mod_step 18 = .ok (.invokevirtual 354, 3) := by decide +kernel
theorem d_Mod_step_21 : dec m_Mod_step 21 = .ok (.iconst 1, 1) := by decide +kernel
theorem d_Mod_step_22 : dec m_Mod_step 22 = .ok (.isub, 1) := by decide +kernel
theorem d_Mod_step_23 : dec m_Mod_step 23 = .ok (.i2l, 1) := by decide +kernel
theorem d_Mod_step_24 : dec m_Mod_step 24 = .ok (.invokestatic 139, 3) := by decide +kernel
theorem d_Mod_step_27 : dec m_Mod_step 27 = .ok (.ifCond .ne 7, 3) := by decide +kernel
theorem d_Mod_step_30 : dec m_Mod_step 30 = .ok (.ldc2_w 235, 3) := by decide +kernel
theorem d_Mod_step_33 : dec m_Mod_step 33 = .ok (.lreturn, 1) := by decide +kernel
theorem d_Mod_step_34 : dec m_Mod_step 34 = .ok (.iload_n 2, 1) := by decide +kernel
theorem d_Mod_step_35 : dec m_Mod_step 35 = .ok (.ifCond .ge 12, 3) := by decide +kernel
theorem d_Mod_step_38 : dec m_Mod_step 38 = .ok (.aload_n 0, 1) := by decide +kernel
theorem d_Mod_step_39 : dec m_Mod_step 39 = .ok (.getfield 64, 3) := by decide +kernel
theorem d_Mod_step_42 : dec m_Mod_step 42 = .ok (.iload_n 1, 1) := by decide +kernel
theorem d_Mod_step_43 : dec m_Mod_step 43 = .ok (.laload, 1) := by decide +kernel
theorem d_Mod_step_44 : dec m_Mod_step 44 = .ok (.goto 15, 3) := by decide +kernel
theorem d_Mod_step_47 : dec m_Mod_step 47 = .ok (.aload_n 0, 1) := by decide +kernel
theorem d_Mod_step_48 : dec m_Mod_step 48 = .ok (.getfield 67, 3) := by decide +kernel
theorem d_Mod_step_51 : dec m_Mod_step 51 = .ok (.bipush 7, 2) := by decide +kernel
theorem d_Mod_step_53 : dec m_Mod_step 53 = .ok (.iload_n 1, 1) := by decide +kernel
theorem d_Mod_step_54 : dec m_Mod_step 54 = .ok (.imul, 1) := by decide +kernel
theorem d_Mod_step_55 : dec m_Mod_step 55 = .ok (.iload_n 2, 1) := by decide +kernel
theorem d_Mod_step_56 : dec m_Mod_step 56 = .ok (.iadd, 1) := by decide +kernel
theorem d_Mod_step_57 : dec m_Mod_step 57 = .ok (.iaload, 1) := by decide +kernel
theorem d_Mod_step_58 : dec m_Mod_step 58 = .ok (.i2l, 1) := by decide +kernel
theorem d_Mod_step_59 : dec m_Mod_step 59 = .ok (.lreturn, 1) := by decide +kernel
theorem d_Mod_witness_0 : dec m_Mod_witness 0 = .ok (.iload_n 1, 1) := by decide +kernel
theorem d_Mod_witness_1 : dec m_Mod_witness 1 = .ok (.invokestatic 182, 3) := by decide +kernel
theorem d_Mod_witness_4 : dec m_Mod_witness 4 = .ok (.ifCond .ne 5, 3) := by decide +kernel
theorem d_Mod_witness_7 : dec m_Mod_witness 7 = .ok (.iconst (-1), 1) := by decide +kernel
theorem d_Mod_witness_8 : dec m_Mod_witness 8 = .ok (.ireturn, 1) := by decide +kernel
theorem d_Mod_witness_9 : dec m_Mod_witness 9 = .ok (.aload_n 0, 1) := by decide +kernel
theorem d_Mod_witness_10 : dec m_Mod_witness 10 = .ok (.getfield 304, 3) := by decide +kernel
theorem d_Mod_witness_13 : dec m_Mod_witness 13 = .ok (.ifCond .ne 6, 3) := by decide +kernel
theorem d_Mod_witness_16 : dec m_Mod_witness 16 = .ok (.bipush (-2), 2) := by decide +kernel
theorem d_Mod_witness_18 : dec m_Mod_witness 18 = .ok (.ireturn, 1) := by decide +kernel
theorem d_Mod_witness_19 : dec m_Mod_witness 19 = .ok (.lconst 0, 1) := by decide +kernel
theorem d_Mod_witness_20 : dec m_Mod_witness 20 = .ok (.lstore_n 2, 1) := by decide +kernel
theorem d_Mod_witness_21 : dec m_Mod_witness 21 = .ok (.iconst 0, 1) := by decide +kernel
theorem d_Mod_witness_22 : dec m_Mod_witness 22 = .ok (.istore 4, 2) := by decide +kernel
theorem d_Mod_witness_24 : dec m_Mod_witness 24 = .ok (.iload 4, 2) := by decide +kernel
theorem d_Mod_witness_26 : dec m_Mod_witness 26 = .ok (.aload_n 0, 1) := by decide +kernel
theorem d_Mod_witness_27 : dec m_Mod_witness 27 = .ok (.getfield 348, 3) := by decide +kernel
theorem d_Mod_witness_30 : dec m_Mod_witness 30 = .ok (.if_icmp .ge 43, 3) := by decide +kernel
theorem d_Mod_witness_33 : dec m_Mod_witness 33 = .ok (.aload_n 0, 1) := by decide +kernel
theorem d_Mod_witness_34 : dec m_Mod_witness 34 = .ok (.aload_n 0, 1) := by decide +kernel
theorem d_Mod_witness_35 : dec m_Mod_witness 35 = .ok (.getfield 67, 3) := by decide +kernel
theorem d_Mod_witness_38 : dec m_Mod_witness 38 = .ok (.iload 4, 2) := by decide +kernel
theorem d_Mod_witness_40 : dec m_Mod_witness 40 = .ok (.iconst 2, 1) := by decide +kernel
theorem d_Mod_witness_41 : dec m_Mod_witness 41 = .ok (.invokevirtual 334, 3) := by decide +kernel
theorem d_Mod_witness_44 : dec m_Mod_witness 44 = .ok (.lload_n 2, 1) := by decide +kernel
theorem d_Mod_witness_45 : dec m_Mod_witness 45 = .ok (.aload_n 0, 1) := by decide +kernel
theorem d_Mod_witness_46 : dec m_Mod_witness 46 = .ok (.getfield 64, 3) := by decide +kernel
theorem d_Mod_witness_49 : dec m_Mod_witness 49 = .ok (.iload 4, 2) := by decide +kernel
theorem d_Mod_witness_51 : dec m_Mod_witness 51 = .ok (.laload, 1) := by decide +kernel
theorem d_Mod_witness_52 : dec m_Mod_witness 52 = .ok (.invokestatic 158, 3) := by decide +kernel
theorem d_Mod_witness_55 : dec m_Mod_witness 55 = .ok (.aload_n 0, 1) := by decide +kernel
theorem d_Mod_witness_56 : dec m_Mod_witness 56 = .ok (.iconst 2, 1) := by decide +kernel
theorem d_Mod_witness_57 : dec m_Mod_witness 57 = .ok (.invokevirtual 338, 3) := by decide +kernel
theorem d_Mod_witness_60 : dec m_Mod_witness 60 = .ok (.invokestatic 205, 3) := by decide +kernel
theorem d_Mod_witness_63 : dec m_Mod_witness 63 = .ok (.invokestatic 198, 3) := by decide +kernel
theorem d_Mod_witness_66 : dec m_Mod_witness 66 = .ok (.lstore_n 2, 1) := by decide +kernel
theorem d_Mod_witness_67 : dec m_Mod_witness 67 = .ok (.iinc 4 1, 3) := by decide +kernel
theorem d_Mod_witness_70 : dec m_Mod_witness 70 = .ok (.goto (-46), 3) := by decide +kernel
theorem d_Mod_witness_73 : dec m_Mod_witness 73 = .ok (.lload_n 2, 1) := by decide +kernel
theorem d_Mod_witness_74 : dec m_Mod_witness 74 = .ok (.lconst 0, 1) := by decide +kernel
theorem d_Mod_witness_75 : dec m_Mod_witness 75 = .ok (.lcmp, 1) := by decide +kernel
theorem d_Mod_witness_76 : dec m_Mod_witness 76 = .ok (.ifCond .ge 6, 3) := by decide +kernel
theorem d_Mod_witness_79 : dec m_Mod_witness 79 = .ok (.bipush (-5), 2) := by decide +kernel
theorem d_Mod_witness_81 : dec m_Mod_witness 81 = .ok (.ireturn, 1) := by decide +kernel
theorem d_Mod_witness_82 : dec m_Mod_witness 82 = .ok (.aload_n 0, 1) := by decide +kernel
theorem d_Mod_witness_83 : dec m_Mod_witness 83 = .ok (.bipush 17, 2) := by decide +kernel
theorem d_Mod_witness_85 : dec m_Mod_witness 85 = .ok (.invokevirtual 162, 3) := by decide +kernel
theorem d_Mod_witness_88 : dec m_Mod_witness 88 = .ok (.iconst 0, 1) := by decide +kernel
theorem d_Mod_witness_89 : dec m_Mod_witness 89 = .ok (.istore 4, 2) := by decide +kernel
theorem d_Mod_witness_91 : dec m_Mod_witness 91 = .ok (.iload 4, 2) := by decide +kernel
theorem d_Mod_witness_93 : dec m_Mod_witness 93 = .ok (.aload_n 0, 1) := by decide +kernel
theorem d_Mod_witness_94 : dec m_Mod_witness 94 = .ok (.getfield 348, 3) := by decide +kernel
theorem d_Mod_witness_97 : dec m_Mod_witness 97 = .ok (.if_icmp .ge 42, 3) := by decide +kernel
theorem d_Mod_witness_100 : dec m_Mod_witness 100 = .ok (.aload_n 0, 1) := by decide +kernel
theorem d_Mod_witness_101 : dec m_Mod_witness 101 = .ok (.aload_n 0, 1) := by decide +kernel
theorem d_Mod_witness_102 : dec m_Mod_witness 102 = .ok (.getfield 67, 3) := by decide +kernel
theorem d_Mod_witness_105 : dec m_Mod_witness 105 = .ok (.iload 4, 2) := by decide +kernel
theorem d_Mod_witness_107 : dec m_Mod_witness 107 = .ok (.iconst 2, 1) := by decide +kernel
theorem d_Mod_witness_108 : dec m_Mod_witness 108 = .ok (.invokevirtual 334, 3) := by decide +kernel
theorem d_Mod_witness_111 : dec m_Mod_witness 111 = .ok (.aload_n 0, 1) := by decide +kernel
theorem d_Mod_witness_112 : dec m_Mod_witness 112 = .ok (.iconst 2, 1) := by decide +kernel
theorem d_Mod_witness_113 : dec m_Mod_witness 113 = .ok (.bipush 13, 2) := by decide +kernel
theorem d_Mod_witness_115 : dec m_Mod_witness 115 = .ok (.invokevirtual 341, 3) := by decide +kernel
theorem d_Mod_witness_118 : dec m_Mod_witness 118 = .ok (.aload_n 0, 1) := by decide +kernel
theorem d_Mod_witness_119 : dec m_Mod_witness 119 = .ok (.bipush 17, 2) := by decide +kernel
theorem d_Mod_witness_121 : dec m_Mod_witness 121 = .ok (.bipush 13, 2) := by decide +kernel
theorem d_Mod_witness_123 : dec m_Mod_witness 123 = .ok (.aload_n 0, 1) := by decide +kernel
theorem d_Mod_witness_124 : dec m_Mod_witness 124 = .ok (.getfield 64, 3) := by decide +kernel
theorem d_Mod_witness_127 : dec m_Mod_witness 127 = .ok (.iload 4, 2) := by decide +kernel
theorem d_Mod_witness_129 : dec m_Mod_witness 129 = .ok (.laload, 1) := by decide +kernel
theorem d_Mod_witness_130 : dec m_Mod_witness 130 = .ok (.invokevirtual 212, 3) := by decide +kernel
theorem d_Mod_witness_133 : dec m_Mod_witness 133 = .ok (.iinc 4 1, 3) := by decide +kernel
theorem d_Mod_witness_136 : dec m_Mod_witness 136 = .ok (.goto (-45), 3) := by decide +kernel
theorem d_Mod_witness_139 : dec m_Mod_witness 139 = .ok (.aload_n 0, 1) := by decide +kernel
theorem d_Mod_witness_140 : dec m_Mod_witness 140 = .ok (.bipush 17, 2) := by decide +kernel
theorem d_Mod_witness_142 : dec m_Mod_witness 142 = .ok (.iload_n 1, 1) := by decide +kernel
theorem d_Mod_witness_143 : dec m_Mod_witness 143 = .ok (.invokevirtual 208, 3) := by decide +kernel
theorem d_Mod_witness_146 : dec m_Mod_witness 146 = .ok (.aload_n 0, 1) := by decide +kernel
theorem d_Mod_witness_147 : dec m_Mod_witness 147 = .ok (.iload_n 1, 1) := by decide +kernel
theorem d_Mod_witness_148 : dec m_Mod_witness 148 = .ok (.invokevirtual 202, 3) := by decide +kernel
theorem d_Mod_witness_151 : dec m_Mod_witness 151 = .ok (.ireturn, 1) := by decide +kernel
theorem d_Mod_through_0 : dec m_Mod_through 0 = .ok (.iload_n 1, 1) := by decide +kernel
theorem d_Mod_through_1 : dec m_Mod_through 1 = .ok (.invokestatic 182, 3) := by decide +kernel
theorem d_Mod_through_4 : dec m_Mod_through 4 = .ok (.ifCond .ne 5, 3) := by decide +kernel
theorem d_Mod_through_7 : dec m_Mod_through 7 = .ok (.iconst (-1), 1) := by decide +kernel
theorem d_Mod_through_8 : dec m_Mod_through 8 = .ok (.ireturn, 1) := by decide +kernel
theorem d_Mod_through_9 : dec m_Mod_through 9 = .ok (.aload_n 0, 1) := by decide +kernel
theorem d_Mod_through_10 : dec m_Mod_through 10 = .ok (.getfield 133, 3) := by decide +kernel
theorem d_Mod_through_13 : dec m_Mod_through 13 = .ok (.iconst 3, 1) := by decide +kernel
theorem d_Mod_through_14 : dec m_Mod_through 14 = .ok (.if_icmp .ge 6, 3) := by decide +kernel
theorem d_Mod_through_17 : dec m_Mod_through 17 = .ok (.bipush (-3), 2) := by decide +kernel
theorem d_Mod_through_19 : dec m_Mod_through 19 = .ok (.ireturn, 1) := by decide +kernel
theorem d_Mod_through_20 : dec m_Mod_through 20 = .ok (.lconst 0, 1) := by decide +kernel
theorem d_Mod_through_21 : dec m_Mod_through 21 = .ok (.lstore_n 2, 1) := by decide +kernel
theorem d_Mod_through_22 : dec m_Mod_through 22 = .ok (.iconst 0, 1) := by decide +kernel
theorem d_Mod_through_23 : dec m_Mod_through 23 = .ok (.istore 4, 2) := by decide +kernel
theorem d_Mod_through_25 : dec m_Mod_through 25 = .ok (.iconst 0, 1) := by decide +kernel
theorem d_Mod_through_26 : dec m_Mod_through 26 = .ok (.istore 5, 2) := by decide +kernel
theorem d_Mod_through_28 : dec m_Mod_through 28 = .ok (.iload 5, 2) := by decide +kernel
theorem d_Mod_through_30 : dec m_Mod_through 30 = .ok (.bipush 84, 2) := by decide +kernel
theorem d_Mod_through_32 : dec m_Mod_through 32 = .ok (.if_icmp .ge 77, 3) := by decide +kernel
theorem d_Mod_through_35 : dec m_Mod_through 35 = .ok (.aload_n 0, 1) := by decide +kernel
theorem d_Mod_through_36 : dec m_Mod_through 36 = .ok (.getfield 9, 3) := by decide +kernel
theorem d_Mod_through_39 : dec m_Mod_through 39 = .ok (.bipush 84, 2) := by decide +kernel
theorem d_Mod_through_41 : dec m_Mod_through 41 = .ok (.iload_n 1, 1) := by decide +kernel
theorem d_Mod_through_42 : dec m_Mod_through 42 = .ok (.imul, 1) := by decide +kernel
theorem d_Mod_through_43 : dec m_Mod_through 43 = .ok (.iload 5, 2) := by decide +kernel
theorem d_Mod_through_45 : dec m_Mod_through 45 = .ok (.iadd, 1) := by decide +kernel
theorem d_Mod_through_46 : dec m_Mod_through 46 = .ok (.laload, 1) := by decide +kernel
theorem d_Mod_through_47 : dec m_Mod_through 47 = .ok (.lstore 6, 2) := by decide +kernel
theorem d_Mod_through_49 : dec m_Mod_through 49 = .ok (.lload 6, 2) := by decide +kernel
theorem d_Mod_through_51 : dec m_Mod_through 51 = .ok (.lconst 0, 1) := by decide +kernel
theorem d_Mod_through_52 : dec m_Mod_through 52 = .ok (.lcmp, 1) := by decide +kernel
theorem d_Mod_through_53 : dec m_Mod_through 53 = .ok (.ifCond .eq 50, 3) := by decide +kernel
theorem d_Mod_through_56 : dec m_Mod_through 56 = .ok (.iload 4, 2) := by decide +kernel
theorem d_Mod_through_58 : dec m_Mod_through 58 = .ok (.ifCond .ne 14, 3) := by decide +kernel
theorem d_Mod_through_61 : dec m_Mod_through 61 = .ok (.aload_n 0, 1) := by decide +kernel
theorem d_Mod_through_62 : dec m_Mod_through 62 = .ok (.iload 5, 2) := by decide +kernel
theorem d_Mod_through_64 : dec m_Mod_through 64 = .ok (.invokevirtual 358, 3) := by decide +kernel
theorem d_Mod_through_67 : dec m_Mod_through 67 = .ok (.bipush 6, 2) := by decide +kernel
theorem d_Mod_through_69 : dec m_Mod_through 69 = .ok (.if_icmp .le 7, 3) := by decide +kernel
theorem d_Mod_through_72 : dec m_Mod_through 72 = .ok (.iconst 1, 1) := by decide +kernel
theorem d_Mod_through_73 : dec m_Mod_through 73 = .ok (.goto 4, 3) := by decide +kernel
theorem d_Mod_through_76 : dec m_Mod_through 76 = .ok (.iconst 0, 1) := by decide +kernel
theorem d_Mod_through_77 : dec m_Mod_through 77 = .ok (.istore 4, 2) := by decide +kernel
theorem d_Mod_through_79 : dec m_Mod_through 79 = .ok (.aload_n 0, 1) := by decide +kernel
theorem d_Mod_through_80 : dec m_Mod_through 80 = .ok (.iload 5, 2) := by decide +kernel
theorem d_Mod_through_82 : dec m_Mod_through 82 = .ok (.invokevirtual 361, 3) := by decide +kernel
theorem d_Mod_through_85 : dec m_Mod_through 85 = .ok (.lload_n 2, 1) := by decide +kernel
theorem d_Mod_through_86 : dec m_Mod_through 86 = .ok (.lload 6, 2) := by decide +kernel
theorem d_Mod_through_88 : dec m_Mod_through 88 = .ok (.invokestatic 158, 3) := by decide +kernel
theorem d_Mod_through_91 : dec m_Mod_through 91 = .ok (.aload_n 0, 1) := by decide +kernel
theorem d_Mod_through_92 : dec m_Mod_through 92 = .ok (.iconst 2, 1) := by decide +kernel
theorem d_Mod_through_93 : dec m_Mod_through 93 = .ok (.invokevirtual 338, 3) := by decide +kernel
theorem d_Mod_through_96 : dec m_Mod_through 96 = .ok (.invokestatic 205, 3) := by decide +kernel
theorem d_Mod_through_99 : dec m_Mod_through 99 = .ok (.invokestatic 198, 3) := by decide +kernel
theorem d_Mod_through_102 : dec m_Mod_through 102 = .ok (.lstore_n 2, 1) := by decide +kernel
theorem d_Mod_through_103 : dec m_Mod_through 103 = .ok (.iinc 5 1, 3) := by decide +kernel
theorem d_Mod_through_106 : dec m_Mod_through 106 = .ok (.goto (-78), 3) := by decide +kernel
theorem d_Mod_through_109 : dec m_Mod_through 109 = .ok (.iload 4, 2) := by decide +kernel
theorem d_Mod_through_111 : dec m_Mod_through 111 = .ok (.ifCond .ne 9, 3) := by decide +kernel
theorem d_Mod_through_114 : dec m_Mod_through 114 = .ok (.lload_n 2, 1) := by decide +kernel
theorem d_Mod_through_115 : dec m_Mod_through 115 = .ok (.lconst 0, 1) := by decide +kernel
theorem d_Mod_through_116 : dec m_Mod_through 116 = .ok (.lcmp, 1) := by decide +kernel
theorem d_Mod_through_117 : dec m_Mod_through 117 = .ok (.ifCond .ge 16, 3) := by decide +kernel
theorem d_Mod_through_120 : dec m_Mod_through 120 = .ok (.iload 4, 2) := by decide +kernel
theorem d_Mod_through_122 : dec m_Mod_through 122 = .ok (.ifCond .eq 8, 3) := by decide +kernel
theorem d_Mod_through_125 : dec m_Mod_through 125 = .ok (.bipush (-6), 2) := by decide +kernel
theorem d_Mod_through_127 : dec m_Mod_through 127 = .ok (.goto 5, 3) := by decide +kernel
theorem d_Mod_through_130 : dec m_Mod_through 130 = .ok (.bipush (-5), 2) := by decide +kernel
theorem d_Mod_through_132 : dec m_Mod_through 132 = .ok (.ireturn, 1) := by decide +kernel
theorem d_Mod_through_133 : dec m_Mod_through 133 = .ok (.aload_n 0, 1) := by decide +kernel
theorem d_Mod_through_134 : dec m_Mod_through 134 = .ok (.bipush 17, 2) := by decide +kernel
theorem d_Mod_through_136 : dec m_Mod_through 136 = .ok (.invokevirtual 162, 3) := by decide +kernel
theorem d_Mod_through_139 : dec m_Mod_through 139 = .ok (.iconst 0, 1) := by decide +kernel
theorem d_Mod_through_140 : dec m_Mod_through 140 = .ok (.istore 5, 2) := by decide +kernel
theorem d_Mod_through_142 : dec m_Mod_through 142 = .ok (.iload 5, 2) := by decide +kernel
theorem d_Mod_through_144 : dec m_Mod_through 144 = .ok (.bipush 84, 2) := by decide +kernel
theorem d_Mod_through_146 : dec m_Mod_through 146 = .ok (.if_icmp .ge 59, 3) := by decide +kernel
theorem d_Mod_through_149 : dec m_Mod_through 149 = .ok (.aload_n 0, 1) := by decide +kernel
theorem d_Mod_through_150 : dec m_Mod_through 150 = .ok (.getfield 9, 3) := by decide +kernel
theorem d_Mod_through_153 : dec m_Mod_through 153 = .ok (.bipush 84, 2) := by decide +kernel
theorem d_Mod_through_155 : dec m_Mod_through 155 = .ok (.iload_n 1, 1) := by decide +kernel
theorem d_Mod_through_156 : dec m_Mod_through 156 = .ok (.imul, 1) := by decide +kernel
theorem d_Mod_through_157 : dec m_Mod_through 157 = .ok (.iload 5, 2) := by decide +kernel
theorem d_Mod_through_159 : dec m_Mod_through 159 = .ok (.iadd, 1) := by decide +kernel
theorem d_Mod_through_160 : dec m_Mod_through 160 = .ok (.laload, 1) := by decide +kernel
theorem d_Mod_through_161 : dec m_Mod_through 161 = .ok (.lconst 0, 1) := by decide +kernel
theorem d_Mod_through_162 : dec m_Mod_through 162 = .ok (.lcmp, 1) := by decide +kernel
theorem d_Mod_through_163 : dec m_Mod_through 163 = .ok (.ifCond .eq 36, 3) := by decide +kernel
theorem d_Mod_through_166 : dec m_Mod_through 166 = .ok (.aload_n 0, 1) := by decide +kernel
theorem d_Mod_through_167 : dec m_Mod_through 167 = .ok (.iload 5, 2) := by decide +kernel
theorem d_Mod_through_169 : dec m_Mod_through 169 = .ok (.invokevirtual 361, 3) := by decide +kernel
theorem d_Mod_through_172 : dec m_Mod_through 172 = .ok (.aload_n 0, 1) := by decide +kernel
theorem d_Mod_through_173 : dec m_Mod_through 173 = .ok (.iconst 2, 1) := by decide +kernel
theorem d_Mod_through_174 : dec m_Mod_through 174 = .ok (.bipush 13, 2) := by decide +kernel
theorem d_Mod_through_176 : dec m_Mod_through 176 = .ok (.invokevirtual 341, 3) := by decide +kernel
theorem d_Mod_through_179 : dec m_Mod_through 179 = .ok (.aload_n 0, 1) := by decide +kernel
theorem d_Mod_through_180 : dec m_Mod_through 180 = .ok (.bipush 17, 2) := by decide +kernel
theorem d_Mod_through_182 : dec m_Mod_through 182 = .ok (.bipush 13, 2) := by decide +kernel
theorem d_Mod_through_184 : dec m_Mod_through 184 = .ok (.aload_n 0, 1) := by decide +kernel
theorem d_Mod_through_185 : dec m_Mod_through 185 = .ok (.getfield 9, 3) := by decide +kernel
theorem d_Mod_through_188 : dec m_Mod_through 188 = .ok (.bipush 84, 2) := by decide +kernel
theorem d_Mod_through_190 : dec m_Mod_through 190 = .ok (.iload_n 1, 1) := by decide +kernel
theorem d_Mod_through_191 : dec m_Mod_through 191 = .ok (.imul, 1) := by decide +kernel
theorem d_Mod_through_192 : dec m_Mod_through 192 = .ok (.iload 5, 2) := by decide +kernel
theorem d_Mod_through_194 : dec m_Mod_through 194 = .ok (.iadd, 1) := by decide +kernel
theorem d_Mod_through_195 : dec m_Mod_through 195 = .ok (.laload, 1) := by decide +kernel
theorem d_Mod_through_196 : dec m_Mod_through 196 = .ok (.invokevirtual 212, 3) := by decide +kernel
theorem d_Mod_through_199 : dec m_Mod_through 199 = .ok (.iinc 5 1, 3) := by decide +kernel
theorem d_Mod_through_202 : dec m_Mod_through 202 = .ok (.goto (-60), 3) := by decide +kernel
theorem d_Mod_through_205 : dec m_Mod_through 205 = .ok (.aload_n 0, 1) := by decide +kernel
theorem d_Mod_through_206 : dec m_Mod_through 206 = .ok (.bipush 17, 2) := by decide +kernel
theorem d_Mod_through_208 : dec m_Mod_through 208 = .ok (.iload_n 1, 1) := by decide +kernel
theorem d_Mod_through_209 : dec m_Mod_through 209 = .ok (.invokevirtual 208, 3) := by decide +kernel
theorem d_Mod_through_212 : dec m_Mod_through 212 = .ok (.aload_n 0, 1) := by decide +kernel
theorem d_Mod_through_213 : dec m_Mod_through 213 = .ok (.iload_n 1, 1) := by decide +kernel
theorem d_Mod_through_214 : dec m_Mod_through 214 = .ok (.invokevirtual 202, 3) := by decide +kernel
theorem d_Mod_through_217 : dec m_Mod_through 217 = .ok (.ireturn, 1) := by decide +kernel
theorem d_Mod_depthBy_0 : dec m_Mod_depthBy 0 = .ok (.aload_n 0, 1) := by decide +kernel
theorem d_Mod_depthBy_1 : dec m_Mod_depthBy 1 = .ok (.getfield 18, 3) := by decide +kernel
theorem d_Mod_depthBy_4 : dec m_Mod_depthBy 4 = .ok (.iload_n 1, 1) := by decide +kernel
theorem d_Mod_depthBy_5 : dec m_Mod_depthBy 5 = .ok (.iaload, 1) := by decide +kernel
theorem d_Mod_depthBy_6 : dec m_Mod_depthBy 6 = .ok (.aload_n 0, 1) := by decide +kernel
theorem d_Mod_depthBy_7 : dec m_Mod_depthBy 7 = .ok (.aload_n 0, 1) := by decide +kernel
theorem d_Mod_depthBy_8 : dec m_Mod_depthBy 8 = .ok (.getfield 37, 3) := by decide +kernel
theorem d_Mod_depthBy_11 : dec m_Mod_depthBy 11 = .ok (.iconst 0, 1) := by decide +kernel
theorem d_Mod_depthBy_12 : dec m_Mod_depthBy 12 = .ok (.iaload, 1) := by decide +kernel
theorem d_Mod_depthBy_13 : dec m_Mod_depthBy 13 = .ok (.invokevirtual 147, 3) := by decide +kernel
theorem d_Mod_depthBy_16 : dec m_Mod_depthBy 16 = .ok (.imul, 1) := by decide +kernel
