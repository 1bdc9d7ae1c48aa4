theorem d_Mod_depthBy_17 : dec m_Mod_depthBy 17 = .ok (.aload_n 0, 1) := by decide +kernel
theorem d_Mod_depthBy_18 : dec m_Mod_depthBy 18 = .ok (.getfield 22, 3) := by decide +kernel
theorem d_Mod_depthBy_21 : dec m_Mod_depthBy 21 = .ok (.iload_n 1, 1) := by decide +kernel
theorem d_Mod_depthBy_22 : dec m_Mod_depthBy 22 = .ok (.iaload, 1) := by decide +kernel
theorem d_Mod_depthBy_23 : dec m_Mod_depthBy 23 = .ok (.aload_n 0, 1) := by decide +kernel
theorem d_Mod_depthBy_24 : dec m_Mod_depthBy 24 = .ok (.aload_n 0, 1) := by decide +kernel
theorem d_Mod_depthBy_25 : dec m_Mod_depthBy 25 = .ok (.getfield 37, 3) := by decide +kernel
theorem d_Mod_depthBy_28 : dec m_Mod_depthBy 28 = .ok (.iconst 1, 1) := by decide +kernel
theorem d_Mod_depthBy_29 : dec m_Mod_depthBy 29 = .ok (.iaload, 1) := by decide +kernel
theorem d_Mod_depthBy_30 : dec m_Mod_depthBy 30 = .ok (.invokevirtual 147, 3) := by decide +kernel
theorem d_Mod_depthBy_33 : dec m_Mod_depthBy 33 = .ok (.imul, 1) := by decide +kernel
theorem d_Mod_depthBy_34 : dec m_Mod_depthBy 34 = .ok (.iadd, 1) := by decide +kernel
theorem d_Mod_depthBy_35 : dec m_Mod_depthBy 35 = .ok (.aload_n 0, 1) := by decide +kernel
theorem d_Mod_depthBy_36 : dec m_Mod_depthBy 36 = .ok (.getfield 25, 3) := by decide +kernel
theorem d_Mod_depthBy_39 : dec m_Mod_depthBy 39 = .ok (.iload_n 1, 1) := by decide +kernel
theorem d_Mod_depthBy_40 : dec m_Mod_depthBy 40 = .ok (.iaload, 1) := by decide +kernel
theorem d_Mod_depthBy_41 : dec m_Mod_depthBy 41 = .ok (.aload_n 0, 1) := by decide +kernel
theorem d_Mod_depthBy_42 : dec m_Mod_depthBy 42 = .ok (.aload_n 0, 1) := by decide +kernel
theorem d_Mod_depthBy_43 : dec m_Mod_depthBy 43 = .ok (.getfield 37, 3) := by decide +kernel
theorem d_Mod_depthBy_46 : dec m_Mod_depthBy 46 = .ok (.iconst 2, 1) := by decide +kernel
theorem d_Mod_depthBy_47 : dec m_Mod_depthBy 47 = .ok (.iaload, 1) := by decide +kernel
theorem d_Mod_depthBy_48 : dec m_Mod_depthBy 48 = .ok (.invokevirtual 147, 3) := by decide +kernel
theorem d_Mod_depthBy_51 : dec m_Mod_depthBy 51 = .ok (.imul, 1) := by decide +kernel
theorem d_Mod_depthBy_52 : dec m_Mod_depthBy 52 = .ok (.iadd, 1) := by decide +kernel
theorem d_Mod_depthBy_53 : dec m_Mod_depthBy 53 = .ok (.ireturn, 1) := by decide +kernel
theorem d_Mod_layPowers_0 : dec m_Mod_layPowers 0 = .ok (.iconst 0, 1) := by decide +kernel
theorem d_Mod_layPowers_1 : dec m_Mod_layPowers 1 = .ok (.istore_n 2, 1) := by decide +kernel
theorem d_Mod_layPowers_2 : dec m_Mod_layPowers 2 = .ok (.iload_n 2, 1) := by decide +kernel
theorem d_Mod_layPowers_3 : dec m_Mod_layPowers 3 = .ok (.bipush 7, 2) := by decide +kernel
theorem d_Mod_layPowers_5 : dec m_Mod_layPowers 5 = .ok (.if_icmp .ge 60, 3) := by decide +kernel
theorem d_Mod_layPowers_8 : dec m_Mod_layPowers 8 = .ok (.aload_n 0, 1) := by decide +kernel
theorem d_Mod_layPowers_9 : dec m_Mod_layPowers 9 = .ok (.getfield 91, 3) := by decide +kernel
theorem d_Mod_layPowers_12 : dec m_Mod_layPowers 12 = .ok (.bipush 14, 2) := by decide +kernel
theorem d_Mod_layPowers_14 : dec m_Mod_layPowers 14 = .ok (.iload_n 2, 1) := by decide +kernel
theorem d_Mod_layPowers_15 : dec m_Mod_layPowers 15 = .ok (.iadd, 1) := by decide +kernel
theorem d_Mod_layPowers_16 : dec m_Mod_layPowers 16 = .ok (.iload_n 2, 1) := by decide +kernel
theorem d_Mod_layPowers_17 : dec m_Mod_layPowers 17 = .ok (.ifCond .ne 12, 3) := by decide +kernel
theorem d_Mod_layPowers_20 : dec m_Mod_layPowers 20 = .ok (.aload_n 0, 1) := by decide +kernel
theorem d_Mod_layPowers_21 : dec m_Mod_layPowers 21 = .ok (.getfield 18, 3) := by decide +kernel
theorem d_Mod_layPowers_24 : dec m_Mod_layPowers 24 = .ok (.iload_n 1, 1) := by decide +kernel
theorem d_Mod_layPowers_25 : dec m_Mod_layPowers 25 = .ok (.iaload, 1) := by decide +kernel
theorem d_Mod_layPowers_26 : dec m_Mod_layPowers 26 = .ok (.goto 32, 3) := by decide +kernel
theorem d_Mod_layPowers_29 : dec m_Mod_layPowers 29 = .ok (.iload_n 2, 1) := by decide +kernel
theorem d_Mod_layPowers_30 : dec m_Mod_layPowers 30 = .ok (.iconst 1, 1) := by decide +kernel
theorem d_Mod_layPowers_31 : dec m_Mod_layPowers 31 = .ok (.if_icmp .ne 12, 3) := by decide +kernel
theorem d_Mod_layPowers_34 : dec m_Mod_layPowers 34 = .ok (.aload_n 0, 1) := by decide +kernel
theorem d_Mod_layPowers_35 : dec m_Mod_layPowers 35 = .ok (.getfield 22, 3) := by decide +kernel
theorem d_Mod_layPowers_38 : dec m_Mod_layPowers 38 = .ok (.iload_n 1, 1) := by decide +kernel
theorem d_Mod_layPowers_39 : dec m_Mod_layPowers 39 = .ok (.iaload, 1) := by decide +kernel
theorem d_Mod_layPowers_40 : dec m_Mod_layPowers 40 = .ok (.goto 18, 3) := by decide +kernel
theorem d_Mod_layPowers_43 : dec m_Mod_layPowers 43 = .ok (.iload_n 2, 1) := by decide +kernel
theorem d_Mod_layPowers_44 : dec m_Mod_layPowers 44 = .ok (.iconst 2, 1) := by decide +kernel
theorem d_Mod_layPowers_45 : dec m_Mod_layPowers 45 = .ok (.if_icmp .ne 12, 3) := by decide +kernel
theorem d_Mod_layPowers_48 : dec m_Mod_layPowers 48 = .ok (.aload_n 0, 1) := by decide +kernel
theorem d_Mod_layPowers_49 : dec m_Mod_layPowers 49 = .ok (.getfield 25, 3) := by decide +kernel
theorem d_Mod_layPowers_52 : dec m_Mod_layPowers 52 = .ok (.iload_n 1, 1) := by decide +kernel
theorem d_Mod_layPowers_53 : dec m_Mod_layPowers 53 = .ok (.iaload, 1) := by decide +kernel
theorem d_Mod_layPowers_54 : dec m_Mod_layPowers 54 = .ok (.goto 4, 3) := by decide +kernel
theorem d_Mod_layPowers_57 : dec m_Mod_layPowers 57 = .ok (.iconst 0, 1) := by decide +kernel
theorem d_Mod_layPowers_58 : dec m_Mod_layPowers 58 = .ok (.iastore, 1) := by decide +kernel
theorem d_Mod_layPowers_59 : dec m_Mod_layPowers 59 = .ok (.iinc 2 1, 3) := by decide +kernel
theorem d_Mod_layPowers_62 : dec m_Mod_layPowers 62 = .ok (.goto (-60), 3) := by decide +kernel
theorem d_Mod_layPowers_65 : dec m_Mod_layPowers 65 = .ok (.return_, 1) := by decide +kernel
theorem d_Mod_beginRelations_0 : dec m_Mod_beginRelations 0 = .ok (.aload_n 0, 1) := by decide +kernel
theorem d_Mod_beginRelations_1 : dec m_Mod_beginRelations 1 = .ok (.iconst (-1), 1) := by decide +kernel
theorem d_Mod_beginRelations_2 : dec m_Mod_beginRelations 2 = .ok (.putfield 364, 3) := by decide +kernel
theorem d_Mod_beginRelations_5 : dec m_Mod_beginRelations 5 = .ok (.aload_n 0, 1) := by decide +kernel
theorem d_Mod_beginRelations_6 : dec m_Mod_beginRelations 6 = .ok (.iconst 0, 1) := by decide +kernel
theorem d_Mod_beginRelations_7 : dec m_Mod_beginRelations 7 = .ok (.putfield 367, 3) := by decide +kernel
theorem d_Mod_beginRelations_10 : dec m_Mod_beginRelations 10 = .ok (.aload_n 0, 1) := by decide +kernel
theorem d_Mod_beginRelations_11 : dec m_Mod_beginRelations 11 = .ok (.iconst 0, 1) := by decide +kernel
theorem d_Mod_beginRelations_12 : dec m_Mod_beginRelations 12 = .ok (.putfield 370, 3) := by decide +kernel
theorem d_Mod_beginRelations_15 : dec m_Mod_beginRelations 15 = .ok (.return_, 1) := by decide +kernel
theorem d_Mod_share_0 : dec m_Mod_share 0 = .ok (.iconst 0, 1) := by decide +kernel
theorem d_Mod_share_1 : dec m_Mod_share 1 = .ok (.istore_n 3, 1) := by decide +kernel
theorem d_Mod_share_2 : dec m_Mod_share 2 = .ok (.iconst 0, 1) := by decide +kernel
theorem d_Mod_share_3 : dec m_Mod_share 3 = .ok (.istore 4, 2) := by decide +kernel
theorem d_Mod_share_5 : dec m_Mod_share 5 = .ok (.iload 4, 2) := by decide +kernel
theorem d_Mod_share_7 : dec m_Mod_share 7 = .ok (.bipush 7, 2) := by decide +kernel
theorem d_Mod_share_9 : dec m_Mod_share 9 = .ok (.if_icmp .ge 49, 3) := by decide +kernel
theorem d_Mod_share_12 : dec m_Mod_share 12 = .ok (.iload_n 3, 1) := by decide +kernel
theorem d_Mod_share_13 : dec m_Mod_share 13 = .ok (.ifCond .ne 33, 3) := by decide +kernel
theorem d_Mod_share_16 : dec m_Mod_share 16 = .ok (.aload_n 0, 1) := by decide +kernel
theorem d_Mod_share_17 : dec m_Mod_share 17 = .ok (.getfield 97, 3) := by decide +kernel
theorem d_Mod_share_20 : dec m_Mod_share 20 = .ok (.bipush 7, 2) := by decide +kernel
theorem d_Mod_share_22 : dec m_Mod_share 22 = .ok (.iload_n 1, 1) := by decide +kernel
theorem d_Mod_share_23 : dec m_Mod_share 23 = .ok (.imul, 1) := by decide +kernel
theorem d_Mod_share_24 : dec m_Mod_share 24 = .ok (.iload 4, 2) := by decide +kernel
theorem d_Mod_share_26 : dec m_Mod_share 26 = .ok (.iadd, 1) := by decide +kernel
theorem d_Mod_share_27 : dec m_Mod_share 27 = .ok (.iaload, 1) := by decide +kernel
theorem d_Mod_share_28 : dec m_Mod_share 28 = .ok (.ifCond .le 22, 3) := by decide +kernel
theorem d_Mod_share_31 : dec m_Mod_share 31 = .ok (.aload_n 0, 1) := by decide +kernel
theorem d_Mod_share_32 : dec m_Mod_share 32 = .ok (.getfield 97, 3) := by decide +kernel
theorem d_Mod_share_35 : dec m_Mod_share 35 = .ok (.bipush 7, 2) := by decide +kernel
theorem d_Mod_share_37 : dec m_Mod_share 37 = .ok (.iload_n 2, 1) := by decide +kernel
theorem d_Mod_share_38 : dec m_Mod_share 38 = .ok (.imul, 1) := by decide +kernel
theorem d_Mod_share_39 : dec m_Mod_share 39 = .ok (.iload 4, 2) := by decide +kernel
theorem d_Mod_share_41 : dec m_Mod_share 41 = .ok (.iadd, 1) := by decide +kernel
theorem d_Mod_share_42 : dec m_Mod_share 42 = .ok (.iaload, 1) := by decide +kernel
theorem d_Mod_share_43 : dec m_Mod_share 43 = .ok (.ifCond .le 7, 3) := by decide +kernel
theorem d_Mod_share_46 : dec m_Mod_share 46 = .ok (.iconst 1, 1) := by decide +kernel
theorem d_Mod_share_47 : dec m_Mod_share 47 = .ok (.goto 4, 3) := by decide +kernel
theorem d_Mod_share_50 : dec m_Mod_share 50 = .ok (.iconst 0, 1) := by decide +kernel
theorem d_Mod_share_51 : dec m_Mod_share 51 = .ok (.istore_n 3, 1) := by decide +kernel
theorem d_Mod_share_52 : dec m_Mod_share 52 = .ok (.iinc 4 1, 3) := by decide +kernel
theorem d_Mod_share_55 : dec m_Mod_share 55 = .ok (.goto (-50), 3) := by decide +kernel
theorem d_Mod_share_58 : dec m_Mod_share 58 = .ok (.iload_n 3, 1) := by decide +kernel
theorem d_Mod_share_59 : dec m_Mod_share 59 = .ok (.ireturn, 1) := by decide +kernel
theorem d_Mod_layGroups_0 : dec m_Mod_layGroups 0 = .ok (.aload_n 0, 1) := by decide +kernel
theorem d_Mod_layGroups_1 : dec m_Mod_layGroups 1 = .ok (.iload_n 1, 1) := by decide +kernel
theorem d_Mod_layGroups_2 : dec m_Mod_layGroups 2 = .ok (.iload_n 2, 1) := by decide +kernel
theorem d_Mod_layGroups_3 : dec m_Mod_layGroups 3 = .ok (.invokevirtual 298, 3) := by decide +kernel
theorem d_Mod_layGroups_6 : dec m_Mod_layGroups 6 = .ok (.aload_n 0, 1) := by decide +kernel
theorem d_Mod_layGroups_7 : dec m_Mod_layGroups 7 = .ok (.aload_n 0, 1) := by decide +kernel
theorem d_Mod_layGroups_8 : dec m_Mod_layGroups 8 = .ok (.getfield 301, 3) := by decide +kernel
theorem d_Mod_layGroups_11 : dec m_Mod_layGroups 11 = .ok (.putfield 370, 3) := by decide +kernel
theorem d_Mod_layGroups_14 : dec m_Mod_layGroups 14 = .ok (.iconst 0, 1) := by decide +kernel
theorem d_Mod_layGroups_15 : dec m_Mod_layGroups 15 = .ok (.istore_n 3, 1) := by decide +kernel
theorem d_Mod_layGroups_16 : dec m_Mod_layGroups 16 = .ok (.iload_n 3, 1) := by decide +kernel
theorem d_Mod_layGroups_17 : dec m_Mod_layGroups 17 = .ok (.bipush 7, 2) := by decide +kernel
theorem d_Mod_layGroups_19 : dec m_Mod_layGroups 19 = .ok (.aload_n 0, 1) := by decide +kernel
theorem d_Mod_layGroups_20 : dec m_Mod_layGroups 20 = .ok (.getfield 301, 3) := by decide +kernel
theorem d_Mod_layGroups_23 : dec m_Mod_layGroups 23 = .ok (.imul, 1) := by decide +kernel
theorem d_Mod_layGroups_24 : dec m_Mod_layGroups 24 = .ok (.if_icmp .ge 21, 3) := by decide +kernel
theorem d_Mod_layGroups_27 : dec m_Mod_layGroups 27 = .ok (.aload_n 0, 1) := by decide +kernel
theorem d_Mod_layGroups_28 : dec m_Mod_layGroups 28 = .ok (.getfield 97, 3) := by decide +kernel
theorem d_Mod_layGroups_31 : dec m_Mod_layGroups 31 = .ok (.iload_n 3, 1) := by decide +kernel
theorem d_Mod_layGroups_32 : dec m_Mod_layGroups 32 = .ok (.aload_n 0, 1) := by decide +kernel
theorem d_Mod_layGroups_33 : dec m_Mod_layGroups 33 = .ok (.getfield 76, 3) := by decide +kernel
theorem d_Mod_layGroups_36 : dec m_Mod_layGroups 36 = .ok (.iload_n 3, 1) := by decide +kernel
theorem d_Mod_layGroups_37 : dec m_Mod_layGroups 37 = .ok (.iaload, 1) := by decide +kernel
theorem d_Mod_layGroups_38 : dec m_Mod_layGroups 38 = .ok (.iastore, 1) := by decide +kernel
theorem d_Mod_layGroups_39 : dec m_Mod_layGroups 39 = .ok (.iinc 3 1, 3) := by decide +kernel
theorem d_Mod_layGroups_42 : dec m_Mod_layGroups 42 = .ok (.goto (-26), 3) := by decide +kernel
theorem d_Mod_layGroups_45 : dec m_Mod_layGroups 45 = .ok (.iconst 0, 1) := by decide +kernel
theorem d_Mod_layGroups_46 : dec m_Mod_layGroups 46 = .ok (.istore_n 3, 1) := by decide +kernel
theorem d_Mod_layGroups_47 : dec m_Mod_layGroups 47 = .ok (.iload_n 3, 1) := by decide +kernel
theorem d_Mod_layGroups_48 : dec m_Mod_layGroups 48 = .ok (.aload_n 0, 1) := by decide +kernel
theorem d_Mod_layGroups_49 : dec m_Mod_layGroups 49 = .ok (.getfield 370, 3) := by decide +kernel
theorem d_Mod_layGroups_52 : dec m_Mod_layGroups 52 = .ok (.if_icmp .ge 16, 3) := by decide +kernel
theorem d_Mod_layGroups_55 : dec m_Mod_layGroups 55 = .ok (.aload_n 0, 1) := by decide +kernel
theorem d_Mod_layGroups_56 : dec m_Mod_layGroups 56 = .ok (.getfield 94, 3) := by decide +kernel
theorem d_Mod_layGroups_59 : dec m_Mod_layGroups 59 = .ok (.iload_n 3, 1) := by decide +kernel
theorem d_Mod_layGroups_60 : dec m_Mod_layGroups 60 = .ok (.iload_n 3, 1) := by decide +kernel
theorem d_Mod_layGroups_61 : dec m_Mod_layGroups 61 = .ok (.iastore, 1) := by decide +kernel
theorem d_Mod_layGroups_62 : dec m_Mod_layGroups 62 = .ok (.iinc 3 1, 3) := by decide +kernel
theorem d_Mod_layGroups_65 : dec m_Mod_layGroups 65 = .ok (.goto (-18), 3) := by decide +kernel
theorem d_Mod_layGroups_68 : dec m_Mod_layGroups 68 = .ok (.iconst 1, 1) := by decide +kernel
theorem d_Mod_layGroups_69 : dec m_Mod_layGroups 69 = .ok (.istore_n 3, 1) := by decide +kernel
theorem d_Mod_layGroups_70 : dec m_Mod_layGroups 70 = .ok (.iload_n 3, 1) := by decide +kernel
theorem d_Mod_layGroups_71 : dec m_Mod_layGroups 71 = .ok (.ifCond .eq 126, 3) := by decide +kernel
theorem d_Mod_layGroups_74 : dec m_Mod_layGroups 74 = .ok (.iconst 0, 1) := by decide +kernel
theorem d_Mod_layGroups_75 : dec m_Mod_layGroups 75 = .ok (.istore_n 3, 1) := by decide +kernel
theorem d_Mod_layGroups_76 : dec m_Mod_layGroups 76 = .ok (.iconst 0, 1) := by decide +kernel
theorem d_Mod_layGroups_77 : dec m_Mod_layGroups 77 = .ok (.istore 4, 2) := by decide +kernel
theorem d_Mod_layGroups_79 : dec m_Mod_layGroups 79 = .ok (.iload 4, 2) := by decide +kernel
theorem d_Mod_layGroups_81 : dec m_Mod_layGroups 81 = .ok (.aload_n 0, 1) := by decide +kernel
theorem d_Mod_layGroups_82 : dec m_Mod_layGroups 82 = .ok (.getfield 370, 3) := by decide +kernel
theorem d_Mod_layGroups_85 : dec m_Mod_layGroups 85 = .ok (.if_icmp .ge 109, 3) := by decide +kernel
theorem d_Mod_layGroups_88 : dec m_Mod_layGroups 88 = .ok (.iconst 0, 1) := by decide +kernel
theorem d_Mod_layGroups_89 : dec m_Mod_layGroups 89 = .ok (.istore 5, 2) := by decide +kernel
theorem d_Mod_layGroups_91 : dec m_Mod_layGroups 91 = .ok (.iload 5, 2) := by decide +kernel
theorem d_Mod_layGroups_93 : dec m_Mod_layGroups 93 = .ok (.iload 4, 2) := by decide +kernel
theorem d_Mod_layGroups_95 : dec m_Mod_layGroups 95 = .ok (.if_icmp .ge 93, 3) := by decide +kernel
theorem d_Mod_layGroups_98 : dec m_Mod_layGroups 98 = .ok (.aload_n 0, 1) := by decide +kernel
theorem d_Mod_layGroups_99 : dec m_Mod_layGroups 99 = .ok (.getfield 94, 3) := by decide +kernel
theorem d_Mod_layGroups_102 : dec m_Mod_layGroups 102 = .ok (.iload 4, 2) := by decide +kernel
theorem d_Mod_layGroups_104 : dec m_Mod_layGroups 104 = .ok (.iaload, 1) := by decide +kernel
theorem d_Mod_layGroups_105 : dec m_Mod_layGroups 105 = .ok (.aload_n 0, 1) := by decide +kernel
theorem d_Mod_layGroups_106 : dec m_Mod_layGroups 106 = .ok (.getfield 94, 3) := by decide +kernel
theorem d_Mod_layGroups_109 : dec m_Mod_layGroups 109 = .ok (.iload 5, 2) := by decide +kernel
theorem d_Mod_layGroups_111 : dec m_Mod_layGroups 111 = .ok (.iaload, 1) := by decide +kernel
theorem d_Mod_layGroups_112 : dec m_Mod_layGroups 112 = .ok (.if_icmp .eq 70, 3) := by decide +kernel
theorem d_Mod_layGroups_115 : dec m_Mod_layGroups 115 = .ok (.aload_n 0, 1) := by decide +kernel
theorem d_Mod_layGroups_116 : dec m_Mod_layGroups 116 = .ok (.iload 4, 2) := by decide +kernel
theorem d_Mod_layGroups_118 : dec m_Mod_layGroups 118 = .ok (.iload 5, 2) := by decide +kernel
theorem d_Mod_layGroups_120 : dec m_Mod_layGroups 120 = .ok (.invokevirtual 373, 3) := by decide +kernel
theorem d_Mod_layGroups_123 : dec m_Mod_layGroups 123 = .ok (.ifCond .eq 59, 3) := by decide +kernel
theorem d_Mod_layGroups_126 : dec m_Mod_layGroups 126 = .ok (.aload_n 0, 1) := by decide +kernel
theorem d_Mod_layGroups_127 : dec m_Mod_layGroups 127 = .ok (.getfield 94, 3) := by decide +kernel
theorem d_Mod_layGroups_130 : dec m_Mod_layGroups 130 = .ok (.iload 4, 2) := by decide +kernel
theorem d_Mod_layGroups_132 : dec m_Mod_layGroups 132 = .ok (.iaload, 1) := by decide +kernel
theorem d_Mod_layGroups_133 : dec m_Mod_layGroups 133 = .ok (.aload_n 0, 1) := by decide +kernel
theorem d_Mod_layGroups_134 : dec m_Mod_layGroups 134 = .ok (.getfield 94, 3) := by decide +kernel
theorem d_Mod_layGroups_137 : dec m_Mod_layGroups 137 = .ok (.iload 5, 2) := by decide +kernel
theorem d_Mod_layGroups_139 : dec m_Mod_layGroups 139 = .ok (.iaload, 1) := by decide +kernel
theorem d_Mod_layGroups_140 : dec m_Mod_layGroups 140 = .ok (.if_icmp .ge 13, 3) := by decide +kernel
theorem d_Mod_layGroups_143 : dec m_Mod_layGroups 143 = .ok (.aload_n 0, 1) := by decide +kernel
theorem d_Mod_layGroups_144 : dec m_Mod_layGroups 144 = .ok (.getfield 94, 3) := by decide +kernel
theorem d_Mod_layGroups_147 : dec m_Mod_layGroups 147 = .ok (.iload 4, 2) := by decide +kernel
theorem d_Mod_layGroups_149 : dec m_Mod_layGroups 149 = .ok (.iaload, 1) := by decide +kernel
theorem d_Mod_layGroups_150 : dec m_Mod_layGroups 150 = .ok (.goto 10, 3) := by decide +kernel
theorem d_Mod_layGroups_153 : dec m_Mod_layGroups 153 = .ok (.aload_n 0, 1) := by decide +kernel
theorem d_Mod_layGroups_154 : dec m_Mod_layGroups 154 = .ok (.getfield 94, 3) := by decide +kernel
theorem d_Mod_layGroups_157 : dec m_Mod_layGroups 157 = .ok (.iload 5, 2) := by decide +kernel
theorem d_Mod_layGroups_159 : dec m_Mod_layGroups 159 = .ok (.iaload, 1) := by decide +kernel
theorem d_Mod_layGroups_160 : dec m_Mod_layGroups 160 = .ok (.istore 6, 2) := by decide +kernel
theorem d_Mod_layGroups_162 : dec m_Mod_layGroups 162 = .ok (.aload_n 0, 1) := by decide +kernel
theorem d_Mod_layGroups_163 : dec m_Mod_layGroups 163 = .ok (.getfield 94, 3) := by decide +kernel
theorem d_Mod_layGroups_166 : dec m_Mod_layGroups 166 = .ok (.iload 4, 2) := by decide +kernel
theorem d_Mod_layGroups_168 : dec m_Mod_layGroups 168 = .ok (.iload 6, 2) := by decide +kernel
theorem d_Mod_layGroups_170 : dec m_Mod_layGroups 170 = .ok (.iastore, 1) := by decide +kernel
theorem d_Mod_layGroups_171 : dec m_Mod_layGroups 171 = .ok (.aload_n 0, 1) := by decide +kernel
theorem d_Mod_layGroups_172 : dec m_Mod_layGroups 172 = .ok (.getfield 94, 3) := by decide +kernel
theorem d_Mod_layGroups_175 : dec m_Mod_layGroups 175 = .ok (.iload 5, 2) := by decide +kernel
theorem d_Mod_layGroups_177 : dec m_Mod_layGroups 177 = .ok (.iload 6, 2) := by decide +kernel
theorem d_Mod_layGroups_179 : dec m_Mod_layGroups 179 = .ok (.iastore, 1) := by decide +kernel
theorem d_Mod_layGroups_180 : dec m_Mod_layGroups 180 = .ok (.iconst 1, 1) := by decide +kernel
theorem d_Mod_layGroups_181 : dec m_Mod_layGroups 181 = .ok (.istore_n 3, 1) := by decide +kernel
theorem d_Mod_layGroups_182 : dec m_Mod_layGroups 182 = .ok (.iinc 5 1, 3) := by decide +kernel
theorem d_Mod_layGroups_185 : dec m_Mod_layGroups 185 = .ok (.goto (-94), 3) := by decide +kernel
theorem d_Mod_layGroups_188 : dec m_Mod_layGroups 188 = .ok (.iinc 4 1, 3) := by decide +kernel
theorem d_Mod_layGroups_191 : dec m_Mod_layGroups 191 = .ok (.goto (-112), 3) := by decide +kernel
theorem d_Mod_layGroups_194 : dec m_Mod_layGroups 194 = .ok (.goto (-124), 3) := by decide +kernel
theorem d_Mod_layGroups_197 : dec m_Mod_layGroups 197 = .ok (.return_, 1) := by decide +kernel
theorem d_Mod_nextRelation_0 : dec m_Mod_nextRelation 0 = .ok (.aload_n 0, 1) := by decide +kernel
theorem d_Mod_nextRelation_1 : dec m_Mod_nextRelation 1 = .ok (.getfield 364, 3) := by decide +kernel
theorem d_Mod_nextRelation_4 : dec m_Mod_nextRelation 4 = .ok (.bipush 84, 2) := by decide +kernel
theorem d_Mod_nextRelation_6 : dec m_Mod_nextRelation 6 = .ok (.if_icmp .ge 130, 3) := by decide +kernel
theorem d_Mod_nextRelation_9 : dec m_Mod_nextRelation 9 = .ok (.aload_n 0, 1) := by decide +kernel
theorem d_Mod_nextRelation_10 : dec m_Mod_nextRelation 10 = .ok (.getfield 367, 3) := by decide +kernel
theorem d_Mod_nextRelation_13 : dec m_Mod_nextRelation 13 = .ok (.iconst 1, 1) := by decide +kernel
theorem d_Mod_nextRelation_14 : dec m_Mod_nextRelation 14 = .ok (.iadd, 1) := by decide +kernel
theorem d_Mod_nextRelation_15 : dec m_Mod_nextRelation 15 = .ok (.aload_n 0, 1) := by decide +kernel
theorem d_Mod_nextRelation_16 : dec m_Mod_nextRelation 16 = .ok (.getfield 370, 3) := by decide +kernel
theorem d_Mod_nextRelation_19 : dec m_Mod_nextRelation 19 = .ok (.if_icmp .ge 54, 3) := by decide +kernel
theorem d_Mod_nextRelation_22 : dec m_Mod_nextRelation 22 = .ok (.aload_n 0, 1) := by decide +kernel
theorem d_Mod_nextRelation_23 : dec m_Mod_nextRelation 23 = .ok (.dup, 1) := by decide +kernel
theorem d_Mod_nextRelation_24 : dec m_Mod_nextRelation 24 = .ok (.getfield 367, 3) := by decide +kernel
theorem d_Mod_nextRelation_27 : dec m_Mod_nextRelation 27 = .ok (.iconst 1, 1) := by decide +kernel
theorem d_Mod_nextRelation_28 : dec m_Mod_nextRelation 28 = .ok (.iadd, 1) := by decide +kernel
theorem d_Mod_nextRelation_29 : dec m_Mod_nextRelation 29 = .ok (.putfield 367, 3) := by decide +kernel
theorem d_Mod_nextRelation_32 : dec m_Mod_nextRelation 32 = .ok (.aload_n 0, 1) := by decide +kernel
theorem d_Mod_nextRelation_33 : dec m_Mod_nextRelation 33 = .ok (.getfield 94, 3) := by decide +kernel
theorem d_Mod_nextRelation_36 : dec m_Mod_nextRelation 36 = .ok (.aload_n 0, 1) := by decide +kernel
theorem d_Mod_nextRelation_37 : dec m_Mod_nextRelation 37 = .ok (.getfield 367, 3) := by decide +kernel
theorem d_Mod_nextRelation_40 : dec m_Mod_nextRelation 40 = .ok (.iaload, 1) := by decide +kernel
theorem d_Mod_nextRelation_41 : dec m_Mod_nextRelation 41 = .ok (.aload_n 0, 1) := by decide +kernel
theorem d_Mod_nextRelation_42 : dec m_Mod_nextRelation 42 = .ok (.getfield 367, 3) := by decide +kernel
theorem d_Mod_nextRelation_45 : dec m_Mod_nextRelation 45 = .ok (.if_icmp .ne (-36), 3) := by decide +kernel
theorem d_Mod_nextRelation_48 : dec m_Mod_nextRelation 48 = .ok (.aload_n 0, 1) := by decide +kernel
theorem d_Mod_nextRelation_49 : dec m_Mod_nextRelation 49 = .ok (.aload_n 0, 1) := by decide +kernel
theorem d_Mod_nextRelation_50 : dec m_Mod_nextRelation 50 = .ok (.getfield 97, 3) := by decide +kernel
theorem d_Mod_nextRelation_53 : dec m_Mod_nextRelation 53 = .ok (.iconst 0, 1) := by decide +kernel
theorem d_Mod_nextRelation_54 : dec m_Mod_nextRelation 54 = .ok (.iconst 0, 1) := by decide +kernel
theorem d_Mod_nextRelation_55 : dec m_Mod_nextRelation 55 = .ok (.invokevirtual 334, 3) := by decide +kernel
theorem d_Mod_nextRelation_58 : dec m_Mod_nextRelation 58 = .ok (.aload_n 0, 1) := by decide +kernel
theorem d_Mod_nextRelation_59 : dec m_Mod_nextRelation 59 = .ok (.aload_n 0, 1) := by decide +kernel
theorem d_Mod_nextRelation_60 : dec m_Mod_nextRelation 60 = .ok (.getfield 97, 3) := by decide +kernel
theorem d_Mod_nextRelation_63 : dec m_Mod_nextRelation 63 = .ok (.aload_n 0, 1) := by decide +kernel
theorem d_Mod_nextRelation_64 : dec m_Mod_nextRelation 64 = .ok (.getfield 367, 3) := by decide +kernel
theorem d_Mod_nextRelation_67 : dec m_Mod_nextRelation 67 = .ok (.iconst 1, 1) := by decide +kernel
theorem d_Mod_nextRelation_68 : dec m_Mod_nextRelation 68 = .ok (.invokevirtual 334, 3) := by decide +kernel
theorem d_Mod_nextRelation_71 : dec m_Mod_nextRelation 71 = .ok (.iconst 1, 1) := by decide +kernel
theorem d_Mod_nextRelation_72 : dec m_Mod_nextRelation 72 = .ok (.ireturn, 1) := by decide +kernel
theorem d_Mod_nextRelation_73 : dec m_Mod_nextRelation 73 = .ok (.aload_n 0, 1) := by decide +kernel
theorem d_Mod_nextRelation_74 : dec m_Mod_nextRelation 74 = .ok (.dup, 1) := by decide +kernel
theorem d_Mod_nextRelation_75 : dec m_Mod_nextRelation 75 = .ok (.getfield 364, 3) := by decide +kernel
theorem d_Mod_nextRelation_78 : dec m_Mod_nextRelation 78 = .ok (.iconst 1, 1) := by decide +kernel
theorem d_Mod_nextRelation_79 : dec m_Mod_nextRelation 79 = .ok (.iadd, 1) := by decide +kernel
theorem d_Mod_nextRelation_80 : dec m_Mod_nextRelation 80 = .ok (.putfield 364, 3) := by decide +kernel
theorem d_Mod_nextRelation_83 : dec m_Mod_nextRelation 83 = .ok (.aload_n 0, 1) := by decide +kernel
theorem d_Mod_nextRelation_84 : dec m_Mod_nextRelation 84 = .ok (.iconst 0, 1) := by decide +kernel
theorem d_Mod_nextRelation_85 : dec m_Mod_nextRelation 85 = .ok (.putfield 367, 3) := by decide +kernel
theorem d_Mod_nextRelation_88 : dec m_Mod_nextRelation 88 = .ok (.aload_n 0, 1) := by decide +kernel
theorem d_Mod_nextRelation_89 : dec m_Mod_nextRelation 89 = .ok (.iconst 0, 1) := by decide +kernel
theorem d_Mod_nextRelation_90 : dec m_Mod_nextRelation 90 = .ok (.putfield 370, 3) := by decide +kernel
theorem d_Mod_nextRelation_93 : dec m_Mod_nextRelation 93 = .ok (.aload_n 0, 1) := by decide +kernel
theorem d_Mod_nextRelation_94 : dec m_Mod_nextRelation 94 = .ok (.getfield 364, 3) := by decide +kernel
theorem d_Mod_nextRelation_97 : dec m_Mod_nextRelation 97 = .ok (.bipush 84, 2) := by decide +kernel
theorem d_Mod_nextRelation_99 : dec m_Mod_nextRelation 99 = .ok (.if_icmp .ge (-99), 3) := by decide +kernel
theorem d_Mod_nextRelation_102 : dec m_Mod_nextRelation 102 = .ok (.aload_n 0, 1) := by decide +kernel
theorem d_Mod_nextRelation_103 : dec m_Mod_nextRelation 103 = .ok (.aload_n 0, 1) := by decide +kernel
theorem d_Mod_nextRelation_104 : dec m_Mod_nextRelation 104 = .ok (.getfield 31, 3) := by decide +kernel
theorem d_Mod_nextRelation_107 : dec m_Mod_nextRelation 107 = .ok (.aload_n 0, 1) := by decide +kernel
theorem d_Mod_nextRelation_108 : dec m_Mod_nextRelation 108 = .ok (.getfield 364, 3) := by decide +kernel
theorem d_Mod_nextRelation_111 : dec m_Mod_nextRelation 111 = .ok (.iaload, 1) := by decide +kernel
theorem d_Mod_nextRelation_112 : dec m_Mod_nextRelation 112 = .ok (.invokevirtual 147, 3) := by decide +kernel
theorem d_Mod_nextRelation_115 : dec m_Mod_nextRelation 115 = .ok (.iload_n 1, 1) := by decide +kernel
theorem d_Mod_nextRelation_116 : dec m_Mod_nextRelation 116 = .ok (.if_icmp .gt (-116), 3) := by decide +kernel
theorem d_Mod_nextRelation_119 : dec m_Mod_nextRelation 119 = .ok (.aload_n 0, 1) := by decide +kernel
theorem d_Mod_nextRelation_120 : dec m_Mod_nextRelation 120 = .ok (.aload_n 0, 1) := by decide +kernel
theorem d_Mod_nextRelation_121 : dec m_Mod_nextRelation 121 = .ok (.getfield 31, 3) := by decide +kernel
theorem d_Mod_nextRelation_124 : dec m_Mod_nextRelation 124 = .ok (.aload_n 0, 1) := by decide +kernel
theorem d_Mod_nextRelation_125 : dec m_Mod_nextRelation 125 = .ok (.getfield 364, 3) := by decide +kernel
theorem d_Mod_nextRelation_128 : dec m_Mod_nextRelation 128 = .ok (.iaload, 1) := by decide +kernel
theorem d_Mod_nextRelation_129 : dec m_Mod_nextRelation 129 = .ok (.iload_n 2, 1) := by decide +kernel
theorem d_Mod_nextRelation_130 : dec m_Mod_nextRelation 130 = .ok (.invokevirtual 376, 3) := by decide +kernel
theorem d_Mod_nextRelation_133 : dec m_Mod_nextRelation 133 = .ok (.goto (-133), 3) := by decide +kernel
theorem d_Mod_nextRelation_136 : dec m_Mod_nextRelation 136 = .ok (.iconst 0, 1) := by decide +kernel
theorem d_Mod_nextRelation_137 : dec m_Mod_nextRelation 137 = .ok (.ireturn, 1) := by decide +kernel
theorem d_Mod_isRelation_0 : dec m_Mod_isRelation 0 = .ok (.aload_n 0, 1) := by decide +kernel
theorem d_Mod_isRelation_1 : dec m_Mod_isRelation 1 = .ok (.invokevirtual 379, 3) := by decide +kernel
theorem d_Mod_isRelation_4 : dec m_Mod_isRelation 4 = .ok (.iload_n 2, 1) := by decide +kernel
theorem d_Mod_isRelation_5 : dec m_Mod_isRelation 5 = .ok (.ifCond .lt 7, 3) := by decide +kernel
theorem d_Mod_isRelation_8 : dec m_Mod_isRelation 8 = .ok (.iconst 1, 1) := by decide +kernel
theorem d_Mod_isRelation_9 : dec m_Mod_isRelation 9 = .ok (.goto 4, 3) := by decide +kernel
theorem d_Mod_isRelation_12 : dec m_Mod_isRelation 12 = .ok (.iconst 0, 1) := by decide +kernel
theorem d_Mod_isRelation_13 : dec m_Mod_isRelation 13 = .ok (.istore_n 3, 1) := by decide +kernel
theorem d_Mod_isRelation_14 : dec m_Mod_isRelation 14 = .ok (.iconst 0, 1) := by decide +kernel
theorem d_Mod_isRelation_15 : dec m_Mod_isRelation 15 = .ok (.istore 4, 2) := by decide +kernel
theorem d_Mod_isRelation_17 : dec m_Mod_isRelation 17 = .ok (.iload 4, 2) := by decide +kernel
theorem d_Mod_isRelation_19 : dec m_Mod_isRelation 19 = .ok (.iload_n 2, 1) := by decide +kernel
theorem d_Mod_isRelation_20 : dec m_Mod_isRelation 20 = .ok (.if_icmp .gt 23, 3) := by decide +kernel
theorem d_Mod_isRelation_23 : dec m_Mod_isRelation 23 = .ok (.iload_n 3, 1) := by decide +kernel
theorem d_Mod_isRelation_24 : dec m_Mod_isRelation 24 = .ok (.ifCond .eq 19, 3) := by decide +kernel
theorem d_Mod_isRelation_27 : dec m_Mod_isRelation 27 = .ok (.aload_n 0, 1) := by decide +kernel
theorem d_Mod_isRelation_28 : dec m_Mod_isRelation 28 = .ok (.iload_n 1, 1) := by decide +kernel
theorem d_Mod_isRelation_29 : dec m_Mod_isRelation 29 = .ok (.aload_n 0, 1) := by decide +kernel
theorem d_Mod_isRelation_30 : dec m_Mod_isRelation 30 = .ok (.getfield 133, 3) := by decide +kernel
theorem d_Mod_isRelation_33 : dec m_Mod_isRelation 33 = .ok (.invokevirtual 382, 3) := by decide +kernel
theorem d_Mod_isRelation_36 : dec m_Mod_isRelation 36 = .ok (.istore_n 3, 1) := by decide +kernel
theorem d_Mod_isRelation_37 : dec m_Mod_isRelation 37 = .ok (.iinc 4 1, 3) := by decide +kernel
theorem d_Mod_isRelation_40 : dec m_Mod_isRelation 40 = .ok (.goto (-23), 3) := by decide +kernel
theorem d_Mod_isRelation_43 : dec m_Mod_isRelation 43 = .ok (.iload_n 3, 1) := by decide +kernel
theorem d_Mod_isRelation_44 : dec m_Mod_isRelation 44 = .ok (.ireturn, 1) := by decide +kernel
theorem d_Mod_isBound_0 : dec m_Mod_isBound 0 = .ok (.iload_n 0, 1) := by decide +kernel
theorem d_Mod_isBound_1 : dec m_Mod_isBound 1 = .ok (.i2l, 1) := by decide +kernel
theorem d_Mod_isBound_2 : dec m_Mod_isBound 2 = .ok (.lconst 1, 1) := by decide +kernel
theorem d_Mod_isBound_3 : dec m_Mod_isBound 3 = .ok (.ldc2_w 137, 3) := by decide +kernel
theorem d_Mod_isBound_6 : dec m_Mod_isBound 6 = .ok (.invokestatic 139, 3) := by decide +kernel
theorem d_Mod_isBound_9 : dec m_Mod_isBound 9 = .ok (.ireturn, 1) := by decide +kernel
theorem d_Mod_relations_0 : dec m_Mod_relations 0 = .ok (.iload_n 1, 1) := by decide +kernel
theorem d_Mod_relations_1 : dec m_Mod_relations 1 = .ok (.invokestatic 385, 3) := by decide +kernel
theorem d_Mod_relations_4 : dec m_Mod_relations 4 = .ok (.ifCond .ne 5, 3) := by decide +kernel
theorem d_Mod_relations_7 : dec m_Mod_relations 7 = .ok (.iconst (-1), 1) := by decide +kernel
theorem d_Mod_relations_8 : dec m_Mod_relations 8 = .ok (.ireturn, 1) := by decide +kernel
theorem d_Mod_relations_9 : dec m_Mod_relations 9 = .ok (.iconst 0, 1) := by decide +kernel
theorem d_Mod_relations_10 : dec m_Mod_relations 10 = .ok (.istore_n 2, 1) := by decide +kernel
theorem d_Mod_relations_11 : dec m_Mod_relations 11 = .ok (.aload_n 0, 1) := by decide +kernel
theorem d_Mod_relations_12 : dec m_Mod_relations 12 = .ok (.invokevirtual 379, 3) := by decide +kernel
theorem d_Mod_relations_15 : dec m_Mod_relations 15 = .ok (.aload_n 0, 1) := by decide +kernel
theorem d_Mod_relations_16 : dec m_Mod_relations 16 = .ok (.iload_n 1, 1) := by decide +kernel
theorem d_Mod_relations_17 : dec m_Mod_relations 17 = .ok (.aload_n 0, 1) := by decide +kernel
theorem d_Mod_relations_18 : dec m_Mod_relations 18 = .ok (.getfield 133, 3) := by decide +kernel
theorem d_Mod_relations_21 : dec m_Mod_relations 21 = .ok (.invokevirtual 382, 3) := by decide +kernel
theorem d_Mod_relations_24 : dec m_Mod_relations 24 = .ok (.ifCond .eq 9, 3) := by decide +kernel
theorem d_Mod_relations_27 : dec m_Mod_relations 27 = .ok (.iinc 2 1, 3) := by decide +kernel
theorem d_Mod_relations_30 : dec m_Mod_relations 30 = .ok (.goto (-15), 3) := by decide +kernel
theorem d_Mod_relations_33 : dec m_Mod_relations 33 = .ok (.iload_n 2, 1) := by decide +kernel
theorem d_Mod_relations_34 : dec m_Mod_relations 34 = .ok (.ireturn, 1) := by decide +kernel
theorem d_Mod_relation_0 : dec m_Mod_relation 0 = .ok (.iload_n 1, 1) := by decide +kernel
theorem d_Mod_relation_1 : dec m_Mod_relation 1 = .ok (.invokestatic 385, 3) := by decide +kernel
theorem d_Mod_relation_4 : dec m_Mod_relation 4 = .ok (.ifCond .eq 22, 3) := by decide +kernel
theorem d_Mod_relation_7 : dec m_Mod_relation 7 = .ok (.iload_n 3, 1) := by decide +kernel
theorem d_Mod_relation_8 : dec m_Mod_relation 8 = .ok (.i2l, 1) := by decide +kernel
theorem d_Mod_relation_9 : dec m_Mod_relation 9 = .ok (.lconst 0, 1) := by decide +kernel
theorem d_Mod_relation_10 : dec m_Mod_relation 10 = .ok (.lconst 1, 1) := by decide +kernel
theorem d_Mod_relation_11 : dec m_Mod_relation 11 = .ok (.invokestatic 139, 3) := by decide +kernel
theorem d_Mod_relation_14 : dec m_Mod_relation 14 = .ok (.ifCond .eq 12, 3) := by decide +kernel
theorem d_Mod_relation_17 : dec m_Mod_relation 17 = .ok (.aload_n 0, 1) := by decide +kernel
theorem d_Mod_relation_18 : dec m_Mod_relation 18 = .ok (.iload 4, 2) := by decide +kernel
theorem d_Mod_relation_20 : dec m_Mod_relation 20 = .ok (.invokevirtual 287, 3) := by decide +kernel
theorem d_Mod_relation_23 : dec m_Mod_relation 23 = .ok (.ifCond .ne 5, 3) := by decide +kernel
theorem d_Mod_relation_26 : dec m_Mod_relation 26 = .ok (.iconst (-1), 1) := by decide +kernel
theorem d_Mod_relation_27 : dec m_Mod_relation 27 = .ok (.ireturn, 1) := by decide +kernel
theorem d_Mod_relation_28 : dec m_Mod_relation 28 = .ok (.aload_n 0, 1) := by decide +kernel
theorem d_Mod_relation_29 : dec m_Mod_relation 29 = .ok (.iload_n 1, 1) := by decide +kernel
theorem d_Mod_relation_30 : dec m_Mod_relation 30 = .ok (.iload_n 2, 1) := by decide +kernel
theorem d_Mod_relation_31 : dec m_Mod_relation 31 = .ok (.invokevirtual 388, 3) := by decide +kernel
theorem d_Mod_relation_34 : dec m_Mod_relation 34 = .ok (.ifCond .eq 26, 3) := by decide +kernel
theorem d_Mod_relation_37 : dec m_Mod_relation 37 = .ok (.aload_n 0, 1) := by decide +kernel
theorem d_Mod_relation_38 : dec m_Mod_relation 38 = .ok (.getfield 91, 3) := by decide +kernel
theorem d_Mod_relation_41 : dec m_Mod_relation 41 = .ok (.bipush 7, 2) := by decide +kernel
theorem d_Mod_relation_43 : dec m_Mod_relation 43 = .ok (.iload_n 3, 1) := by decide +kernel
theorem d_Mod_relation_44 : dec m_Mod_relation 44 = .ok (.ifCond .ne 7, 3) := by decide +kernel
theorem d_Mod_relation_47 : dec m_Mod_relation 47 = .ok (.iconst 0, 1) := by decide +kernel
theorem d_Mod_relation_48 : dec m_Mod_relation 48 = .ok (.goto 4, 3) := by decide +kernel
theorem d_Mod_relation_51 : dec m_Mod_relation 51 = .ok (.iconst 1, 1) := by decide +kernel
theorem d_Mod_relation_52 : dec m_Mod_relation 52 = .ok (.imul, 1) := by decide +kernel
theorem d_Mod_relation_53 : dec m_Mod_relation 53 = .ok (.iload 4, 2) := by decide +kernel
theorem d_Mod_relation_55 : dec m_Mod_relation 55 = .ok (.iadd, 1) := by decide +kernel
theorem d_Mod_relation_56 : dec m_Mod_relation 56 = .ok (.iaload, 1) := by decide +kernel
theorem d_Mod_relation_57 : dec m_Mod_relation 57 = .ok (.goto 5, 3) := by decide +kernel
theorem d_Mod_relation_60 : dec m_Mod_relation 60 = .ok (.bipush (-2), 2) := by decide +kernel
theorem d_Mod_relation_62 : dec m_Mod_relation 62 = .ok (.ireturn, 1) := by decide +kernel
theorem d_Mod_layDifference_0 : dec m_Mod_layDifference 0 = .ok (.aload_n 0, 1) := by decide +kernel
theorem d_Mod_layDifference_1 : dec m_Mod_layDifference 1 = .ok (.iload_n 1, 1) := by decide +kernel
theorem d_Mod_layDifference_2 : dec m_Mod_layDifference 2 = .ok (.invokevirtual 338, 3) := by decide +kernel
theorem d_Mod_layDifference_5 : dec m_Mod_layDifference 5 = .ok (.aload_n 0, 1) := by decide +kernel
theorem d_Mod_layDifference_6 : dec m_Mod_layDifference 6 = .ok (.iload_n 2, 1) := by decide +kernel
theorem d_Mod_layDifference_7 : dec m_Mod_layDifference 7 = .ok (.invokevirtual 338, 3) := by decide +kernel
theorem d_Mod_layDifference_10 : dec m_Mod_layDifference 10 = .ok (.invokestatic 198, 3) := by decide +kernel
theorem d_Mod_layDifference_13 : dec m_Mod_layDifference 13 = .ok (.lconst 0, 1) := by decide +kernel
theorem d_Mod_layDifference_14 : dec m_Mod_layDifference 14 = .ok (.lcmp, 1) := by decide +kernel
theorem d_Mod_layDifference_15 : dec m_Mod_layDifference 15 = .ok (.ifCond .ge 5, 3) := by decide +kernel
theorem d_Mod_layDifference_18 : dec m_Mod_layDifference 18 = .ok (.iconst 0, 1) := by decide +kernel
theorem d_Mod_layDifference_19 : dec m_Mod_layDifference 19 = .ok (.ireturn, 1) := by decide +kernel
theorem d_Mod_layDifference_20 : dec m_Mod_layDifference 20 = .ok (.aload_n 0, 1) := by decide +kernel
theorem d_Mod_layDifference_21 : dec m_Mod_layDifference 21 = .ok (.iload_n 1, 1) := by decide +kernel
theorem d_Mod_layDifference_22 : dec m_Mod_layDifference 22 = .ok (.bipush 18, 2) := by decide +kernel
theorem d_Mod_layDifference_24 : dec m_Mod_layDifference 24 = .ok (.invokevirtual 341, 3) := by decide +kernel
theorem d_Mod_layDifference_27 : dec m_Mod_layDifference 27 = .ok (.aload_n 0, 1) := by decide +kernel
theorem d_Mod_layDifference_28 : dec m_Mod_layDifference 28 = .ok (.iload_n 2, 1) := by decide +kernel
theorem d_Mod_layDifference_29 : dec m_Mod_layDifference 29 = .ok (.bipush 13, 2) := by decide +kernel
theorem d_Mod_layDifference_31 : dec m_Mod_layDifference 31 = .ok (.invokevirtual 341, 3) := by decide +kernel
theorem d_Mod_layDifference_34 : dec m_Mod_layDifference 34 = .ok (.aload_n 0, 1) := by decide +kernel
theorem d_Mod_layDifference_35 : dec m_Mod_layDifference 35 = .ok (.bipush 18, 2) := by decide +kernel
theorem d_Mod_layDifference_37 : dec m_Mod_layDifference 37 = .ok (.bipush 13, 2) := by decide +kernel
theorem d_Mod_layDifference_39 : dec m_Mod_layDifference 39 = .ok (.ldc2_w 145, 3) := by decide +kernel
theorem d_Mod_layDifference_42 : dec m_Mod_layDifference 42 = .ok (.invokevirtual 212, 3) := by decide +kernel
theorem d_Mod_layDifference_45 : dec m_Mod_layDifference 45 = .ok (.iconst 1, 1) := by decide +kernel
theorem d_Mod_layDifference_46 : dec m_Mod_layDifference 46 = .ok (.ireturn, 1) := by decide +kernel
theorem d_Mod_difference_0 : dec m_Mod_difference 0 = .ok (.iload_n 1, 1) := by decide +kernel
theorem d_Mod_difference_1 : dec m_Mod_difference 1 = .ok (.invokestatic 385, 3) := by decide +kernel
theorem d_Mod_difference_4 : dec m_Mod_difference 4 = .ok (.ifCond .eq 10, 3) := by decide +kernel
theorem d_Mod_difference_7 : dec m_Mod_difference 7 = .ok (.iload_n 3, 1) := by decide +kernel
theorem d_Mod_difference_8 : dec m_Mod_difference 8 = .ok (.invokestatic 182, 3) := by decide +kernel
theorem d_Mod_difference_11 : dec m_Mod_difference 11 = .ok (.ifCond .ne 5, 3) := by decide +kernel
theorem d_Mod_difference_14 : dec m_Mod_difference 14 = .ok (.iconst (-1), 1) := by decide +kernel
theorem d_Mod_difference_15 : dec m_Mod_difference 15 = .ok (.ireturn, 1) := by decide +kernel
theorem d_Mod_difference_16 : dec m_Mod_difference 16 = .ok (.aload_n 0, 1) := by decide +kernel
theorem d_Mod_difference_17 : dec m_Mod_difference 17 = .ok (.iload_n 1, 1) := by decide +kernel
theorem d_Mod_difference_18 : dec m_Mod_difference 18 = .ok (.iload_n 2, 1) := by decide +kernel
theorem d_Mod_difference_19 : dec m_Mod_difference 19 = .ok (.invokevirtual 388, 3) := by decide +kernel
theorem d_Mod_difference_22 : dec m_Mod_difference 22 = .ok (.ifCond .ne 6, 3) := by decide +kernel
theorem d_Mod_difference_25 : dec m_Mod_difference 25 = .ok (.bipush (-2), 2) := by decide +kernel
theorem d_Mod_difference_27 : dec m_Mod_difference 27 = .ok (.ireturn, 1) := by decide +kernel
theorem d_Mod_difference_28 : dec m_Mod_difference 28 = .ok (.aload_n 0, 1) := by decide +kernel
theorem d_Mod_difference_29 : dec m_Mod_difference 29 = .ok (.iconst 0, 1) := by decide +kernel
theorem d_Mod_difference_30 : dec m_Mod_difference 30 = .ok (.iconst 1, 1) := by decide +kernel
theorem d_Mod_difference_31 : dec m_Mod_difference 31 = .ok (.invokevirtual 391, 3) := by decide +kernel
theorem d_Mod_difference_34 : dec m_Mod_difference 34 = .ok (.ifCond .ne 6, 3) := by decide +kernel
theorem d_Mod_difference_37 : dec m_Mod_difference 37 = .ok (.bipush (-5), 2) := by decide +kernel
theorem d_Mod_difference_39 : dec m_Mod_difference 39 = .ok (.ireturn, 1) := by decide +kernel
theorem d_Mod_difference_40 : dec m_Mod_difference 40 = .ok (.aload_n 0, 1) := by decide +kernel
theorem d_Mod_difference_41 : dec m_Mod_difference 41 = .ok (.bipush 18, 2) := by decide +kernel
theorem d_Mod_difference_43 : dec m_Mod_difference 43 = .ok (.iload_n 3, 1) := by decide +kernel
theorem d_Mod_difference_44 : dec m_Mod_difference 44 = .ok (.invokevirtual 208, 3) := by decide +kernel
theorem d_Mod_difference_47 : dec m_Mod_difference 47 = .ok (.aload_n 0, 1) := by decide +kernel
theorem d_Mod_difference_48 : dec m_Mod_difference 48 = .ok (.iload_n 3, 1) := by decide +kernel
theorem d_Mod_difference_49 : dec m_Mod_difference 49 = .ok (.invokevirtual 202, 3) := by decide +kernel
theorem d_Mod_difference_52 : dec m_Mod_difference 52 = .ok (.ireturn, 1) := by decide +kernel
theorem d_Mod_open_0 : dec m_Mod_open 0 = .ok (.iload_n 1, 1) := by decide +kernel
theorem d_Mod_open_1 : dec m_Mod_open 1 = .ok (.invokestatic 385, 3) := by decide +kernel
theorem d_Mod_open_4 : dec m_Mod_open 4 = .ok (.ifCond .ne 5, 3) := by decide +kernel
theorem d_Mod_open_7 : dec m_Mod_open 7 = .ok (.iconst (-1), 1) := by decide +kernel
theorem d_Mod_open_8 : dec m_Mod_open 8 = .ok (.ireturn, 1) := by decide +kernel
theorem d_Mod_open_9 : dec m_Mod_open 9 = .ok (.iconst 0, 1) := by decide +kernel
theorem d_Mod_open_10 : dec m_Mod_open 10 = .ok (.istore_n 2, 1) := by decide +kernel
theorem d_Mod_open_11 : dec m_Mod_open 11 = .ok (.aload_n 0, 1) := by decide +kernel
theorem d_Mod_open_12 : dec m_Mod_open 12 = .ok (.invokevirtual 379, 3) := by decide +kernel
theorem d_Mod_open_15 : dec m_Mod_open 15 = .ok (.aload_n 0, 1) := by decide +kernel
theorem d_Mod_open_16 : dec m_Mod_open 16 = .ok (.iload_n 1, 1) := by decide +kernel
theorem d_Mod_open_17 : dec m_Mod_open 17 = .ok (.aload_n 0, 1) := by decide +kernel
theorem d_Mod_open_18 : dec m_Mod_open 18 = .ok (.getfield 133, 3) := by decide +kernel
theorem d_Mod_open_21 : dec m_Mod_open 21 = .ok (.invokevirtual 382, 3) := by decide +kernel
theorem d_Mod_open_24 : dec m_Mod_open 24 = .ok (.ifCond .eq 39, 3) := by decide +kernel
theorem d_Mod_open_27 : dec m_Mod_open 27 = .ok (.aload_n 0, 1) := by decide +kernel
theorem d_Mod_open_28 : dec m_Mod_open 28 = .ok (.iconst 0, 1) := by decide +kernel
theorem d_Mod_open_29 : dec m_Mod_open 29 = .ok (.iconst 1, 1) := by decide +kernel
theorem d_Mod_open_30 : dec m_Mod_open 30 = .ok (.invokevirtual 391, 3) := by decide +kernel
theorem d_Mod_open_33 : dec m_Mod_open 33 = .ok (.ifCond .eq 10, 3) := by decide +kernel
theorem d_Mod_open_36 : dec m_Mod_open 36 = .ok (.aload_n 0, 1) := by decide +kernel
theorem d_Mod_open_37 : dec m_Mod_open 37 = .ok (.invokevirtual 344, 3) := by decide +kernel
theorem d_Mod_open_40 : dec m_Mod_open 40 = .ok (.ifCond .ne 6, 3) := by decide +kernel
theorem d_Mod_open_43 : dec m_Mod_open 43 = .ok (.bipush (-5), 2) := by decide +kernel
theorem d_Mod_open_45 : dec m_Mod_open 45 = .ok (.ireturn, 1) := by decide +kernel
theorem d_Mod_open_46 : dec m_Mod_open 46 = .ok (.aload_n 0, 1) := by decide +kernel
theorem d_Mod_open_47 : dec m_Mod_open 47 = .ok (.bipush 18, 2) := by decide +kernel
theorem d_Mod_open_49 : dec m_Mod_open 49 = .ok (.invokevirtual 351, 3) := by decide +kernel
theorem d_Mod_open_52 : dec m_Mod_open 52 = .ok (.ifCond .ne 5, 3) := by decide +kernel
theorem d_Mod_open_55 : dec m_Mod_open 55 = .ok (.iload_n 2, 1) := by decide +kernel
theorem d_Mod_open_56 : dec m_Mod_open 56 = .ok (.ireturn, 1) := by decide +kernel
theorem d_Mod_open_57 : dec m_Mod_open 57 = .ok (.iinc 2 1, 3) := by decide +kernel
theorem d_Mod_open_60 : dec m_Mod_open 60 = .ok (.goto (-45), 3) := by decide +kernel
theorem d_Mod_open_63 : dec m_Mod_open 63 = .ok (.bipush (-2), 2) := by decide +kernel
theorem d_Mod_open_65 : dec m_Mod_open 65 = .ok (.ireturn, 1) := by decide +kernel
theorem d_Mod_growBy_0 : dec m_Mod_growBy 0 = .ok (.aload_n 0, 1) := by decide +kernel
theorem d_Mod_growBy_1 : dec m_Mod_growBy 1 = .ok (.iconst 0, 1) := by decide +kernel
theorem d_Mod_growBy_2 : dec m_Mod_growBy 2 = .ok (.iconst 1, 1) := by decide +kernel
theorem d_Mod_growBy_3 : dec m_Mod_growBy 3 = .ok (.invokevirtual 391, 3) := by decide +kernel
theorem d_Mod_growBy_6 : dec m_Mod_growBy 6 = .ok (.ifCond .eq 10, 3) := by decide +kernel
theorem d_Mod_growBy_9 : dec m_Mod_growBy 9 = .ok (.aload_n 0, 1) := by decide +kernel
theorem d_Mod_growBy_10 : dec m_Mod_growBy 10 = .ok (.invokevirtual 344, 3) := by decide +kernel
theorem d_Mod_growBy_13 : dec m_Mod_growBy 13 = .ok (.ifCond .ne 5, 3) := by decide +kernel
theorem d_Mod_growBy_16 : dec m_Mod_growBy 16 = .ok (.iconst 3, 1) := by decide +kernel
theorem d_Mod_growBy_17 : dec m_Mod_growBy 17 = .ok (.ireturn, 1) := by decide +kernel
theorem d_Mod_growBy_18 : dec m_Mod_growBy 18 = .ok (.aload_n 0, 1) := by decide +kernel
theorem d_Mod_growBy_19 : dec m_Mod_growBy 19 = .ok (.bipush 18, 2) := by decide +kernel
theorem d_Mod_growBy_21 : dec m_Mod_growBy 21 = .ok (.invokevirtual 239, 3) := by decide +kernel
theorem d_Mod_growBy_24 : dec m_Mod_growBy 24 = .ok (.istore_n 1, 1) := by decide +kernel
theorem d_Mod_growBy_25 : dec m_Mod_growBy 25 = .ok (.iload_n 1, 1) := by decide +kernel
theorem d_Mod_growBy_26 : dec m_Mod_growBy 26 = .ok (.ifCond .ge 5, 3) := by decide +kernel
theorem d_Mod_growBy_29 : dec m_Mod_growBy 29 = .ok (.iconst (-1), 1) := by decide +kernel
theorem d_Mod_growBy_30 : dec m_Mod_growBy 30 = .ok (.ireturn, 1) := by decide +kernel
theorem d_Mod_growBy_31 : dec m_Mod_growBy 31 = .ok (.aload_n 0, 1) := by decide +kernel
theorem d_Mod_growBy_32 : dec m_Mod_growBy 32 = .ok (.getfield 9, 3) := by decide +kernel
theorem d_Mod_growBy_35 : dec m_Mod_growBy 35 = .ok (.sipush 1512, 3) := by decide +kernel
theorem d_Mod_growBy_38 : dec m_Mod_growBy 38 = .ok (.iload_n 1, 1) := by decide +kernel
theorem d_Mod_growBy_39 : dec m_Mod_growBy 39 = .ok (.iadd, 1) := by decide +kernel
theorem d_Mod_growBy_40 : dec m_Mod_growBy 40 = .ok (.laload, 1) := by decide +kernel
theorem d_Mod_growBy_41 : dec m_Mod_growBy 41 = .ok (.lstore_n 2, 1) := by decide +kernel
theorem d_Mod_growBy_42 : dec m_Mod_growBy 42 = .ok (.lload_n 2, 1) := by decide +kernel
theorem d_Mod_growBy_43 : dec m_Mod_growBy 43 = .ok (.invokestatic 158, 3) := by decide +kernel
theorem d_Mod_growBy_46 : dec m_Mod_growBy 46 = .ok (.lconst 1, 1) := by decide +kernel
theorem d_Mod_growBy_47 : dec m_Mod_growBy 47 = .ok (.lcmp, 1) := by decide +kernel
theorem d_Mod_growBy_48 : dec m_Mod_growBy 48 = .ok (.ifCond .eq 5, 3) := by decide +kernel
theorem d_Mod_growBy_51 : dec m_Mod_growBy 51 = .ok (.iconst 2, 1) := by decide +kernel
theorem d_Mod_growBy_52 : dec m_Mod_growBy 52 = .ok (.ireturn, 1) := by decide +kernel
theorem d_Mod_growBy_53 : dec m_Mod_growBy 53 = .ok (.aload_n 0, 1) := by decide +kernel
theorem d_Mod_growBy_54 : dec m_Mod_growBy 54 = .ok (.getfield 133, 3) := by decide +kernel
theorem d_Mod_growBy_57 : dec m_Mod_growBy 57 = .ok (.bipush 7, 2) := by decide +kernel
theorem d_Mod_growBy_59 : dec m_Mod_growBy 59 = .ok (.if_icmp .ne 5, 3) := by decide +kernel
theorem d_Mod_growBy_62 : dec m_Mod_growBy 62 = .ok (.iconst 1, 1) := by decide +kernel
theorem d_Mod_growBy_63 : dec m_Mod_growBy 63 = .ok (.ireturn, 1) := by decide +kernel
theorem d_Mod_growBy_64 : dec m_Mod_growBy 64 = .ok (.aload_n 0, 1) := by decide +kernel
theorem d_Mod_growBy_65 : dec m_Mod_growBy 65 = .ok (.bipush 6, 2) := by decide +kernel
theorem d_Mod_growBy_67 : dec m_Mod_growBy 67 = .ok (.aload_n 0, 1) := by decide +kernel
theorem d_Mod_growBy_68 : dec m_Mod_growBy 68 = .ok (.getfield 133, 3) := by decide +kernel
theorem d_Mod_growBy_71 : dec m_Mod_growBy 71 = .ok (.iadd, 1) := by decide +kernel
theorem d_Mod_growBy_72 : dec m_Mod_growBy 72 = .ok (.invokevirtual 162, 3) := by decide +kernel
theorem d_Mod_growBy_75 : dec m_Mod_growBy 75 = .ok (.aload_n 0, 1) := by decide +kernel
theorem d_Mod_growBy_76 : dec m_Mod_growBy 76 = .ok (.bipush 6, 2) := by decide +kernel
theorem d_Mod_growBy_78 : dec m_Mod_growBy 78 = .ok (.aload_n 0, 1) := by decide +kernel
theorem d_Mod_growBy_79 : dec m_Mod_growBy 79 = .ok (.getfield 133, 3) := by decide +kernel
theorem d_Mod_growBy_82 : dec m_Mod_growBy 82 = .ok (.iadd, 1) := by decide +kernel
theorem d_Mod_growBy_83 : dec m_Mod_growBy 83 = .ok (.bipush 18, 2) := by decide +kernel
theorem d_Mod_growBy_85 : dec m_Mod_growBy 85 = .ok (.lload_n 2, 1) := by decide +kernel
theorem d_Mod_growBy_86 : dec m_Mod_growBy 86 = .ok (.invokevirtual 212, 3) := by decide +kernel
theorem d_Mod_growBy_89 : dec m_Mod_growBy 89 = .ok (.aload_n 0, 1) := by decide +kernel
theorem d_Mod_growBy_90 : dec m_Mod_growBy 90 = .ok (.getfield 37, 3) := by decide +kernel
theorem d_Mod_growBy_93 : dec m_Mod_growBy 93 = .ok (.aload_n 0, 1) := by decide +kernel
theorem d_Mod_growBy_94 : dec m_Mod_growBy 94 = .ok (.getfield 133, 3) := by decide +kernel
theorem d_Mod_growBy_97 : dec m_Mod_growBy 97 = .ok (.iload_n 1, 1) := by decide +kernel
theorem d_Mod_growBy_98 : dec m_Mod_growBy 98 = .ok (.iastore, 1) := by decide +kernel
theorem d_Mod_growBy_99 : dec m_Mod_growBy 99 = .ok (.aload_n 0, 1) := by decide +kernel
theorem d_Mod_growBy_100 : dec m_Mod_growBy 100 = .ok (.iconst 0, 1) := by decide +kernel
theorem d_Mod_growBy_101 : dec m_Mod_growBy 101 = .ok (.lload_n 2, 1) := by decide +kernel
theorem d_Mod_growBy_102 : dec m_Mod_growBy 102 = .ok (.aload_n 0, 1) := by decide +kernel
theorem d_Mod_growBy_103 : dec m_Mod_growBy 103 = .ok (.getfield 91, 3) := by decide +kernel
theorem d_Mod_growBy_106 : dec m_Mod_growBy 106 = .ok (.iconst 0, 1) := by decide +kernel
theorem d_Mod_growBy_107 : dec m_Mod_growBy 107 = .ok (.invokevirtual 394, 3) := by decide +kernel
theorem d_Mod_growBy_110 : dec m_Mod_growBy 110 = .ok (.aload_n 0, 1) := by decide +kernel
theorem d_Mod_growBy_111 : dec m_Mod_growBy 111 = .ok (.iconst 1, 1) := by decide +kernel
theorem d_Mod_growBy_112 : dec m_Mod_growBy 112 = .ok (.lload_n 2, 1) := by decide +kernel
theorem d_Mod_growBy_113 : dec m_Mod_growBy 113 = .ok (.lneg, 1) := by decide +kernel
theorem d_Mod_growBy_114 : dec m_Mod_growBy 114 = .ok (.aload_n 0, 1) := by decide +kernel
theorem d_Mod_growBy_115 : dec m_Mod_growBy 115 = .ok (.getfield 91, 3) := by decide +kernel
theorem d_Mod_growBy_118 : dec m_Mod_growBy 118 = .ok (.iconst 1, 1) := by decide +kernel
theorem d_Mod_growBy_119 : dec m_Mod_growBy 119 = .ok (.invokevirtual 394, 3) := by decide +kernel
theorem d_Mod_growBy_122 : dec m_Mod_growBy 122 = .ok (.iconst 0, 1) := by decide +kernel
theorem d_Mod_growBy_123 : dec m_Mod_growBy 123 = .ok (.istore 4, 2) := by decide +kernel
theorem d_Mod_growBy_125 : dec m_Mod_growBy 125 = .ok (.iload 4, 2) := by decide +kernel
theorem d_Mod_growBy_127 : dec m_Mod_growBy 127 = .ok (.aload_n 0, 1) := by decide +kernel
theorem d_Mod_growBy_128 : dec m_Mod_growBy 128 = .ok (.getfield 327, 3) := by decide +kernel
theorem d_Mod_growBy_131 : dec m_Mod_growBy 131 = .ok (.if_icmp .ge 33, 3) := by decide +kernel
theorem d_Mod_growBy_134 : dec m_Mod_growBy 134 = .ok (.aload_n 0, 1) := by decide +kernel
theorem d_Mod_growBy_135 : dec m_Mod_growBy 135 = .ok (.iconst 2, 1) := by decide +kernel
theorem d_Mod_growBy_136 : dec m_Mod_growBy 136 = .ok (.iload 4, 2) := by decide +kernel
theorem d_Mod_growBy_138 : dec m_Mod_growBy 138 = .ok (.iadd, 1) := by decide +kernel
theorem d_Mod_growBy_139 : dec m_Mod_growBy 139 = .ok (.lload_n 2, 1) := by decide +kernel
theorem d_Mod_growBy_140 : dec m_Mod_growBy 140 = .ok (.lneg, 1) := by decide +kernel
theorem d_Mod_growBy_141 : dec m_Mod_growBy 141 = .ok (.aload_n 0, 1) := by decide +kernel
theorem d_Mod_growBy_142 : dec m_Mod_growBy 142 = .ok (.getfield 58, 3) := by decide +kernel
theorem d_Mod_growBy_145 : dec m_Mod_growBy 145 = .ok (.iload 4, 2) := by decide +kernel
theorem d_Mod_growBy_147 : dec m_Mod_growBy 147 = .ok (.laload, 1) := by decide +kernel
theorem d_Mod_growBy_148 : dec m_Mod_growBy 148 = .ok (.lmul, 1) := by decide +kernel
theorem d_Mod_growBy_149 : dec m_Mod_growBy 149 = .ok (.aload_n 0, 1) := by decide +kernel
theorem d_Mod_growBy_150 : dec m_Mod_growBy 150 = .ok (.getfield 61, 3) := by decide +kernel
theorem d_Mod_growBy_153 : dec m_Mod_growBy 153 = .ok (.iload 4, 2) := by decide +kernel
theorem d_Mod_growBy_155 : dec m_Mod_growBy 155 = .ok (.invokevirtual 394, 3) := by decide +kernel
theorem d_Mod_growBy_158 : dec m_Mod_growBy 158 = .ok (.iinc 4 1, 3) := by decide +kernel
theorem d_Mod_growBy_161 : dec m_Mod_growBy 161 = .ok (.goto (-36), 3) := by decide +kernel
theorem d_Mod_growBy_164 : dec m_Mod_growBy 164 = .ok (.aload_n 0, 1) := by decide +kernel
theorem d_Mod_growBy_165 : dec m_Mod_growBy 165 = .ok (.getfield 40, 3) := by decide +kernel
theorem d_Mod_growBy_168 : dec m_Mod_growBy 168 = .ok (.aload_n 0, 1) := by decide +kernel
theorem d_Mod_growBy_169 : dec m_Mod_growBy 169 = .ok (.getfield 133, 3) := by decide +kernel
theorem d_Mod_growBy_172 : dec m_Mod_growBy 172 = .ok (.iconst 2, 1) := by decide +kernel
theorem d_Mod_growBy_173 : dec m_Mod_growBy 173 = .ok (.aload_n 0, 1) := by decide +kernel
theorem d_Mod_growBy_174 : dec m_Mod_growBy 174 = .ok (.getfield 327, 3) := by decide +kernel
theorem d_Mod_growBy_177 : dec m_Mod_growBy 177 = .ok (.iadd, 1) := by decide +kernel
theorem d_Mod_growBy_178 : dec m_Mod_growBy 178 = .ok (.iastore, 1) := by decide +kernel
theorem d_Mod_growBy_179 : dec m_Mod_growBy 179 = .ok (.aload_n 0, 1) := by decide +kernel
theorem d_Mod_growBy_180 : dec m_Mod_growBy 180 = .ok (.dup, 1) := by decide +kernel
theorem d_Mod_growBy_181 : dec m_Mod_growBy 181 = .ok (.getfield 133, 3) := by decide +kernel
theorem d_Mod_growBy_184 : dec m_Mod_growBy 184 = .ok (.iconst 1, 1) := by decide +kernel
theorem d_Mod_growBy_185 : dec m_Mod_growBy 185 = .ok (.iadd, 1) := by decide +kernel
theorem d_Mod_growBy_186 : dec m_Mod_growBy 186 = .ok (.putfield 133, 3) := by decide +kernel
theorem d_Mod_growBy_189 : dec m_Mod_growBy 189 = .ok (.iconst (-1), 1) := by decide +kernel
theorem d_Mod_growBy_190 : dec m_Mod_growBy 190 = .ok (.ireturn, 1) := by decide +kernel
theorem d_Mod_layPart_0 : dec m_Mod_layPart 0 = .ok (.bipush 86, 2) := by decide +kernel
theorem d_Mod_layPart_2 : dec m_Mod_layPart 2 = .ok (.aload_n 0, 1) := by decide +kernel
theorem d_Mod_layPart_3 : dec m_Mod_layPart 3 = .ok (.getfield 133, 3) := by decide +kernel
theorem d_Mod_layPart_6 : dec m_Mod_layPart 6 = .ok (.imul, 1) := by decide +kernel
theorem d_Mod_layPart_7 : dec m_Mod_layPart 7 = .ok (.iload_n 1, 1) := by decide +kernel
theorem d_Mod_layPart_8 : dec m_Mod_layPart 8 = .ok (.iadd, 1) := by decide +kernel
theorem d_Mod_layPart_9 : dec m_Mod_layPart 9 = .ok (.istore 6, 2) := by decide +kernel
theorem d_Mod_layPart_11 : dec m_Mod_layPart 11 = .ok (.aload_n 0, 1) := by decide +kernel
theorem d_Mod_layPart_12 : dec m_Mod_layPart 12 = .ok (.getfield 43, 3) := by decide +kernel
theorem d_Mod_layPart_15 : dec m_Mod_layPart 15 = .ok (.iload 6, 2) := by decide +kernel
theorem d_Mod_layPart_17 : dec m_Mod_layPart 17 = .ok (.lload_n 2, 1) := by decide +kernel
theorem d_Mod_layPart_18 : dec m_Mod_layPart 18 = .ok (.lastore, 1) := by decide +kernel
theorem d_Mod_layPart_19 : dec m_Mod_layPart 19 = .ok (.iconst 0, 1) := by decide +kernel
theorem d_Mod_layPart_20 : dec m_Mod_layPart 20 = .ok (.istore 7, 2) := by decide +kernel
theorem d_Mod_layPart_22 : dec m_Mod_layPart 22 = .ok (.iload 7, 2) := by decide +kernel
theorem d_Mod_layPart_24 : dec m_Mod_layPart 24 = .ok (.bipush 7, 2) := by decide +kernel
theorem d_Mod_layPart_26 : dec m_Mod_layPart 26 = .ok (.if_icmp .ge 33, 3) := by decide +kernel
theorem d_Mod_layPart_29 : dec m_Mod_layPart 29 = .ok (.aload_n 0, 1) := by decide +kernel
theorem d_Mod_layPart_30 : dec m_Mod_layPart 30 = .ok (.getfield 46, 3) := by decide +kernel
theorem d_Mod_layPart_33 : dec m_Mod_layPart 33 = .ok (.bipush 7, 2) := by decide +kernel
theorem d_Mod_layPart_35 : dec m_Mod_layPart 35 = .ok (.iload 6, 2) := by decide +kernel
theorem d_Mod_layPart_37 : dec m_Mod_layPart 37 = .ok (.imul, 1) := by decide +kernel
theorem d_Mod_layPart_38 : dec m_Mod_layPart 38 = .ok (.iload 7, 2) := by decide +kernel
theorem d_Mod_layPart_40 : dec m_Mod_layPart 40 = .ok (.iadd, 1) := by decide +kernel
theorem d_Mod_layPart_41 : dec m_Mod_layPart 41 = .ok (.aload 4, 2) := by decide +kernel
theorem d_Mod_layPart_43 : dec m_Mod_layPart 43 = .ok (.bipush 7, 2) := by decide +kernel
theorem d_Mod_layPart_45 : dec m_Mod_layPart 45 = .ok (.iload 5, 2) := by decide +kernel
theorem d_Mod_layPart_47 : dec m_Mod_layPart 47 = .ok (.imul, 1) := by decide +kernel
theorem d_Mod_layPart_48 : dec m_Mod_layPart 48 = .ok (.iload 7, 2) := by decide +kernel
theorem d_Mod_layPart_50 : dec m_Mod_layPart 50 = .ok (.iadd, 1) := by decide +kernel
theorem d_Mod_layPart_51 : dec m_Mod_layPart 51 = .ok (.iaload, 1) := by decide +kernel
theorem d_Mod_layPart_52 : dec m_Mod_layPart 52 = .ok (.iastore, 1) := by decide +kernel
theorem d_Mod_layPart_53 : dec m_Mod_layPart 53 = .ok (.iinc 7 1, 3) := by decide +kernel
theorem d_Mod_layPart_56 : dec m_Mod_layPart 56 = .ok (.goto (-34), 3) := by decide +kernel
theorem d_Mod_layPart_59 : dec m_Mod_layPart 59 = .ok (.return_, 1) := by decide +kernel
theorem d_Mod_grow_0 : dec m_Mod_grow 0 = .ok (.aload_n 0, 1) := by decide +kernel
theorem d_Mod_grow_1 : dec m_Mod_grow 1 = .ok (.iconst 0, 1) := by decide +kernel
theorem d_Mod_grow_2 : dec m_Mod_grow 2 = .ok (.putfield 398, 3) := by decide +kernel
theorem d_Mod_grow_5 : dec m_Mod_grow 5 = .ok (.iconst (-1), 1) := by decide +kernel
theorem d_Mod_grow_6 : dec m_Mod_grow 6 = .ok (.istore_n 2, 1) := by decide +kernel
theorem d_Mod_grow_7 : dec m_Mod_grow 7 = .ok (.iload_n 2, 1) := by decide +kernel
theorem d_Mod_grow_8 : dec m_Mod_grow 8 = .ok (.iconst (-1), 1) := by decide +kernel
theorem d_Mod_grow_9 : dec m_Mod_grow 9 = .ok (.if_icmp .ne 66, 3) := by decide +kernel
theorem d_Mod_grow_12 : dec m_Mod_grow 12 = .ok (.aload_n 0, 1) := by decide +kernel
theorem d_Mod_grow_13 : dec m_Mod_grow 13 = .ok (.dup, 1) := by decide +kernel
theorem d_Mod_grow_14 : dec m_Mod_grow 14 = .ok (.getfield 398, 3) := by decide +kernel
theorem d_Mod_grow_17 : dec m_Mod_grow 17 = .ok (.iconst 1, 1) := by decide +kernel
theorem d_Mod_grow_18 : dec m_Mod_grow 18 = .ok (.iadd, 1) := by decide +kernel
theorem d_Mod_grow_19 : dec m_Mod_grow 19 = .ok (.putfield 398, 3) := by decide +kernel
theorem d_Mod_grow_22 : dec m_Mod_grow 22 = .ok (.aload_n 0, 1) := by decide +kernel
theorem d_Mod_grow_23 : dec m_Mod_grow 23 = .ok (.getfield 133, 3) := by decide +kernel
theorem d_Mod_grow_26 : dec m_Mod_grow 26 = .ok (.istore_n 3, 1) := by decide +kernel
theorem d_Mod_grow_27 : dec m_Mod_grow 27 = .ok (.aload_n 0, 1) := by decide +kernel
theorem d_Mod_grow_28 : dec m_Mod_grow 28 = .ok (.invokevirtual 379, 3) := by decide +kernel
theorem d_Mod_grow_31 : dec m_Mod_grow 31 = .ok (.iload_n 2, 1) := by decide +kernel
theorem d_Mod_grow_32 : dec m_Mod_grow 32 = .ok (.iconst (-1), 1) := by decide +kernel
theorem d_Mod_grow_33 : dec m_Mod_grow 33 = .ok (.if_icmp .ne 20, 3) := by decide +kernel
theorem d_Mod_grow_36 : dec m_Mod_grow 36 = .ok (.aload_n 0, 1) := by decide +kernel
theorem d_Mod_grow_37 : dec m_Mod_grow 37 = .ok (.iload_n 1, 1) := by decide +kernel
theorem d_Mod_grow_38 : dec m_Mod_grow 38 = .ok (.iload_n 3, 1) := by decide +kernel
theorem d_Mod_grow_39 : dec m_Mod_grow 39 = .ok (.invokevirtual 382, 3) := by decide +kernel
theorem d_Mod_grow_42 : dec m_Mod_grow 42 = .ok (.ifCond .eq 11, 3) := by decide +kernel
theorem d_Mod_grow_45 : dec m_Mod_grow 45 = .ok (.aload_n 0, 1) := by decide +kernel
theorem d_Mod_grow_46 : dec m_Mod_grow 46 = .ok (.invokevirtual 401, 3) := by decide +kernel
theorem d_Mod_grow_49 : dec m_Mod_grow 49 = .ok (.istore_n 2, 1) := by decide +kernel
theorem d_Mod_grow_50 : dec m_Mod_grow 50 = .ok (.goto (-19), 3) := by decide +kernel
theorem d_Mod_grow_53 : dec m_Mod_grow 53 = .ok (.iload_n 2, 1) := by decide +kernel
theorem d_Mod_grow_54 : dec m_Mod_grow 54 = .ok (.iconst (-1), 1) := by decide +kernel
theorem d_Mod_grow_55 : dec m_Mod_grow 55 = .ok (.if_icmp .ne 15, 3) := by decide +kernel
theorem d_Mod_grow_58 : dec m_Mod_grow 58 = .ok (.aload_n 0, 1) := by decide +kernel
theorem d_Mod_grow_59 : dec m_Mod_grow 59 = .ok (.getfield 133, 3) := by decide +kernel
theorem d_Mod_grow_62 : dec m_Mod_grow 62 = .ok (.iload_n 3, 1) := by decide +kernel
theorem d_Mod_grow_63 : dec m_Mod_grow 63 = .ok (.if_icmp .ne 7, 3) := by decide +kernel
theorem d_Mod_grow_66 : dec m_Mod_grow 66 = .ok (.iconst 0, 1) := by decide +kernel
theorem d_Mod_grow_67 : dec m_Mod_grow 67 = .ok (.goto 4, 3) := by decide +kernel
theorem d_Mod_grow_70 : dec m_Mod_grow 70 = .ok (.iload_n 2, 1) := by decide +kernel
theorem d_Mod_grow_71 : dec m_Mod_grow 71 = .ok (.istore_n 2, 1) := by decide +kernel
theorem d_Mod_grow_72 : dec m_Mod_grow 72 = .ok (.goto (-65), 3) := by decide +kernel
theorem d_Mod_grow_75 : dec m_Mod_grow 75 = .ok (.iload_n 2, 1) := by decide +kernel
theorem d_Mod_grow_76 : dec m_Mod_grow 76 = .ok (.ireturn, 1) := by decide +kernel
theorem d_Mod_complete_0 : dec m_Mod_complete 0 = .ok (.iload_n 1, 1) := by decide +kernel
theorem d_Mod_complete_1 : dec m_Mod_complete 1 = .ok (.invokestatic 385, 3) := by decide +kernel
theorem d_Mod_complete_4 : dec m_Mod_complete 4 = .ok (.ifCond .eq 11, 3) := by decide +kernel
theorem d_Mod_complete_7 : dec m_Mod_complete 7 = .ok (.aload_n 0, 1) := by decide +kernel
theorem d_Mod_complete_8 : dec m_Mod_complete 8 = .ok (.iload_n 1, 1) := by decide +kernel
theorem d_Mod_complete_9 : dec m_Mod_complete 9 = .ok (.invokevirtual 404, 3) := by decide +kernel
theorem d_Mod_complete_12 : dec m_Mod_complete 12 = .ok (.goto 4, 3) := by decide +kernel
theorem d_Mod_complete_15 : dec m_Mod_complete 15 = .ok (.iconst (-1), 1) := by decide +kernel
theorem d_Mod_complete_16 : dec m_Mod_complete 16 = .ok (.ireturn, 1) := by decide +kernel
theorem d_Mod_wouldGrow_0 : dec m_Mod_wouldGrow 0 = .ok (.iload_n 1, 1) := by decide +kernel
theorem d_Mod_wouldGrow_1 : dec m_Mod_wouldGrow 1 = .ok (.invokestatic 385, 3) := by decide +kernel
theorem d_Mod_wouldGrow_4 : dec m_Mod_wouldGrow 4 = .ok (.ifCond .eq 15, 3) := by decide +kernel
theorem d_Mod_wouldGrow_7 : dec m_Mod_wouldGrow 7 = .ok (.iload_n 2, 1) := by decide +kernel
theorem d_Mod_wouldGrow_8 : dec m_Mod_wouldGrow 8 = .ok (.i2l, 1) := by decide +kernel
theorem d_Mod_wouldGrow_9 : dec m_Mod_wouldGrow 9 = .ok (.lconst 0, 1) := by decide +kernel
theorem d_Mod_wouldGrow_10 : dec m_Mod_wouldGrow 10 = .ok (.ldc2_w 180, 3) := by decide +kernel
theorem d_Mod_wouldGrow_13 : dec m_Mod_wouldGrow 13 = .ok (.invokestatic 139, 3) := by decide +kernel
theorem d_Mod_wouldGrow_16 : dec m_Mod_wouldGrow 16 = .ok (.ifCond .ne 5, 3) := by decide +kernel
theorem d_Mod_wouldGrow_19 : dec m_Mod_wouldGrow 19 = .ok (.iconst (-1), 1) := by decide +kernel
theorem d_Mod_wouldGrow_20 : dec m_Mod_wouldGrow 20 = .ok (.ireturn, 1) := by decide +kernel
theorem d_Mod_wouldGrow_21 : dec m_Mod_wouldGrow 21 = .ok (.aload_n 0, 1) := by decide +kernel
theorem d_Mod_wouldGrow_22 : dec m_Mod_wouldGrow 22 = .ok (.getfield 133, 3) := by decide +kernel
theorem d_Mod_wouldGrow_25 : dec m_Mod_wouldGrow 25 = .ok (.istore_n 3, 1) := by decide +kernel
theorem d_Mod_wouldGrow_26 : dec m_Mod_wouldGrow 26 = .ok (.aload_n 0, 1) := by decide +kernel
theorem d_Mod_wouldGrow_27 : dec m_Mod_wouldGrow 27 = .ok (.iload_n 1, 1) := by decide +kernel
theorem d_Mod_wouldGrow_28 : dec m_Mod_wouldGrow 28 = .ok (.invokevirtual 404, 3) := by decide +kernel
theorem d_Mod_wouldGrow_31 : dec m_Mod_wouldGrow 31 = .ok (.istore 4, 2) := by decide +kernel
theorem d_Mod_wouldGrow_33 : dec m_Mod_wouldGrow 33 = .ok (.aload_n 0, 1) := by decide +kernel
theorem d_Mod_wouldGrow_34 : dec m_Mod_wouldGrow 34 = .ok (.getfield 133, 3) := by decide +kernel
theorem d_Mod_wouldGrow_37 : dec m_Mod_wouldGrow 37 = .ok (.istore 5, 2) := by decide +kernel
theorem d_Mod_wouldGrow_39 : dec m_Mod_wouldGrow 39 = .ok (.aload_n 0, 1) := by decide +kernel
theorem d_Mod_wouldGrow_40 : dec m_Mod_wouldGrow 40 = .ok (.iload_n 3, 1) := by decide +kernel
theorem d_Mod_wouldGrow_41 : dec m_Mod_wouldGrow 41 = .ok (.putfield 133, 3) := by decide +kernel
theorem d_Mod_wouldGrow_44 : dec m_Mod_wouldGrow 44 = .ok (.iload_n 2, 1) := by decide +kernel
theorem d_Mod_wouldGrow_45 : dec m_Mod_wouldGrow 45 = .ok (.ifCond .ne 8, 3) := by decide +kernel
theorem d_Mod_wouldGrow_48 : dec m_Mod_wouldGrow 48 = .ok (.iload 5, 2) := by decide +kernel
theorem d_Mod_wouldGrow_50 : dec m_Mod_wouldGrow 50 = .ok (.goto 17, 3) := by decide +kernel
theorem d_Mod_wouldGrow_53 : dec m_Mod_wouldGrow 53 = .ok (.iload_n 2, 1) := by decide +kernel
theorem d_Mod_wouldGrow_54 : dec m_Mod_wouldGrow 54 = .ok (.iconst 1, 1) := by decide +kernel
theorem d_Mod_wouldGrow_55 : dec m_Mod_wouldGrow 55 = .ok (.if_icmp .ne 8, 3) := by decide +kernel
theorem d_Mod_wouldGrow_58 : dec m_Mod_wouldGrow 58 = .ok (.iload 4, 2) := by decide +kernel
theorem d_Mod_wouldGrow_60 : dec m_Mod_wouldGrow 60 = .ok (.goto 7, 3) := by decide +kernel
theorem d_Mod_wouldGrow_63 : dec m_Mod_wouldGrow 63 = .ok (.aload_n 0, 1) := by decide +kernel
theorem d_Mod_wouldGrow_64 : dec m_Mod_wouldGrow 64 = .ok (.getfield 398, 3) := by decide +kernel
theorem d_Mod_wouldGrow_67 : dec m_Mod_wouldGrow 67 = .ok (.ireturn, 1) := by decide +kernel
theorem d_Mod_entry_0 : dec m_Mod_entry 0 = .ok (.aload_n 0, 1) := by decide +kernel
theorem d_Mod_entry_1 : dec m_Mod_entry 1 = .ok (.getfield 100, 3) := by decide +kernel
theorem d_Mod_entry_4 : dec m_Mod_entry 4 = .ok (.bipush 10, 2) := by decide +kernel
theorem d_Mod_entry_6 : dec m_Mod_entry 6 = .ok (.iload_n 1, 1) := by decide +kernel
theorem d_Mod_entry_7 : dec m_Mod_entry 7 = .ok (.imul, 1) := by decide +kernel
theorem d_Mod_entry_8 : dec m_Mod_entry 8 = .ok (.iload_n 2, 1) := by decide +kernel
theorem d_Mod_entry_9 : dec m_Mod_entry 9 = .ok (.iadd, 1) := by decide +kernel
theorem d_Mod_entry_10 : dec m_Mod_entry 10 = .ok (.laload, 1) := by decide +kernel
theorem d_Mod_entry_11 : dec m_Mod_entry 11 = .ok (.lreturn, 1) := by decide +kernel
theorem d_Mod_swap_0 : dec m_Mod_swap 0 = .ok (.iconst 0, 1) := by decide +kernel
theorem d_Mod_swap_1 : dec m_Mod_swap 1 = .ok (.istore_n 3, 1) := by decide +kernel
theorem d_Mod_swap_2 : dec m_Mod_swap 2 = .ok (.iload_n 3, 1) := by decide +kernel
theorem d_Mod_swap_3 : dec m_Mod_swap 3 = .ok (.bipush 10, 2) := by decide +kernel
theorem d_Mod_swap_5 : dec m_Mod_swap 5 = .ok (.if_icmp .ge 57, 3) := by decide +kernel
theorem d_Mod_swap_8 : dec m_Mod_swap 8 = .ok (.aload_n 0, 1) := by decide +kernel
theorem d_Mod_swap_9 : dec m_Mod_swap 9 = .ok (.getfield 100, 3) := by decide +kernel
theorem d_Mod_swap_12 : dec m_Mod_swap 12 = .ok (.bipush 10, 2) := by decide +kernel
theorem d_Mod_swap_14 : dec m_Mod_swap 14 = .ok (.iload_n 1, 1) := by decide +kernel
theorem d_Mod_swap_15 : dec m_Mod_swap 15 = .ok (.imul, 1) := by decide +kernel
theorem d_Mod_swap_16 : dec m_Mod_swap 16 = .ok (.iload_n 3, 1) := by decide +kernel
theorem d_Mod_swap_17 : dec m_Mod_swap 17 = .ok (.iadd, 1) := by decide +kernel
theorem d_Mod_swap_18 : dec m_Mod_swap 18 = .ok (.laload, 1) := by decide +kernel
theorem d_Mod_swap_19 : dec m_Mod_swap 19 = .ok (.lstore 4, 2) := by decide +kernel
theorem d_Mod_swap_21 : dec m_Mod_swap 21 = .ok (.aload_n 0, 1) := by decide +kernel
theorem d_Mod_swap_22 : dec m_Mod_swap 22 = .ok (.getfield 100, 3) := by decide +kernel
theorem d_Mod_swap_25 : dec m_Mod_swap 25 = .ok (.bipush 10, 2) := by decide +kernel
theorem d_Mod_swap_27 : dec m_Mod_swap 27 = .ok (.iload_n 1, 1) := by decide +kernel
theorem d_Mod_swap_28 : dec m_Mod_swap 28 = .ok (.imul, 1) := by decide +kernel
theorem d_Mod_swap_29 : dec m_Mod_swap 29 = .ok (.iload_n 3, 1) := by decide +kernel
theorem d_Mod_swap_30 : dec m_Mod_swap 30 = .ok (.iadd, 1) := by decide +kernel
theorem d_Mod_swap_31 : dec m_Mod_swap 31 = .ok (.aload_n 0, 1) := by decide +kernel
theorem d_Mod_swap_32 : dec m_Mod_swap 32 = .ok (.getfield 100, 3) := by decide +kernel
theorem d_Mod_swap_35 : dec m_Mod_swap 35 = .ok (.bipush 10, 2) := by decide +kernel
theorem d_Mod_swap_37 : dec m_Mod_swap 37 = .ok (.iload_n 2, 1) := by decide +kernel
theorem d_Mod_swap_38 : dec m_Mod_swap 38 = .ok (.imul, 1) := by decide +kernel
theorem d_Mod_swap_39 : dec m_Mod_swap 39 = .ok (.iload_n 3, 1) := by decide +kernel
theorem d_Mod_swap_40 : dec m_Mod_swap 40 = .ok (.iadd, 1) := by decide +kernel
theorem d_Mod_swap_41 : dec m_Mod_swap 41 = .ok (.laload, 1) := by decide +kernel
theorem d_Mod_swap_42 : dec m_Mod_swap 42 = .ok (.lastore, 1) := by decide +kernel
theorem d_Mod_swap_43 : dec m_Mod_swap 43 = .ok (.aload_n 0, 1) := by decide +kernel
theorem d_Mod_swap_44 : dec m_Mod_swap 44 = .ok (.getfield 100, 3) := by decide +kernel
theorem d_Mod_swap_47 : dec m_Mod_swap 47 = .ok (.bipush 10, 2) := by decide +kernel
theorem d_Mod_swap_49 : dec m_Mod_swap 49 = .ok (.iload_n 2, 1) := by decide +kernel
theorem d_Mod_swap_50 : dec m_Mod_swap 50 = .ok (.imul, 1) := by decide +kernel
theorem d_Mod_swap_51 : dec m_Mod_swap 51 = .ok (.iload_n 3, 1) := by decide +kernel
theorem d_Mod_swap_52 : dec m_Mod_swap 52 = .ok (.iadd, 1) := by decide +kernel
theorem d_Mod_swap_53 : dec m_Mod_swap 53 = .ok (.lload 4, 2) := by decide +kernel
theorem d_Mod_swap_55 : dec m_Mod_swap 55 = .ok (.lastore, 1) := by decide +kernel
theorem d_Mod_swap_56 : dec m_Mod_swap 56 = .ok (.iinc 3 1, 3) := by decide +kernel
theorem d_Mod_swap_59 : dec m_Mod_swap 59 = .ok (.goto (-57), 3) := by decide +kernel
theorem d_Mod_swap_62 : dec m_Mod_swap 62 = .ok (.return_, 1) := by decide +kernel
theorem d_Mod_less_0 : dec m_Mod_less 0 = .ok (.iconst 0, 1) := by decide +kernel
theorem d_Mod_less_1 : dec m_Mod_less 1 = .ok (.istore 5, 2) := by decide +kernel
theorem d_Mod_less_3 : dec m_Mod_less 3 = .ok (.iload 5, 2) := by decide +kernel
theorem d_Mod_less_5 : dec m_Mod_less 5 = .ok (.bipush 10, 2) := by decide +kernel
theorem d_Mod_less_7 : dec m_Mod_less 7 = .ok (.if_icmp .ge 38, 3) := by decide +kernel
theorem d_Mod_less_10 : dec m_Mod_less 10 = .ok (.aload_n 0, 1) := by decide +kernel
theorem d_Mod_less_11 : dec m_Mod_less 11 = .ok (.getfield 100, 3) := by decide +kernel
theorem d_Mod_less_14 : dec m_Mod_less 14 = .ok (.bipush 10, 2) := by decide +kernel
theorem d_Mod_less_16 : dec m_Mod_less 16 = .ok (.iload_n 1, 1) := by decide +kernel
theorem d_Mod_less_17 : dec m_Mod_less 17 = .ok (.imul, 1) := by decide +kernel
theorem d_Mod_less_18 : dec m_Mod_less 18 = .ok (.iload 5, 2) := by decide +kernel
theorem d_Mod_less_20 : dec m_Mod_less 20 = .ok (.iadd, 1) := by decide +kernel
theorem d_Mod_less_21 : dec m_Mod_less 21 = .ok (.dup2, 1) := by decide +kernel
theorem d_Mod_less_22 : dec m_Mod_less 22 = .ok (.laload, 1) := by decide +kernel
theorem d_Mod_less_23 : dec m_Mod_less 23 = .ok (.lload_n 3, 1) := by decide +kernel
theorem d_Mod_less_24 : dec m_Mod_less 24 = .ok (.aload_n 0, 1) := by decide +kernel
theorem d_Mod_less_25 : dec m_Mod_less 25 = .ok (.getfield 100, 3) := by decide +kernel
theorem d_Mod_less_28 : dec m_Mod_less 28 = .ok (.bipush 10, 2) := by decide +kernel
theorem d_Mod_less_30 : dec m_Mod_less 30 = .ok (.iload_n 2, 1) := by decide +kernel
theorem d_Mod_less_31 : dec m_Mod_less 31 = .ok (.imul, 1) := by decide +kernel
theorem d_Mod_less_32 : dec m_Mod_less 32 = .ok (.iload 5, 2) := by decide +kernel
theorem d_Mod_less_34 : dec m_Mod_less 34 = .ok (.iadd, 1) := by decide +kernel
theorem d_Mod_less_35 : dec m_Mod_less 35 = .ok (.laload, 1) := by decide +kernel
theorem d_Mod_less_36 : dec m_Mod_less 36 = .ok (.lmul, 1) := by decide +kernel
theorem d_Mod_less_37 : dec m_Mod_less 37 = .ok (.lsub, 1) := by decide +kernel
theorem d_Mod_less_38 : dec m_Mod_less 38 = .ok (.lastore, 1) := by decide +kernel
theorem d_Mod_less_39 : dec m_Mod_less 39 = .ok (.iinc 5 1, 3) := by decide +kernel
theorem d_Mod_less_42 : dec m_Mod_less 42 = .ok (.goto (-39), 3) := by decide +kernel
theorem d_Mod_less_45 : dec m_Mod_less 45 = .ok (.return_, 1) := by decide +kernel
theorem d_Mod_floor_0 : dec m_Mod_floor 0 = .ok (.lload_n 0, 1) := by decide +kernel
theorem d_Mod_floor_1 : dec m_Mod_floor 1 = .ok (.lload_n 2, 1) := by decide +kernel
theorem d_Mod_floor_2 : dec m_Mod_floor 2 = .ok (.ldiv, 1) := by decide +kernel
theorem d_Mod_floor_3 : dec m_Mod_floor 3 = .ok (.lstore 4, 2) := by decide +kernel
theorem d_Mod_floor_5 : dec m_Mod_floor 5 = .ok (.lload_n 0, 1) := by decide +kernel
theorem d_Mod_floor_6 : dec m_Mod_floor 6 = .ok (.lload_n 2, 1) := by decide +kernel
theorem d_Mod_floor_7 : dec m_Mod_floor 7 = .ok (.lrem, 1) := by decide +kernel
theorem d_Mod_floor_8 : dec m_Mod_floor 8 = .ok (.lconst 0, 1) := by decide +kernel
theorem d_Mod_floor_9 : dec m_Mod_floor 9 = .ok (.lcmp, 1) := by decide +kernel
theorem d_Mod_floor_10 : dec m_Mod_floor 10 = .ok (.ifCond .eq 16, 3) := by decide +kernel
theorem d_Mod_floor_13 : dec m_Mod_floor 13 = .ok (.lload_n 0, 1) := by decide +kernel
theorem d_Mod_floor_14 : dec m_Mod_floor 14 = .ok (.lconst 0, 1) := by decide +kernel
theorem d_Mod_floor_15 : dec m_Mod_floor 15 = .ok (.lcmp, 1) := by decide +kernel
theorem d_Mod_floor_16 : dec m_Mod_floor 16 = .ok (.ifCond .ge 10, 3) := by decide +kernel
theorem d_Mod_floor_19 : dec m_Mod_floor 19 = .ok (.lload 4, 2) := by decide +kernel
theorem d_Mod_floor_21 : dec m_Mod_floor 21 = .ok (.lconst 1, 1) := by decide +kernel
theorem d_Mod_floor_22 : dec m_Mod_floor 22 = .ok (.lsub, 1) := by decide +kernel
theorem d_Mod_floor_23 : dec m_Mod_floor 23 = .ok (.goto 5, 3) := by decide +kernel
theorem d_Mod_floor_26 : dec m_Mod_floor 26 = .ok (.lload 4, 2) := by decide +kernel
theorem d_Mod_floor_28 : dec m_Mod_floor 28 = .ok (.lreturn, 1) := by decide +kernel
theorem d_Mod_clears_0 : dec m_Mod_clears 0 = .ok (.iconst 1, 1) := by decide +kernel
theorem d_Mod_clears_1 : dec m_Mod_clears 1 = .ok (.istore_n 3, 1) := by decide +kernel
theorem d_Mod_clears_2 : dec m_Mod_clears 2 = .ok (.iload_n 3, 1) := by decide +kernel
theorem d_Mod_clears_3 : dec m_Mod_clears 3 = .ok (.ifCond .eq 181, 3) := by decide +kernel
theorem d_Mod_clears_6 : dec m_Mod_clears 6 = .ok (.iconst (-1), 1) := by decide +kernel
theorem d_Mod_clears_7 : dec m_Mod_clears 7 = .ok (.istore 4, 2) := by decide +kernel
theorem d_Mod_clears_9 : dec m_Mod_clears 9 = .ok (.iconst 0, 1) := by decide +kernel
theorem d_Mod_clears_10 : dec m_Mod_clears 10 = .ok (.istore 5, 2) := by decide +kernel
theorem d_Mod_clears_12 : dec m_Mod_clears 12 = .ok (.iload_n 1, 1) := by decide +kernel
theorem d_Mod_clears_13 : dec m_Mod_clears 13 = .ok (.istore 6, 2) := by decide +kernel
theorem d_Mod_clears_15 : dec m_Mod_clears 15 = .ok (.iload 6, 2) := by decide +kernel
theorem d_Mod_clears_17 : dec m_Mod_clears 17 = .ok (.aload_n 0, 1) := by decide +kernel
theorem d_Mod_clears_18 : dec m_Mod_clears 18 = .ok (.getfield 133, 3) := by decide +kernel
theorem d_Mod_clears_21 : dec m_Mod_clears 21 = .ok (.if_icmp .ge 93, 3) := by decide +kernel
theorem d_Mod_clears_24 : dec m_Mod_clears 24 = .ok (.iload 5, 2) := by decide +kernel
theorem d_Mod_clears_26 : dec m_Mod_clears 26 = .ok (.aload_n 0, 1) := by decide +kernel
theorem d_Mod_clears_27 : dec m_Mod_clears 27 = .ok (.iload 6, 2) := by decide +kernel
theorem d_Mod_clears_29 : dec m_Mod_clears 29 = .ok (.iload_n 2, 1) := by decide +kernel
theorem d_Mod_clears_30 : dec m_Mod_clears 30 = .ok (.invokevirtual 407, 3) := by decide +kernel
theorem d_Mod_clears_33 : dec m_Mod_clears 33 = .ok (.lconst 0, 1) := by decide +kernel
theorem d_Mod_clears_34 : dec m_Mod_clears 34 = .ok (.lcmp, 1) := by decide +kernel
theorem d_Mod_clears_35 : dec m_Mod_clears 35 = .ok (.ifCond .eq 7, 3) := by decide +kernel
theorem d_Mod_clears_38 : dec m_Mod_clears 38 = .ok (.iconst 1, 1) := by decide +kernel
theorem d_Mod_clears_39 : dec m_Mod_clears 39 = .ok (.goto 4, 3) := by decide +kernel
theorem d_Mod_clears_42 : dec m_Mod_clears 42 = .ok (.iconst 0, 1) := by decide +kernel
theorem d_Mod_clears_43 : dec m_Mod_clears 43 = .ok (.iadd, 1) := by decide +kernel
theorem d_Mod_clears_44 : dec m_Mod_clears 44 = .ok (.istore 5, 2) := by decide +kernel
theorem d_Mod_clears_46 : dec m_Mod_clears 46 = .ok (.aload_n 0, 1) := by decide +kernel
theorem d_Mod_clears_47 : dec m_Mod_clears 47 = .ok (.iload 6, 2) := by decide +kernel
theorem d_Mod_clears_49 : dec m_Mod_clears 49 = .ok (.iload_n 2, 1) := by decide +kernel
theorem d_Mod_clears_50 : dec m_Mod_clears 50 = .ok (.invokevirtual 407, 3) := by decide +kernel
theorem d_Mod_clears_53 : dec m_Mod_clears 53 = .ok (.lconst 0, 1) := by decide +kernel
theorem d_Mod_clears_54 : dec m_Mod_clears 54 = .ok (.lcmp, 1) := by decide +kernel
theorem d_Mod_clears_55 : dec m_Mod_clears 55 = .ok (.ifCond .eq 36, 3) := by decide +kernel
theorem d_Mod_clears_58 : dec m_Mod_clears 58 = .ok (.iload 4, 2) := by decide +kernel
theorem d_Mod_clears_60 : dec m_Mod_clears 60 = .ok (.ifCond .lt 27, 3) := by decide +kernel
theorem d_Mod_clears_63 : dec m_Mod_clears 63 = .ok (.aload_n 0, 1) := by decide +kernel
theorem d_Mod_clears_64 : dec m_Mod_clears 64 = .ok (.iload 6, 2) := by decide +kernel
theorem d_Mod_clears_66 : dec m_Mod_clears 66 = .ok (.iload_n 2, 1) := by decide +kernel
theorem d_Mod_clears_67 : dec m_Mod_clears 67 = .ok (.invokevirtual 407, 3) := by decide +kernel
theorem d_Mod_clears_70 : dec m_Mod_clears 70 = .ok (.invokestatic 158, 3) := by decide +kernel
theorem d_Mod_clears_73 : dec m_Mod_clears 73 = .ok (.aload_n 0, 1) := by decide +kernel
theorem d_Mod_clears_74 : dec m_Mod_clears 74 = .ok (.iload 4, 2) := by decide +kernel
theorem d_Mod_clears_76 : dec m_Mod_clears 76 = .ok (.iload_n 2, 1) := by decide +kernel
theorem d_Mod_clears_77 : dec m_Mod_clears 77 = .ok (.invokevirtual 407, 3) := by decide +kernel
theorem d_Mod_clears_80 : dec m_Mod_clears 80 = .ok (.invokestatic 158, 3) := by decide +kernel
theorem d_Mod_clears_83 : dec m_Mod_clears 83 = .ok (.lcmp, 1) := by decide +kernel
theorem d_Mod_clears_84 : dec m_Mod_clears 84 = .ok (.ifCond .ge 7, 3) := by decide +kernel
theorem d_Mod_clears_87 : dec m_Mod_clears 87 = .ok (.iconst 1, 1) := by decide +kernel
theorem d_Mod_clears_88 : dec m_Mod_clears 88 = .ok (.goto 4, 3) := by decide +kernel
theorem d_Mod_clears_91 : dec m_Mod_clears 91 = .ok (.iconst 0, 1) := by decide +kernel
theorem d_Mod_clears_92 : dec m_Mod_clears 92 = .ok (.istore 7, 2) := by decide +kernel
theorem d_Mod_clears_94 : dec m_Mod_clears 94 = .ok (.iload 7, 2) := by decide +kernel
theorem d_Mod_clears_96 : dec m_Mod_clears 96 = .ok (.ifCond .eq 8, 3) := by decide +kernel
theorem d_Mod_clears_99 : dec m_Mod_clears 99 = .ok (.iload 6, 2) := by decide +kernel
theorem d_Mod_clears_101 : dec m_Mod_clears 101 = .ok (.goto 5, 3) := by decide +kernel
theorem d_Mod_clears_104 : dec m_Mod_clears 104 = .ok (.iload 4, 2) := by decide +kernel
theorem d_Mod_clears_106 : dec m_Mod_clears 106 = .ok (.istore 4, 2) := by decide +kernel
theorem d_Mod_clears_108 : dec m_Mod_clears 108 = .ok (.iinc 6 1, 3) := by decide +kernel
theorem d_Mod_clears_111 : dec m_Mod_clears 111 = .ok (.goto (-96), 3) := by decide +kernel
theorem d_Mod_clears_114 : dec m_Mod_clears 114 = .ok (.iload 4, 2) := by decide +kernel
theorem d_Mod_clears_116 : dec m_Mod_clears 116 = .ok (.ifCond .ge 5, 3) := by decide +kernel
theorem d_Mod_clears_119 : dec m_Mod_clears 119 = .ok (.iconst 0, 1) := by decide +kernel
theorem d_Mod_clears_120 : dec m_Mod_clears 120 = .ok (.ireturn, 1) := by decide +kernel
theorem d_Mod_clears_121 : dec m_Mod_clears 121 = .ok (.aload_n 0, 1) := by decide +kernel
theorem d_Mod_clears_122 : dec m_Mod_clears 122 = .ok (.iload_n 1, 1) := by decide +kernel
theorem d_Mod_clears_123 : dec m_Mod_clears 123 = .ok (.iload 4, 2) := by decide +kernel
theorem d_Mod_clears_125 : dec m_Mod_clears 125 = .ok (.invokevirtual 411, 3) := by decide +kernel
theorem d_Mod_clears_128 : dec m_Mod_clears 128 = .ok (.iload_n 1, 1) := by decide +kernel
theorem d_Mod_clears_129 : dec m_Mod_clears 129 = .ok (.iconst 1, 1) := by decide +kernel
theorem d_Mod_clears_130 : dec m_Mod_clears 130 = .ok (.iadd, 1) := by decide +kernel
theorem d_Mod_clears_131 : dec m_Mod_clears 131 = .ok (.istore 6, 2) := by decide +kernel
theorem d_Mod_clears_133 : dec m_Mod_clears 133 = .ok (.iload 6, 2) := by decide +kernel
theorem d_Mod_clears_135 : dec m_Mod_clears 135 = .ok (.aload_n 0, 1) := by decide +kernel
theorem d_Mod_clears_136 : dec m_Mod_clears 136 = .ok (.getfield 133, 3) := by decide +kernel
theorem d_Mod_clears_139 : dec m_Mod_clears 139 = .ok (.if_icmp .ge 30, 3) := by decide +kernel
theorem d_Mod_clears_142 : dec m_Mod_clears 142 = .ok (.aload_n 0, 1) := by decide +kernel
theorem d_Mod_clears_143 : dec m_Mod_clears 143 = .ok (.iload 6, 2) := by decide +kernel
theorem d_Mod_clears_145 : dec m_Mod_clears 145 = .ok (.iload_n 1, 1) := by decide +kernel
theorem d_Mod_clears_146 : dec m_Mod_clears 146 = .ok (.aload_n 0, 1) := by decide +kernel
theorem d_Mod_clears_147 : dec m_Mod_clears 147 = .ok (.iload 6, 2) := by decide +kernel
theorem d_Mod_clears_149 : dec m_Mod_clears 149 = .ok (.iload_n 2, 1) := by decide +kernel
theorem d_Mod_clears_150 : dec m_Mod_clears 150 = .ok (.invokevirtual 407, 3) := by decide +kernel
theorem d_Mod_clears_153 : dec m_Mod_clears 153 = .ok (.aload_n 0, 1) := by decide +kernel
theorem d_Mod_clears_154 : dec m_Mod_clears 154 = .ok (.iload_n 1, 1) := by decide +kernel
theorem d_Mod_clears_155 : dec m_Mod_clears 155 = .ok (.iload_n 2, 1) := by decide +kernel
theorem d_Mod_clears_156 : dec m_Mod_clears 156 = .ok (.invokevirtual 407, 3) := by decide +kernel
theorem d_Mod_clears_159 : dec m_Mod_clears 159 = .ok (.ldiv, 1) := by decide +kernel
theorem d_Mod_clears_160 : dec m_Mod_clears 160 = .ok (.invokevirtual 414, 3) := by decide +kernel
theorem d_Mod_clears_163 : dec m_Mod_clears 163 = .ok (.iinc 6 1, 3) := by decide +kernel
theorem d_Mod_clears_166 : dec m_Mod_clears 166 = .ok (.goto (-33), 3) := by decide +kernel
theorem d_Mod_clears_169 : dec m_Mod_clears 169 = .ok (.iload 5, 2) := by decide +kernel
theorem d_Mod_clears_171 : dec m_Mod_clears 171 = .ok (.iconst 1, 1) := by decide +kernel
theorem d_Mod_clears_172 : dec m_Mod_clears 172 = .ok (.if_icmp .le 7, 3) := by decide +kernel
theorem d_Mod_clears_175 : dec m_Mod_clears 175 = .ok (.iconst 1, 1) := by decide +kernel
theorem d_Mod_clears_176 : dec m_Mod_clears 176 = .ok (.goto 4, 3) := by decide +kernel
theorem d_Mod_clears_179 : dec m_Mod_clears 179 = .ok (.iconst 0, 1) := by decide +kernel
theorem d_Mod_clears_180 : dec m_Mod_clears 180 = .ok (.istore_n 3, 1) := by decide +kernel
theorem d_Mod_clears_181 : dec m_Mod_clears 181 = .ok (.goto (-179), 3) := by decide +kernel
theorem d_Mod_clears_184 : dec m_Mod_clears 184 = .ok (.aload_n 0, 1) := by decide +kernel
theorem d_Mod_clears_185 : dec m_Mod_clears 185 = .ok (.iload_n 1, 1) := by decide +kernel
theorem d_Mod_clears_186 : dec m_Mod_clears 186 = .ok (.iload_n 2, 1) := by decide +kernel
theorem d_Mod_clears_187 : dec m_Mod_clears 187 = .ok (.invokevirtual 407, 3) := by decide +kernel
theorem d_Mod_clears_190 : dec m_Mod_clears 190 = .ok (.lconst 0, 1) := by decide +kernel
theorem d_Mod_clears_191 : dec m_Mod_clears 191 = .ok (.lcmp, 1) := by decide +kernel
theorem d_Mod_clears_192 : dec m_Mod_clears 192 = .ok (.ifCond .ge 12, 3) := by decide +kernel
theorem d_Mod_clears_195 : dec m_Mod_clears 195 = .ok (.aload_n 0, 1) := by decide +kernel
theorem d_Mod_clears_196 : dec m_Mod_clears 196 = .ok (.iload_n 1, 1) := by decide +kernel
theorem d_Mod_clears_197 : dec m_Mod_clears 197 = .ok (.iload_n 1, 1) := by decide +kernel
theorem d_Mod_clears_198 : dec m_Mod_clears 198 = .ok (.ldc2_w 180, 3) := by decide +kernel
theorem d_Mod_clears_201 : dec m_Mod_clears 201 = .ok (.invokevirtual 414, 3) := by decide +kernel
theorem d_Mod_clears_204 : dec m_Mod_clears 204 = .ok (.iconst 1, 1) := by decide +kernel
theorem d_Mod_clears_205 : dec m_Mod_clears 205 = .ok (.ireturn, 1) := by decide +kernel
theorem d_Mod_reduce_0 : dec m_Mod_reduce 0 = .ok (.iload_n 1, 1) := by decide +kernel
theorem d_Mod_reduce_1 : dec m_Mod_reduce 1 = .ok (.istore 4, 2) := by decide +kernel
theorem d_Mod_reduce_3 : dec m_Mod_reduce 3 = .ok (.iload_n 2, 1) := by decide +kernel
theorem d_Mod_reduce_4 : dec m_Mod_reduce 4 = .ok (.istore 5, 2) := by decide +kernel
theorem d_Mod_reduce_6 : dec m_Mod_reduce 6 = .ok (.iload 5, 2) := by decide +kernel
theorem d_Mod_reduce_8 : dec m_Mod_reduce 8 = .ok (.iload_n 3, 1) := by decide +kernel
theorem d_Mod_reduce_9 : dec m_Mod_reduce 9 = .ok (.if_icmp .gt 88, 3) := by decide +kernel
theorem d_Mod_reduce_12 : dec m_Mod_reduce 12 = .ok (.iload 4, 2) := by decide +kernel
theorem d_Mod_reduce_14 : dec m_Mod_reduce 14 = .ok (.aload_n 0, 1) := by decide +kernel
theorem d_Mod_reduce_15 : dec m_Mod_reduce 15 = .ok (.getfield 133, 3) := by decide +kernel
theorem d_Mod_reduce_18 : dec m_Mod_reduce 18 = .ok (.if_icmp .ge 79, 3) := by decide +kernel
theorem d_Mod_reduce_21 : dec m_Mod_reduce 21 = .ok (.aload_n 0, 1) := by decide +kernel
theorem d_Mod_reduce_22 : dec m_Mod_reduce 22 = .ok (.iload 4, 2) := by decide +kernel
theorem d_Mod_reduce_24 : dec m_Mod_reduce 24 = .ok (.iload 5, 2) := by decide +kernel
theorem d_Mod_reduce_26 : dec m_Mod_reduce 26 = .ok (.invokevirtual 417, 3) := by decide +kernel
theorem d_Mod_reduce_29 : dec m_Mod_reduce 29 = .ok (.ifCond .eq 62, 3) := by decide +kernel
theorem d_Mod_reduce_32 : dec m_Mod_reduce 32 = .ok (.iload_n 1, 1) := by decide +kernel
theorem d_Mod_reduce_33 : dec m_Mod_reduce 33 = .ok (.istore 6, 2) := by decide +kernel
theorem d_Mod_reduce_35 : dec m_Mod_reduce 35 = .ok (.iload 6, 2) := by decide +kernel
theorem d_Mod_reduce_37 : dec m_Mod_reduce 37 = .ok (.iload 4, 2) := by decide +kernel
theorem d_Mod_reduce_39 : dec m_Mod_reduce 39 = .ok (.if_icmp .ge 36, 3) := by decide +kernel
theorem d_Mod_reduce_42 : dec m_Mod_reduce 42 = .ok (.aload_n 0, 1) := by decide +kernel
theorem d_Mod_reduce_43 : dec m_Mod_reduce 43 = .ok (.iload 6, 2) := by decide +kernel
theorem d_Mod_reduce_45 : dec m_Mod_reduce 45 = .ok (.iload 4, 2) := by decide +kernel
theorem d_Mod_reduce_47 : dec m_Mod_reduce 47 = .ok (.aload_n 0, 1) := by decide +kernel
theorem d_Mod_reduce_48 : dec m_Mod_reduce 48 = .ok (.iload 6, 2) := by decide +kernel
theorem d_Mod_reduce_50 : dec m_Mod_reduce 50 = .ok (.iload 5, 2) := by decide +kernel
theorem d_Mod_reduce_52 : dec m_Mod_reduce 52 = .ok (.invokevirtual 407, 3) := by decide +kernel
theorem d_Mod_reduce_55 : dec m_Mod_reduce 55 = .ok (.aload_n 0, 1) := by decide +kernel
theorem d_Mod_reduce_56 : dec m_Mod_reduce 56 = .ok (.iload 4, 2) := by decide +kernel
theorem d_Mod_reduce_58 : dec m_Mod_reduce 58 = .ok (.iload 5, 2) := by decide +kernel
theorem d_Mod_reduce_60 : dec m_Mod_reduce 60 = .ok (.invokevirtual 407, 3) := by decide +kernel
theorem d_Mod_reduce_63 : dec m_Mod_reduce 63 = .ok (.invokestatic 420, 3) := by decide +kernel
theorem d_Mod_reduce_66 : dec m_Mod_reduce 66 = .ok (.invokevirtual 414, 3) := by decide +kernel
theorem d_Mod_reduce_69 : dec m_Mod_reduce 69 = .ok (.iinc 6 1, 3) := by decide +kernel
theorem d_Mod_reduce_72 : dec m_Mod_reduce 72 = .ok (.goto (-37), 3) := by decide +kernel
theorem d_Mod_reduce_75 : dec m_Mod_reduce 75 = .ok (.aload_n 0, 1) := by decide +kernel
theorem d_Mod_reduce_76 : dec m_Mod_reduce 76 = .ok (.getfield 106, 3) := by decide +kernel
theorem d_Mod_reduce_79 : dec m_Mod_reduce 79 = .ok (.iload 4, 2) := by decide +kernel
theorem d_Mod_reduce_81 : dec m_Mod_reduce 81 = .ok (.iload_n 1, 1) := by decide +kernel
theorem d_Mod_reduce_82 : dec m_Mod_reduce 82 = .ok (.isub, 1) := by decide +kernel
theorem d_Mod_reduce_83 : dec m_Mod_reduce 83 = .ok (.iload 5, 2) := by decide +kernel
theorem d_Mod_reduce_85 : dec m_Mod_reduce 85 = .ok (.iload_n 2, 1) := by decide +kernel
theorem d_Mod_reduce_86 : dec m_Mod_reduce 86 = .ok (.isub, 1) := by decide +kernel
theorem d_Mod_reduce_87 : dec m_Mod_reduce 87 = .ok (.iastore, 1) := by decide +kernel
theorem d_Mod_reduce_88 : dec m_Mod_reduce 88 = .ok (.iinc 4 1, 3) := by decide +kernel
theorem d_Mod_reduce_91 : dec m_Mod_reduce 91 = .ok (.iinc 5 1, 3) := by decide +kernel
theorem d_Mod_reduce_94 : dec m_Mod_reduce 94 = .ok (.goto (-88), 3) := by decide +kernel
theorem d_Mod_reduce_97 : dec m_Mod_reduce 97 = .ok (.iload 4, 2) := by decide +kernel
theorem d_Mod_reduce_99 : dec m_Mod_reduce 99 = .ok (.iload_n 1, 1) := by decide +kernel
theorem d_Mod_reduce_100 : dec m_Mod_reduce 100 = .ok (.isub, 1) := by decide +kernel
theorem d_Mod_reduce_101 : dec m_Mod_reduce 101 = .ok (.ireturn, 1) := by decide +kernel
theorem d_Mod_layBasis_0 : dec m_Mod_layBasis 0 = .ok (.iconst 0, 1) := by decide +kernel
theorem d_Mod_layBasis_1 : dec m_Mod_layBasis 1 = .ok (.istore_n 2, 1) := by decide +kernel
theorem d_Mod_layBasis_2 : dec m_Mod_layBasis 2 = .ok (.iload_n 2, 1) := by decide +kernel
theorem d_Mod_layBasis_3 : dec m_Mod_layBasis 3 = .ok (.aload_n 0, 1) := by decide +kernel
theorem d_Mod_layBasis_4 : dec m_Mod_layBasis 4 = .ok (.getfield 133, 3) := by decide +kernel
theorem d_Mod_layBasis_7 : dec m_Mod_layBasis 7 = .ok (.if_icmp .ge 66, 3) := by decide +kernel
theorem d_Mod_layBasis_10 : dec m_Mod_layBasis 10 = .ok (.iconst 0, 1) := by decide +kernel
theorem d_Mod_layBasis_11 : dec m_Mod_layBasis 11 = .ok (.istore_n 3, 1) := by decide +kernel
theorem d_Mod_layBasis_12 : dec m_Mod_layBasis 12 = .ok (.iload_n 3, 1) := by decide +kernel
theorem d_Mod_layBasis_13 : dec m_Mod_layBasis 13 = .ok (.bipush 10, 2) := by decide +kernel
theorem d_Mod_layBasis_15 : dec m_Mod_layBasis 15 = .ok (.if_icmp .ge 52, 3) := by decide +kernel
theorem d_Mod_layBasis_18 : dec m_Mod_layBasis 18 = .ok (.aload_n 0, 1) := by decide +kernel
theorem d_Mod_layBasis_19 : dec m_Mod_layBasis 19 = .ok (.getfield 100, 3) := by decide +kernel
theorem d_Mod_layBasis_22 : dec m_Mod_layBasis 22 = .ok (.bipush 10, 2) := by decide +kernel
theorem d_Mod_layBasis_24 : dec m_Mod_layBasis 24 = .ok (.iload_n 2, 1) := by decide +kernel
theorem d_Mod_layBasis_25 : dec m_Mod_layBasis 25 = .ok (.imul, 1) := by decide +kernel
theorem d_Mod_layBasis_26 : dec m_Mod_layBasis 26 = .ok (.iload_n 3, 1) := by decide +kernel
theorem d_Mod_layBasis_27 : dec m_Mod_layBasis 27 = .ok (.iadd, 1) := by decide +kernel
theorem d_Mod_layBasis_28 : dec m_Mod_layBasis 28 = .ok (.iload_n 3, 1) := by decide +kernel
theorem d_Mod_layBasis_29 : dec m_Mod_layBasis 29 = .ok (.iconst 3, 1) := by decide +kernel
theorem d_Mod_layBasis_30 : dec m_Mod_layBasis 30 = .ok (.if_icmp .ge 18, 3) := by decide +kernel
theorem d_Mod_layBasis_33 : dec m_Mod_layBasis 33 = .ok (.aload_n 0, 1) := by decide +kernel
theorem d_Mod_layBasis_34 : dec m_Mod_layBasis 34 = .ok (.aload_n 0, 1) := by decide +kernel
theorem d_Mod_layBasis_35 : dec m_Mod_layBasis 35 = .ok (.getfield 37, 3) := by decide +kernel
theorem d_Mod_layBasis_38 : dec m_Mod_layBasis 38 = .ok (.iload_n 2, 1) := by decide +kernel
theorem d_Mod_layBasis_39 : dec m_Mod_layBasis 39 = .ok (.iaload, 1) := by decide +kernel
theorem d_Mod_layBasis_40 : dec m_Mod_layBasis 40 = .ok (.iload_n 3, 1) := by decide +kernel
theorem d_Mod_layBasis_41 : dec m_Mod_layBasis 41 = .ok (.invokevirtual 242, 3) := by decide +kernel
theorem d_Mod_layBasis_44 : dec m_Mod_layBasis 44 = .ok (.i2l, 1) := by decide +kernel
theorem d_Mod_layBasis_45 : dec m_Mod_layBasis 45 = .ok (.goto 15, 3) := by decide +kernel
theorem d_Mod_layBasis_48 : dec m_Mod_layBasis 48 = .ok (.iload_n 3, 1) := by decide +kernel
theorem d_Mod_layBasis_49 : dec m_Mod_layBasis 49 = .ok (.iconst 3, 1) := by decide +kernel
theorem d_Mod_layBasis_50 : dec m_Mod_layBasis 50 = .ok (.isub, 1) := by decide +kernel
theorem d_Mod_layBasis_51 : dec m_Mod_layBasis 51 = .ok (.iload_n 2, 1) := by decide +kernel
theorem d_Mod_layBasis_52 : dec m_Mod_layBasis 52 = .ok (.if_icmp .ne 7, 3) := by decide +kernel
theorem d_Mod_layBasis_55 : dec m_Mod_layBasis 55 = .ok (.lconst 1, 1) := by decide +kernel
theorem d_Mod_layBasis_56 : dec m_Mod_layBasis 56 = .ok (.goto 4, 3) := by decide +kernel
theorem d_Mod_layBasis_59 : dec m_Mod_layBasis 59 = .ok (.lconst 0, 1) := by decide +kernel
theorem d_Mod_layBasis_60 : dec m_Mod_layBasis 60 = .ok (.lastore, 1) := by decide +kernel
theorem d_Mod_layBasis_61 : dec m_Mod_layBasis 61 = .ok (.iinc 3 1, 3) := by decide +kernel
theorem d_Mod_layBasis_64 : dec m_Mod_layBasis 64 = .ok (.goto (-52), 3) := by decide +kernel
theorem d_Mod_layBasis_67 : dec m_Mod_layBasis 67 = .ok (.iinc 2 1, 3) := by decide +kernel
theorem d_Mod_layBasis_70 : dec m_Mod_layBasis 70 = .ok (.goto (-68), 3) := by decide +kernel
theorem d_Mod_layBasis_73 : dec m_Mod_layBasis 73 = .ok (.aload_n 0, 1) := by decide +kernel
theorem d_Mod_layBasis_74 : dec m_Mod_layBasis 74 = .ok (.iconst 0, 1) := by decide +kernel
theorem d_Mod_layBasis_75 : dec m_Mod_layBasis 75 = .ok (.iconst 0, 1) := by decide +kernel
theorem d_Mod_layBasis_76 : dec m_Mod_layBasis 76 = .ok (.iconst 2, 1) := by decide +kernel
theorem d_Mod_layBasis_77 : dec m_Mod_layBasis 77 = .ok (.invokevirtual 423, 3) := by decide +kernel
theorem d_Mod_layBasis_80 : dec m_Mod_layBasis 80 = .ok (.istore_n 2, 1) := by decide +kernel
theorem d_Mod_layBasis_81 : dec m_Mod_layBasis 81 = .ok (.aload_n 0, 1) := by decide +kernel
theorem d_Mod_layBasis_82 : dec m_Mod_layBasis 82 = .ok (.iload_n 1, 1) := by decide +kernel
theorem d_Mod_layBasis_83 : dec m_Mod_layBasis 83 = .ok (.ifCond .ne 7, 3) := by decide +kernel
theorem d_Mod_layBasis_86 : dec m_Mod_layBasis 86 = .ok (.iload_n 2, 1) := by decide +kernel
theorem d_Mod_layBasis_87 : dec m_Mod_layBasis 87 = .ok (.goto 11, 3) := by decide +kernel
theorem d_Mod_layBasis_90 : dec m_Mod_layBasis 90 = .ok (.aload_n 0, 1) := by decide +kernel
theorem d_Mod_layBasis_91 : dec m_Mod_layBasis 91 = .ok (.iload_n 2, 1) := by decide +kernel
theorem d_Mod_layBasis_92 : dec m_Mod_layBasis 92 = .ok (.iconst 3, 1) := by decide +kernel
theorem d_Mod_layBasis_93 : dec m_Mod_layBasis 93 = .ok (.bipush 9, 2) := by decide +kernel
theorem d_Mod_layBasis_95 : dec m_Mod_layBasis 95 = .ok (.invokevirtual 423, 3) := by decide +kernel
theorem d_Mod_layBasis_98 : dec m_Mod_layBasis 98 = .ok (.putfield 426, 3) := by decide +kernel
theorem d_Mod_layBasis_101 : dec m_Mod_layBasis 101 = .ok (.iconst 0, 1) := by decide +kernel
theorem d_Mod_layBasis_102 : dec m_Mod_layBasis 102 = .ok (.istore_n 3, 1) := by decide +kernel
theorem d_Mod_layBasis_103 : dec m_Mod_layBasis 103 = .ok (.iload_n 3, 1) := by decide +kernel
theorem d_Mod_layBasis_104 : dec m_Mod_layBasis 104 = .ok (.aload_n 0, 1) := by decide +kernel
theorem d_Mod_layBasis_105 : dec m_Mod_layBasis 105 = .ok (.getfield 426, 3) := by decide +kernel
theorem d_Mod_layBasis_108 : dec m_Mod_layBasis 108 = .ok (.if_icmp .ge 72, 3) := by decide +kernel
theorem d_Mod_layBasis_111 : dec m_Mod_layBasis 111 = .ok (.iconst 0, 1) := by decide +kernel
theorem d_Mod_layBasis_112 : dec m_Mod_layBasis 112 = .ok (.istore 4, 2) := by decide +kernel
theorem d_Mod_layBasis_114 : dec m_Mod_layBasis 114 = .ok (.iload 4, 2) := by decide +kernel
theorem d_Mod_layBasis_116 : dec m_Mod_layBasis 116 = .ok (.bipush 7, 2) := by decide +kernel
theorem d_Mod_layBasis_118 : dec m_Mod_layBasis 118 = .ok (.if_icmp .ge 56, 3) := by decide +kernel
theorem d_Mod_layBasis_121 : dec m_Mod_layBasis 121 = .ok (.aload_n 0, 1) := by decide +kernel
theorem d_Mod_layBasis_122 : dec m_Mod_layBasis 122 = .ok (.getfield 103, 3) := by decide +kernel
theorem d_Mod_layBasis_125 : dec m_Mod_layBasis 125 = .ok (.bipush 7, 2) := by decide +kernel
theorem d_Mod_layBasis_127 : dec m_Mod_layBasis 127 = .ok (.iload_n 3, 1) := by decide +kernel
theorem d_Mod_layBasis_128 : dec m_Mod_layBasis 128 = .ok (.imul, 1) := by decide +kernel
theorem d_Mod_layBasis_129 : dec m_Mod_layBasis 129 = .ok (.iload 4, 2) := by decide +kernel
theorem d_Mod_layBasis_131 : dec m_Mod_layBasis 131 = .ok (.iadd, 1) := by decide +kernel
theorem d_Mod_layBasis_132 : dec m_Mod_layBasis 132 = .ok (.iload_n 1, 1) := by decide +kernel
theorem d_Mod_layBasis_133 : dec m_Mod_layBasis 133 = .ok (.ifCond .ne 23, 3) := by decide +kernel
theorem d_Mod_layBasis_136 : dec m_Mod_layBasis 136 = .ok (.iload 4, 2) := by decide +kernel
theorem d_Mod_layBasis_138 : dec m_Mod_layBasis 138 = .ok (.iconst 3, 1) := by decide +kernel
theorem d_Mod_layBasis_139 : dec m_Mod_layBasis 139 = .ok (.if_icmp .ge 13, 3) := by decide +kernel
theorem d_Mod_layBasis_142 : dec m_Mod_layBasis 142 = .ok (.aload_n 0, 1) := by decide +kernel
theorem d_Mod_layBasis_143 : dec m_Mod_layBasis 143 = .ok (.iload_n 3, 1) := by decide +kernel
theorem d_Mod_layBasis_144 : dec m_Mod_layBasis 144 = .ok (.iload 4, 2) := by decide +kernel
theorem d_Mod_layBasis_146 : dec m_Mod_layBasis 146 = .ok (.invokevirtual 407, 3) := by decide +kernel
theorem d_Mod_layBasis_149 : dec m_Mod_layBasis 149 = .ok (.goto 18, 3) := by decide +kernel
theorem d_Mod_layBasis_152 : dec m_Mod_layBasis 152 = .ok (.lconst 0, 1) := by decide +kernel
theorem d_Mod_layBasis_153 : dec m_Mod_layBasis 153 = .ok (.goto 14, 3) := by decide +kernel
theorem d_Mod_layBasis_156 : dec m_Mod_layBasis 156 = .ok (.aload_n 0, 1) := by decide +kernel
theorem d_Mod_layBasis_157 : dec m_Mod_layBasis 157 = .ok (.iload_n 2, 1) := by decide +kernel
theorem d_Mod_layBasis_158 : dec m_Mod_layBasis 158 = .ok (.iload_n 3, 1) := by decide +kernel
theorem d_Mod_layBasis_159 : dec m_Mod_layBasis 159 = .ok (.iadd, 1) := by decide +kernel
theorem d_Mod_layBasis_160 : dec m_Mod_layBasis 160 = .ok (.iconst 3, 1) := by decide +kernel
theorem d_Mod_layBasis_161 : dec m_Mod_layBasis 161 = .ok (.iload 4, 2) := by decide +kernel
theorem d_Mod_layBasis_163 : dec m_Mod_layBasis 163 = .ok (.iadd, 1) := by decide +kernel
theorem d_Mod_layBasis_164 : dec m_Mod_layBasis 164 = .ok (.invokevirtual 407, 3) := by decide +kernel
theorem d_Mod_layBasis_167 : dec m_Mod_layBasis 167 = .ok (.lastore, 1) := by decide +kernel
theorem d_Mod_layBasis_168 : dec m_Mod_layBasis 168 = .ok (.iinc 4 1, 3) := by decide +kernel
theorem d_Mod_layBasis_171 : dec m_Mod_layBasis 171 = .ok (.goto (-57), 3) := by decide +kernel
theorem d_Mod_layBasis_174 : dec m_Mod_layBasis 174 = .ok (.iinc 3 1, 3) := by decide +kernel
theorem d_Mod_layBasis_177 : dec m_Mod_layBasis 177 = .ok (.goto (-74), 3) := by decide +kernel
theorem d_Mod_layBasis_180 : dec m_Mod_layBasis 180 = .ok (.return_, 1) := by decide +kernel
theorem d_Mod_rank_0 : dec m_Mod_rank 0 = .ok (.iload_n 1, 1) := by decide +kernel
theorem d_Mod_rank_1 : dec m_Mod_rank 1 = .ok (.i2l, 1) := by decide +kernel
theorem d_Mod_rank_2 : dec m_Mod_rank 2 = .ok (.lconst 0, 1) := by decide +kernel
theorem d_Mod_rank_3 : dec m_Mod_rank 3 = .ok (.lconst 1, 1) := by decide +kernel
theorem d_Mod_rank_4 : dec m_Mod_rank 4 = .ok (.invokestatic 139, 3) := by decide +kernel
theorem d_Mod_rank_7 : dec m_Mod_rank 7 = .ok (.ifCond .ne 5, 3) := by decide +kernel
theorem d_Mod_rank_10 : dec m_Mod_rank 10 = .ok (.iconst (-1), 1) := by decide +kernel
theorem d_Mod_rank_11 : dec m_Mod_rank 11 = .ok (.ireturn, 1) := by decide +kernel
theorem d_Mod_rank_12 : dec m_Mod_rank 12 = .ok (.aload_n 0, 1) := by decide +kernel
theorem d_Mod_rank_13 : dec m_Mod_rank 13 = .ok (.iconst 1, 1) := by decide +kernel
theorem d_Mod_rank_14 : dec m_Mod_rank 14 = .ok (.iload_n 1, 1) := by decide +kernel
theorem d_Mod_rank_15 : dec m_Mod_rank 15 = .ok (.isub, 1) := by decide +kernel
theorem d_Mod_rank_16 : dec m_Mod_rank 16 = .ok (.invokevirtual 429, 3) := by decide +kernel
theorem d_Mod_rank_19 : dec m_Mod_rank 19 = .ok (.aload_n 0, 1) := by decide +kernel
theorem d_Mod_rank_20 : dec m_Mod_rank 20 = .ok (.getfield 426, 3) := by decide +kernel
theorem d_Mod_rank_23 : dec m_Mod_rank 23 = .ok (.ireturn, 1) := by decide +kernel
theorem d_Mod_lattice_0 : dec m_Mod_lattice 0 = .ok (.aload_n 0, 1) := by decide +kernel
theorem d_Mod_lattice_1 : dec m_Mod_lattice 1 = .ok (.iconst 1, 1) := by decide +kernel
theorem d_Mod_lattice_2 : dec m_Mod_lattice 2 = .ok (.invokevirtual 429, 3) := by decide +kernel
theorem d_Mod_lattice_5 : dec m_Mod_lattice 5 = .ok (.aload_n 0, 1) := by decide +kernel
theorem d_Mod_lattice_6 : dec m_Mod_lattice 6 = .ok (.iload_n 2, 1) := by decide +kernel
theorem d_Mod_lattice_7 : dec m_Mod_lattice 7 = .ok (.invokevirtual 287, 3) := by decide +kernel
theorem d_Mod_lattice_10 : dec m_Mod_lattice 10 = .ok (.ifCond .eq 33, 3) := by decide +kernel
theorem d_Mod_lattice_13 : dec m_Mod_lattice 13 = .ok (.iload_n 1, 1) := by decide +kernel
theorem d_Mod_lattice_14 : dec m_Mod_lattice 14 = .ok (.i2l, 1) := by decide +kernel
theorem d_Mod_lattice_15 : dec m_Mod_lattice 15 = .ok (.lconst 0, 1) := by decide +kernel
theorem d_Mod_lattice_16 : dec m_Mod_lattice 16 = .ok (.aload_n 0, 1) := by decide +kernel
theorem d_Mod_lattice_17 : dec m_Mod_lattice 17 = .ok (.getfield 426, 3) := by decide +kernel
theorem d_Mod_lattice_20 : dec m_Mod_lattice 20 = .ok (.iconst 1, 1) := by decide +kernel
theorem d_Mod_lattice_21 : dec m_Mod_lattice 21 = .ok (.isub, 1) := by decide +kernel
theorem d_Mod_lattice_22 : dec m_Mod_lattice 22 = .ok (.i2l, 1) := by decide +kernel
theorem d_Mod_lattice_23 : dec m_Mod_lattice 23 = .ok (.invokestatic 139, 3) := by decide +kernel
theorem d_Mod_lattice_26 : dec m_Mod_lattice 26 = .ok (.ifCond .eq 17, 3) := by decide +kernel
theorem d_Mod_lattice_29 : dec m_Mod_lattice 29 = .ok (.aload_n 0, 1) := by decide +kernel
theorem d_Mod_lattice_30 : dec m_Mod_lattice 30 = .ok (.getfield 103, 3) := by decide +kernel
theorem d_Mod_lattice_33 : dec m_Mod_lattice 33 = .ok (.bipush 7, 2) := by decide +kernel
theorem d_Mod_lattice_35 : dec m_Mod_lattice 35 = .ok (.iload_n 1, 1) := by decide +kernel
theorem d_Mod_lattice_36 : dec m_Mod_lattice 36 = .ok (.imul, 1) := by decide +kernel
theorem d_Mod_lattice_37 : dec m_Mod_lattice 37 = .ok (.iload_n 2, 1) := by decide +kernel
theorem d_Mod_lattice_38 : dec m_Mod_lattice 38 = .ok (.iadd, 1) := by decide +kernel
theorem d_Mod_lattice_39 : dec m_Mod_lattice 39 = .ok (.laload, 1) := by decide +kernel
theorem d_Mod_lattice_40 : dec m_Mod_lattice 40 = .ok (.goto 6, 3) := by decide +kernel
theorem d_Mod_lattice_43 : dec m_Mod_lattice 43 = .ok (.ldc2_w 235, 3) := by decide +kernel
theorem d_Mod_lattice_46 : dec m_Mod_lattice 46 = .ok (.lreturn, 1) := by decide +kernel
theorem d_Mod_span_0 : dec m_Mod_span 0 = .ok (.aload_n 0, 1) := by decide +kernel
theorem d_Mod_span_1 : dec m_Mod_span 1 = .ok (.iconst 0, 1) := by decide +kernel
theorem d_Mod_span_2 : dec m_Mod_span 2 = .ok (.invokevirtual 429, 3) := by decide +kernel
theorem d_Mod_span_5 : dec m_Mod_span 5 = .ok (.iload_n 2, 1) := by decide +kernel
theorem d_Mod_span_6 : dec m_Mod_span 6 = .ok (.i2l, 1) := by decide +kernel
theorem d_Mod_span_7 : dec m_Mod_span 7 = .ok (.lconst 0, 1) := by decide +kernel
theorem d_Mod_span_8 : dec m_Mod_span 8 = .ok (.ldc2_w 180, 3) := by decide +kernel
theorem d_Mod_span_11 : dec m_Mod_span 11 = .ok (.invokestatic 139, 3) := by decide +kernel
theorem d_Mod_span_14 : dec m_Mod_span 14 = .ok (.ifCond .eq 33, 3) := by decide +kernel
theorem d_Mod_span_17 : dec m_Mod_span 17 = .ok (.iload_n 1, 1) := by decide +kernel
theorem d_Mod_span_18 : dec m_Mod_span 18 = .ok (.i2l, 1) := by decide +kernel
theorem d_Mod_span_19 : dec m_Mod_span 19 = .ok (.lconst 0, 1) := by decide +kernel
theorem d_Mod_span_20 : dec m_Mod_span 20 = .ok (.aload_n 0, 1) := by decide +kernel
theorem d_Mod_span_21 : dec m_Mod_span 21 = .ok (.getfield 426, 3) := by decide +kernel
theorem d_Mod_span_24 : dec m_Mod_span 24 = .ok (.iconst 1, 1) := by decide +kernel
theorem d_Mod_span_25 : dec m_Mod_span 25 = .ok (.isub, 1) := by decide +kernel
theorem d_Mod_span_26 : dec m_Mod_span 26 = .ok (.i2l, 1) := by decide +kernel
theorem d_Mod_span_27 : dec m_Mod_span 27 = .ok (.invokestatic 139, 3) := by decide +kernel
theorem d_Mod_span_30 : dec m_Mod_span 30 = .ok (.ifCond .eq 17, 3) := by decide +kernel
theorem d_Mod_span_33 : dec m_Mod_span 33 = .ok (.aload_n 0, 1) := by decide +kernel
theorem d_Mod_span_34 : dec m_Mod_span 34 = .ok (.getfield 103, 3) := by decide +kernel
theorem d_Mod_span_37 : dec m_Mod_span 37 = .ok (.bipush 7, 2) := by decide +kernel
theorem d_Mod_span_39 : dec m_Mod_span 39 = .ok (.iload_n 1, 1) := by decide +kernel
theorem d_Mod_span_40 : dec m_Mod_span 40 = .ok (.imul, 1) := by decide +kernel
theorem d_Mod_span_41 : dec m_Mod_span 41 = .ok (.iload_n 2, 1) := by decide +kernel
theorem d_Mod_span_42 : dec m_Mod_span 42 = .ok (.iadd, 1) := by decide +kernel
theorem d_Mod_span_43 : dec m_Mod_span 43 = .ok (.laload, 1) := by decide +kernel
theorem d_Mod_span_44 : dec m_Mod_span 44 = .ok (.goto 6, 3) := by decide +kernel
theorem d_Mod_span_47 : dec m_Mod_span 47 = .ok (.ldc2_w 235, 3) := by decide +kernel
theorem d_Mod_span_50 : dec m_Mod_span 50 = .ok (.lreturn, 1) := by decide +kernel
theorem d_Mod_takes_0 : dec m_Mod_takes 0 = .ok (.aload_n 0, 1) := by decide +kernel
theorem d_Mod_takes_1 : dec m_Mod_takes 1 = .ok (.getfield 109, 3) := by decide +kernel
theorem d_Mod_takes_4 : dec m_Mod_takes 4 = .ok (.aload_n 0, 1) := by decide +kernel
theorem d_Mod_takes_5 : dec m_Mod_takes 5 = .ok (.getfield 106, 3) := by decide +kernel
theorem d_Mod_takes_8 : dec m_Mod_takes 8 = .ok (.iload_n 1, 1) := by decide +kernel
theorem d_Mod_takes_9 : dec m_Mod_takes 9 = .ok (.iaload, 1) := by decide +kernel
theorem d_Mod_takes_10 : dec m_Mod_takes 10 = .ok (.laload, 1) := by decide +kernel
theorem d_Mod_takes_11 : dec m_Mod_takes 11 = .ok (.aload_n 0, 1) := by decide +kernel
theorem d_Mod_takes_12 : dec m_Mod_takes 12 = .ok (.getfield 103, 3) := by decide +kernel
theorem d_Mod_takes_15 : dec m_Mod_takes 15 = .ok (.bipush 7, 2) := by decide +kernel
theorem d_Mod_takes_17 : dec m_Mod_takes 17 = .ok (.iload_n 1, 1) := by decide +kernel
theorem d_Mod_takes_18 : dec m_Mod_takes 18 = .ok (.imul, 1) := by decide +kernel
theorem d_Mod_takes_19 : dec m_Mod_takes 19 = .ok (.aload_n 0, 1) := by decide +kernel
theorem d_Mod_takes_20 : dec m_Mod_takes 20 = .ok (.getfield 106, 3) := by decide +kernel
theorem d_Mod_takes_23 : dec m_Mod_takes 23 = .ok (.iload_n 1, 1) := by decide +kernel
theorem d_Mod_takes_24 : dec m_Mod_takes 24 = .ok (.iaload, 1) := by decide +kernel
theorem d_Mod_takes_25 : dec m_Mod_takes 25 = .ok (.iadd, 1) := by decide +kernel
theorem d_Mod_takes_26 : dec m_Mod_takes 26 = .ok (.laload, 1) := by decide +kernel
theorem d_Mod_takes_27 : dec m_Mod_takes 27 = .ok (.ldiv, 1) := by decide +kernel
theorem d_Mod_takes_28 : dec m_Mod_takes 28 = .ok (.lstore_n 2, 1) := by decide +kernel
theorem d_Mod_takes_29 : dec m_Mod_takes 29 = .ok (.iconst 0, 1) := by decide +kernel
theorem d_Mod_takes_30 : dec m_Mod_takes 30 = .ok (.istore 4, 2) := by decide +kernel
theorem d_Mod_takes_32 : dec m_Mod_takes 32 = .ok (.iload 4, 2) := by decide +kernel
theorem d_Mod_takes_34 : dec m_Mod_takes 34 = .ok (.bipush 7, 2) := by decide +kernel
theorem d_Mod_takes_36 : dec m_Mod_takes 36 = .ok (.if_icmp .ge 33, 3) := by decide +kernel
theorem d_Mod_takes_39 : dec m_Mod_takes 39 = .ok (.aload_n 0, 1) := by decide +kernel
theorem d_Mod_takes_40 : dec m_Mod_takes 40 = .ok (.getfield 109, 3) := by decide +kernel
theorem d_Mod_takes_43 : dec m_Mod_takes 43 = .ok (.iload 4, 2) := by decide +kernel
theorem d_Mod_takes_45 : dec m_Mod_takes 45 = .ok (.dup2, 1) := by decide +kernel
theorem d_Mod_takes_46 : dec m_Mod_takes 46 = .ok (.laload, 1) := by decide +kernel
theorem d_Mod_takes_47 : dec m_Mod_takes 47 = .ok (.lload_n 2, 1) := by decide +kernel
theorem d_Mod_takes_48 : dec m_Mod_takes 48 = .ok (.aload_n 0, 1) := by decide +kernel
theorem d_Mod_takes_49 : dec m_Mod_takes 49 = .ok (.getfield 103, 3) := by decide +kernel
theorem d_Mod_takes_52 : dec m_Mod_takes 52 = .ok (.bipush 7, 2) := by decide +kernel
theorem d_Mod_takes_54 : dec m_Mod_takes 54 = .ok (.iload_n 1, 1) := by decide +kernel
theorem d_Mod_takes_55 : dec m_Mod_takes 55 = .ok (.imul, 1) := by decide +kernel
theorem d_Mod_takes_56 : dec m_Mod_takes 56 = .ok (.iload 4, 2) := by decide +kernel
theorem d_Mod_takes_58 : dec m_Mod_takes 58 = .ok (.iadd, 1) := by decide +kernel
theorem d_Mod_takes_59 : dec m_Mod_takes 59 = .ok (.laload, 1) := by decide +kernel
theorem d_Mod_takes_60 : dec m_Mod_takes 60 = .ok (.lmul, 1) := by decide +kernel
theorem d_Mod_takes_61 : dec m_Mod_takes 61 = .ok (.lsub, 1) := by decide +kernel
theorem d_Mod_takes_62 : dec m_Mod_takes 62 = .ok (.lastore, 1) := by decide +kernel
theorem d_Mod_takes_63 : dec m_Mod_takes 63 = .ok (.iinc 4 1, 3) := by decide +kernel
theorem d_Mod_takes_66 : dec m_Mod_takes 66 = .ok (.goto (-34), 3) := by decide +kernel
theorem d_Mod_takes_69 : dec m_Mod_takes 69 = .ok (.lload_n 2, 1) := by decide +kernel
theorem d_Mod_takes_70 : dec m_Mod_takes 70 = .ok (.lreturn, 1) := by decide +kernel
theorem d_Mod_inSpan_0 : dec m_Mod_inSpan 0 = .ok (.iload_n 1, 1) := by decide +kernel
theorem d_Mod_inSpan_1 : dec m_Mod_inSpan 1 = .ok (.i2l, 1) := by decide +kernel
theorem d_Mod_inSpan_2 : dec m_Mod_inSpan 2 = .ok (.ldc2_w 186, 3) := by decide +kernel
theorem d_Mod_inSpan_5 : dec m_Mod_inSpan 5 = .ok (.ldc2_w 188, 3) := by decide +kernel
theorem d_Mod_inSpan_8 : dec m_Mod_inSpan 8 = .ok (.invokestatic 139, 3) := by decide +kernel
theorem d_Mod_inSpan_11 : dec m_Mod_inSpan 11 = .ok (.ifCond .eq 31, 3) := by decide +kernel
theorem d_Mod_inSpan_14 : dec m_Mod_inSpan 14 = .ok (.iload_n 2, 1) := by decide +kernel
theorem d_Mod_inSpan_15 : dec m_Mod_inSpan 15 = .ok (.i2l, 1) := by decide +kernel
theorem d_Mod_inSpan_16 : dec m_Mod_inSpan 16 = .ok (.ldc2_w 186, 3) := by decide +kernel
theorem d_Mod_inSpan_19 : dec m_Mod_inSpan 19 = .ok (.ldc2_w 188, 3) := by decide +kernel
theorem d_Mod_inSpan_22 : dec m_Mod_inSpan 22 = .ok (.invokestatic 139, 3) := by decide +kernel
theorem d_Mod_inSpan_25 : dec m_Mod_inSpan 25 = .ok (.ifCond .eq 17, 3) := by decide +kernel
theorem d_Mod_inSpan_28 : dec m_Mod_inSpan 28 = .ok (.iload_n 3, 1) := by decide +kernel
theorem d_Mod_inSpan_29 : dec m_Mod_inSpan 29 = .ok (.i2l, 1) := by decide +kernel
theorem d_Mod_inSpan_30 : dec m_Mod_inSpan 30 = .ok (.ldc2_w 186, 3) := by decide +kernel
theorem d_Mod_inSpan_33 : dec m_Mod_inSpan 33 = .ok (.ldc2_w 188, 3) := by decide +kernel
theorem d_Mod_inSpan_36 : dec m_Mod_inSpan 36 = .ok (.invokestatic 139, 3) := by decide +kernel
theorem d_Mod_inSpan_39 : dec m_Mod_inSpan 39 = .ok (.ifCond .ne 5, 3) := by decide +kernel
theorem d_Mod_inSpan_42 : dec m_Mod_inSpan 42 = .ok (.iconst (-1), 1) := by decide +kernel
theorem d_Mod_inSpan_43 : dec m_Mod_inSpan 43 = .ok (.ireturn, 1) := by decide +kernel
theorem d_Mod_inSpan_44 : dec m_Mod_inSpan 44 = .ok (.aload_n 0, 1) := by decide +kernel
theorem d_Mod_inSpan_45 : dec m_Mod_inSpan 45 = .ok (.iconst 0, 1) := by decide +kernel
theorem d_Mod_inSpan_46 : dec m_Mod_inSpan 46 = .ok (.invokevirtual 429, 3) := by decide +kernel
theorem d_Mod_inSpan_49 : dec m_Mod_inSpan 49 = .ok (.iconst 0, 1) := by decide +kernel
theorem d_Mod_inSpan_50 : dec m_Mod_inSpan 50 = .ok (.istore 4, 2) := by decide +kernel
theorem d_Mod_inSpan_52 : dec m_Mod_inSpan 52 = .ok (.iload 4, 2) := by decide +kernel
theorem d_Mod_inSpan_54 : dec m_Mod_inSpan 54 = .ok (.bipush 7, 2) := by decide +kernel
theorem d_Mod_inSpan_56 : dec m_Mod_inSpan 56 = .ok (.if_icmp .ge 49, 3) := by decide +kernel
theorem d_Mod_inSpan_59 : dec m_Mod_inSpan 59 = .ok (.aload_n 0, 1) := by decide +kernel
theorem d_Mod_inSpan_60 : dec m_Mod_inSpan 60 = .ok (.getfield 109, 3) := by decide +kernel
theorem d_Mod_inSpan_63 : dec m_Mod_inSpan 63 = .ok (.iload 4, 2) := by decide +kernel
theorem d_Mod_inSpan_65 : dec m_Mod_inSpan 65 = .ok (.iload 4, 2) := by decide +kernel
theorem d_Mod_inSpan_67 : dec m_Mod_inSpan 67 = .ok (.ifCond .ne 8, 3) := by decide +kernel
theorem d_Mod_inSpan_70 : dec m_Mod_inSpan 70 = .ok (.iload_n 1, 1) := by decide +kernel
theorem d_Mod_inSpan_71 : dec m_Mod_inSpan 71 = .ok (.i2l, 1) := by decide +kernel
theorem d_Mod_inSpan_72 : dec m_Mod_inSpan 72 = .ok (.goto 26, 3) := by decide +kernel
theorem d_Mod_inSpan_75 : dec m_Mod_inSpan 75 = .ok (.iload 4, 2) := by decide +kernel
theorem d_Mod_inSpan_77 : dec m_Mod_inSpan 77 = .ok (.iconst 1, 1) := by decide +kernel
theorem d_Mod_inSpan_78 : dec m_Mod_inSpan 78 = .ok (.if_icmp .ne 8, 3) := by decide +kernel
theorem d_Mod_inSpan_81 : dec m_Mod_inSpan 81 = .ok (.iload_n 2, 1) := by decide +kernel
theorem d_Mod_inSpan_82 : dec m_Mod_inSpan 82 = .ok (.i2l, 1) := by decide +kernel
theorem d_Mod_inSpan_83 : dec m_Mod_inSpan 83 = .ok (.goto 15, 3) := by decide +kernel
theorem d_Mod_inSpan_86 : dec m_Mod_inSpan 86 = .ok (.iload 4, 2) := by decide +kernel
theorem d_Mod_inSpan_88 : dec m_Mod_inSpan 88 = .ok (.iconst 2, 1) := by decide +kernel
theorem d_Mod_inSpan_89 : dec m_Mod_inSpan 89 = .ok (.if_icmp .ne 8, 3) := by decide +kernel
theorem d_Mod_inSpan_92 : dec m_Mod_inSpan 92 = .ok (.iload_n 3, 1) := by decide +kernel
theorem d_Mod_inSpan_93 : dec m_Mod_inSpan 93 = .ok (.i2l, 1) := by decide +kernel
theorem d_Mod_inSpan_94 : dec m_Mod_inSpan 94 = .ok (.goto 4, 3) := by decide +kernel
theorem d_Mod_inSpan_97 : dec m_Mod_inSpan 97 = .ok (.lconst 0, 1) := by decide +kernel
theorem d_Mod_inSpan_98 : dec m_Mod_inSpan 98 = .ok (.lastore, 1) := by decide +kernel
theorem d_Mod_inSpan_99 : dec m_Mod_inSpan 99 = .ok (.iinc 4 1, 3) := by decide +kernel
theorem d_Mod_inSpan_102 : dec m_Mod_inSpan 102 = .ok (.goto (-50), 3) := by decide +kernel
theorem d_Mod_inSpan_105 : dec m_Mod_inSpan 105 = .ok (.iconst 0, 1) := by decide +kernel
theorem d_Mod_inSpan_106 : dec m_Mod_inSpan 106 = .ok (.istore 4, 2) := by decide +kernel
theorem d_Mod_inSpan_108 : dec m_Mod_inSpan 108 = .ok (.iload 4, 2) := by decide +kernel
theorem d_Mod_inSpan_110 : dec m_Mod_inSpan 110 = .ok (.aload_n 0, 1) := by decide +kernel
theorem d_Mod_inSpan_111 : dec m_Mod_inSpan 111 = .ok (.getfield 426, 3) := by decide +kernel
theorem d_Mod_inSpan_114 : dec m_Mod_inSpan 114 = .ok (.if_icmp .ge 17, 3) := by decide +kernel
theorem d_Mod_inSpan_117 : dec m_Mod_inSpan 117 = .ok (.aload_n 0, 1) := by decide +kernel
theorem d_Mod_inSpan_118 : dec m_Mod_inSpan 118 = .ok (.iload 4, 2) := by decide +kernel
theorem d_Mod_inSpan_120 : dec m_Mod_inSpan 120 = .ok (.invokevirtual 432, 3) := by decide +kernel
theorem d_Mod_inSpan_123 : dec m_Mod_inSpan 123 = .ok (.lstore 5, 2) := by decide +kernel
theorem d_Mod_inSpan_125 : dec m_Mod_inSpan 125 = .ok (.iinc 4 1, 3) := by decide +kernel
theorem d_Mod_inSpan_128 : dec m_Mod_inSpan 128 = .ok (.goto (-20), 3) := by decide +kernel
theorem d_Mod_inSpan_131 : dec m_Mod_inSpan 131 = .ok (.iconst 1, 1) := by decide +kernel
theorem d_Mod_inSpan_132 : dec m_Mod_inSpan 132 = .ok (.istore 4, 2) := by decide +kernel
theorem d_Mod_inSpan_134 : dec m_Mod_inSpan 134 = .ok (.iconst 0, 1) := by decide +kernel
theorem d_Mod_inSpan_135 : dec m_Mod_inSpan 135 = .ok (.istore 5, 2) := by decide +kernel
theorem d_Mod_inSpan_137 : dec m_Mod_inSpan 137 = .ok (.iload 5, 2) := by decide +kernel
theorem d_Mod_inSpan_139 : dec m_Mod_inSpan 139 = .ok (.bipush 7, 2) := by decide +kernel
theorem d_Mod_inSpan_141 : dec m_Mod_inSpan 141 = .ok (.if_icmp .ge 33, 3) := by decide +kernel
theorem d_Mod_inSpan_144 : dec m_Mod_inSpan 144 = .ok (.iload 4, 2) := by decide +kernel
theorem d_Mod_inSpan_146 : dec m_Mod_inSpan 146 = .ok (.ifCond .eq 19, 3) := by decide +kernel
theorem d_Mod_inSpan_149 : dec m_Mod_inSpan 149 = .ok (.aload_n 0, 1) := by decide +kernel
theorem d_Mod_inSpan_150 : dec m_Mod_inSpan 150 = .ok (.getfield 109, 3) := by decide +kernel
theorem d_Mod_inSpan_153 : dec m_Mod_inSpan 153 = .ok (.iload 5, 2) := by decide +kernel
theorem d_Mod_inSpan_155 : dec m_Mod_inSpan 155 = .ok (.laload, 1) := by decide +kernel
theorem d_Mod_inSpan_156 : dec m_Mod_inSpan 156 = .ok (.lconst 0, 1) := by decide +kernel
theorem d_Mod_inSpan_157 : dec m_Mod_inSpan 157 = .ok (.lcmp, 1) := by decide +kernel
theorem d_Mod_inSpan_158 : dec m_Mod_inSpan 158 = .ok (.ifCond .ne 7, 3) := by decide +kernel
theorem d_Mod_inSpan_161 : dec m_Mod_inSpan 161 = .ok (.iconst 1, 1) := by decide +kernel
theorem d_Mod_inSpan_162 : dec m_Mod_inSpan 162 = .ok (.goto 4, 3) := by decide +kernel
theorem d_Mod_inSpan_165 : dec m_Mod_inSpan 165 = .ok (.iconst 0, 1) := by decide +kernel
theorem d_Mod_inSpan_166 : dec m_Mod_inSpan 166 = .ok (.istore 4, 2) := by decide +kernel
theorem d_Mod_inSpan_168 : dec m_Mod_inSpan 168 = .ok (.iinc 5 1, 3) := by decide +kernel
theorem d_Mod_inSpan_171 : dec m_Mod_inSpan 171 = .ok (.goto (-34), 3) := by decide +kernel
theorem d_Mod_inSpan_174 : dec m_Mod_inSpan 174 = .ok (.iload 4, 2) := by decide +kernel
theorem d_Mod_inSpan_176 : dec m_Mod_inSpan 176 = .ok (.ifCond .eq 7, 3) := by decide +kernel
theorem d_Mod_inSpan_179 : dec m_Mod_inSpan 179 = .ok (.iconst 1, 1) := by decide +kernel
theorem d_Mod_inSpan_180 : dec m_Mod_inSpan 180 = .ok (.goto 4, 3) := by decide +kernel
theorem d_Mod_inSpan_183 : dec m_Mod_inSpan 183 = .ok (.iconst 0, 1) := by decide +kernel
theorem d_Mod_inSpan_184 : dec m_Mod_inSpan 184 = .ok (.ireturn, 1) := by decide +kernel
theorem d_Mod_index_0 : dec m_Mod_index 0 = .ok (.aload_n 0, 1) := by decide +kernel
theorem d_Mod_index_1 : dec m_Mod_index 1 = .ok (.iconst 0, 1) := by decide +kernel
theorem d_Mod_index_2 : dec m_Mod_index 2 = .ok (.invokevirtual 429, 3) := by decide +kernel
theorem d_Mod_index_5 : dec m_Mod_index 5 = .ok (.lconst 1, 1) := by decide +kernel
theorem d_Mod_index_6 : dec m_Mod_index 6 = .ok (.lstore_n 1, 1) := by decide +kernel
theorem d_Mod_index_7 : dec m_Mod_index 7 = .ok (.iconst 0, 1) := by decide +kernel
theorem d_Mod_index_8 : dec m_Mod_index 8 = .ok (.istore_n 3, 1) := by decide +kernel
theorem d_Mod_index_9 : dec m_Mod_index 9 = .ok (.iload_n 3, 1) := by decide +kernel
theorem d_Mod_index_10 : dec m_Mod_index 10 = .ok (.aload_n 0, 1) := by decide +kernel
theorem d_Mod_index_11 : dec m_Mod_index 11 = .ok (.getfield 426, 3) := by decide +kernel
theorem d_Mod_index_14 : dec m_Mod_index 14 = .ok (.if_icmp .ge 28, 3) := by decide +kernel
theorem d_Mod_index_17 : dec m_Mod_index 17 = .ok (.lload_n 1, 1) := by decide +kernel
theorem d_Mod_index_18 : dec m_Mod_index 18 = .ok (.aload_n 0, 1) := by decide +kernel
theorem d_Mod_index_19 : dec m_Mod_index 19 = .ok (.getfield 103, 3) := by decide +kernel
theorem d_Mod_index_22 : dec m_Mod_index 22 = .ok (.bipush 7, 2) := by decide +kernel
theorem d_Mod_index_24 : dec m_Mod_index 24 = .ok (.iload_n 3, 1) := by decide +kernel
theorem d_Mod_index_25 : dec m_Mod_index 25 = .ok (.imul, 1) := by decide +kernel
theorem d_Mod_index_26 : dec m_Mod_index 26 = .ok (.aload_n 0, 1) := by decide +kernel
theorem d_Mod_index_27 : dec m_Mod_index 27 = .ok (.getfield 106, 3) := by decide +kernel
theorem d_Mod_index_30 : dec m_Mod_index 30 = .ok (.iload_n 3, 1) := by decide +kernel
theorem d_Mod_index_31 : dec m_Mod_index 31 = .ok (.iaload, 1) := by decide +kernel
theorem d_Mod_index_32 : dec m_Mod_index 32 = .ok (.iadd, 1) := by decide +kernel
theorem d_Mod_index_33 : dec m_Mod_index 33 = .ok (.laload, 1) := by decide +kernel
theorem d_Mod_index_34 : dec m_Mod_index 34 = .ok (.lmul, 1) := by decide +kernel
theorem d_Mod_index_35 : dec m_Mod_index 35 = .ok (.lstore_n 1, 1) := by decide +kernel
theorem d_Mod_index_36 : dec m_Mod_index 36 = .ok (.iinc 3 1, 3) := by decide +kernel
theorem d_Mod_index_39 : dec m_Mod_index 39 = .ok (.goto (-30), 3) := by decide +kernel
theorem d_Mod_index_42 : dec m_Mod_index 42 = .ok (.aload_n 0, 1) := by decide +kernel
theorem d_Mod_index_43 : dec m_Mod_index 43 = .ok (.getfield 426, 3) := by decide +kernel
theorem d_Mod_index_46 : dec m_Mod_index 46 = .ok (.iconst 3, 1) := by decide +kernel
theorem d_Mod_index_47 : dec m_Mod_index 47 = .ok (.if_icmp .ne 7, 3) := by decide +kernel
theorem d_Mod_index_50 : dec m_Mod_index 50 = .ok (.lload_n 1, 1) := by decide +kernel
theorem d_Mod_index_51 : dec m_Mod_index 51 = .ok (.goto 4, 3) := by decide +kernel
theorem d_Mod_index_54 : dec m_Mod_index 54 = .ok (.lconst 0, 1) := by decide +kernel
theorem d_Mod_index_55 : dec m_Mod_index 55 = .ok (.lreturn, 1) := by decide +kernel
theorem d_Mod_part_0 : dec m_Mod_part 0 = .ok (.iload_n 1, 1) := by decide +kernel
theorem d_Mod_part_1 : dec m_Mod_part 1 = .ok (.invokestatic 385, 3) := by decide +kernel
theorem d_Mod_part_4 : dec m_Mod_part 4 = .ok (.ifCond .eq 12, 3) := by decide +kernel
theorem d_Mod_part_7 : dec m_Mod_part 7 = .ok (.aload_n 0, 1) := by decide +kernel
theorem d_Mod_part_8 : dec m_Mod_part 8 = .ok (.iload_n 1, 1) := by decide +kernel
theorem d_Mod_part_9 : dec m_Mod_part 9 = .ok (.iload_n 2, 1) := by decide +kernel
theorem d_Mod_part_10 : dec m_Mod_part 10 = .ok (.invokevirtual 388, 3) := by decide +kernel
theorem d_Mod_part_13 : dec m_Mod_part 13 = .ok (.ifCond .ne 7, 3) := by decide +kernel
theorem d_Mod_part_16 : dec m_Mod_part 16 = .ok (.ldc2_w 235, 3) := by decide +kernel
theorem d_Mod_part_19 : dec m_Mod_part 19 = .ok (.lreturn, 1) := by decide +kernel
theorem d_Mod_part_20 : dec m_Mod_part 20 = .ok (.aload_n 0, 1) := by decide +kernel
theorem d_Mod_part_21 : dec m_Mod_part 21 = .ok (.iconst 1, 1) := by decide +kernel
theorem d_Mod_part_22 : dec m_Mod_part 22 = .ok (.invokevirtual 429, 3) := by decide +kernel
theorem d_Mod_part_25 : dec m_Mod_part 25 = .ok (.iload_n 3, 1) := by decide +kernel
theorem d_Mod_part_26 : dec m_Mod_part 26 = .ok (.i2l, 1) := by decide +kernel
theorem d_Mod_part_27 : dec m_Mod_part 27 = .ok (.lconst 0, 1) := by decide +kernel
theorem d_Mod_part_28 : dec m_Mod_part 28 = .ok (.aload_n 0, 1) := by decide +kernel
theorem d_Mod_part_29 : dec m_Mod_part 29 = .ok (.getfield 426, 3) := by decide +kernel
theorem d_Mod_part_32 : dec m_Mod_part 32 = .ok (.iconst 1, 1) := by decide +kernel
theorem d_Mod_part_33 : dec m_Mod_part 33 = .ok (.isub, 1) := by decide +kernel
theorem d_Mod_part_34 : dec m_Mod_part 34 = .ok (.i2l, 1) := by decide +kernel
theorem d_Mod_part_35 : dec m_Mod_part 35 = .ok (.invokestatic 139, 3) := by decide +kernel
theorem d_Mod_part_38 : dec m_Mod_part 38 = .ok (.ifCond .ne 7, 3) := by decide +kernel
theorem d_Mod_part_41 : dec m_Mod_part 41 = .ok (.ldc2_w 235, 3) := by decide +kernel
theorem d_Mod_part_44 : dec m_Mod_part 44 = .ok (.lreturn, 1) := by decide +kernel
theorem d_Mod_part_45 : dec m_Mod_part 45 = .ok (.iconst 0, 1) := by decide +kernel
theorem d_Mod_part_46 : dec m_Mod_part 46 = .ok (.istore 4, 2) := by decide +kernel
theorem d_Mod_part_48 : dec m_Mod_part 48 = .ok (.iload 4, 2) := by decide +kernel
theorem d_Mod_part_50 : dec m_Mod_part 50 = .ok (.bipush 7, 2) := by decide +kernel
theorem d_Mod_part_52 : dec m_Mod_part 52 = .ok (.if_icmp .ge 37, 3) := by decide +kernel
theorem d_Mod_part_55 : dec m_Mod_part 55 = .ok (.aload_n 0, 1) := by decide +kernel
theorem d_Mod_part_56 : dec m_Mod_part 56 = .ok (.getfield 109, 3) := by decide +kernel
theorem d_Mod_part_59 : dec m_Mod_part 59 = .ok (.iload 4, 2) := by decide +kernel
theorem d_Mod_part_61 : dec m_Mod_part 61 = .ok (.aload_n 0, 1) := by decide +kernel
theorem d_Mod_part_62 : dec m_Mod_part 62 = .ok (.getfield 91, 3) := by decide +kernel
theorem d_Mod_part_65 : dec m_Mod_part 65 = .ok (.iconst 0, 1) := by decide +kernel
theorem d_Mod_part_66 : dec m_Mod_part 66 = .ok (.iload 4, 2) := by decide +kernel
theorem d_Mod_part_68 : dec m_Mod_part 68 = .ok (.iadd, 1) := by decide +kernel
theorem d_Mod_part_69 : dec m_Mod_part 69 = .ok (.iaload, 1) := by decide +kernel
theorem d_Mod_part_70 : dec m_Mod_part 70 = .ok (.aload_n 0, 1) := by decide +kernel
theorem d_Mod_part_71 : dec m_Mod_part 71 = .ok (.getfield 91, 3) := by decide +kernel
theorem d_Mod_part_74 : dec m_Mod_part 74 = .ok (.bipush 7, 2) := by decide +kernel
theorem d_Mod_part_76 : dec m_Mod_part 76 = .ok (.iload 4, 2) := by decide +kernel
theorem d_Mod_part_78 : dec m_Mod_part 78 = .ok (.iadd, 1) := by decide +kernel
theorem d_Mod_part_79 : dec m_Mod_part 79 = .ok (.iaload, 1) := by decide +kernel
theorem d_Mod_part_80 : dec m_Mod_part 80 = .ok (.isub, 1) := by decide +kernel
theorem d_Mod_part_81 : dec m_Mod_part 81 = .ok (.i2l, 1) := by decide +kernel
theorem d_Mod_part_82 : dec m_Mod_part 82 = .ok (.lastore, 1) := by decide +kernel
theorem d_Mod_part_83 : dec m_Mod_part 83 = .ok (.iinc 4 1, 3) := by decide +kernel
theorem d_Mod_part_86 : dec m_Mod_part 86 = .ok (.goto (-38), 3) := by decide +kernel
theorem d_Mod_part_89 : dec m_Mod_part 89 = .ok (.lconst 0, 1) := by decide +kernel
theorem d_Mod_part_90 : dec m_Mod_part 90 = .ok (.lstore 4, 2) := by decide +kernel
theorem d_Mod_part_92 : dec m_Mod_part 92 = .ok (.iconst 0, 1) := by decide +kernel
theorem d_Mod_part_93 : dec m_Mod_part 93 = .ok (.istore 6, 2) := by decide +kernel
theorem d_Mod_part_95 : dec m_Mod_part 95 = .ok (.iload 6, 2) := by decide +kernel
theorem d_Mod_part_97 : dec m_Mod_part 97 = .ok (.iload_n 3, 1) := by decide +kernel
theorem d_Mod_part_98 : dec m_Mod_part 98 = .ok (.if_icmp .gt 17, 3) := by decide +kernel
theorem d_Mod_part_101 : dec m_Mod_part 101 = .ok (.aload_n 0, 1) := by decide +kernel
theorem d_Mod_part_102 : dec m_Mod_part 102 = .ok (.iload 6, 2) := by decide +kernel
theorem d_Mod_part_104 : dec m_Mod_part 104 = .ok (.invokevirtual 432, 3) := by decide +kernel
theorem d_Mod_part_107 : dec m_Mod_part 107 = .ok (.lstore 4, 2) := by decide +kernel
theorem d_Mod_part_109 : dec m_Mod_part 109 = .ok (.iinc 6 1, 3) := by decide +kernel
theorem d_Mod_part_112 : dec m_Mod_part 112 = .ok (.goto (-17), 3) := by decide +kernel
theorem d_Mod_part_115 : dec m_Mod_part 115 = .ok (.lload 4, 2) := by decide +kernel
theorem d_Mod_part_117 : dec m_Mod_part 117 = .ok (.lreturn, 1) := by decide +kernel
theorem d_Mod_certified_0 : dec m_Mod_certified 0 = .ok (.iload_n 1, 1) := by decide +kernel
theorem d_Mod_certified_1 : dec m_Mod_certified 1 = .ok (.invokestatic 385, 3) := by decide +kernel
theorem d_Mod_certified_4 : dec m_Mod_certified 4 = .ok (.ifCond .ne 5, 3) := by decide +kernel
theorem d_Mod_certified_7 : dec m_Mod_certified 7 = .ok (.iconst (-1), 1) := by decide +kernel
theorem d_Mod_certified_8 : dec m_Mod_certified 8 = .ok (.ireturn, 1) := by decide +kernel
theorem d_Mod_certified_9 : dec m_Mod_certified 9 = .ok (.aload_n 0, 1) := by decide +kernel
theorem d_Mod_certified_10 : dec m_Mod_certified 10 = .ok (.iconst 1, 1) := by decide +kernel
theorem d_Mod_certified_11 : dec m_Mod_certified 11 = .ok (.invokevirtual 429, 3) := by decide +kernel
theorem d_Mod_certified_14 : dec m_Mod_certified 14 = .ok (.aload_n 0, 1) := by decide +kernel
theorem d_Mod_certified_15 : dec m_Mod_certified 15 = .ok (.getfield 426, 3) := by decide +kernel
theorem d_Mod_certified_18 : dec m_Mod_certified 18 = .ok (.iconst 1, 1) := by decide +kernel
theorem d_Mod_certified_19 : dec m_Mod_certified 19 = .ok (.if_icmp .eq 16, 3) := by decide +kernel
theorem d_Mod_certified_22 : dec m_Mod_certified 22 = .ok (.aload_n 0, 1) := by decide +kernel
theorem d_Mod_certified_23 : dec m_Mod_certified 23 = .ok (.getfield 426, 3) := by decide +kernel
theorem d_Mod_certified_26 : dec m_Mod_certified 26 = .ok (.ifCond .ne 7, 3) := by decide +kernel
theorem d_Mod_certified_29 : dec m_Mod_certified 29 = .ok (.iconst 1, 1) := by decide +kernel
theorem d_Mod_certified_30 : dec m_Mod_certified 30 = .ok (.goto 4, 3) := by decide +kernel
theorem d_Mod_certified_33 : dec m_Mod_certified 33 = .ok (.iconst 0, 1) := by decide +kernel
theorem d_Mod_certified_34 : dec m_Mod_certified 34 = .ok (.ireturn, 1) := by decide +kernel
theorem d_Mod_certified_35 : dec m_Mod_certified 35 = .ok (.lconst 0, 1) := by decide +kernel
theorem d_Mod_certified_36 : dec m_Mod_certified 36 = .ok (.lstore_n 2, 1) := by decide +kernel
theorem d_Mod_certified_37 : dec m_Mod_certified 37 = .ok (.iconst 0, 1) := by decide +kernel
theorem d_Mod_certified_38 : dec m_Mod_certified 38 = .ok (.istore 4, 2) := by decide +kernel
theorem d_Mod_certified_40 : dec m_Mod_certified 40 = .ok (.iload 4, 2) := by decide +kernel
theorem d_Mod_certified_42 : dec m_Mod_certified 42 = .ok (.bipush 7, 2) := by decide +kernel
theorem d_Mod_certified_44 : dec m_Mod_certified 44 = .ok (.if_icmp .ge 96, 3) := by decide +kernel
theorem d_Mod_certified_47 : dec m_Mod_certified 47 = .ok (.aload_n 0, 1) := by decide +kernel
theorem d_Mod_certified_48 : dec m_Mod_certified 48 = .ok (.getfield 103, 3) := by decide +kernel
theorem d_Mod_certified_51 : dec m_Mod_certified 51 = .ok (.iload 4, 2) := by decide +kernel
theorem d_Mod_certified_53 : dec m_Mod_certified 53 = .ok (.laload, 1) := by decide +kernel
theorem d_Mod_certified_54 : dec m_Mod_certified 54 = .ok (.lstore 5, 2) := by decide +kernel
theorem d_Mod_certified_56 : dec m_Mod_certified 56 = .ok (.aload_n 0, 1) := by decide +kernel
theorem d_Mod_certified_57 : dec m_Mod_certified 57 = .ok (.getfield 91, 3) := by decide +kernel
theorem d_Mod_certified_60 : dec m_Mod_certified 60 = .ok (.bipush 21, 2) := by decide +kernel
theorem d_Mod_certified_62 : dec m_Mod_certified 62 = .ok (.iload 4, 2) := by decide +kernel
theorem d_Mod_certified_64 : dec m_Mod_certified 64 = .ok (.iadd, 1) := by decide +kernel
theorem d_Mod_certified_65 : dec m_Mod_certified 65 = .ok (.lload 5, 2) := by decide +kernel
theorem d_Mod_certified_67 : dec m_Mod_certified 67 = .ok (.lconst 0, 1) := by decide +kernel
theorem d_Mod_certified_68 : dec m_Mod_certified 68 = .ok (.lcmp, 1) := by decide +kernel
theorem d_Mod_certified_69 : dec m_Mod_certified 69 = .ok (.ifCond .le 9, 3) := by decide +kernel
theorem d_Mod_certified_72 : dec m_Mod_certified 72 = .ok (.lload 5, 2) := by decide +kernel
theorem d_Mod_certified_74 : dec m_Mod_certified 74 = .ok (.l2i, 1) := by decide +kernel
theorem d_Mod_certified_75 : dec m_Mod_certified 75 = .ok (.goto 4, 3) := by decide +kernel
theorem d_Mod_certified_78 : dec m_Mod_certified 78 = .ok (.iconst 0, 1) := by decide +kernel
theorem d_Mod_certified_79 : dec m_Mod_certified 79 = .ok (.iastore, 1) := by decide +kernel
theorem d_Mod_certified_80 : dec m_Mod_certified 80 = .ok (.aload_n 0, 1) := by decide +kernel
theorem d_Mod_certified_81 : dec m_Mod_certified 81 = .ok (.getfield 91, 3) := by decide +kernel
theorem d_Mod_certified_84 : dec m_Mod_certified 84 = .ok (.bipush 28, 2) := by decide +kernel
theorem d_Mod_certified_86 : dec m_Mod_certified 86 = .ok (.iload 4, 2) := by decide +kernel
theorem d_Mod_certified_88 : dec m_Mod_certified 88 = .ok (.iadd, 1) := by decide +kernel
theorem d_Mod_certified_89 : dec m_Mod_certified 89 = .ok (.lload 5, 2) := by decide +kernel
theorem d_Mod_certified_91 : dec m_Mod_certified 91 = .ok (.lconst 0, 1) := by decide +kernel
theorem d_Mod_certified_92 : dec m_Mod_certified 92 = .ok (.lcmp, 1) := by decide +kernel
theorem d_Mod_certified_93 : dec m_Mod_certified 93 = .ok (.ifCond .ge 10, 3) := by decide +kernel
theorem d_Mod_certified_96 : dec m_Mod_certified 96 = .ok (.lload 5, 2) := by decide +kernel
theorem d_Mod_certified_98 : dec m_Mod_certified 98 = .ok (.lneg, 1) := by decide +kernel
theorem d_Mod_certified_99 : dec m_Mod_certified 99 = .ok (.l2i, 1) := by decide +kernel
theorem d_Mod_certified_100 : dec m_Mod_certified 100 = .ok (.goto 4, 3) := by decide +kernel
theorem d_Mod_certified_103 : dec m_Mod_certified 103 = .ok (.iconst 0, 1) := by decide +kernel
theorem d_Mod_certified_104 : dec m_Mod_certified 104 = .ok (.iastore, 1) := by decide +kernel
theorem d_Mod_certified_105 : dec m_Mod_certified 105 = .ok (.lload_n 2, 1) := by decide +kernel
theorem d_Mod_certified_106 : dec m_Mod_certified 106 = .ok (.lload 5, 2) := by decide +kernel
theorem d_Mod_certified_108 : dec m_Mod_certified 108 = .ok (.lconst 0, 1) := by decide +kernel
theorem d_Mod_certified_109 : dec m_Mod_certified 109 = .ok (.lcmp, 1) := by decide +kernel
theorem d_Mod_certified_110 : dec m_Mod_certified 110 = .ok (.ifCond .le 21, 3) := by decide +kernel
theorem d_Mod_certified_113 : dec m_Mod_certified 113 = .ok (.lload 5, 2) := by decide +kernel
theorem d_Mod_certified_115 : dec m_Mod_certified 115 = .ok (.aload_n 0, 1) := by decide +kernel
theorem d_Mod_certified_116 : dec m_Mod_certified 116 = .ok (.aload_n 0, 1) := by decide +kernel
theorem d_Mod_certified_117 : dec m_Mod_certified 117 = .ok (.getfield 37, 3) := by decide +kernel
theorem d_Mod_certified_120 : dec m_Mod_certified 120 = .ok (.iload 4, 2) := by decide +kernel
theorem d_Mod_certified_122 : dec m_Mod_certified 122 = .ok (.iaload, 1) := by decide +kernel
theorem d_Mod_certified_123 : dec m_Mod_certified 123 = .ok (.invokevirtual 147, 3) := by decide +kernel
theorem d_Mod_certified_126 : dec m_Mod_certified 126 = .ok (.i2l, 1) := by decide +kernel
theorem d_Mod_certified_127 : dec m_Mod_certified 127 = .ok (.lmul, 1) := by decide +kernel
theorem d_Mod_certified_128 : dec m_Mod_certified 128 = .ok (.goto 4, 3) := by decide +kernel
theorem d_Mod_certified_131 : dec m_Mod_certified 131 = .ok (.lconst 0, 1) := by decide +kernel
theorem d_Mod_certified_132 : dec m_Mod_certified 132 = .ok (.ladd, 1) := by decide +kernel
theorem d_Mod_certified_133 : dec m_Mod_certified 133 = .ok (.lstore_n 2, 1) := by decide +kernel
theorem d_Mod_certified_134 : dec m_Mod_certified 134 = .ok (.iinc 4 1, 3) := by decide +kernel
theorem d_Mod_certified_137 : dec m_Mod_certified 137 = .ok (.goto (-97), 3) := by decide +kernel
theorem d_Mod_certified_140 : dec m_Mod_certified 140 = .ok (.lload_n 2, 1) := by decide +kernel
theorem d_Mod_certified_141 : dec m_Mod_certified 141 = .ok (.iload_n 1, 1) := by decide +kernel
theorem d_Mod_certified_142 : dec m_Mod_certified 142 = .ok (.i2l, 1) := by decide +kernel
theorem d_Mod_certified_143 : dec m_Mod_certified 143 = .ok (.lcmp, 1) := by decide +kernel
theorem d_Mod_certified_144 : dec m_Mod_certified 144 = .ok (.ifCond .le 5, 3) := by decide +kernel
theorem d_Mod_certified_147 : dec m_Mod_certified 147 = .ok (.iconst 0, 1) := by decide +kernel
theorem d_Mod_certified_148 : dec m_Mod_certified 148 = .ok (.ireturn, 1) := by decide +kernel
theorem d_Mod_certified_149 : dec m_Mod_certified 149 = .ok (.aload_n 0, 1) := by decide +kernel
theorem d_Mod_certified_150 : dec m_Mod_certified 150 = .ok (.iconst 3, 1) := by decide +kernel
theorem d_Mod_certified_151 : dec m_Mod_certified 151 = .ok (.iconst 4, 1) := by decide +kernel
theorem d_Mod_certified_152 : dec m_Mod_certified 152 = .ok (.invokevirtual 391, 3) := by decide +kernel
theorem d_Mod_certified_155 : dec m_Mod_certified 155 = .ok (.ifCond .eq 10, 3) := by decide +kernel
theorem d_Mod_certified_158 : dec m_Mod_certified 158 = .ok (.aload_n 0, 1) := by decide +kernel
theorem d_Mod_certified_159 : dec m_Mod_certified 159 = .ok (.invokevirtual 344, 3) := by decide +kernel
theorem d_Mod_certified_162 : dec m_Mod_certified 162 = .ok (.ifCond .ne 6, 3) := by decide +kernel
theorem d_Mod_certified_165 : dec m_Mod_certified 165 = .ok (.bipush (-5), 2) := by decide +kernel
theorem d_Mod_certified_167 : dec m_Mod_certified 167 = .ok (.ireturn, 1) := by decide +kernel
theorem d_Mod_certified_168 : dec m_Mod_certified 168 = .ok (.aload_n 0, 1) := by decide +kernel
theorem d_Mod_certified_169 : dec m_Mod_certified 169 = .ok (.bipush 18, 2) := by decide +kernel
theorem d_Mod_certified_171 : dec m_Mod_certified 171 = .ok (.invokevirtual 351, 3) := by decide +kernel
theorem d_Mod_certified_174 : dec m_Mod_certified 174 = .ok (.ifCond .eq 7, 3) := by decide +kernel
theorem d_Mod_certified_177 : dec m_Mod_certified 177 = .ok (.iconst 1, 1) := by decide +kernel
theorem d_Mod_certified_178 : dec m_Mod_certified 178 = .ok (.goto 4, 3) := by decide +kernel
theorem d_Mod_certified_181 : dec m_Mod_certified 181 = .ok (.iconst 0, 1) := by decide +kernel
theorem d_Mod_certified_182 : dec m_Mod_certified 182 = .ok (.ireturn, 1) := by decide +kernel
theorem d_Mod_isLink_0 : dec m_Mod_isLink 0 = .ok (.iload_n 0, 1) := by decide +kernel
theorem d_Mod_isLink_1 : dec m_Mod_isLink 1 = .ok (.tableswitch 66 0 5 #[39, 49, 61, 61, 66, 61], 39) := by decide +kernel
theorem d_Mod_isLink_40 : dec m_Mod_isLink 40 = .ok (.iload_n 1, 1) := by decide +kernel
theorem d_Mod_isLink_41 : dec m_Mod_isLink 41 = .ok (.i2l, 1) := by decide +kernel
theorem d_Mod_isLink_42 : dec m_Mod_isLink 42 = .ok (.lconst 0, 1) := by decide +kernel
theorem d_Mod_isLink_43 : dec m_Mod_isLink 43 = .ok (.ldc2_w 227, 3) := by decide +kernel
theorem d_Mod_isLink_46 : dec m_Mod_isLink 46 = .ok (.invokestatic 139, 3) := by decide +kernel
theorem d_Mod_isLink_49 : dec m_Mod_isLink 49 = .ok (.ireturn, 1) := by decide +kernel
theorem d_Mod_isLink_50 : dec m_Mod_isLink 50 = .ok (.iload_n 1, 1) := by decide +kernel
theorem d_Mod_isLink_51 : dec m_Mod_isLink 51 = .ok (.i2l, 1) := by decide +kernel
theorem d_Mod_isLink_52 : dec m_Mod_isLink 52 = .ok (.ldc2_w 186, 3) := by decide +kernel
theorem d_Mod_isLink_55 : dec m_Mod_isLink 55 = .ok (.ldc2_w 188, 3) := by decide +kernel
theorem d_Mod_isLink_58 : dec m_Mod_isLink 58 = .ok (.invokestatic 139, 3) := by decide +kernel
theorem d_Mod_isLink_61 : dec m_Mod_isLink 61 = .ok (.ireturn, 1) := by decide +kernel
theorem d_Mod_isLink_62 : dec m_Mod_isLink 62 = .ok (.iload_n 1, 1) := by decide +kernel
theorem d_Mod_isLink_63 : dec m_Mod_isLink 63 = .ok (.invokestatic 182, 3) := by decide +kernel
theorem d_Mod_isLink_66 : dec m_Mod_isLink 66 = .ok (.ireturn, 1) := by decide +kernel
theorem d_Mod_isLink_67 : dec m_Mod_isLink 67 = .ok (.iload_n 0, 1) := by decide +kernel
theorem d_Mod_isLink_68 : dec m_Mod_isLink 68 = .ok (.iconst 4, 1) := by decide +kernel
theorem d_Mod_isLink_69 : dec m_Mod_isLink 69 = .ok (.if_icmp .eq 9, 3) := by decide +kernel
theorem d_Mod_isLink_72 : dec m_Mod_isLink 72 = .ok (.iload_n 0, 1) := by decide +kernel
theorem d_Mod_isLink_73 : dec m_Mod_isLink 73 = .ok (.bipush 6, 2) := by decide +kernel
theorem d_Mod_isLink_75 : dec m_Mod_isLink 75 = .ok (.if_icmp .ne 7, 3) := by decide +kernel
theorem d_Mod_isLink_78 : dec m_Mod_isLink 78 = .ok (.iconst 1, 1) := by decide +kernel
theorem d_Mod_isLink_79 : dec m_Mod_isLink 79 = .ok (.goto 4, 3) := by decide +kernel
theorem d_Mod_isLink_82 : dec m_Mod_isLink 82 = .ok (.iconst 0, 1) := by decide +kernel
theorem d_Mod_isLink_83 : dec m_Mod_isLink 83 = .ok (.ireturn, 1) := by decide +kernel
theorem d_Mod_link_0 : dec m_Mod_link 0 = .ok (.iload_n 1, 1) := by decide +kernel
theorem d_Mod_link_1 : dec m_Mod_link 1 = .ok (.iload_n 2, 1) := by decide +kernel
theorem d_Mod_link_2 : dec m_Mod_link 2 = .ok (.invokestatic 435, 3) := by decide +kernel
theorem d_Mod_link_5 : dec m_Mod_link 5 = .ok (.ifCond .ne 5, 3) := by decide +kernel
theorem d_Mod_link_8 : dec m_Mod_link 8 = .ok (.iconst (-1), 1) := by decide +kernel
theorem d_Mod_link_9 : dec m_Mod_link 9 = .ok (.ireturn, 1) := by decide +kernel
theorem d_Mod_link_10 : dec m_Mod_link 10 = .ok (.aload_n 0, 1) := by decide +kernel
theorem d_Mod_link_11 : dec m_Mod_link 11 = .ok (.getfield 438, 3) := by decide +kernel
theorem d_Mod_link_14 : dec m_Mod_link 14 = .ok (.bipush 8, 2) := by decide +kernel
theorem d_Mod_link_16 : dec m_Mod_link 16 = .ok (.if_icmp .ne 6, 3) := by decide +kernel
theorem d_Mod_link_19 : dec m_Mod_link 19 = .ok (.bipush (-4), 2) := by decide +kernel
theorem d_Mod_link_21 : dec m_Mod_link 21 = .ok (.ireturn, 1) := by decide +kernel
theorem d_Mod_link_22 : dec m_Mod_link 22 = .ok (.aload_n 0, 1) := by decide +kernel
theorem d_Mod_link_23 : dec m_Mod_link 23 = .ok (.getfield 112, 3) := by decide +kernel
theorem d_Mod_link_26 : dec m_Mod_link 26 = .ok (.aload_n 0, 1) := by decide +kernel
theorem d_Mod_link_27 : dec m_Mod_link 27 = .ok (.getfield 438, 3) := by decide +kernel
theorem d_Mod_link_30 : dec m_Mod_link 30 = .ok (.iload_n 1, 1) := by decide +kernel
theorem d_Mod_link_31 : dec m_Mod_link 31 = .ok (.iastore, 1) := by decide +kernel
theorem d_Mod_link_32 : dec m_Mod_link 32 = .ok (.aload_n 0, 1) := by decide +kernel
theorem d_Mod_link_33 : dec m_Mod_link 33 = .ok (.getfield 115, 3) := by decide +kernel
theorem d_Mod_link_36 : dec m_Mod_link 36 = .ok (.aload_n 0, 1) := by decide +kernel
theorem d_Mod_link_37 : dec m_Mod_link 37 = .ok (.getfield 438, 3) := by decide +kernel
theorem d_Mod_link_40 : dec m_Mod_link 40 = .ok (.iload_n 2, 1) := by decide +kernel
theorem d_Mod_link_41 : dec m_Mod_link 41 = .ok (.iastore, 1) := by decide +kernel
theorem d_Mod_link_42 : dec m_Mod_link 42 = .ok (.iconst 0, 1) := by decide +kernel
theorem d_Mod_link_43 : dec m_Mod_link 43 = .ok (.istore_n 3, 1) := by decide +kernel
theorem d_Mod_link_44 : dec m_Mod_link 44 = .ok (.iload_n 3, 1) := by decide +kernel
theorem d_Mod_link_45 : dec m_Mod_link 45 = .ok (.bipush 84, 2) := by decide +kernel
theorem d_Mod_link_47 : dec m_Mod_link 47 = .ok (.if_icmp .ge 48, 3) := by decide +kernel
theorem d_Mod_link_50 : dec m_Mod_link 50 = .ok (.aload_n 0, 1) := by decide +kernel
theorem d_Mod_link_51 : dec m_Mod_link 51 = .ok (.getfield 118, 3) := by decide +kernel
theorem d_Mod_link_54 : dec m_Mod_link 54 = .ok (.bipush 84, 2) := by decide +kernel
theorem d_Mod_link_56 : dec m_Mod_link 56 = .ok (.aload_n 0, 1) := by decide +kernel
theorem d_Mod_link_57 : dec m_Mod_link 57 = .ok (.getfield 438, 3) := by decide +kernel
theorem d_Mod_link_60 : dec m_Mod_link 60 = .ok (.imul, 1) := by decide +kernel
theorem d_Mod_link_61 : dec m_Mod_link 61 = .ok (.iload_n 3, 1) := by decide +kernel
theorem d_Mod_link_62 : dec m_Mod_link 62 = .ok (.iadd, 1) := by decide +kernel
theorem d_Mod_link_63 : dec m_Mod_link 63 = .ok (.iload_n 1, 1) := by decide +kernel
theorem d_Mod_link_64 : dec m_Mod_link 64 = .ok (.iconst 2, 1) := by decide +kernel
theorem d_Mod_link_65 : dec m_Mod_link 65 = .ok (.if_icmp .eq 8, 3) := by decide +kernel
theorem d_Mod_link_68 : dec m_Mod_link 68 = .ok (.iload_n 1, 1) := by decide +kernel
theorem d_Mod_link_69 : dec m_Mod_link 69 = .ok (.iconst 5, 1) := by decide +kernel
theorem d_Mod_link_70 : dec m_Mod_link 70 = .ok (.if_icmp .ne 17, 3) := by decide +kernel
theorem d_Mod_link_73 : dec m_Mod_link 73 = .ok (.aload_n 0, 1) := by decide +kernel
theorem d_Mod_link_74 : dec m_Mod_link 74 = .ok (.getfield 9, 3) := by decide +kernel
theorem d_Mod_link_77 : dec m_Mod_link 77 = .ok (.bipush 84, 2) := by decide +kernel
theorem d_Mod_link_79 : dec m_Mod_link 79 = .ok (.iload_n 2, 1) := by decide +kernel
theorem d_Mod_link_80 : dec m_Mod_link 80 = .ok (.imul, 1) := by decide +kernel
theorem d_Mod_link_81 : dec m_Mod_link 81 = .ok (.iload_n 3, 1) := by decide +kernel
theorem d_Mod_link_82 : dec m_Mod_link 82 = .ok (.iadd, 1) := by decide +kernel
theorem d_Mod_link_83 : dec m_Mod_link 83 = .ok (.laload, 1) := by decide +kernel
theorem d_Mod_link_84 : dec m_Mod_link 84 = .ok (.goto 4, 3) := by decide +kernel
theorem d_Mod_link_87 : dec m_Mod_link 87 = .ok (.lconst 0, 1) := by decide +kernel
theorem d_Mod_link_88 : dec m_Mod_link 88 = .ok (.lastore, 1) := by decide +kernel
theorem d_Mod_link_89 : dec m_Mod_link 89 = .ok (.iinc 3 1, 3) := by decide +kernel
theorem d_Mod_link_92 : dec m_Mod_link 92 = .ok (.goto (-48), 3) := by decide +kernel
theorem d_Mod_link_95 : dec m_Mod_link 95 = .ok (.aload_n 0, 1) := by decide +kernel
theorem d_Mod_link_96 : dec m_Mod_link 96 = .ok (.dup, 1) := by decide +kernel
theorem d_Mod_link_97 : dec m_Mod_link 97 = .ok (.getfield 438, 3) := by decide +kernel
theorem d_Mod_link_100 : dec m_Mod_link 100 = .ok (.iconst 1, 1) := by decide +kernel
theorem d_Mod_link_101 : dec m_Mod_link 101 = .ok (.iadd, 1) := by decide +kernel
theorem d_Mod_link_102 : dec m_Mod_link 102 = .ok (.putfield 438, 3) := by decide +kernel
theorem d_Mod_link_105 : dec m_Mod_link 105 = .ok (.aload_n 0, 1) := by decide +kernel
theorem d_Mod_link_106 : dec m_Mod_link 106 = .ok (.getfield 438, 3) := by decide +kernel
theorem d_Mod_link_109 : dec m_Mod_link 109 = .ok (.ireturn, 1) := by decide +kernel
theorem d_Mod_goThrough_0 : dec m_Mod_goThrough 0 = .ok (.aload_n 0, 1) := by decide +kernel
theorem d_Mod_goThrough_1 : dec m_Mod_goThrough 1 = .ok (.getfield 112, 3) := by decide +kernel
theorem d_Mod_goThrough_4 : dec m_Mod_goThrough 4 = .ok (.iload_n 1, 1) := by decide +kernel
theorem d_Mod_goThrough_5 : dec m_Mod_goThrough 5 = .ok (.iaload, 1) := by decide +kernel
theorem d_Mod_goThrough_6 : dec m_Mod_goThrough 6 = .ok (.tableswitch 115 0 5 #[38, 62, 73, 83, 100, 105], 38) := by decide +kernel
theorem d_Mod_goThrough_44 : dec m_Mod_goThrough 44 = .ok (.aload_n 0, 1) := by decide +kernel
theorem d_Mod_goThrough_45 : dec m_Mod_goThrough 45 = .ok (.bipush 17, 2) := by decide +kernel
theorem d_Mod_goThrough_47 : dec m_Mod_goThrough 47 = .ok (.aload_n 0, 1) := by decide +kernel
theorem d_Mod_goThrough_48 : dec m_Mod_goThrough 48 = .ok (.getfield 115, 3) := by decide +kernel
theorem d_Mod_goThrough_51 : dec m_Mod_goThrough 51 = .ok (.iload_n 1, 1) := by decide +kernel
theorem d_Mod_goThrough_52 : dec m_Mod_goThrough 52 = .ok (.iaload, 1) := by decide +kernel
theorem d_Mod_goThrough_53 : dec m_Mod_goThrough 53 = .ok (.bipush 13, 2) := by decide +kernel
theorem d_Mod_goThrough_55 : dec m_Mod_goThrough 55 = .ok (.invokevirtual 229, 3) := by decide +kernel
theorem d_Mod_goThrough_58 : dec m_Mod_goThrough 58 = .ok (.aload_n 0, 1) := by decide +kernel
theorem d_Mod_goThrough_59 : dec m_Mod_goThrough 59 = .ok (.bipush 13, 2) := by decide +kernel
theorem d_Mod_goThrough_61 : dec m_Mod_goThrough 61 = .ok (.bipush 17, 2) := by decide +kernel
theorem d_Mod_goThrough_63 : dec m_Mod_goThrough 63 = .ok (.invokevirtual 208, 3) := by decide +kernel
theorem d_Mod_goThrough_66 : dec m_Mod_goThrough 66 = .ok (.iconst 0, 1) := by decide +kernel
theorem d_Mod_goThrough_67 : dec m_Mod_goThrough 67 = .ok (.ireturn, 1) := by decide +kernel
theorem d_Mod_goThrough_68 : dec m_Mod_goThrough 68 = .ok (.aload_n 0, 1) := by decide +kernel
theorem d_Mod_goThrough_69 : dec m_Mod_goThrough 69 = .ok (.aload_n 0, 1) := by decide +kernel
theorem d_Mod_goThrough_70 : dec m_Mod_goThrough 70 = .ok (.getfield 115, 3) := by decide +kernel
theorem d_Mod_goThrough_73 : dec m_Mod_goThrough 73 = .ok (.iload_n 1, 1) := by decide +kernel
theorem d_Mod_goThrough_74 : dec m_Mod_goThrough 74 = .ok (.iaload, 1) := by decide +kernel
theorem d_Mod_goThrough_75 : dec m_Mod_goThrough 75 = .ok (.invokevirtual 441, 3) := by decide +kernel
theorem d_Mod_goThrough_78 : dec m_Mod_goThrough 78 = .ok (.ireturn, 1) := by decide +kernel
theorem d_Mod_goThrough_79 : dec m_Mod_goThrough 79 = .ok (.aload_n 0, 1) := by decide +kernel
theorem d_Mod_goThrough_80 : dec m_Mod_goThrough 80 = .ok (.iload_n 1, 1) := by decide +kernel
theorem d_Mod_goThrough_81 : dec m_Mod_goThrough 81 = .ok (.invokevirtual 444, 3) := by decide +kernel
theorem d_Mod_goThrough_84 : dec m_Mod_goThrough 84 = .ok (.aload_n 0, 1) := by decide +kernel
theorem d_Mod_goThrough_85 : dec m_Mod_goThrough 85 = .ok (.invokevirtual 447, 3) := by decide +kernel
theorem d_Mod_goThrough_88 : dec m_Mod_goThrough 88 = .ok (.ireturn, 1) := by decide +kernel
theorem d_Mod_goThrough_89 : dec m_Mod_goThrough 89 = .ok (.aload_n 0, 1) := by decide +kernel
theorem d_Mod_goThrough_90 : dec m_Mod_goThrough 90 = .ok (.aload_n 0, 1) := by decide +kernel
theorem d_Mod_goThrough_91 : dec m_Mod_goThrough 91 = .ok (.getfield 115, 3) := by decide +kernel
theorem d_Mod_goThrough_94 : dec m_Mod_goThrough 94 = .ok (.iload_n 1, 1) := by decide +kernel
theorem d_Mod_goThrough_95 : dec m_Mod_goThrough 95 = .ok (.iaload, 1) := by decide +kernel
theorem d_Mod_goThrough_96 : dec m_Mod_goThrough 96 = .ok (.bipush 16, 2) := by decide +kernel
theorem d_Mod_goThrough_98 : dec m_Mod_goThrough 98 = .ok (.invokevirtual 208, 3) := by decide +kernel
theorem d_Mod_goThrough_101 : dec m_Mod_goThrough 101 = .ok (.aload_n 0, 1) := by decide +kernel
theorem d_Mod_goThrough_102 : dec m_Mod_goThrough 102 = .ok (.invokevirtual 447, 3) := by decide +kernel
theorem d_Mod_goThrough_105 : dec m_Mod_goThrough 105 = .ok (.ireturn, 1) := by decide +kernel
theorem d_Mod_goThrough_106 : dec m_Mod_goThrough 106 = .ok (.aload_n 0, 1) := by decide +kernel
theorem d_Mod_goThrough_107 : dec m_Mod_goThrough 107 = .ok (.invokevirtual 450, 3) := by decide +kernel
theorem d_Mod_goThrough_110 : dec m_Mod_goThrough 110 = .ok (.ireturn, 1) := by decide +kernel
theorem d_Mod_goThrough_111 : dec m_Mod_goThrough 111 = .ok (.aload_n 0, 1) := by decide +kernel
theorem d_Mod_goThrough_112 : dec m_Mod_goThrough 112 = .ok (.iload_n 1, 1) := by decide +kernel
theorem d_Mod_goThrough_113 : dec m_Mod_goThrough 113 = .ok (.invokevirtual 444, 3) := by decide +kernel
theorem d_Mod_goThrough_116 : dec m_Mod_goThrough 116 = .ok (.aload_n 0, 1) := by decide +kernel
theorem d_Mod_goThrough_117 : dec m_Mod_goThrough 117 = .ok (.invokevirtual 453, 3) := by decide +kernel
theorem d_Mod_goThrough_120 : dec m_Mod_goThrough 120 = .ok (.ireturn, 1) := by decide +kernel
theorem d_Mod_goThrough_121 : dec m_Mod_goThrough 121 = .ok (.aload_n 0, 1) := by decide +kernel
theorem d_Mod_goThrough_122 : dec m_Mod_goThrough 122 = .ok (.iconst (-1), 1) := by decide +kernel
theorem d_Mod_goThrough_123 : dec m_Mod_goThrough 123 = .ok (.invokevirtual 441, 3) := by decide +kernel
theorem d_Mod_goThrough_126 : dec m_Mod_goThrough 126 = .ok (.ireturn, 1) := by decide +kernel
theorem d_Mod_takeLink_0 : dec m_Mod_takeLink 0 = .ok (.iconst 0, 1) := by decide +kernel
theorem d_Mod_takeLink_1 : dec m_Mod_takeLink 1 = .ok (.istore_n 2, 1) := by decide +kernel
theorem d_Mod_takeLink_2 : dec m_Mod_takeLink 2 = .ok (.iload_n 2, 1) := by decide +kernel
theorem d_Mod_takeLink_3 : dec m_Mod_takeLink 3 = .ok (.bipush 84, 2) := by decide +kernel
theorem d_Mod_takeLink_5 : dec m_Mod_takeLink 5 = .ok (.if_icmp .ge 30, 3) := by decide +kernel
theorem d_Mod_takeLink_8 : dec m_Mod_takeLink 8 = .ok (.aload_n 0, 1) := by decide +kernel
theorem d_Mod_takeLink_9 : dec m_Mod_takeLink 9 = .ok (.getfield 9, 3) := by decide +kernel
theorem d_Mod_takeLink_12 : dec m_Mod_takeLink 12 = .ok (.sipush 1344, 3) := by decide +kernel
theorem d_Mod_takeLink_15 : dec m_Mod_takeLink 15 = .ok (.iload_n 2, 1) := by decide +kernel
theorem d_Mod_takeLink_16 : dec m_Mod_takeLink 16 = .ok (.iadd, 1) := by decide +kernel
theorem d_Mod_takeLink_17 : dec m_Mod_takeLink 17 = .ok (.aload_n 0, 1) := by decide +kernel
theorem d_Mod_takeLink_18 : dec m_Mod_takeLink 18 = .ok (.getfield 118, 3) := by decide +kernel
theorem d_Mod_takeLink_21 : dec m_Mod_takeLink 21 = .ok (.bipush 84, 2) := by decide +kernel
theorem d_Mod_takeLink_23 : dec m_Mod_takeLink 23 = .ok (.iload_n 1, 1) := by decide +kernel
theorem d_Mod_takeLink_24 : dec m_Mod_takeLink 24 = .ok (.imul, 1) := by decide +kernel
theorem d_Mod_takeLink_25 : dec m_Mod_takeLink 25 = .ok (.iload_n 2, 1) := by decide +kernel
theorem d_Mod_takeLink_26 : dec m_Mod_takeLink 26 = .ok (.iadd, 1) := by decide +kernel
theorem d_Mod_takeLink_27 : dec m_Mod_takeLink 27 = .ok (.laload, 1) := by decide +kernel
theorem d_Mod_takeLink_28 : dec m_Mod_takeLink 28 = .ok (.lastore, 1) := by decide +kernel
theorem d_Mod_takeLink_29 : dec m_Mod_takeLink 29 = .ok (.iinc 2 1, 3) := by decide +kernel
theorem d_Mod_takeLink_32 : dec m_Mod_takeLink 32 = .ok (.goto (-30), 3) := by decide +kernel
theorem d_Mod_takeLink_35 : dec m_Mod_takeLink 35 = .ok (.return_, 1) := by decide +kernel
theorem d_Mod_goTimes_0 : dec m_Mod_goTimes 0 = .ok (.iload_n 1, 1) := by decide +kernel
theorem d_Mod_goTimes_1 : dec m_Mod_goTimes 1 = .ok (.i2l, 1) := by decide +kernel
theorem d_Mod_goTimes_2 : dec m_Mod_goTimes 2 = .ok (.invokestatic 158, 3) := by decide +kernel
theorem d_Mod_goTimes_5 : dec m_Mod_goTimes 5 = .ok (.aload_n 0, 1) := by decide +kernel
theorem d_Mod_goTimes_6 : dec m_Mod_goTimes 6 = .ok (.bipush 17, 2) := by decide +kernel
theorem d_Mod_goTimes_8 : dec m_Mod_goTimes 8 = .ok (.invokevirtual 194, 3) := by decide +kernel
theorem d_Mod_goTimes_11 : dec m_Mod_goTimes 11 = .ok (.invokestatic 205, 3) := by decide +kernel
theorem d_Mod_goTimes_14 : dec m_Mod_goTimes 14 = .ok (.lconst 0, 1) := by decide +kernel
theorem d_Mod_goTimes_15 : dec m_Mod_goTimes 15 = .ok (.lcmp, 1) := by decide +kernel
theorem d_Mod_goTimes_16 : dec m_Mod_goTimes 16 = .ok (.ifCond .ge 6, 3) := by decide +kernel
theorem d_Mod_goTimes_19 : dec m_Mod_goTimes 19 = .ok (.bipush (-5), 2) := by decide +kernel
theorem d_Mod_goTimes_21 : dec m_Mod_goTimes 21 = .ok (.ireturn, 1) := by decide +kernel
theorem d_Mod_goTimes_22 : dec m_Mod_goTimes 22 = .ok (.iconst 0, 1) := by decide +kernel
theorem d_Mod_goTimes_23 : dec m_Mod_goTimes 23 = .ok (.istore_n 2, 1) := by decide +kernel
theorem d_Mod_goTimes_24 : dec m_Mod_goTimes 24 = .ok (.iload_n 2, 1) := by decide +kernel
theorem d_Mod_goTimes_25 : dec m_Mod_goTimes 25 = .ok (.bipush 84, 2) := by decide +kernel
theorem d_Mod_goTimes_27 : dec m_Mod_goTimes 27 = .ok (.if_icmp .ge 24, 3) := by decide +kernel
theorem d_Mod_goTimes_30 : dec m_Mod_goTimes 30 = .ok (.aload_n 0, 1) := by decide +kernel
theorem d_Mod_goTimes_31 : dec m_Mod_goTimes 31 = .ok (.getfield 9, 3) := by decide +kernel
theorem d_Mod_goTimes_34 : dec m_Mod_goTimes 34 = .ok (.sipush 1428, 3) := by decide +kernel
theorem d_Mod_goTimes_37 : dec m_Mod_goTimes 37 = .ok (.iload_n 2, 1) := by decide +kernel
theorem d_Mod_goTimes_38 : dec m_Mod_goTimes 38 = .ok (.iadd, 1) := by decide +kernel
theorem d_Mod_goTimes_39 : dec m_Mod_goTimes 39 = .ok (.dup2, 1) := by decide +kernel
theorem d_Mod_goTimes_40 : dec m_Mod_goTimes 40 = .ok (.laload, 1) := by decide +kernel
theorem d_Mod_goTimes_41 : dec m_Mod_goTimes 41 = .ok (.iload_n 1, 1) := by decide +kernel
theorem d_Mod_goTimes_42 : dec m_Mod_goTimes 42 = .ok (.i2l, 1) := by decide +kernel
theorem d_Mod_goTimes_43 : dec m_Mod_goTimes 43 = .ok (.lmul, 1) := by decide +kernel
theorem d_Mod_goTimes_44 : dec m_Mod_goTimes 44 = .ok (.lastore, 1) := by decide +kernel
theorem d_Mod_goTimes_45 : dec m_Mod_goTimes 45 = .ok (.iinc 2 1, 3) := by decide +kernel
theorem d_Mod_goTimes_48 : dec m_Mod_goTimes 48 = .ok (.goto (-24), 3) := by decide +kernel
theorem d_Mod_goTimes_51 : dec m_Mod_goTimes 51 = .ok (.iconst 0, 1) := by decide +kernel
theorem d_Mod_goTimes_52 : dec m_Mod_goTimes 52 = .ok (.ireturn, 1) := by decide +kernel
theorem d_Mod_goPlus_0 : dec m_Mod_goPlus 0 = .ok (.aload_n 0, 1) := by decide +kernel
theorem d_Mod_goPlus_1 : dec m_Mod_goPlus 1 = .ok (.bipush 17, 2) := by decide +kernel
theorem d_Mod_goPlus_3 : dec m_Mod_goPlus 3 = .ok (.invokevirtual 194, 3) := by decide +kernel
theorem d_Mod_goPlus_6 : dec m_Mod_goPlus 6 = .ok (.aload_n 0, 1) := by decide +kernel
theorem d_Mod_goPlus_7 : dec m_Mod_goPlus 7 = .ok (.bipush 16, 2) := by decide +kernel
theorem d_Mod_goPlus_9 : dec m_Mod_goPlus 9 = .ok (.invokevirtual 194, 3) := by decide +kernel
theorem d_Mod_goPlus_12 : dec m_Mod_goPlus 12 = .ok (.invokestatic 198, 3) := by decide +kernel
theorem d_Mod_goPlus_15 : dec m_Mod_goPlus 15 = .ok (.lconst 0, 1) := by decide +kernel
theorem d_Mod_goPlus_16 : dec m_Mod_goPlus 16 = .ok (.lcmp, 1) := by decide +kernel
theorem d_Mod_goPlus_17 : dec m_Mod_goPlus 17 = .ok (.ifCond .ge 6, 3) := by decide +kernel
theorem d_Mod_goPlus_20 : dec m_Mod_goPlus 20 = .ok (.bipush (-5), 2) := by decide +kernel
theorem d_Mod_goPlus_22 : dec m_Mod_goPlus 22 = .ok (.ireturn, 1) := by decide +kernel
theorem d_Mod_goPlus_23 : dec m_Mod_goPlus 23 = .ok (.aload_n 0, 1) := by decide +kernel
theorem d_Mod_goPlus_24 : dec m_Mod_goPlus 24 = .ok (.bipush 17, 2) := by decide +kernel
theorem d_Mod_goPlus_26 : dec m_Mod_goPlus 26 = .ok (.bipush 16, 2) := by decide +kernel
theorem d_Mod_goPlus_28 : dec m_Mod_goPlus 28 = .ok (.lconst 1, 1) := by decide +kernel
theorem d_Mod_goPlus_29 : dec m_Mod_goPlus 29 = .ok (.invokevirtual 212, 3) := by decide +kernel
theorem d_Mod_goPlus_32 : dec m_Mod_goPlus 32 = .ok (.iconst 0, 1) := by decide +kernel
theorem d_Mod_goPlus_33 : dec m_Mod_goPlus 33 = .ok (.ireturn, 1) := by decide +kernel
theorem d_Mod_goApart_0 : dec m_Mod_goApart 0 = .ok (.aload_n 0, 1) := by decide +kernel
theorem d_Mod_goApart_1 : dec m_Mod_goApart 1 = .ok (.bipush 17, 2) := by decide +kernel
theorem d_Mod_goApart_3 : dec m_Mod_goApart 3 = .ok (.bipush 18, 2) := by decide +kernel
theorem d_Mod_goApart_5 : dec m_Mod_goApart 5 = .ok (.invokevirtual 208, 3) := by decide +kernel
theorem d_Mod_goApart_8 : dec m_Mod_goApart 8 = .ok (.aload_n 0, 1) := by decide +kernel
theorem d_Mod_goApart_9 : dec m_Mod_goApart 9 = .ok (.invokevirtual 344, 3) := by decide +kernel
theorem d_Mod_goApart_12 : dec m_Mod_goApart 12 = .ok (.ifCond .ne 6, 3) := by decide +kernel
theorem d_Mod_goApart_15 : dec m_Mod_goApart 15 = .ok (.bipush (-5), 2) := by decide +kernel
theorem d_Mod_goApart_17 : dec m_Mod_goApart 17 = .ok (.ireturn, 1) := by decide +kernel
theorem d_Mod_goApart_18 : dec m_Mod_goApart 18 = .ok (.aload_n 0, 1) := by decide +kernel
theorem d_Mod_goApart_19 : dec m_Mod_goApart 19 = .ok (.bipush 18, 2) := by decide +kernel
theorem d_Mod_goApart_21 : dec m_Mod_goApart 21 = .ok (.bipush 17, 2) := by decide +kernel
theorem d_Mod_goApart_23 : dec m_Mod_goApart 23 = .ok (.invokevirtual 208, 3) := by decide +kernel
theorem d_Mod_goApart_26 : dec m_Mod_goApart 26 = .ok (.iconst 0, 1) := by decide +kernel
theorem d_Mod_goApart_27 : dec m_Mod_goApart 27 = .ok (.ireturn, 1) := by decide +kernel
theorem d_Mod_goProduct_0 : dec m_Mod_goProduct 0 = .ok (.aload_n 0, 1) := by decide +kernel
theorem d_Mod_goProduct_1 : dec m_Mod_goProduct 1 = .ok (.bipush 17, 2) := by decide +kernel
theorem d_Mod_goProduct_3 : dec m_Mod_goProduct 3 = .ok (.invokevirtual 166, 3) := by decide +kernel
theorem d_Mod_goProduct_6 : dec m_Mod_goProduct 6 = .ok (.ifCond .lt 33, 3) := by decide +kernel
theorem d_Mod_goProduct_9 : dec m_Mod_goProduct 9 = .ok (.aload_n 0, 1) := by decide +kernel
theorem d_Mod_goProduct_10 : dec m_Mod_goProduct 10 = .ok (.bipush 16, 2) := by decide +kernel
theorem d_Mod_goProduct_12 : dec m_Mod_goProduct 12 = .ok (.invokevirtual 166, 3) := by decide +kernel
theorem d_Mod_goProduct_15 : dec m_Mod_goProduct 15 = .ok (.ifCond .lt 24, 3) := by decide +kernel
theorem d_Mod_goProduct_18 : dec m_Mod_goProduct 18 = .ok (.aload_n 0, 1) := by decide +kernel
theorem d_Mod_goProduct_19 : dec m_Mod_goProduct 19 = .ok (.bipush 17, 2) := by decide +kernel
theorem d_Mod_goProduct_21 : dec m_Mod_goProduct 21 = .ok (.invokevirtual 166, 3) := by decide +kernel
theorem d_Mod_goProduct_24 : dec m_Mod_goProduct 24 = .ok (.aload_n 0, 1) := by decide +kernel
theorem d_Mod_goProduct_25 : dec m_Mod_goProduct 25 = .ok (.bipush 16, 2) := by decide +kernel
theorem d_Mod_goProduct_27 : dec m_Mod_goProduct 27 = .ok (.invokevirtual 166, 3) := by decide +kernel
theorem d_Mod_goProduct_30 : dec m_Mod_goProduct 30 = .ok (.iadd, 1) := by decide +kernel
theorem d_Mod_goProduct_31 : dec m_Mod_goProduct 31 = .ok (.bipush 6, 2) := by decide +kernel
theorem d_Mod_goProduct_33 : dec m_Mod_goProduct 33 = .ok (.if_icmp .le 6, 3) := by decide +kernel
theorem d_Mod_goProduct_36 : dec m_Mod_goProduct 36 = .ok (.bipush (-6), 2) := by decide +kernel
theorem d_Mod_goProduct_38 : dec m_Mod_goProduct 38 = .ok (.ireturn, 1) := by decide +kernel
theorem d_Mod_goProduct_39 : dec m_Mod_goProduct 39 = .ok (.aload_n 0, 1) := by decide +kernel
theorem d_Mod_goProduct_40 : dec m_Mod_goProduct 40 = .ok (.bipush 17, 2) := by decide +kernel
theorem d_Mod_goProduct_42 : dec m_Mod_goProduct 42 = .ok (.invokevirtual 194, 3) := by decide +kernel
theorem d_Mod_goProduct_45 : dec m_Mod_goProduct 45 = .ok (.aload_n 0, 1) := by decide +kernel
theorem d_Mod_goProduct_46 : dec m_Mod_goProduct 46 = .ok (.bipush 16, 2) := by decide +kernel
theorem d_Mod_goProduct_48 : dec m_Mod_goProduct 48 = .ok (.invokevirtual 194, 3) := by decide +kernel
theorem d_Mod_goProduct_51 : dec m_Mod_goProduct 51 = .ok (.invokestatic 205, 3) := by decide +kernel
theorem d_Mod_goProduct_54 : dec m_Mod_goProduct 54 = .ok (.lconst 0, 1) := by decide +kernel
theorem d_Mod_goProduct_55 : dec m_Mod_goProduct 55 = .ok (.lcmp, 1) := by decide +kernel
theorem d_Mod_goProduct_56 : dec m_Mod_goProduct 56 = .ok (.ifCond .ge 6, 3) := by decide +kernel
theorem d_Mod_goProduct_59 : dec m_Mod_goProduct 59 = .ok (.bipush (-5), 2) := by decide +kernel
theorem d_Mod_goProduct_61 : dec m_Mod_goProduct 61 = .ok (.ireturn, 1) := by decide +kernel
theorem d_Mod_goProduct_62 : dec m_Mod_goProduct 62 = .ok (.aload_n 0, 1) := by decide +kernel
theorem d_Mod_goProduct_63 : dec m_Mod_goProduct 63 = .ok (.bipush 17, 2) := by decide +kernel
theorem d_Mod_goProduct_65 : dec m_Mod_goProduct 65 = .ok (.bipush 16, 2) := by decide +kernel
theorem d_Mod_goProduct_67 : dec m_Mod_goProduct 67 = .ok (.bipush 13, 2) := by decide +kernel
theorem d_Mod_goProduct_69 : dec m_Mod_goProduct 69 = .ok (.invokevirtual 216, 3) := by decide +kernel
theorem d_Mod_goProduct_72 : dec m_Mod_goProduct 72 = .ok (.aload_n 0, 1) := by decide +kernel
theorem d_Mod_goProduct_73 : dec m_Mod_goProduct 73 = .ok (.bipush 13, 2) := by decide +kernel
theorem d_Mod_goProduct_75 : dec m_Mod_goProduct 75 = .ok (.bipush 17, 2) := by decide +kernel
theorem d_Mod_goProduct_77 : dec m_Mod_goProduct 77 = .ok (.invokevirtual 208, 3) := by decide +kernel
theorem d_Mod_goProduct_80 : dec m_Mod_goProduct 80 = .ok (.iconst 0, 1) := by decide +kernel
theorem d_Mod_goProduct_81 : dec m_Mod_goProduct 81 = .ok (.ireturn, 1) := by decide +kernel
theorem d_Mod_run_0 : dec m_Mod_run 0 = .ok (.iload_n 1, 1) := by decide +kernel
theorem d_Mod_run_1 : dec m_Mod_run 1 = .ok (.invokestatic 182, 3) := by decide +kernel
theorem d_Mod_run_4 : dec m_Mod_run 4 = .ok (.ifCond .eq 13, 3) := by decide +kernel
theorem d_Mod_run_7 : dec m_Mod_run 7 = .ok (.iload_n 2, 1) := by decide +kernel
theorem d_Mod_run_8 : dec m_Mod_run 8 = .ok (.i2l, 1) := by decide +kernel
theorem d_Mod_run_9 : dec m_Mod_run 9 = .ok (.lconst 0, 1) := by decide +kernel
theorem d_Mod_run_10 : dec m_Mod_run 10 = .ok (.lconst 1, 1) := by decide +kernel
theorem d_Mod_run_11 : dec m_Mod_run 11 = .ok (.invokestatic 139, 3) := by decide +kernel
theorem d_Mod_run_14 : dec m_Mod_run 14 = .ok (.ifCond .ne 5, 3) := by decide +kernel
theorem d_Mod_run_17 : dec m_Mod_run 17 = .ok (.iconst (-1), 1) := by decide +kernel
theorem d_Mod_run_18 : dec m_Mod_run 18 = .ok (.ireturn, 1) := by decide +kernel
theorem d_Mod_run_19 : dec m_Mod_run 19 = .ok (.aload_n 0, 1) := by decide +kernel
theorem d_Mod_run_20 : dec m_Mod_run 20 = .ok (.iload_n 1, 1) := by decide +kernel
theorem d_Mod_run_21 : dec m_Mod_run 21 = .ok (.bipush 17, 2) := by decide +kernel
theorem d_Mod_run_23 : dec m_Mod_run 23 = .ok (.invokevirtual 208, 3) := by decide +kernel
theorem d_Mod_run_26 : dec m_Mod_run 26 = .ok (.iconst 0, 1) := by decide +kernel
theorem d_Mod_run_27 : dec m_Mod_run 27 = .ok (.istore_n 3, 1) := by decide +kernel
theorem d_Mod_run_28 : dec m_Mod_run 28 = .ok (.iload_n 3, 1) := by decide +kernel
theorem d_Mod_run_29 : dec m_Mod_run 29 = .ok (.aload_n 0, 1) := by decide +kernel
theorem d_Mod_run_30 : dec m_Mod_run 30 = .ok (.getfield 438, 3) := by decide +kernel
theorem d_Mod_run_33 : dec m_Mod_run 33 = .ok (.if_icmp .ge 39, 3) := by decide +kernel
theorem d_Mod_run_36 : dec m_Mod_run 36 = .ok (.aload_n 0, 1) := by decide +kernel
theorem d_Mod_run_37 : dec m_Mod_run 37 = .ok (.iload_n 2, 1) := by decide +kernel
theorem d_Mod_run_38 : dec m_Mod_run 38 = .ok (.ifCond .ne 7, 3) := by decide +kernel
theorem d_Mod_run_41 : dec m_Mod_run 41 = .ok (.iload_n 3, 1) := by decide +kernel
theorem d_Mod_run_42 : dec m_Mod_run 42 = .ok (.goto 11, 3) := by decide +kernel
theorem d_Mod_run_45 : dec m_Mod_run 45 = .ok (.aload_n 0, 1) := by decide +kernel
theorem d_Mod_run_46 : dec m_Mod_run 46 = .ok (.getfield 438, 3) := by decide +kernel
theorem d_Mod_run_49 : dec m_Mod_run 49 = .ok (.iconst 1, 1) := by decide +kernel
theorem d_Mod_run_50 : dec m_Mod_run 50 = .ok (.isub, 1) := by decide +kernel
theorem d_Mod_run_51 : dec m_Mod_run 51 = .ok (.iload_n 3, 1) := by decide +kernel
theorem d_Mod_run_52 : dec m_Mod_run 52 = .ok (.isub, 1) := by decide +kernel
theorem d_Mod_run_53 : dec m_Mod_run 53 = .ok (.invokevirtual 456, 3) := by decide +kernel
theorem d_Mod_run_56 : dec m_Mod_run 56 = .ok (.istore 4, 2) := by decide +kernel
theorem d_Mod_run_58 : dec m_Mod_run 58 = .ok (.iload 4, 2) := by decide +kernel
theorem d_Mod_run_60 : dec m_Mod_run 60 = .ok (.ifCond .eq 6, 3) := by decide +kernel
theorem d_Mod_run_63 : dec m_Mod_run 63 = .ok (.iload 4, 2) := by decide +kernel
theorem d_Mod_run_65 : dec m_Mod_run 65 = .ok (.ireturn, 1) := by decide +kernel
theorem d_Mod_run_66 : dec m_Mod_run 66 = .ok (.iinc 3 1, 3) := by decide +kernel
theorem d_Mod_run_69 : dec m_Mod_run 69 = .ok (.goto (-41), 3) := by decide +kernel
theorem d_Mod_run_72 : dec m_Mod_run 72 = .ok (.aload_n 0, 1) := by decide +kernel
theorem d_Mod_run_73 : dec m_Mod_run 73 = .ok (.bipush 17, 2) := by decide +kernel
theorem d_Mod_run_75 : dec m_Mod_run 75 = .ok (.iload_n 1, 1) := by decide +kernel
theorem d_Mod_run_76 : dec m_Mod_run 76 = .ok (.invokevirtual 208, 3) := by decide +kernel
theorem d_Mod_run_79 : dec m_Mod_run 79 = .ok (.aload_n 0, 1) := by decide +kernel
theorem d_Mod_run_80 : dec m_Mod_run 80 = .ok (.iload_n 1, 1) := by decide +kernel
theorem d_Mod_run_81 : dec m_Mod_run 81 = .ok (.invokevirtual 202, 3) := by decide +kernel
theorem d_Mod_run_84 : dec m_Mod_run 84 = .ok (.ireturn, 1) := by decide +kernel
theorem d_Mod_loosen_0 : dec m_Mod_loosen 0 = .ok (.aload_n 0, 1) := by decide +kernel
theorem d_Mod_loosen_1 : dec m_Mod_loosen 1 = .ok (.getfield 438, 3) := by decide +kernel
theorem d_Mod_loosen_4 : dec m_Mod_loosen 4 = .ok (.istore_n 1, 1) := by decide +kernel
theorem d_Mod_loosen_5 : dec m_Mod_loosen 5 = .ok (.aload_n 0, 1) := by decide +kernel
theorem d_Mod_loosen_6 : dec m_Mod_loosen 6 = .ok (.iconst 0, 1) := by decide +kernel
theorem d_Mod_loosen_7 : dec m_Mod_loosen 7 = .ok (.putfield 438, 3) := by decide +kernel
theorem d_Mod_loosen_10 : dec m_Mod_loosen 10 = .ok (.iload_n 1, 1) := by decide +kernel
theorem d_Mod_loosen_11 : dec m_Mod_loosen 11 = .ok (.ireturn, 1) := by decide +kernel
theorem d_Mod_isSheet_0 : dec m_Mod_isSheet 0 = .ok (.iload_n 0, 1) := by decide +kernel
theorem d_Mod_isSheet_1 : dec m_Mod_isSheet 1 = .ok (.ifCond .lt 12, 3) := by decide +kernel
theorem d_Mod_isSheet_4 : dec m_Mod_isSheet 4 = .ok (.iload_n 0, 1) := by decide +kernel
theorem d_Mod_isSheet_5 : dec m_Mod_isSheet 5 = .ok (.iconst 4, 1) := by decide +kernel
theorem d_Mod_isSheet_6 : dec m_Mod_isSheet 6 = .ok (.if_icmp .ge 7, 3) := by decide +kernel
theorem d_Mod_isSheet_9 : dec m_Mod_isSheet 9 = .ok (.iconst 1, 1) := by decide +kernel
theorem d_Mod_isSheet_10 : dec m_Mod_isSheet 10 = .ok (.goto 4, 3) := by decide +kernel
theorem d_Mod_isSheet_13 : dec m_Mod_isSheet 13 = .ok (.iconst 0, 1) := by decide +kernel
theorem d_Mod_isSheet_14 : dec m_Mod_isSheet 14 = .ok (.ireturn, 1) := by decide +kernel
theorem d_Mod_lowest_0 : dec m_Mod_lowest 0 = .ok (.aload_n 0, 1) := by decide +kernel
theorem d_Mod_lowest_1 : dec m_Mod_lowest 1 = .ok (.getfield 121, 3) := by decide +kernel
theorem d_Mod_lowest_4 : dec m_Mod_lowest 4 = .ok (.iload_n 1, 1) := by decide +kernel
theorem d_Mod_lowest_5 : dec m_Mod_lowest 5 = .ok (.iaload, 1) := by decide +kernel
theorem d_Mod_lowest_6 : dec m_Mod_lowest 6 = .ok (.ifCond .ne 9, 3) := by decide +kernel
theorem d_Mod_lowest_9 : dec m_Mod_lowest 9 = .ok (.lload_n 2, 1) := by decide +kernel
theorem d_Mod_lowest_10 : dec m_Mod_lowest 10 = .ok (.l2i, 1) := by decide +kernel
theorem d_Mod_lowest_11 : dec m_Mod_lowest 11 = .ok (.i2b, 1) := by decide +kernel
theorem d_Mod_lowest_12 : dec m_Mod_lowest 12 = .ok (.goto 5, 3) := by decide +kernel
theorem d_Mod_lowest_15 : dec m_Mod_lowest 15 = .ok (.lload_n 2, 1) := by decide +kernel
theorem d_Mod_lowest_16 : dec m_Mod_lowest 16 = .ok (.l2i, 1) := by decide +kernel
theorem d_Mod_lowest_17 : dec m_Mod_lowest 17 = .ok (.ireturn, 1) := by decide +kernel
theorem d_Mod_sheet_0 : dec m_Mod_sheet 0 = .ok (.iload_n 1, 1) := by decide +kernel
theorem d_Mod_sheet_1 : dec m_Mod_sheet 1 = .ok (.invokestatic 261, 3) := by decide +kernel
theorem d_Mod_sheet_4 : dec m_Mod_sheet 4 = .ok (.ifCond .eq 25, 3) := by decide +kernel
theorem d_Mod_sheet_7 : dec m_Mod_sheet 7 = .ok (.iload_n 2, 1) := by decide +kernel
theorem d_Mod_sheet_8 : dec m_Mod_sheet 8 = .ok (.i2l, 1) := by decide +kernel
theorem d_Mod_sheet_9 : dec m_Mod_sheet 9 = .ok (.ldc2_w 145, 3) := by decide +kernel
theorem d_Mod_sheet_12 : dec m_Mod_sheet 12 = .ok (.lconst 1, 1) := by decide +kernel
theorem d_Mod_sheet_13 : dec m_Mod_sheet 13 = .ok (.invokestatic 139, 3) := by decide +kernel
theorem d_Mod_sheet_16 : dec m_Mod_sheet 16 = .ok (.ifCond .eq 13, 3) := by decide +kernel
theorem d_Mod_sheet_19 : dec m_Mod_sheet 19 = .ok (.iload_n 2, 1) := by decide +kernel
theorem d_Mod_sheet_20 : dec m_Mod_sheet 20 = .ok (.ifCond .lt 11, 3) := by decide +kernel
theorem d_Mod_sheet_23 : dec m_Mod_sheet 23 = .ok (.iload_n 3, 1) := by decide +kernel
theorem d_Mod_sheet_24 : dec m_Mod_sheet 24 = .ok (.bipush 40, 2) := by decide +kernel
theorem d_Mod_sheet_26 : dec m_Mod_sheet 26 = .ok (.if_icmp .le 5, 3) := by decide +kernel
theorem d_Mod_sheet_29 : dec m_Mod_sheet 29 = .ok (.iconst (-1), 1) := by decide +kernel
theorem d_Mod_sheet_30 : dec m_Mod_sheet 30 = .ok (.ireturn, 1) := by decide +kernel
theorem d_Mod_sheet_31 : dec m_Mod_sheet 31 = .ok (.iload_n 2, 1) := by decide +kernel
theorem d_Mod_sheet_32 : dec m_Mod_sheet 32 = .ok (.ifCond .lt 10, 3) := by decide +kernel
theorem d_Mod_sheet_35 : dec m_Mod_sheet 35 = .ok (.iload_n 3, 1) := by decide +kernel
theorem d_Mod_sheet_36 : dec m_Mod_sheet 36 = .ok (.ifCond .ge 6, 3) := by decide +kernel
theorem d_Mod_sheet_39 : dec m_Mod_sheet 39 = .ok (.bipush (-14), 2) := by decide +kernel
theorem d_Mod_sheet_41 : dec m_Mod_sheet 41 = .ok (.ireturn, 1) := by decide +kernel
theorem d_Mod_sheet_42 : dec m_Mod_sheet 42 = .ok (.aload_n 0, 1) := by decide +kernel
theorem d_Mod_sheet_43 : dec m_Mod_sheet 43 = .ok (.getfield 121, 3) := by decide +kernel
theorem d_Mod_sheet_46 : dec m_Mod_sheet 46 = .ok (.iload_n 1, 1) := by decide +kernel
theorem d_Mod_sheet_47 : dec m_Mod_sheet 47 = .ok (.iload_n 2, 1) := by decide +kernel
theorem d_Mod_sheet_48 : dec m_Mod_sheet 48 = .ok (.iastore, 1) := by decide +kernel
theorem d_Mod_sheet_49 : dec m_Mod_sheet 49 = .ok (.aload_n 0, 1) := by decide +kernel
theorem d_Mod_sheet_50 : dec m_Mod_sheet 50 = .ok (.getfield 124, 3) := by decide +kernel
theorem d_Mod_sheet_53 : dec m_Mod_sheet 53 = .ok (.iload_n 1, 1) := by decide +kernel
theorem d_Mod_sheet_54 : dec m_Mod_sheet 54 = .ok (.iload_n 2, 1) := by decide +kernel
theorem d_Mod_sheet_55 : dec m_Mod_sheet 55 = .ok (.ifCond .ge 7, 3) := by decide +kernel
theorem d_Mod_sheet_58 : dec m_Mod_sheet 58 = .ok (.iconst 0, 1) := by decide +kernel
theorem d_Mod_sheet_59 : dec m_Mod_sheet 59 = .ok (.goto 4, 3) := by decide +kernel
theorem d_Mod_sheet_62 : dec m_Mod_sheet 62 = .ok (.iload_n 3, 1) := by decide +kernel
theorem d_Mod_sheet_63 : dec m_Mod_sheet 63 = .ok (.iastore, 1) := by decide +kernel
theorem d_Mod_sheet_64 : dec m_Mod_sheet 64 = .ok (.iconst 0, 1) := by decide +kernel
theorem d_Mod_sheet_65 : dec m_Mod_sheet 65 = .ok (.istore 4, 2) := by decide +kernel
theorem d_Mod_sheet_67 : dec m_Mod_sheet 67 = .ok (.iload 4, 2) := by decide +kernel
theorem d_Mod_sheet_69 : dec m_Mod_sheet 69 = .ok (.bipush 40, 2) := by decide +kernel
theorem d_Mod_sheet_71 : dec m_Mod_sheet 71 = .ok (.if_icmp .ge 22, 3) := by decide +kernel
theorem d_Mod_sheet_74 : dec m_Mod_sheet 74 = .ok (.aload_n 0, 1) := by decide +kernel
theorem d_Mod_sheet_75 : dec m_Mod_sheet 75 = .ok (.getfield 127, 3) := by decide +kernel
theorem d_Mod_sheet_78 : dec m_Mod_sheet 78 = .ok (.bipush 40, 2) := by decide +kernel
theorem d_Mod_sheet_80 : dec m_Mod_sheet 80 = .ok (.iload_n 1, 1) := by decide +kernel
theorem d_Mod_sheet_81 : dec m_Mod_sheet 81 = .ok (.imul, 1) := by decide +kernel
theorem d_Mod_sheet_82 : dec m_Mod_sheet 82 = .ok (.iload 4, 2) := by decide +kernel
theorem d_Mod_sheet_84 : dec m_Mod_sheet 84 = .ok (.iadd, 1) := by decide +kernel
theorem d_Mod_sheet_85 : dec m_Mod_sheet 85 = .ok (.iconst 0, 1) := by decide +kernel
theorem d_Mod_sheet_86 : dec m_Mod_sheet 86 = .ok (.iastore, 1) := by decide +kernel
theorem d_Mod_sheet_87 : dec m_Mod_sheet 87 = .ok (.iinc 4 1, 3) := by decide +kernel
theorem d_Mod_sheet_90 : dec m_Mod_sheet 90 = .ok (.goto (-23), 3) := by decide +kernel
theorem d_Mod_sheet_93 : dec m_Mod_sheet 93 = .ok (.iconst 1, 1) := by decide +kernel
theorem d_Mod_sheet_94 : dec m_Mod_sheet 94 = .ok (.ireturn, 1) := by decide +kernel
theorem d_Mod_cell_0 : dec m_Mod_cell 0 = .ok (.iload_n 1, 1) := by decide +kernel
theorem d_Mod_cell_1 : dec m_Mod_cell 1 = .ok (.invokestatic 261, 3) := by decide +kernel
theorem d_Mod_cell_4 : dec m_Mod_cell 4 = .ok (.ifCond .ne 5, 3) := by decide +kernel
theorem d_Mod_cell_7 : dec m_Mod_cell 7 = .ok (.iconst (-1), 1) := by decide +kernel
theorem d_Mod_cell_8 : dec m_Mod_cell 8 = .ok (.ireturn, 1) := by decide +kernel
theorem d_Mod_cell_9 : dec m_Mod_cell 9 = .ok (.aload_n 0, 1) := by decide +kernel
theorem d_Mod_cell_10 : dec m_Mod_cell 10 = .ok (.getfield 121, 3) := by decide +kernel
theorem d_Mod_cell_13 : dec m_Mod_cell 13 = .ok (.iload_n 1, 1) := by decide +kernel
theorem d_Mod_cell_14 : dec m_Mod_cell 14 = .ok (.iaload, 1) := by decide +kernel
theorem d_Mod_cell_15 : dec m_Mod_cell 15 = .ok (.ifCond .ge 6, 3) := by decide +kernel
theorem d_Mod_cell_18 : dec m_Mod_cell 18 = .ok (.bipush (-11), 2) := by decide +kernel
theorem d_Mod_cell_20 : dec m_Mod_cell 20 = .ok (.ireturn, 1) := by decide +kernel
theorem d_Mod_cell_21 : dec m_Mod_cell 21 = .ok (.iload_n 2, 1) := by decide +kernel
theorem d_Mod_cell_22 : dec m_Mod_cell 22 = .ok (.i2l, 1) := by decide +kernel
theorem d_Mod_cell_23 : dec m_Mod_cell 23 = .ok (.lconst 0, 1) := by decide +kernel
theorem d_Mod_cell_24 : dec m_Mod_cell 24 = .ok (.aload_n 0, 1) := by decide +kernel
theorem d_Mod_cell_25 : dec m_Mod_cell 25 = .ok (.getfield 124, 3) := by decide +kernel
theorem d_Mod_cell_28 : dec m_Mod_cell 28 = .ok (.iload_n 1, 1) := by decide +kernel
theorem d_Mod_cell_29 : dec m_Mod_cell 29 = .ok (.iaload, 1) := by decide +kernel
theorem d_Mod_cell_30 : dec m_Mod_cell 30 = .ok (.iconst 1, 1) := by decide +kernel
theorem d_Mod_cell_31 : dec m_Mod_cell 31 = .ok (.isub, 1) := by decide +kernel
theorem d_Mod_cell_32 : dec m_Mod_cell 32 = .ok (.i2l, 1) := by decide +kernel
theorem d_Mod_cell_33 : dec m_Mod_cell 33 = .ok (.invokestatic 139, 3) := by decide +kernel
theorem d_Mod_cell_36 : dec m_Mod_cell 36 = .ok (.ifCond .ne 6, 3) := by decide +kernel
theorem d_Mod_cell_39 : dec m_Mod_cell 39 = .ok (.bipush (-12), 2) := by decide +kernel
theorem d_Mod_cell_41 : dec m_Mod_cell 41 = .ok (.ireturn, 1) := by decide +kernel
theorem d_Mod_cell_42 : dec m_Mod_cell 42 = .ok (.aload_n 0, 1) := by decide +kernel
theorem d_Mod_cell_43 : dec m_Mod_cell 43 = .ok (.getfield 127, 3) := by decide +kernel
theorem d_Mod_cell_46 : dec m_Mod_cell 46 = .ok (.bipush 40, 2) := by decide +kernel
theorem d_Mod_cell_48 : dec m_Mod_cell 48 = .ok (.iload_n 1, 1) := by decide +kernel
theorem d_Mod_cell_49 : dec m_Mod_cell 49 = .ok (.imul, 1) := by decide +kernel
theorem d_Mod_cell_50 : dec m_Mod_cell 50 = .ok (.iload_n 2, 1) := by decide +kernel
theorem d_Mod_cell_51 : dec m_Mod_cell 51 = .ok (.iadd, 1) := by decide +kernel
theorem d_Mod_cell_52 : dec m_Mod_cell 52 = .ok (.aload_n 0, 1) := by decide +kernel
theorem d_Mod_cell_53 : dec m_Mod_cell 53 = .ok (.iload_n 1, 1) := by decide +kernel
theorem d_Mod_cell_54 : dec m_Mod_cell 54 = .ok (.iload_n 3, 1) := by decide +kernel
theorem d_Mod_cell_55 : dec m_Mod_cell 55 = .ok (.i2l, 1) := by decide +kernel
theorem d_Mod_cell_56 : dec m_Mod_cell 56 = .ok (.invokevirtual 270, 3) := by decide +kernel
theorem d_Mod_cell_59 : dec m_Mod_cell 59 = .ok (.iastore, 1) := by decide +kernel
theorem d_Mod_cell_60 : dec m_Mod_cell 60 = .ok (.iconst 1, 1) := by decide +kernel
theorem d_Mod_cell_61 : dec m_Mod_cell 61 = .ok (.ireturn, 1) := by decide +kernel
theorem d_Mod_item_0 : dec m_Mod_item 0 = .ok (.iload_n 1, 1) := by decide +kernel
theorem d_Mod_item_1 : dec m_Mod_item 1 = .ok (.invokestatic 261, 3) := by decide +kernel
theorem d_Mod_item_4 : dec m_Mod_item 4 = .ok (.ifCond .eq 36, 3) := by decide +kernel
theorem d_Mod_item_7 : dec m_Mod_item 7 = .ok (.iload_n 2, 1) := by decide +kernel
theorem d_Mod_item_8 : dec m_Mod_item 8 = .ok (.i2l, 1) := by decide +kernel
theorem d_Mod_item_9 : dec m_Mod_item 9 = .ok (.lconst 0, 1) := by decide +kernel
theorem d_Mod_item_10 : dec m_Mod_item 10 = .ok (.aload_n 0, 1) := by decide +kernel
theorem d_Mod_item_11 : dec m_Mod_item 11 = .ok (.getfield 124, 3) := by decide +kernel
theorem d_Mod_item_14 : dec m_Mod_item 14 = .ok (.iload_n 1, 1) := by decide +kernel
theorem d_Mod_item_15 : dec m_Mod_item 15 = .ok (.iaload, 1) := by decide +kernel
theorem d_Mod_item_16 : dec m_Mod_item 16 = .ok (.iconst 1, 1) := by decide +kernel
theorem d_Mod_item_17 : dec m_Mod_item 17 = .ok (.isub, 1) := by decide +kernel
theorem d_Mod_item_18 : dec m_Mod_item 18 = .ok (.i2l, 1) := by decide +kernel
theorem d_Mod_item_19 : dec m_Mod_item 19 = .ok (.invokestatic 139, 3) := by decide +kernel
theorem d_Mod_item_22 : dec m_Mod_item 22 = .ok (.ifCond .eq 18, 3) := by decide +kernel
theorem d_Mod_item_25 : dec m_Mod_item 25 = .ok (.aload_n 0, 1) := by decide +kernel
theorem d_Mod_item_26 : dec m_Mod_item 26 = .ok (.getfield 127, 3) := by decide +kernel
theorem d_Mod_item_29 : dec m_Mod_item 29 = .ok (.bipush 40, 2) := by decide +kernel
theorem d_Mod_item_31 : dec m_Mod_item 31 = .ok (.iload_n 1, 1) := by decide +kernel
theorem d_Mod_item_32 : dec m_Mod_item 32 = .ok (.imul, 1) := by decide +kernel
theorem d_Mod_item_33 : dec m_Mod_item 33 = .ok (.iload_n 2, 1) := by decide +kernel
theorem d_Mod_item_34 : dec m_Mod_item 34 = .ok (.iadd, 1) := by decide +kernel
theorem d_Mod_item_35 : dec m_Mod_item 35 = .ok (.iaload, 1) := by decide +kernel
theorem d_Mod_item_36 : dec m_Mod_item 36 = .ok (.i2l, 1) := by decide +kernel
theorem d_Mod_item_37 : dec m_Mod_item 37 = .ok (.goto 6, 3) := by decide +kernel
theorem d_Mod_item_40 : dec m_Mod_item 40 = .ok (.ldc2_w 235, 3) := by decide +kernel
theorem d_Mod_item_43 : dec m_Mod_item 43 = .ok (.lreturn, 1) := by decide +kernel
theorem d_Mod_move_0 : dec m_Mod_move 0 = .ok (.iload_n 1, 1) := by decide +kernel
theorem d_Mod_move_1 : dec m_Mod_move 1 = .ok (.invokestatic 261, 3) := by decide +kernel
theorem d_Mod_move_4 : dec m_Mod_move 4 = .ok (.ifCond .eq 10, 3) := by decide +kernel
theorem d_Mod_move_7 : dec m_Mod_move 7 = .ok (.iload_n 3, 1) := by decide +kernel
theorem d_Mod_move_8 : dec m_Mod_move 8 = .ok (.invokestatic 261, 3) := by decide +kernel
theorem d_Mod_move_11 : dec m_Mod_move 11 = .ok (.ifCond .ne 5, 3) := by decide +kernel
theorem d_Mod_move_14 : dec m_Mod_move 14 = .ok (.iconst (-1), 1) := by decide +kernel
theorem d_Mod_move_15 : dec m_Mod_move 15 = .ok (.ireturn, 1) := by decide +kernel
theorem d_Mod_move_16 : dec m_Mod_move 16 = .ok (.aload_n 0, 1) := by decide +kernel
theorem d_Mod_move_17 : dec m_Mod_move 17 = .ok (.getfield 121, 3) := by decide +kernel
theorem d_Mod_move_20 : dec m_Mod_move 20 = .ok (.iload_n 1, 1) := by decide +kernel
theorem d_Mod_move_21 : dec m_Mod_move 21 = .ok (.iaload, 1) := by decide +kernel
theorem d_Mod_move_22 : dec m_Mod_move 22 = .ok (.ifCond .lt 12, 3) := by decide +kernel
theorem d_Mod_move_25 : dec m_Mod_move 25 = .ok (.aload_n 0, 1) := by decide +kernel
theorem d_Mod_move_26 : dec m_Mod_move 26 = .ok (.getfield 121, 3) := by decide +kernel
theorem d_Mod_move_29 : dec m_Mod_move 29 = .ok (.iload_n 3, 1) := by decide +kernel
theorem d_Mod_move_30 : dec m_Mod_move 30 = .ok (.iaload, 1) := by decide +kernel
theorem d_Mod_move_31 : dec m_Mod_move 31 = .ok (.ifCond .ge 6, 3) := by decide +kernel
theorem d_Mod_move_34 : dec m_Mod_move 34 = .ok (.bipush (-11), 2) := by decide +kernel
theorem d_Mod_move_36 : dec m_Mod_move 36 = .ok (.ireturn, 1) := by decide +kernel
theorem d_Mod_move_37 : dec m_Mod_move 37 = .ok (.aload_n 0, 1) := by decide +kernel
theorem d_Mod_move_38 : dec m_Mod_move 38 = .ok (.getfield 121, 3) := by decide +kernel
theorem d_Mod_move_41 : dec m_Mod_move 41 = .ok (.iload_n 1, 1) := by decide +kernel
theorem d_Mod_move_42 : dec m_Mod_move 42 = .ok (.iaload, 1) := by decide +kernel
theorem d_Mod_move_43 : dec m_Mod_move 43 = .ok (.aload_n 0, 1) := by decide +kernel
theorem d_Mod_move_44 : dec m_Mod_move 44 = .ok (.getfield 121, 3) := by decide +kernel
theorem d_Mod_move_47 : dec m_Mod_move 47 = .ok (.iload_n 3, 1) := by decide +kernel
theorem d_Mod_move_48 : dec m_Mod_move 48 = .ok (.iaload, 1) := by decide +kernel
theorem d_Mod_move_49 : dec m_Mod_move 49 = .ok (.if_icmp .eq 6, 3) := by decide +kernel
theorem d_Mod_move_52 : dec m_Mod_move 52 = .ok (.bipush (-13), 2) := by decide +kernel
theorem d_Mod_move_54 : dec m_Mod_move 54 = .ok (.ireturn, 1) := by decide +kernel
theorem d_Mod_move_55 : dec m_Mod_move 55 = .ok (.iload 5, 2) := by decide +kernel
theorem d_Mod_move_57 : dec m_Mod_move 57 = .ok (.ifCond .lt 39, 3) := by decide +kernel
theorem d_Mod_move_60 : dec m_Mod_move 60 = .ok (.iload_n 2, 1) := by decide +kernel
theorem d_Mod_move_61 : dec m_Mod_move 61 = .ok (.ifCond .lt 35, 3) := by decide +kernel
theorem d_Mod_move_64 : dec m_Mod_move 64 = .ok (.iload 4, 2) := by decide +kernel
theorem d_Mod_move_66 : dec m_Mod_move 66 = .ok (.ifCond .lt 30, 3) := by decide +kernel
theorem d_Mod_move_69 : dec m_Mod_move 69 = .ok (.iload 5, 2) := by decide +kernel
theorem d_Mod_move_71 : dec m_Mod_move 71 = .ok (.aload_n 0, 1) := by decide +kernel
theorem d_Mod_move_72 : dec m_Mod_move 72 = .ok (.getfield 124, 3) := by decide +kernel
theorem d_Mod_move_75 : dec m_Mod_move 75 = .ok (.iload_n 1, 1) := by decide +kernel
theorem d_Mod_move_76 : dec m_Mod_move 76 = .ok (.iaload, 1) := by decide +kernel
theorem d_Mod_move_77 : dec m_Mod_move 77 = .ok (.iload_n 2, 1) := by decide +kernel
theorem d_Mod_move_78 : dec m_Mod_move 78 = .ok (.isub, 1) := by decide +kernel
theorem d_Mod_move_79 : dec m_Mod_move 79 = .ok (.if_icmp .gt 17, 3) := by decide +kernel
theorem d_Mod_move_82 : dec m_Mod_move 82 = .ok (.iload 5, 2) := by decide +kernel
theorem d_Mod_move_84 : dec m_Mod_move 84 = .ok (.aload_n 0, 1) := by decide +kernel
theorem d_Mod_move_85 : dec m_Mod_move 85 = .ok (.getfield 124, 3) := by decide +kernel
theorem d_Mod_move_88 : dec m_Mod_move 88 = .ok (.iload_n 3, 1) := by decide +kernel
theorem d_Mod_move_89 : dec m_Mod_move 89 = .ok (.iaload, 1) := by decide +kernel
theorem d_Mod_move_90 : dec m_Mod_move 90 = .ok (.iload 4, 2) := by decide +kernel
theorem d_Mod_move_92 : dec m_Mod_move 92 = .ok (.isub, 1) := by decide +kernel
theorem d_Mod_move_93 : dec m_Mod_move 93 = .ok (.if_icmp .le 6, 3) := by decide +kernel
theorem d_Mod_move_96 : dec m_Mod_move 96 = .ok (.bipush (-12), 2) := by decide +kernel
theorem d_Mod_move_98 : dec m_Mod_move 98 = .ok (.ireturn, 1) := by decide +kernel
theorem d_Mod_move_99 : dec m_Mod_move 99 = .ok (.bipush 40, 2) := by decide +kernel
theorem d_Mod_move_101 : dec m_Mod_move 101 = .ok (.iload_n 1, 1) := by decide +kernel
theorem d_Mod_move_102 : dec m_Mod_move 102 = .ok (.imul, 1) := by decide +kernel
theorem d_Mod_move_103 : dec m_Mod_move 103 = .ok (.iload_n 2, 1) := by decide +kernel
theorem d_Mod_move_104 : dec m_Mod_move 104 = .ok (.iadd, 1) := by decide +kernel
theorem d_Mod_move_105 : dec m_Mod_move 105 = .ok (.bipush 40, 2) := by decide +kernel
theorem d_Mod_move_107 : dec m_Mod_move 107 = .ok (.iload_n 3, 1) := by decide +kernel
theorem d_Mod_move_108 : dec m_Mod_move 108 = .ok (.imul, 1) := by decide +kernel
theorem d_Mod_move_109 : dec m_Mod_move 109 = .ok (.iload 4, 2) := by decide +kernel
theorem d_Mod_move_111 : dec m_Mod_move 111 = .ok (.iadd, 1) := by decide +kernel
theorem d_Mod_move_112 : dec m_Mod_move 112 = .ok (.if_icmp .ge 7, 3) := by decide +kernel
theorem d_Mod_move_115 : dec m_Mod_move 115 = .ok (.iconst 1, 1) := by decide +kernel
theorem d_Mod_move_116 : dec m_Mod_move 116 = .ok (.goto 4, 3) := by decide +kernel
theorem d_Mod_move_119 : dec m_Mod_move 119 = .ok (.iconst 0, 1) := by decide +kernel
theorem d_Mod_move_120 : dec m_Mod_move 120 = .ok (.istore 6, 2) := by decide +kernel
theorem d_Mod_move_122 : dec m_Mod_move 122 = .ok (.iconst 0, 1) := by decide +kernel
theorem d_Mod_move_123 : dec m_Mod_move 123 = .ok (.istore 7, 2) := by decide +kernel
theorem d_Mod_move_125 : dec m_Mod_move 125 = .ok (.iload 7, 2) := by decide +kernel
theorem d_Mod_move_127 : dec m_Mod_move 127 = .ok (.iload 5, 2) := by decide +kernel
theorem d_Mod_move_129 : dec m_Mod_move 129 = .ok (.if_icmp .ge 57, 3) := by decide +kernel
theorem d_Mod_move_132 : dec m_Mod_move 132 = .ok (.iload 6, 2) := by decide +kernel
theorem d_Mod_move_134 : dec m_Mod_move 134 = .ok (.ifCond .eq 13, 3) := by decide +kernel
theorem d_Mod_move_137 : dec m_Mod_move 137 = .ok (.iload 5, 2) := by decide +kernel
theorem d_Mod_move_139 : dec m_Mod_move 139 = .ok (.iconst 1, 1) := by decide +kernel
theorem d_Mod_move_140 : dec m_Mod_move 140 = .ok (.isub, 1) := by decide +kernel
theorem d_Mod_move_141 : dec m_Mod_move 141 = .ok (.iload 7, 2) := by decide +kernel
theorem d_Mod_move_143 : dec m_Mod_move 143 = .ok (.isub, 1) := by decide +kernel
theorem d_Mod_move_144 : dec m_Mod_move 144 = .ok (.goto 5, 3) := by decide +kernel
theorem d_Mod_move_147 : dec m_Mod_move 147 = .ok (.iload 7, 2) := by decide +kernel
theorem d_Mod_move_149 : dec m_Mod_move 149 = .ok (.istore 8, 2) := by decide +kernel
theorem d_Mod_move_151 : dec m_Mod_move 151 = .ok (.aload_n 0, 1) := by decide +kernel
theorem d_Mod_move_152 : dec m_Mod_move 152 = .ok (.getfield 127, 3) := by decide +kernel
theorem d_Mod_move_155 : dec m_Mod_move 155 = .ok (.bipush 40, 2) := by decide +kernel
theorem d_Mod_move_157 : dec m_Mod_move 157 = .ok (.iload_n 3, 1) := by decide +kernel
theorem d_Mod_move_158 : dec m_Mod_move 158 = .ok (.imul, 1) := by decide +kernel
theorem d_Mod_move_159 : dec m_Mod_move 159 = .ok (.iload 4, 2) := by decide +kernel
theorem d_Mod_move_161 : dec m_Mod_move 161 = .ok (.iadd, 1) := by decide +kernel
theorem d_Mod_move_162 : dec m_Mod_move 162 = .ok (.iload 8, 2) := by decide +kernel
theorem d_Mod_move_164 : dec m_Mod_move 164 = .ok (.iadd, 1) := by decide +kernel
theorem d_Mod_move_165 : dec m_Mod_move 165 = .ok (.aload_n 0, 1) := by decide +kernel
theorem d_Mod_move_166 : dec m_Mod_move 166 = .ok (.getfield 127, 3) := by decide +kernel
theorem d_Mod_move_169 : dec m_Mod_move 169 = .ok (.bipush 40, 2) := by decide +kernel
theorem d_Mod_move_171 : dec m_Mod_move 171 = .ok (.iload_n 1, 1) := by decide +kernel
theorem d_Mod_move_172 : dec m_Mod_move 172 = .ok (.imul, 1) := by decide +kernel
theorem d_Mod_move_173 : dec m_Mod_move 173 = .ok (.iload_n 2, 1) := by decide +kernel
theorem d_Mod_move_174 : dec m_Mod_move 174 = .ok (.iadd, 1) := by decide +kernel
theorem d_Mod_move_175 : dec m_Mod_move 175 = .ok (.iload 8, 2) := by decide +kernel
theorem d_Mod_move_177 : dec m_Mod_move 177 = .ok (.iadd, 1) := by decide +kernel
theorem d_Mod_move_178 : dec m_Mod_move 178 = .ok (.iaload, 1) := by decide +kernel
theorem d_Mod_move_179 : dec m_Mod_move 179 = .ok (.iastore, 1) := by decide +kernel
theorem d_Mod_move_180 : dec m_Mod_move 180 = .ok (.iinc 7 1, 3) := by decide +kernel
theorem d_Mod_move_183 : dec m_Mod_move 183 = .ok (.goto (-58), 3) := by decide +kernel
theorem d_Mod_move_186 : dec m_Mod_move 186 = .ok (.iload 5, 2) := by decide +kernel
theorem d_Mod_move_188 : dec m_Mod_move 188 = .ok (.ireturn, 1) := by decide +kernel
theorem d_Mod_moveKept_0 : dec m_Mod_moveKept 0 = .ok (.iconst 0, 1) := by decide +kernel
theorem d_Mod_moveKept_1 : dec m_Mod_moveKept 1 = .ok (.istore_n 2, 1) := by decide +kernel
theorem d_Mod_moveKept_2 : dec m_Mod_moveKept 2 = .ok (.iload_n 2, 1) := by decide +kernel
theorem d_Mod_moveKept_3 : dec m_Mod_moveKept 3 = .ok (.sipush 1092, 3) := by decide +kernel
theorem d_Mod_moveKept_6 : dec m_Mod_moveKept 6 = .ok (.if_icmp .ge 40, 3) := by decide +kernel
theorem d_Mod_moveKept_9 : dec m_Mod_moveKept 9 = .ok (.iload_n 1, 1) := by decide +kernel
theorem d_Mod_moveKept_10 : dec m_Mod_moveKept 10 = .ok (.ifCond .eq 18, 3) := by decide +kernel
theorem d_Mod_moveKept_13 : dec m_Mod_moveKept 13 = .ok (.aload_n 0, 1) := by decide +kernel
theorem d_Mod_moveKept_14 : dec m_Mod_moveKept 14 = .ok (.getfield 9, 3) := by decide +kernel
theorem d_Mod_moveKept_17 : dec m_Mod_moveKept 17 = .ok (.iload_n 2, 1) := by decide +kernel
theorem d_Mod_moveKept_18 : dec m_Mod_moveKept 18 = .ok (.aload_n 0, 1) := by decide +kernel
theorem d_Mod_moveKept_19 : dec m_Mod_moveKept 19 = .ok (.getfield 15, 3) := by decide +kernel
theorem d_Mod_moveKept_22 : dec m_Mod_moveKept 22 = .ok (.iload_n 2, 1) := by decide +kernel
theorem d_Mod_moveKept_23 : dec m_Mod_moveKept 23 = .ok (.laload, 1) := by decide +kernel
theorem d_Mod_moveKept_24 : dec m_Mod_moveKept 24 = .ok (.lastore, 1) := by decide +kernel
theorem d_Mod_moveKept_25 : dec m_Mod_moveKept 25 = .ok (.goto 15, 3) := by decide +kernel
theorem d_Mod_moveKept_28 : dec m_Mod_moveKept 28 = .ok (.aload_n 0, 1) := by decide +kernel
theorem d_Mod_moveKept_29 : dec m_Mod_moveKept 29 = .ok (.getfield 15, 3) := by decide +kernel
theorem d_Mod_moveKept_32 : dec m_Mod_moveKept 32 = .ok (.iload_n 2, 1) := by decide +kernel
theorem d_Mod_moveKept_33 : dec m_Mod_moveKept 33 = .ok (.aload_n 0, 1) := by decide +kernel
theorem d_Mod_moveKept_34 : dec m_Mod_moveKept 34 = .ok (.getfield 9, 3) := by decide +kernel
theorem d_Mod_moveKept_37 : dec m_Mod_moveKept 37 = .ok (.iload_n 2, 1) := by decide +kernel
theorem d_Mod_moveKept_38 : dec m_Mod_moveKept 38 = .ok (.laload, 1) := by decide +kernel
theorem d_Mod_moveKept_39 : dec m_Mod_moveKept 39 = .ok (.lastore, 1) := by decide +kernel
theorem d_Mod_moveKept_40 : dec m_Mod_moveKept 40 = .ok (.iinc 2 1, 3) := by decide +kernel
theorem d_Mod_moveKept_43 : dec m_Mod_moveKept 43 = .ok (.goto (-41), 3) := by decide +kernel
theorem d_Mod_moveKept_46 : dec m_Mod_moveKept 46 = .ok (.iconst 0, 1) := by decide +kernel
theorem d_Mod_moveKept_47 : dec m_Mod_moveKept 47 = .ok (.istore_n 2, 1) := by decide +kernel
theorem d_Mod_moveKept_48 : dec m_Mod_moveKept 48 = .ok (.iload_n 2, 1) := by decide +kernel
theorem d_Mod_moveKept_49 : dec m_Mod_moveKept 49 = .ok (.sipush 602, 3) := by decide +kernel
theorem d_Mod_moveKept_52 : dec m_Mod_moveKept 52 = .ok (.if_icmp .ge 40, 3) := by decide +kernel
theorem d_Mod_moveKept_55 : dec m_Mod_moveKept 55 = .ok (.iload_n 1, 1) := by decide +kernel
theorem d_Mod_moveKept_56 : dec m_Mod_moveKept 56 = .ok (.ifCond .eq 18, 3) := by decide +kernel
theorem d_Mod_moveKept_59 : dec m_Mod_moveKept 59 = .ok (.aload_n 0, 1) := by decide +kernel
theorem d_Mod_moveKept_60 : dec m_Mod_moveKept 60 = .ok (.getfield 43, 3) := by decide +kernel
theorem d_Mod_moveKept_63 : dec m_Mod_moveKept 63 = .ok (.iload_n 2, 1) := by decide +kernel
theorem d_Mod_moveKept_64 : dec m_Mod_moveKept 64 = .ok (.aload_n 0, 1) := by decide +kernel
theorem d_Mod_moveKept_65 : dec m_Mod_moveKept 65 = .ok (.getfield 52, 3) := by decide +kernel
theorem d_Mod_moveKept_68 : dec m_Mod_moveKept 68 = .ok (.iload_n 2, 1) := by decide +kernel
theorem d_Mod_moveKept_69 : dec m_Mod_moveKept 69 = .ok (.laload, 1) := by decide +kernel
theorem d_Mod_moveKept_70 : dec m_Mod_moveKept 70 = .ok (.lastore, 1) := by decide +kernel
theorem d_Mod_moveKept_71 : dec m_Mod_moveKept 71 = .ok (.goto 15, 3) := by decide +kernel
theorem d_Mod_moveKept_74 : dec m_Mod_moveKept 74 = .ok (.aload_n 0, 1) := by decide +kernel
theorem d_Mod_moveKept_75 : dec m_Mod_moveKept 75 = .ok (.getfield 52, 3) := by decide +kernel
theorem d_Mod_moveKept_78 : dec m_Mod_moveKept 78 = .ok (.iload_n 2, 1) := by decide +kernel
theorem d_Mod_moveKept_79 : dec m_Mod_moveKept 79 = .ok (.aload_n 0, 1) := by decide +kernel
theorem d_Mod_moveKept_80 : dec m_Mod_moveKept 80 = .ok (.getfield 43, 3) := by decide +kernel
theorem d_Mod_moveKept_83 : dec m_Mod_moveKept 83 = .ok (.iload_n 2, 1) := by decide +kernel
theorem d_Mod_moveKept_84 : dec m_Mod_moveKept 84 = .ok (.laload, 1) := by decide +kernel
theorem d_Mod_moveKept_85 : dec m_Mod_moveKept 85 = .ok (.lastore, 1) := by decide +kernel
theorem d_Mod_moveKept_86 : dec m_Mod_moveKept 86 = .ok (.iinc 2 1, 3) := by decide +kernel
theorem d_Mod_moveKept_89 : dec m_Mod_moveKept 89 = .ok (.goto (-41), 3) := by decide +kernel
theorem d_Mod_moveKept_92 : dec m_Mod_moveKept 92 = .ok (.iconst 0, 1) := by decide +kernel
theorem d_Mod_moveKept_93 : dec m_Mod_moveKept 93 = .ok (.istore_n 2, 1) := by decide +kernel
theorem d_Mod_moveKept_94 : dec m_Mod_moveKept 94 = .ok (.iload_n 2, 1) := by decide +kernel
theorem d_Mod_moveKept_95 : dec m_Mod_moveKept 95 = .ok (.sipush 4214, 3) := by decide +kernel
theorem d_Mod_moveKept_98 : dec m_Mod_moveKept 98 = .ok (.if_icmp .ge 40, 3) := by decide +kernel
theorem d_Mod_moveKept_101 : dec m_Mod_moveKept 101 = .ok (.iload_n 1, 1) := by decide +kernel
theorem d_Mod_moveKept_102 : dec m_Mod_moveKept 102 = .ok (.ifCond .eq 18, 3) := by decide +kernel
theorem d_Mod_moveKept_105 : dec m_Mod_moveKept 105 = .ok (.aload_n 0, 1) := by decide +kernel
theorem d_Mod_moveKept_106 : dec m_Mod_moveKept 106 = .ok (.getfield 46, 3) := by decide +kernel
theorem d_Mod_moveKept_109 : dec m_Mod_moveKept 109 = .ok (.iload_n 2, 1) := by decide +kernel
theorem d_Mod_moveKept_110 : dec m_Mod_moveKept 110 = .ok (.aload_n 0, 1) := by decide +kernel
theorem d_Mod_moveKept_111 : dec m_Mod_moveKept 111 = .ok (.getfield 55, 3) := by decide +kernel
theorem d_Mod_moveKept_114 : dec m_Mod_moveKept 114 = .ok (.iload_n 2, 1) := by decide +kernel
theorem d_Mod_moveKept_115 : dec m_Mod_moveKept 115 = .ok (.iaload, 1) := by decide +kernel
theorem d_Mod_moveKept_116 : dec m_Mod_moveKept 116 = .ok (.iastore, 1) := by decide +kernel
theorem d_Mod_moveKept_117 : dec m_Mod_moveKept 117 = .ok (.goto 15, 3) := by decide +kernel
theorem d_Mod_moveKept_120 : dec m_Mod_moveKept 120 = .ok (.aload_n 0, 1) := by decide +kernel
theorem d_Mod_moveKept_121 : dec m_Mod_moveKept 121 = .ok (.getfield 55, 3) := by decide +kernel
theorem d_Mod_moveKept_124 : dec m_Mod_moveKept 124 = .ok (.iload_n 2, 1) := by decide +kernel
theorem d_Mod_moveKept_125 : dec m_Mod_moveKept 125 = .ok (.aload_n 0, 1) := by decide +kernel
theorem d_Mod_moveKept_126 : dec m_Mod_moveKept 126 = .ok (.getfield 46, 3) := by decide +kernel
theorem d_Mod_moveKept_129 : dec m_Mod_moveKept 129 = .ok (.iload_n 2, 1) := by decide +kernel
theorem d_Mod_moveKept_130 : dec m_Mod_moveKept 130 = .ok (.iaload, 1) := by decide +kernel
theorem d_Mod_moveKept_131 : dec m_Mod_moveKept 131 = .ok (.iastore, 1) := by decide +kernel
theorem d_Mod_moveKept_132 : dec m_Mod_moveKept 132 = .ok (.iinc 2 1, 3) := by decide +kernel
theorem d_Mod_moveKept_135 : dec m_Mod_moveKept 135 = .ok (.goto (-41), 3) := by decide +kernel
theorem d_Mod_moveKept_138 : dec m_Mod_moveKept 138 = .ok (.return_, 1) := by decide +kernel
theorem d_Mod_keep_0 : dec m_Mod_keep 0 = .ok (.aload_n 0, 1) := by decide +kernel
theorem d_Mod_keep_1 : dec m_Mod_keep 1 = .ok (.iconst 0, 1) := by decide +kernel
theorem d_Mod_keep_2 : dec m_Mod_keep 2 = .ok (.invokevirtual 459, 3) := by decide +kernel
theorem d_Mod_keep_5 : dec m_Mod_keep 5 = .ok (.iconst 0, 1) := by decide +kernel
theorem d_Mod_keep_6 : dec m_Mod_keep 6 = .ok (.istore_n 1, 1) := by decide +kernel
theorem d_Mod_keep_7 : dec m_Mod_keep 7 = .ok (.iload_n 1, 1) := by decide +kernel
theorem d_Mod_keep_8 : dec m_Mod_keep 8 = .ok (.bipush 7, 2) := by decide +kernel
theorem d_Mod_keep_10 : dec m_Mod_keep 10 = .ok (.if_icmp .ge 21, 3) := by decide +kernel
theorem d_Mod_keep_13 : dec m_Mod_keep 13 = .ok (.aload_n 0, 1) := by decide +kernel
theorem d_Mod_keep_14 : dec m_Mod_keep 14 = .ok (.getfield 49, 3) := by decide +kernel
theorem d_Mod_keep_17 : dec m_Mod_keep 17 = .ok (.iload_n 1, 1) := by decide +kernel
theorem d_Mod_keep_18 : dec m_Mod_keep 18 = .ok (.aload_n 0, 1) := by decide +kernel
theorem d_Mod_keep_19 : dec m_Mod_keep 19 = .ok (.getfield 40, 3) := by decide +kernel
theorem d_Mod_keep_22 : dec m_Mod_keep 22 = .ok (.iload_n 1, 1) := by decide +kernel
theorem d_Mod_keep_23 : dec m_Mod_keep 23 = .ok (.iaload, 1) := by decide +kernel
theorem d_Mod_keep_24 : dec m_Mod_keep 24 = .ok (.iastore, 1) := by decide +kernel
theorem d_Mod_keep_25 : dec m_Mod_keep 25 = .ok (.iinc 1 1, 3) := by decide +kernel
theorem d_Mod_keep_28 : dec m_Mod_keep 28 = .ok (.goto (-21), 3) := by decide +kernel
theorem d_Mod_keep_31 : dec m_Mod_keep 31 = .ok (.aload_n 0, 1) := by decide +kernel
theorem d_Mod_keep_32 : dec m_Mod_keep 32 = .ok (.aload_n 0, 1) := by decide +kernel
theorem d_Mod_keep_33 : dec m_Mod_keep 33 = .ok (.getfield 151, 3) := by decide +kernel
theorem d_Mod_keep_36 : dec m_Mod_keep 36 = .ok (.putfield 463, 3) := by decide +kernel
theorem d_Mod_keep_39 : dec m_Mod_keep 39 = .ok (.aload_n 0, 1) := by decide +kernel
theorem d_Mod_keep_40 : dec m_Mod_keep 40 = .ok (.aload_n 0, 1) := by decide +kernel
theorem d_Mod_keep_41 : dec m_Mod_keep 41 = .ok (.getfield 133, 3) := by decide +kernel
theorem d_Mod_keep_44 : dec m_Mod_keep 44 = .ok (.putfield 466, 3) := by decide +kernel
theorem d_Mod_keep_47 : dec m_Mod_keep 47 = .ok (.aload_n 0, 1) := by decide +kernel
theorem d_Mod_keep_48 : dec m_Mod_keep 48 = .ok (.iconst 1, 1) := by decide +kernel
theorem d_Mod_keep_49 : dec m_Mod_keep 49 = .ok (.putfield 469, 3) := by decide +kernel
theorem d_Mod_keep_52 : dec m_Mod_keep 52 = .ok (.aload_n 0, 1) := by decide +kernel
theorem d_Mod_keep_53 : dec m_Mod_keep 53 = .ok (.getfield 133, 3) := by decide +kernel
theorem d_Mod_keep_56 : dec m_Mod_keep 56 = .ok (.ireturn, 1) := by decide +kernel
theorem d_Mod_back_0 : dec m_Mod_back 0 = .ok (.aload_n 0, 1) := by decide +kernel
theorem d_Mod_back_1 : dec m_Mod_back 1 = .ok (.getfield 469, 3) := by decide +kernel
theorem d_Mod_back_4 : dec m_Mod_back 4 = .ok (.ifCond .ne 6, 3) := by decide +kernel
theorem d_Mod_back_7 : dec m_Mod_back 7 = .ok (.bipush (-2), 2) := by decide +kernel
theorem d_Mod_back_9 : dec m_Mod_back 9 = .ok (.ireturn, 1) := by decide +kernel
theorem d_Mod_back_10 : dec m_Mod_back 10 = .ok (.aload_n 0, 1) := by decide +kernel
theorem d_Mod_back_11 : dec m_Mod_back 11 = .ok (.iconst 1, 1) := by decide +kernel
theorem d_Mod_back_12 : dec m_Mod_back 12 = .ok (.invokevirtual 459, 3) := by decide +kernel
theorem d_Mod_back_15 : dec m_Mod_back 15 = .ok (.aload_n 0, 1) := by decide +kernel
theorem d_Mod_back_16 : dec m_Mod_back 16 = .ok (.aload_n 0, 1) := by decide +kernel
theorem d_Mod_back_17 : dec m_Mod_back 17 = .ok (.getfield 463, 3) := by decide +kernel
theorem d_Mod_back_20 : dec m_Mod_back 20 = .ok (.putfield 151, 3) := by decide +kernel
