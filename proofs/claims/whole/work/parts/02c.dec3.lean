theorem d_Alg_back_33 : dec m_Alg_back 33 = .ok (.invokevirtual 170, 3) := by decide +kernel
theorem d_Alg_back_36 : dec m_Alg_back 36 = .ok (.iinc 1 1, 3) := by decide +kernel
theorem d_Alg_back_39 : dec m_Alg_back 39 = .ok (.goto (-27), 3) := by decide +kernel
theorem d_Alg_back_42 : dec m_Alg_back 42 = .ok (.aload_n 0, 1) := by decide +kernel
theorem d_Alg_back_43 : dec m_Alg_back 43 = .ok (.getfield 20, 3) := by decide +kernel
theorem d_Alg_back_46 : dec m_Alg_back 46 = .ok (.aload_n 0, 1) := by decide +kernel
theorem d_Alg_back_47 : dec m_Alg_back 47 = .ok (.getfield 82, 3) := by decide +kernel
theorem d_Alg_back_50 : dec m_Alg_back 50 = .ok (.getfield 420, 3) := by decide +kernel
theorem d_Alg_back_53 : dec m_Alg_back 53 = .ok (.invokevirtual 115, 3) := by decide +kernel
theorem d_Alg_back_56 : dec m_Alg_back 56 = .ok (.aload_n 0, 1) := by decide +kernel
theorem d_Alg_back_57 : dec m_Alg_back 57 = .ok (.getfield 27, 3) := by decide +kernel
theorem d_Alg_back_60 : dec m_Alg_back 60 = .ok (.aload_n 0, 1) := by decide +kernel
theorem d_Alg_back_61 : dec m_Alg_back 61 = .ok (.getfield 82, 3) := by decide +kernel
theorem d_Alg_back_64 : dec m_Alg_back 64 = .ok (.getfield 423, 3) := by decide +kernel
theorem d_Alg_back_67 : dec m_Alg_back 67 = .ok (.invokevirtual 424, 3) := by decide +kernel
theorem d_Alg_back_70 : dec m_Alg_back 70 = .ok (.aload_n 0, 1) := by decide +kernel
theorem d_Alg_back_71 : dec m_Alg_back 71 = .ok (.iconst 0, 1) := by decide +kernel
theorem d_Alg_back_72 : dec m_Alg_back 72 = .ok (.putfield 86, 3) := by decide +kernel
theorem d_Alg_back_75 : dec m_Alg_back 75 = .ok (.aload_n 0, 1) := by decide +kernel
theorem d_Alg_back_76 : dec m_Alg_back 76 = .ok (.invokevirtual 245, 3) := by decide +kernel
theorem d_Alg_back_79 : dec m_Alg_back 79 = .ok (.aload_n 0, 1) := by decide +kernel
theorem d_Alg_back_80 : dec m_Alg_back 80 = .ok (.getfield 27, 3) := by decide +kernel
theorem d_Alg_back_83 : dec m_Alg_back 83 = .ok (.getfield 109, 3) := by decide +kernel
theorem d_Alg_back_86 : dec m_Alg_back 86 = .ok (.ireturn, 1) := by decide +kernel
theorem d_Alg_count_0 : dec m_Alg_count 0 = .ok (.iload_n 1, 1) := by decide +kernel
theorem d_Alg_count_1 : dec m_Alg_count 1 = .ok (.tableswitch 126 0 7 #[47, 55, 63, 82, 90, 103, 108, 121], 47) := by decide +kernel
theorem d_Alg_count_48 : dec m_Alg_count 48 = .ok (.aload_n 0, 1) := by decide +kernel
theorem d_Alg_count_49 : dec m_Alg_count 49 = .ok (.getfield 27, 3) := by decide +kernel
theorem d_Alg_count_52 : dec m_Alg_count 52 = .ok (.getfield 109, 3) := by decide +kernel
theorem d_Alg_count_55 : dec m_Alg_count 55 = .ok (.ireturn, 1) := by decide +kernel
theorem d_Alg_count_56 : dec m_Alg_count 56 = .ok (.aload_n 0, 1) := by decide +kernel
theorem d_Alg_count_57 : dec m_Alg_count 57 = .ok (.getfield 27, 3) := by decide +kernel
theorem d_Alg_count_60 : dec m_Alg_count 60 = .ok (.invokevirtual 426, 3) := by decide +kernel
theorem d_Alg_count_63 : dec m_Alg_count 63 = .ok (.ireturn, 1) := by decide +kernel
theorem d_Alg_count_64 : dec m_Alg_count 64 = .ok (.aload_n 0, 1) := by decide +kernel
theorem d_Alg_count_65 : dec m_Alg_count 65 = .ok (.getfield 86, 3) := by decide +kernel
theorem d_Alg_count_68 : dec m_Alg_count 68 = .ok (.ifCond .eq 13, 3) := by decide +kernel
theorem d_Alg_count_71 : dec m_Alg_count 71 = .ok (.aload_n 0, 1) := by decide +kernel
theorem d_Alg_count_72 : dec m_Alg_count 72 = .ok (.getfield 75, 3) := by decide +kernel
theorem d_Alg_count_75 : dec m_Alg_count 75 = .ok (.getfield 294, 3) := by decide +kernel
theorem d_Alg_count_78 : dec m_Alg_count 78 = .ok (.goto 4, 3) := by decide +kernel
theorem d_Alg_count_81 : dec m_Alg_count 81 = .ok (.iconst 0, 1) := by decide +kernel
theorem d_Alg_count_82 : dec m_Alg_count 82 = .ok (.ireturn, 1) := by decide +kernel
theorem d_Alg_count_83 : dec m_Alg_count 83 = .ok (.aload_n 0, 1) := by decide +kernel
theorem d_Alg_count_84 : dec m_Alg_count 84 = .ok (.getfield 20, 3) := by decide +kernel
theorem d_Alg_count_87 : dec m_Alg_count 87 = .ok (.getfield 112, 3) := by decide +kernel
theorem d_Alg_count_90 : dec m_Alg_count 90 = .ok (.ireturn, 1) := by decide +kernel
theorem d_Alg_count_91 : dec m_Alg_count 91 = .ok (.aload_n 0, 1) := by decide +kernel
theorem d_Alg_count_92 : dec m_Alg_count 92 = .ok (.getfield 82, 3) := by decide +kernel
theorem d_Alg_count_95 : dec m_Alg_count 95 = .ok (.ifnull 7, 3) := by decide +kernel
theorem d_Alg_count_98 : dec m_Alg_count 98 = .ok (.iconst 1, 1) := by decide +kernel
theorem d_Alg_count_99 : dec m_Alg_count 99 = .ok (.goto 4, 3) := by decide +kernel
theorem d_Alg_count_102 : dec m_Alg_count 102 = .ok (.iconst 0, 1) := by decide +kernel
theorem d_Alg_count_103 : dec m_Alg_count 103 = .ok (.ireturn, 1) := by decide +kernel
theorem d_Alg_count_104 : dec m_Alg_count 104 = .ok (.aload_n 0, 1) := by decide +kernel
theorem d_Alg_count_105 : dec m_Alg_count 105 = .ok (.invokevirtual 429, 3) := by decide +kernel
theorem d_Alg_count_108 : dec m_Alg_count 108 = .ok (.ireturn, 1) := by decide +kernel
theorem d_Alg_count_109 : dec m_Alg_count 109 = .ok (.aload_n 0, 1) := by decide +kernel
theorem d_Alg_count_110 : dec m_Alg_count 110 = .ok (.getfield 86, 3) := by decide +kernel
theorem d_Alg_count_113 : dec m_Alg_count 113 = .ok (.ifCond .eq 7, 3) := by decide +kernel
theorem d_Alg_count_116 : dec m_Alg_count 116 = .ok (.iconst 1, 1) := by decide +kernel
theorem d_Alg_count_117 : dec m_Alg_count 117 = .ok (.goto 4, 3) := by decide +kernel
theorem d_Alg_count_120 : dec m_Alg_count 120 = .ok (.iconst 0, 1) := by decide +kernel
theorem d_Alg_count_121 : dec m_Alg_count 121 = .ok (.ireturn, 1) := by decide +kernel
theorem d_Alg_count_122 : dec m_Alg_count 122 = .ok (.aload_n 0, 1) := by decide +kernel
theorem d_Alg_count_123 : dec m_Alg_count 123 = .ok (.getfield 96, 3) := by decide +kernel
theorem d_Alg_count_126 : dec m_Alg_count 126 = .ok (.ireturn, 1) := by decide +kernel
theorem d_Alg_count_127 : dec m_Alg_count 127 = .ok (.iconst (-1), 1) := by decide +kernel
theorem d_Alg_count_128 : dec m_Alg_count 128 = .ok (.ireturn, 1) := by decide +kernel
theorem d_Alg_isSlot_0 : dec m_Alg_isSlot 0 = .ok (.iload_n 0, 1) := by decide +kernel
theorem d_Alg_isSlot_1 : dec m_Alg_isSlot 1 = .ok (.ifCond .lt 13, 3) := by decide +kernel
theorem d_Alg_isSlot_4 : dec m_Alg_isSlot 4 = .ok (.iload_n 0, 1) := by decide +kernel
theorem d_Alg_isSlot_5 : dec m_Alg_isSlot 5 = .ok (.bipush 6, 2) := by decide +kernel
theorem d_Alg_isSlot_7 : dec m_Alg_isSlot 7 = .ok (.if_icmp .ge 7, 3) := by decide +kernel
theorem d_Alg_isSlot_10 : dec m_Alg_isSlot 10 = .ok (.iconst 1, 1) := by decide +kernel
theorem d_Alg_isSlot_11 : dec m_Alg_isSlot 11 = .ok (.goto 4, 3) := by decide +kernel
theorem d_Alg_isSlot_14 : dec m_Alg_isSlot 14 = .ok (.iconst 0, 1) := by decide +kernel
theorem d_Alg_isSlot_15 : dec m_Alg_isSlot 15 = .ok (.ireturn, 1) := by decide +kernel
theorem d_Alg_isSheet_0 : dec m_Alg_isSheet 0 = .ok (.iload_n 0, 1) := by decide +kernel
theorem d_Alg_isSheet_1 : dec m_Alg_isSheet 1 = .ok (.ifCond .lt 12, 3) := by decide +kernel
theorem d_Alg_isSheet_4 : dec m_Alg_isSheet 4 = .ok (.iload_n 0, 1) := by decide +kernel
theorem d_Alg_isSheet_5 : dec m_Alg_isSheet 5 = .ok (.iconst 4, 1) := by decide +kernel
theorem d_Alg_isSheet_6 : dec m_Alg_isSheet 6 = .ok (.if_icmp .ge 7, 3) := by decide +kernel
theorem d_Alg_isSheet_9 : dec m_Alg_isSheet 9 = .ok (.iconst 1, 1) := by decide +kernel
theorem d_Alg_isSheet_10 : dec m_Alg_isSheet 10 = .ok (.goto 4, 3) := by decide +kernel
theorem d_Alg_isSheet_13 : dec m_Alg_isSheet 13 = .ok (.iconst 0, 1) := by decide +kernel
theorem d_Alg_isSheet_14 : dec m_Alg_isSheet 14 = .ok (.ireturn, 1) := by decide +kernel
theorem d_Alg_isTurn_0 : dec m_Alg_isTurn 0 = .ok (.iload_n 0, 1) := by decide +kernel
theorem d_Alg_isTurn_1 : dec m_Alg_isTurn 1 = .ok (.ifCond .lt 13, 3) := by decide +kernel
theorem d_Alg_isTurn_4 : dec m_Alg_isTurn 4 = .ok (.iload_n 0, 1) := by decide +kernel
theorem d_Alg_isTurn_5 : dec m_Alg_isTurn 5 = .ok (.bipush 6, 2) := by decide +kernel
theorem d_Alg_isTurn_7 : dec m_Alg_isTurn 7 = .ok (.if_icmp .ge 7, 3) := by decide +kernel
theorem d_Alg_isTurn_10 : dec m_Alg_isTurn 10 = .ok (.iconst 1, 1) := by decide +kernel
theorem d_Alg_isTurn_11 : dec m_Alg_isTurn 11 = .ok (.goto 4, 3) := by decide +kernel
theorem d_Alg_isTurn_14 : dec m_Alg_isTurn 14 = .ok (.iconst 0, 1) := by decide +kernel
theorem d_Alg_isTurn_15 : dec m_Alg_isTurn 15 = .ok (.ireturn, 1) := by decide +kernel
theorem d_Alg_isFactor_0 : dec m_Alg_isFactor 0 = .ok (.iload_n 0, 1) := by decide +kernel
theorem d_Alg_isFactor_1 : dec m_Alg_isFactor 1 = .ok (.sipush (-999), 3) := by decide +kernel
theorem d_Alg_isFactor_4 : dec m_Alg_isFactor 4 = .ok (.if_icmp .lt 14, 3) := by decide +kernel
theorem d_Alg_isFactor_7 : dec m_Alg_isFactor 7 = .ok (.iload_n 0, 1) := by decide +kernel
theorem d_Alg_isFactor_8 : dec m_Alg_isFactor 8 = .ok (.sipush 999, 3) := by decide +kernel
theorem d_Alg_isFactor_11 : dec m_Alg_isFactor 11 = .ok (.if_icmp .gt 7, 3) := by decide +kernel
theorem d_Alg_isFactor_14 : dec m_Alg_isFactor 14 = .ok (.iconst 1, 1) := by decide +kernel
theorem d_Alg_isFactor_15 : dec m_Alg_isFactor 15 = .ok (.goto 4, 3) := by decide +kernel
theorem d_Alg_isFactor_18 : dec m_Alg_isFactor 18 = .ok (.iconst 0, 1) := by decide +kernel
theorem d_Alg_isFactor_19 : dec m_Alg_isFactor 19 = .ok (.ireturn, 1) := by decide +kernel
theorem d_Alg_isModulus_0 : dec m_Alg_isModulus 0 = .ok (.iload_n 0, 1) := by decide +kernel
theorem d_Alg_isModulus_1 : dec m_Alg_isModulus 1 = .ok (.iconst 2, 1) := by decide +kernel
theorem d_Alg_isModulus_2 : dec m_Alg_isModulus 2 = .ok (.if_icmp .lt 14, 3) := by decide +kernel
theorem d_Alg_isModulus_5 : dec m_Alg_isModulus 5 = .ok (.iload_n 0, 1) := by decide +kernel
theorem d_Alg_isModulus_6 : dec m_Alg_isModulus 6 = .ok (.ldc_w 432, 3) := by decide +kernel
theorem d_Alg_isModulus_9 : dec m_Alg_isModulus 9 = .ok (.if_icmp .gt 7, 3) := by decide +kernel
theorem d_Alg_isModulus_12 : dec m_Alg_isModulus 12 = .ok (.iconst 1, 1) := by decide +kernel
theorem d_Alg_isModulus_13 : dec m_Alg_isModulus 13 = .ok (.goto 4, 3) := by decide +kernel
theorem d_Alg_isModulus_16 : dec m_Alg_isModulus 16 = .ok (.iconst 0, 1) := by decide +kernel
theorem d_Alg_isModulus_17 : dec m_Alg_isModulus 17 = .ok (.ireturn, 1) := by decide +kernel
theorem d_Alg_isBound_0 : dec m_Alg_isBound 0 = .ok (.iload_n 0, 1) := by decide +kernel
theorem d_Alg_isBound_1 : dec m_Alg_isBound 1 = .ok (.iconst 1, 1) := by decide +kernel
theorem d_Alg_isBound_2 : dec m_Alg_isBound 2 = .ok (.if_icmp .lt 13, 3) := by decide +kernel
theorem d_Alg_isBound_5 : dec m_Alg_isBound 5 = .ok (.iload_n 0, 1) := by decide +kernel
theorem d_Alg_isBound_6 : dec m_Alg_isBound 6 = .ok (.bipush 6, 2) := by decide +kernel
theorem d_Alg_isBound_8 : dec m_Alg_isBound 8 = .ok (.if_icmp .gt 7, 3) := by decide +kernel
theorem d_Alg_isBound_11 : dec m_Alg_isBound 11 = .ok (.iconst 1, 1) := by decide +kernel
theorem d_Alg_isBound_12 : dec m_Alg_isBound 12 = .ok (.goto 4, 3) := by decide +kernel
theorem d_Alg_isBound_15 : dec m_Alg_isBound 15 = .ok (.iconst 0, 1) := by decide +kernel
theorem d_Alg_isBound_16 : dec m_Alg_isBound 16 = .ok (.ireturn, 1) := by decide +kernel
theorem d_Alg_isStepPart_0 : dec m_Alg_isStepPart 0 = .ok (.iload_n 0, 1) := by decide +kernel
theorem d_Alg_isStepPart_1 : dec m_Alg_isStepPart 1 = .ok (.iconst (-1), 1) := by decide +kernel
theorem d_Alg_isStepPart_2 : dec m_Alg_isStepPart 2 = .ok (.if_icmp .lt 13, 3) := by decide +kernel
theorem d_Alg_isStepPart_5 : dec m_Alg_isStepPart 5 = .ok (.iload_n 0, 1) := by decide +kernel
theorem d_Alg_isStepPart_6 : dec m_Alg_isStepPart 6 = .ok (.bipush 7, 2) := by decide +kernel
theorem d_Alg_isStepPart_8 : dec m_Alg_isStepPart 8 = .ok (.if_icmp .ge 7, 3) := by decide +kernel
theorem d_Alg_isStepPart_11 : dec m_Alg_isStepPart 11 = .ok (.iconst 1, 1) := by decide +kernel
theorem d_Alg_isStepPart_12 : dec m_Alg_isStepPart 12 = .ok (.goto 4, 3) := by decide +kernel
theorem d_Alg_isStepPart_15 : dec m_Alg_isStepPart 15 = .ok (.iconst 0, 1) := by decide +kernel
theorem d_Alg_isStepPart_16 : dec m_Alg_isStepPart 16 = .ok (.ireturn, 1) := by decide +kernel
theorem d_Alg_isLink_0 : dec m_Alg_isLink 0 = .ok (.iload_n 0, 1) := by decide +kernel
theorem d_Alg_isLink_1 : dec m_Alg_isLink 1 = .ok (.tableswitch 60 0 6 #[43, 48, 53, 53, 58, 53, 58], 43) := by decide +kernel
theorem d_Alg_isLink_44 : dec m_Alg_isLink 44 = .ok (.iload_n 1, 1) := by decide +kernel
theorem d_Alg_isLink_45 : dec m_Alg_isLink 45 = .ok (.invokestatic 181, 3) := by decide +kernel
theorem d_Alg_isLink_48 : dec m_Alg_isLink 48 = .ok (.ireturn, 1) := by decide +kernel
theorem d_Alg_isLink_49 : dec m_Alg_isLink 49 = .ok (.iload_n 1, 1) := by decide +kernel
theorem d_Alg_isLink_50 : dec m_Alg_isLink 50 = .ok (.invokestatic 123, 3) := by decide +kernel
theorem d_Alg_isLink_53 : dec m_Alg_isLink 53 = .ok (.ireturn, 1) := by decide +kernel
theorem d_Alg_isLink_54 : dec m_Alg_isLink 54 = .ok (.iload_n 1, 1) := by decide +kernel
theorem d_Alg_isLink_55 : dec m_Alg_isLink 55 = .ok (.invokestatic 119, 3) := by decide +kernel
theorem d_Alg_isLink_58 : dec m_Alg_isLink 58 = .ok (.ireturn, 1) := by decide +kernel
theorem d_Alg_isLink_59 : dec m_Alg_isLink 59 = .ok (.iconst 1, 1) := by decide +kernel
theorem d_Alg_isLink_60 : dec m_Alg_isLink 60 = .ok (.ireturn, 1) := by decide +kernel
theorem d_Alg_isLink_61 : dec m_Alg_isLink 61 = .ok (.iconst 0, 1) := by decide +kernel
theorem d_Alg_isLink_62 : dec m_Alg_isLink 62 = .ok (.ireturn, 1) := by decide +kernel
theorem d_Alg_isGenerator_0 : dec m_Alg_isGenerator 0 = .ok (.iload_n 1, 1) := by decide +kernel
theorem d_Alg_isGenerator_1 : dec m_Alg_isGenerator 1 = .ok (.ifCond .lt 18, 3) := by decide +kernel
theorem d_Alg_isGenerator_4 : dec m_Alg_isGenerator 4 = .ok (.iload_n 1, 1) := by decide +kernel
theorem d_Alg_isGenerator_5 : dec m_Alg_isGenerator 5 = .ok (.aload_n 0, 1) := by decide +kernel
theorem d_Alg_isGenerator_6 : dec m_Alg_isGenerator 6 = .ok (.getfield 27, 3) := by decide +kernel
theorem d_Alg_isGenerator_9 : dec m_Alg_isGenerator 9 = .ok (.getfield 109, 3) := by decide +kernel
theorem d_Alg_isGenerator_12 : dec m_Alg_isGenerator 12 = .ok (.if_icmp .ge 7, 3) := by decide +kernel
theorem d_Alg_isGenerator_15 : dec m_Alg_isGenerator 15 = .ok (.iconst 1, 1) := by decide +kernel
theorem d_Alg_isGenerator_16 : dec m_Alg_isGenerator 16 = .ok (.goto 4, 3) := by decide +kernel
theorem d_Alg_isGenerator_19 : dec m_Alg_isGenerator 19 = .ok (.iconst 0, 1) := by decide +kernel
theorem d_Alg_isGenerator_20 : dec m_Alg_isGenerator 20 = .ok (.ireturn, 1) := by decide +kernel
theorem d_Alg_isRelation_0 : dec m_Alg_isRelation 0 = .ok (.iload_n 2, 1) := by decide +kernel
theorem d_Alg_isRelation_1 : dec m_Alg_isRelation 1 = .ok (.ifCond .lt 19, 3) := by decide +kernel
theorem d_Alg_isRelation_4 : dec m_Alg_isRelation 4 = .ok (.iload_n 2, 1) := by decide +kernel
theorem d_Alg_isRelation_5 : dec m_Alg_isRelation 5 = .ok (.aload_n 0, 1) := by decide +kernel
theorem d_Alg_isRelation_6 : dec m_Alg_isRelation 6 = .ok (.invokevirtual 336, 3) := by decide +kernel
theorem d_Alg_isRelation_9 : dec m_Alg_isRelation 9 = .ok (.iload_n 1, 1) := by decide +kernel
theorem d_Alg_isRelation_10 : dec m_Alg_isRelation 10 = .ok (.invokevirtual 340, 3) := by decide +kernel
theorem d_Alg_isRelation_13 : dec m_Alg_isRelation 13 = .ok (.if_icmp .ge 7, 3) := by decide +kernel
theorem d_Alg_isRelation_16 : dec m_Alg_isRelation 16 = .ok (.iconst 1, 1) := by decide +kernel
theorem d_Alg_isRelation_17 : dec m_Alg_isRelation 17 = .ok (.goto 4, 3) := by decide +kernel
theorem d_Alg_isRelation_20 : dec m_Alg_isRelation 20 = .ok (.iconst 0, 1) := by decide +kernel
theorem d_Alg_isRelation_21 : dec m_Alg_isRelation 21 = .ok (.ireturn, 1) := by decide +kernel
theorem d_Alg_sumOrAbove_0 : dec m_Alg_sumOrAbove 0 = .ok (.lload_n 0, 1) := by decide +kernel
theorem d_Alg_sumOrAbove_1 : dec m_Alg_sumOrAbove 1 = .ok (.lconst 0, 1) := by decide +kernel
theorem d_Alg_sumOrAbove_2 : dec m_Alg_sumOrAbove 2 = .ok (.lcmp, 1) := by decide +kernel
theorem d_Alg_sumOrAbove_3 : dec m_Alg_sumOrAbove 3 = .ok (.ifCond .lt 19, 3) := by decide +kernel
theorem d_Alg_sumOrAbove_6 : dec m_Alg_sumOrAbove 6 = .ok (.lload_n 2, 1) := by decide +kernel
theorem d_Alg_sumOrAbove_7 : dec m_Alg_sumOrAbove 7 = .ok (.lconst 0, 1) := by decide +kernel
theorem d_Alg_sumOrAbove_8 : dec m_Alg_sumOrAbove 8 = .ok (.lcmp, 1) := by decide +kernel
theorem d_Alg_sumOrAbove_9 : dec m_Alg_sumOrAbove 9 = .ok (.ifCond .lt 13, 3) := by decide +kernel
theorem d_Alg_sumOrAbove_12 : dec m_Alg_sumOrAbove 12 = .ok (.lload_n 0, 1) := by decide +kernel
theorem d_Alg_sumOrAbove_13 : dec m_Alg_sumOrAbove 13 = .ok (.ldc2_w 433, 3) := by decide +kernel
theorem d_Alg_sumOrAbove_16 : dec m_Alg_sumOrAbove 16 = .ok (.lload_n 2, 1) := by decide +kernel
theorem d_Alg_sumOrAbove_17 : dec m_Alg_sumOrAbove 17 = .ok (.lsub, 1) := by decide +kernel
theorem d_Alg_sumOrAbove_18 : dec m_Alg_sumOrAbove 18 = .ok (.lcmp, 1) := by decide +kernel
theorem d_Alg_sumOrAbove_19 : dec m_Alg_sumOrAbove 19 = .ok (.ifCond .le 7, 3) := by decide +kernel
theorem d_Alg_sumOrAbove_22 : dec m_Alg_sumOrAbove 22 = .ok (.ldc2_w 146, 3) := by decide +kernel
theorem d_Alg_sumOrAbove_25 : dec m_Alg_sumOrAbove 25 = .ok (.lreturn, 1) := by decide +kernel
theorem d_Alg_sumOrAbove_26 : dec m_Alg_sumOrAbove 26 = .ok (.lload_n 0, 1) := by decide +kernel
theorem d_Alg_sumOrAbove_27 : dec m_Alg_sumOrAbove 27 = .ok (.lload_n 2, 1) := by decide +kernel
theorem d_Alg_sumOrAbove_28 : dec m_Alg_sumOrAbove 28 = .ok (.ladd, 1) := by decide +kernel
theorem d_Alg_sumOrAbove_29 : dec m_Alg_sumOrAbove 29 = .ok (.lreturn, 1) := by decide +kernel
theorem d_Alg_productOrAbove_0 : dec m_Alg_productOrAbove 0 = .ok (.lload_n 0, 1) := by decide +kernel
theorem d_Alg_productOrAbove_1 : dec m_Alg_productOrAbove 1 = .ok (.lconst 0, 1) := by decide +kernel
theorem d_Alg_productOrAbove_2 : dec m_Alg_productOrAbove 2 = .ok (.lcmp, 1) := by decide +kernel
theorem d_Alg_productOrAbove_3 : dec m_Alg_productOrAbove 3 = .ok (.ifCond .eq 9, 3) := by decide +kernel
theorem d_Alg_productOrAbove_6 : dec m_Alg_productOrAbove 6 = .ok (.lload_n 2, 1) := by decide +kernel
theorem d_Alg_productOrAbove_7 : dec m_Alg_productOrAbove 7 = .ok (.lconst 0, 1) := by decide +kernel
theorem d_Alg_productOrAbove_8 : dec m_Alg_productOrAbove 8 = .ok (.lcmp, 1) := by decide +kernel
theorem d_Alg_productOrAbove_9 : dec m_Alg_productOrAbove 9 = .ok (.ifCond .ne 5, 3) := by decide +kernel
theorem d_Alg_productOrAbove_12 : dec m_Alg_productOrAbove 12 = .ok (.lconst 0, 1) := by decide +kernel
theorem d_Alg_productOrAbove_13 : dec m_Alg_productOrAbove 13 = .ok (.lreturn, 1) := by decide +kernel
theorem d_Alg_productOrAbove_14 : dec m_Alg_productOrAbove 14 = .ok (.lload_n 0, 1) := by decide +kernel
theorem d_Alg_productOrAbove_15 : dec m_Alg_productOrAbove 15 = .ok (.lconst 0, 1) := by decide +kernel
theorem d_Alg_productOrAbove_16 : dec m_Alg_productOrAbove 16 = .ok (.lcmp, 1) := by decide +kernel
theorem d_Alg_productOrAbove_17 : dec m_Alg_productOrAbove 17 = .ok (.ifCond .lt 19, 3) := by decide +kernel
theorem d_Alg_productOrAbove_20 : dec m_Alg_productOrAbove 20 = .ok (.lload_n 2, 1) := by decide +kernel
theorem d_Alg_productOrAbove_21 : dec m_Alg_productOrAbove 21 = .ok (.lconst 0, 1) := by decide +kernel
theorem d_Alg_productOrAbove_22 : dec m_Alg_productOrAbove 22 = .ok (.lcmp, 1) := by decide +kernel
theorem d_Alg_productOrAbove_23 : dec m_Alg_productOrAbove 23 = .ok (.ifCond .lt 13, 3) := by decide +kernel
theorem d_Alg_productOrAbove_26 : dec m_Alg_productOrAbove 26 = .ok (.lload_n 0, 1) := by decide +kernel
theorem d_Alg_productOrAbove_27 : dec m_Alg_productOrAbove 27 = .ok (.ldc2_w 433, 3) := by decide +kernel
theorem d_Alg_productOrAbove_30 : dec m_Alg_productOrAbove 30 = .ok (.lload_n 2, 1) := by decide +kernel
theorem d_Alg_productOrAbove_31 : dec m_Alg_productOrAbove 31 = .ok (.ldiv, 1) := by decide +kernel
theorem d_Alg_productOrAbove_32 : dec m_Alg_productOrAbove 32 = .ok (.lcmp, 1) := by decide +kernel
theorem d_Alg_productOrAbove_33 : dec m_Alg_productOrAbove 33 = .ok (.ifCond .le 7, 3) := by decide +kernel
theorem d_Alg_productOrAbove_36 : dec m_Alg_productOrAbove 36 = .ok (.ldc2_w 146, 3) := by decide +kernel
theorem d_Alg_productOrAbove_39 : dec m_Alg_productOrAbove 39 = .ok (.lreturn, 1) := by decide +kernel
theorem d_Alg_productOrAbove_40 : dec m_Alg_productOrAbove 40 = .ok (.lload_n 0, 1) := by decide +kernel
theorem d_Alg_productOrAbove_41 : dec m_Alg_productOrAbove 41 = .ok (.lload_n 2, 1) := by decide +kernel
theorem d_Alg_productOrAbove_42 : dec m_Alg_productOrAbove 42 = .ok (.lmul, 1) := by decide +kernel
theorem d_Alg_productOrAbove_43 : dec m_Alg_productOrAbove 43 = .ok (.lreturn, 1) := by decide +kernel
theorem d_Alg_generatorsChanged_0 : dec m_Alg_generatorsChanged 0 = .ok (.aload_n 0, 1) := by decide +kernel
theorem d_Alg_generatorsChanged_1 : dec m_Alg_generatorsChanged 1 = .ok (.getfield 34, 3) := by decide +kernel
theorem d_Alg_generatorsChanged_4 : dec m_Alg_generatorsChanged 4 = .ok (.aload_n 0, 1) := by decide +kernel
theorem d_Alg_generatorsChanged_5 : dec m_Alg_generatorsChanged 5 = .ok (.getfield 27, 3) := by decide +kernel
theorem d_Alg_generatorsChanged_8 : dec m_Alg_generatorsChanged 8 = .ok (.invokevirtual 105, 3) := by decide +kernel
theorem d_Alg_generatorsChanged_11 : dec m_Alg_generatorsChanged 11 = .ok (.aload_n 0, 1) := by decide +kernel
theorem d_Alg_generatorsChanged_12 : dec m_Alg_generatorsChanged 12 = .ok (.iconst 0, 1) := by decide +kernel
theorem d_Alg_generatorsChanged_13 : dec m_Alg_generatorsChanged 13 = .ok (.putfield 90, 3) := by decide +kernel
theorem d_Alg_generatorsChanged_16 : dec m_Alg_generatorsChanged 16 = .ok (.aload_n 0, 1) := by decide +kernel
theorem d_Alg_generatorsChanged_17 : dec m_Alg_generatorsChanged 17 = .ok (.iconst 0, 1) := by decide +kernel
theorem d_Alg_generatorsChanged_18 : dec m_Alg_generatorsChanged 18 = .ok (.putfield 93, 3) := by decide +kernel
theorem d_Alg_generatorsChanged_21 : dec m_Alg_generatorsChanged 21 = .ok (.return_, 1) := by decide +kernel
theorem d_Alg_relationsNow_0 : dec m_Alg_relationsNow 0 = .ok (.aload_n 0, 1) := by decide +kernel
theorem d_Alg_relationsNow_1 : dec m_Alg_relationsNow 1 = .ok (.getfield 90, 3) := by decide +kernel
theorem d_Alg_relationsNow_4 : dec m_Alg_relationsNow 4 = .ok (.ifCond .ne 23, 3) := by decide +kernel
theorem d_Alg_relationsNow_7 : dec m_Alg_relationsNow 7 = .ok (.aload_n 0, 1) := by decide +kernel
theorem d_Alg_relationsNow_8 : dec m_Alg_relationsNow 8 = .ok (.getfield 41, 3) := by decide +kernel
theorem d_Alg_relationsNow_11 : dec m_Alg_relationsNow 11 = .ok (.aload_n 0, 1) := by decide +kernel
theorem d_Alg_relationsNow_12 : dec m_Alg_relationsNow 12 = .ok (.getfield 34, 3) := by decide +kernel
theorem d_Alg_relationsNow_15 : dec m_Alg_relationsNow 15 = .ok (.aload_n 0, 1) := by decide +kernel
theorem d_Alg_relationsNow_16 : dec m_Alg_relationsNow 16 = .ok (.getfield 20, 3) := by decide +kernel
theorem d_Alg_relationsNow_19 : dec m_Alg_relationsNow 19 = .ok (.invokevirtual 435, 3) := by decide +kernel
theorem d_Alg_relationsNow_22 : dec m_Alg_relationsNow 22 = .ok (.aload_n 0, 1) := by decide +kernel
theorem d_Alg_relationsNow_23 : dec m_Alg_relationsNow 23 = .ok (.iconst 1, 1) := by decide +kernel
theorem d_Alg_relationsNow_24 : dec m_Alg_relationsNow 24 = .ok (.putfield 90, 3) := by decide +kernel
theorem d_Alg_relationsNow_27 : dec m_Alg_relationsNow 27 = .ok (.aload_n 0, 1) := by decide +kernel
theorem d_Alg_relationsNow_28 : dec m_Alg_relationsNow 28 = .ok (.getfield 41, 3) := by decide +kernel
theorem d_Alg_relationsNow_31 : dec m_Alg_relationsNow 31 = .ok (.areturn, 1) := by decide +kernel
theorem d_Alg_gridNow_0 : dec m_Alg_gridNow 0 = .ok (.aload_n 0, 1) := by decide +kernel
theorem d_Alg_gridNow_1 : dec m_Alg_gridNow 1 = .ok (.getfield 93, 3) := by decide +kernel
theorem d_Alg_gridNow_4 : dec m_Alg_gridNow 4 = .ok (.ifCond .ne 19, 3) := by decide +kernel
theorem d_Alg_gridNow_7 : dec m_Alg_gridNow 7 = .ok (.aload_n 0, 1) := by decide +kernel
theorem d_Alg_gridNow_8 : dec m_Alg_gridNow 8 = .ok (.getfield 48, 3) := by decide +kernel
theorem d_Alg_gridNow_11 : dec m_Alg_gridNow 11 = .ok (.aload_n 0, 1) := by decide +kernel
theorem d_Alg_gridNow_12 : dec m_Alg_gridNow 12 = .ok (.getfield 27, 3) := by decide +kernel
theorem d_Alg_gridNow_15 : dec m_Alg_gridNow 15 = .ok (.invokevirtual 438, 3) := by decide +kernel
theorem d_Alg_gridNow_18 : dec m_Alg_gridNow 18 = .ok (.aload_n 0, 1) := by decide +kernel
theorem d_Alg_gridNow_19 : dec m_Alg_gridNow 19 = .ok (.iconst 1, 1) := by decide +kernel
theorem d_Alg_gridNow_20 : dec m_Alg_gridNow 20 = .ok (.putfield 93, 3) := by decide +kernel
theorem d_Alg_gridNow_23 : dec m_Alg_gridNow 23 = .ok (.aload_n 0, 1) := by decide +kernel
theorem d_Alg_gridNow_24 : dec m_Alg_gridNow 24 = .ok (.getfield 48, 3) := by decide +kernel
theorem d_Alg_gridNow_27 : dec m_Alg_gridNow 27 = .ok (.areturn, 1) := by decide +kernel
theorem d_Alg_putWork_0 : dec m_Alg_putWork 0 = .ok (.aload_n 0, 1) := by decide +kernel
theorem d_Alg_putWork_1 : dec m_Alg_putWork 1 = .ok (.getfield 13, 3) := by decide +kernel
theorem d_Alg_putWork_4 : dec m_Alg_putWork 4 = .ok (.iload_n 1, 1) := by decide +kernel
theorem d_Alg_putWork_5 : dec m_Alg_putWork 5 = .ok (.aaload, 1) := by decide +kernel
theorem d_Alg_putWork_6 : dec m_Alg_putWork 6 = .ok (.aload_n 0, 1) := by decide +kernel
theorem d_Alg_putWork_7 : dec m_Alg_putWork 7 = .ok (.getfield 65, 3) := by decide +kernel
theorem d_Alg_putWork_10 : dec m_Alg_putWork 10 = .ok (.invokevirtual 170, 3) := by decide +kernel
theorem d_Alg_putWork_13 : dec m_Alg_putWork 13 = .ok (.aload_n 0, 1) := by decide +kernel
theorem d_Alg_putWork_14 : dec m_Alg_putWork 14 = .ok (.getfield 65, 3) := by decide +kernel
theorem d_Alg_putWork_17 : dec m_Alg_putWork 17 = .ok (.invokevirtual 156, 3) := by decide +kernel
theorem d_Alg_putWork_20 : dec m_Alg_putWork 20 = .ok (.ireturn, 1) := by decide +kernel
theorem d_Alg_multiplyWork_0 : dec m_Alg_multiplyWork 0 = .ok (.aload_n 0, 1) := by decide +kernel
theorem d_Alg_multiplyWork_1 : dec m_Alg_multiplyWork 1 = .ok (.getfield 65, 3) := by decide +kernel
theorem d_Alg_multiplyWork_4 : dec m_Alg_multiplyWork 4 = .ok (.invokevirtual 363, 3) := by decide +kernel
theorem d_Alg_multiplyWork_7 : dec m_Alg_multiplyWork 7 = .ok (.ifCond .ne 30, 3) := by decide +kernel
theorem d_Alg_multiplyWork_10 : dec m_Alg_multiplyWork 10 = .ok (.aload_n 1, 1) := by decide +kernel
theorem d_Alg_multiplyWork_11 : dec m_Alg_multiplyWork 11 = .ok (.invokevirtual 363, 3) := by decide +kernel
theorem d_Alg_multiplyWork_14 : dec m_Alg_multiplyWork 14 = .ok (.ifCond .ne 23, 3) := by decide +kernel
theorem d_Alg_multiplyWork_17 : dec m_Alg_multiplyWork 17 = .ok (.aload_n 0, 1) := by decide +kernel
theorem d_Alg_multiplyWork_18 : dec m_Alg_multiplyWork 18 = .ok (.getfield 65, 3) := by decide +kernel
theorem d_Alg_multiplyWork_21 : dec m_Alg_multiplyWork 21 = .ok (.invokevirtual 439, 3) := by decide +kernel
theorem d_Alg_multiplyWork_24 : dec m_Alg_multiplyWork 24 = .ok (.aload_n 1, 1) := by decide +kernel
theorem d_Alg_multiplyWork_25 : dec m_Alg_multiplyWork 25 = .ok (.invokevirtual 439, 3) := by decide +kernel
theorem d_Alg_multiplyWork_28 : dec m_Alg_multiplyWork 28 = .ok (.iadd, 1) := by decide +kernel
theorem d_Alg_multiplyWork_29 : dec m_Alg_multiplyWork 29 = .ok (.bipush 6, 2) := by decide +kernel
theorem d_Alg_multiplyWork_31 : dec m_Alg_multiplyWork 31 = .ok (.if_icmp .le 6, 3) := by decide +kernel
theorem d_Alg_multiplyWork_34 : dec m_Alg_multiplyWork 34 = .ok (.bipush (-6), 2) := by decide +kernel
theorem d_Alg_multiplyWork_36 : dec m_Alg_multiplyWork 36 = .ok (.ireturn, 1) := by decide +kernel
theorem d_Alg_multiplyWork_37 : dec m_Alg_multiplyWork 37 = .ok (.aload_n 0, 1) := by decide +kernel
theorem d_Alg_multiplyWork_38 : dec m_Alg_multiplyWork 38 = .ok (.getfield 65, 3) := by decide +kernel
theorem d_Alg_multiplyWork_41 : dec m_Alg_multiplyWork 41 = .ok (.invokevirtual 132, 3) := by decide +kernel
theorem d_Alg_multiplyWork_44 : dec m_Alg_multiplyWork 44 = .ok (.aload_n 1, 1) := by decide +kernel
theorem d_Alg_multiplyWork_45 : dec m_Alg_multiplyWork 45 = .ok (.invokevirtual 132, 3) := by decide +kernel
theorem d_Alg_multiplyWork_48 : dec m_Alg_multiplyWork 48 = .ok (.invokestatic 163, 3) := by decide +kernel
theorem d_Alg_multiplyWork_51 : dec m_Alg_multiplyWork 51 = .ok (.ldc2_w 146, 3) := by decide +kernel
theorem d_Alg_multiplyWork_54 : dec m_Alg_multiplyWork 54 = .ok (.lcmp, 1) := by decide +kernel
theorem d_Alg_multiplyWork_55 : dec m_Alg_multiplyWork 55 = .ok (.ifCond .ne 6, 3) := by decide +kernel
theorem d_Alg_multiplyWork_58 : dec m_Alg_multiplyWork 58 = .ok (.bipush (-5), 2) := by decide +kernel
theorem d_Alg_multiplyWork_60 : dec m_Alg_multiplyWork 60 = .ok (.ireturn, 1) := by decide +kernel
theorem d_Alg_multiplyWork_61 : dec m_Alg_multiplyWork 61 = .ok (.aload_n 0, 1) := by decide +kernel
theorem d_Alg_multiplyWork_62 : dec m_Alg_multiplyWork 62 = .ok (.getfield 65, 3) := by decide +kernel
theorem d_Alg_multiplyWork_65 : dec m_Alg_multiplyWork 65 = .ok (.aload_n 1, 1) := by decide +kernel
theorem d_Alg_multiplyWork_66 : dec m_Alg_multiplyWork 66 = .ok (.invokevirtual 442, 3) := by decide +kernel
theorem d_Alg_multiplyWork_69 : dec m_Alg_multiplyWork 69 = .ok (.iconst 0, 1) := by decide +kernel
theorem d_Alg_multiplyWork_70 : dec m_Alg_multiplyWork 70 = .ok (.ireturn, 1) := by decide +kernel
theorem d_Alg_addToWork_0 : dec m_Alg_addToWork 0 = .ok (.aload_n 0, 1) := by decide +kernel
theorem d_Alg_addToWork_1 : dec m_Alg_addToWork 1 = .ok (.getfield 65, 3) := by decide +kernel
theorem d_Alg_addToWork_4 : dec m_Alg_addToWork 4 = .ok (.invokevirtual 132, 3) := by decide +kernel
theorem d_Alg_addToWork_7 : dec m_Alg_addToWork 7 = .ok (.aload_n 1, 1) := by decide +kernel
theorem d_Alg_addToWork_8 : dec m_Alg_addToWork 8 = .ok (.invokevirtual 132, 3) := by decide +kernel
theorem d_Alg_addToWork_11 : dec m_Alg_addToWork 11 = .ok (.invokestatic 142, 3) := by decide +kernel
theorem d_Alg_addToWork_14 : dec m_Alg_addToWork 14 = .ok (.ldc2_w 146, 3) := by decide +kernel
theorem d_Alg_addToWork_17 : dec m_Alg_addToWork 17 = .ok (.lcmp, 1) := by decide +kernel
theorem d_Alg_addToWork_18 : dec m_Alg_addToWork 18 = .ok (.ifCond .ne 6, 3) := by decide +kernel
theorem d_Alg_addToWork_21 : dec m_Alg_addToWork 21 = .ok (.bipush (-5), 2) := by decide +kernel
theorem d_Alg_addToWork_23 : dec m_Alg_addToWork 23 = .ok (.ireturn, 1) := by decide +kernel
theorem d_Alg_addToWork_24 : dec m_Alg_addToWork 24 = .ok (.aload_n 0, 1) := by decide +kernel
theorem d_Alg_addToWork_25 : dec m_Alg_addToWork 25 = .ok (.getfield 65, 3) := by decide +kernel
theorem d_Alg_addToWork_28 : dec m_Alg_addToWork 28 = .ok (.aload_n 1, 1) := by decide +kernel
theorem d_Alg_addToWork_29 : dec m_Alg_addToWork 29 = .ok (.lconst 1, 1) := by decide +kernel
theorem d_Alg_addToWork_30 : dec m_Alg_addToWork 30 = .ok (.invokevirtual 166, 3) := by decide +kernel
theorem d_Alg_addToWork_33 : dec m_Alg_addToWork 33 = .ok (.iconst 0, 1) := by decide +kernel
theorem d_Alg_addToWork_34 : dec m_Alg_addToWork 34 = .ok (.ireturn, 1) := by decide +kernel
theorem d_Alg_scaleWork_0 : dec m_Alg_scaleWork 0 = .ok (.iload_n 1, 1) := by decide +kernel
theorem d_Alg_scaleWork_1 : dec m_Alg_scaleWork 1 = .ok (.invokestatic 136, 3) := by decide +kernel
theorem d_Alg_scaleWork_4 : dec m_Alg_scaleWork 4 = .ok (.i2l, 1) := by decide +kernel
theorem d_Alg_scaleWork_5 : dec m_Alg_scaleWork 5 = .ok (.aload_n 0, 1) := by decide +kernel
theorem d_Alg_scaleWork_6 : dec m_Alg_scaleWork 6 = .ok (.getfield 65, 3) := by decide +kernel
theorem d_Alg_scaleWork_9 : dec m_Alg_scaleWork 9 = .ok (.invokevirtual 132, 3) := by decide +kernel
theorem d_Alg_scaleWork_12 : dec m_Alg_scaleWork 12 = .ok (.invokestatic 163, 3) := by decide +kernel
theorem d_Alg_scaleWork_15 : dec m_Alg_scaleWork 15 = .ok (.ldc2_w 146, 3) := by decide +kernel
theorem d_Alg_scaleWork_18 : dec m_Alg_scaleWork 18 = .ok (.lcmp, 1) := by decide +kernel
theorem d_Alg_scaleWork_19 : dec m_Alg_scaleWork 19 = .ok (.ifCond .ne 6, 3) := by decide +kernel
theorem d_Alg_scaleWork_22 : dec m_Alg_scaleWork 22 = .ok (.bipush (-5), 2) := by decide +kernel
theorem d_Alg_scaleWork_24 : dec m_Alg_scaleWork 24 = .ok (.ireturn, 1) := by decide +kernel
theorem d_Alg_scaleWork_25 : dec m_Alg_scaleWork 25 = .ok (.aload_n 0, 1) := by decide +kernel
theorem d_Alg_scaleWork_26 : dec m_Alg_scaleWork 26 = .ok (.getfield 65, 3) := by decide +kernel
theorem d_Alg_scaleWork_29 : dec m_Alg_scaleWork 29 = .ok (.iload_n 1, 1) := by decide +kernel
theorem d_Alg_scaleWork_30 : dec m_Alg_scaleWork 30 = .ok (.i2l, 1) := by decide +kernel
theorem d_Alg_scaleWork_31 : dec m_Alg_scaleWork 31 = .ok (.invokevirtual 445, 3) := by decide +kernel
theorem d_Alg_scaleWork_34 : dec m_Alg_scaleWork 34 = .ok (.iconst 0, 1) := by decide +kernel
theorem d_Alg_scaleWork_35 : dec m_Alg_scaleWork 35 = .ok (.ireturn, 1) := by decide +kernel
theorem d_Alg_passLink_0 : dec m_Alg_passLink 0 = .ok (.aload_n 1, 1) := by decide +kernel
theorem d_Alg_passLink_1 : dec m_Alg_passLink 1 = .ok (.getfield 403, 3) := by decide +kernel
theorem d_Alg_passLink_4 : dec m_Alg_passLink 4 = .ok (.tableswitch 127 0 5 #[40, 68, 77, 86, 100, 118], 40) := by decide +kernel
theorem d_Alg_passLink_44 : dec m_Alg_passLink 44 = .ok (.aload_n 0, 1) := by decide +kernel
theorem d_Alg_passLink_45 : dec m_Alg_passLink 45 = .ok (.getfield 69, 3) := by decide +kernel
theorem d_Alg_passLink_48 : dec m_Alg_passLink 48 = .ok (.aload_n 0, 1) := by decide +kernel
theorem d_Alg_passLink_49 : dec m_Alg_passLink 49 = .ok (.getfield 65, 3) := by decide +kernel
theorem d_Alg_passLink_52 : dec m_Alg_passLink 52 = .ok (.invokevirtual 170, 3) := by decide +kernel
theorem d_Alg_passLink_55 : dec m_Alg_passLink 55 = .ok (.aload_n 0, 1) := by decide +kernel
theorem d_Alg_passLink_56 : dec m_Alg_passLink 56 = .ok (.getfield 65, 3) := by decide +kernel
theorem d_Alg_passLink_59 : dec m_Alg_passLink 59 = .ok (.aload_n 0, 1) := by decide +kernel
theorem d_Alg_passLink_60 : dec m_Alg_passLink 60 = .ok (.getfield 69, 3) := by decide +kernel
theorem d_Alg_passLink_63 : dec m_Alg_passLink 63 = .ok (.aload_n 1, 1) := by decide +kernel
theorem d_Alg_passLink_64 : dec m_Alg_passLink 64 = .ok (.getfield 406, 3) := by decide +kernel
theorem d_Alg_passLink_67 : dec m_Alg_passLink 67 = .ok (.invokevirtual 184, 3) := by decide +kernel
theorem d_Alg_passLink_70 : dec m_Alg_passLink 70 = .ok (.iconst 0, 1) := by decide +kernel
theorem d_Alg_passLink_71 : dec m_Alg_passLink 71 = .ok (.ireturn, 1) := by decide +kernel
theorem d_Alg_passLink_72 : dec m_Alg_passLink 72 = .ok (.aload_n 0, 1) := by decide +kernel
theorem d_Alg_passLink_73 : dec m_Alg_passLink 73 = .ok (.aload_n 1, 1) := by decide +kernel
theorem d_Alg_passLink_74 : dec m_Alg_passLink 74 = .ok (.getfield 406, 3) := by decide +kernel
theorem d_Alg_passLink_77 : dec m_Alg_passLink 77 = .ok (.invokevirtual 449, 3) := by decide +kernel
theorem d_Alg_passLink_80 : dec m_Alg_passLink 80 = .ok (.ireturn, 1) := by decide +kernel
theorem d_Alg_passLink_81 : dec m_Alg_passLink 81 = .ok (.aload_n 0, 1) := by decide +kernel
theorem d_Alg_passLink_82 : dec m_Alg_passLink 82 = .ok (.aload_n 1, 1) := by decide +kernel
theorem d_Alg_passLink_83 : dec m_Alg_passLink 83 = .ok (.getfield 409, 3) := by decide +kernel
theorem d_Alg_passLink_86 : dec m_Alg_passLink 86 = .ok (.invokevirtual 452, 3) := by decide +kernel
theorem d_Alg_passLink_89 : dec m_Alg_passLink 89 = .ok (.ireturn, 1) := by decide +kernel
theorem d_Alg_passLink_90 : dec m_Alg_passLink 90 = .ok (.aload_n 0, 1) := by decide +kernel
theorem d_Alg_passLink_91 : dec m_Alg_passLink 91 = .ok (.aload_n 0, 1) := by decide +kernel
theorem d_Alg_passLink_92 : dec m_Alg_passLink 92 = .ok (.getfield 13, 3) := by decide +kernel
theorem d_Alg_passLink_95 : dec m_Alg_passLink 95 = .ok (.aload_n 1, 1) := by decide +kernel
theorem d_Alg_passLink_96 : dec m_Alg_passLink 96 = .ok (.getfield 406, 3) := by decide +kernel
theorem d_Alg_passLink_99 : dec m_Alg_passLink 99 = .ok (.aaload, 1) := by decide +kernel
theorem d_Alg_passLink_100 : dec m_Alg_passLink 100 = .ok (.invokevirtual 452, 3) := by decide +kernel
theorem d_Alg_passLink_103 : dec m_Alg_passLink 103 = .ok (.ireturn, 1) := by decide +kernel
theorem d_Alg_passLink_104 : dec m_Alg_passLink 104 = .ok (.aload_n 0, 1) := by decide +kernel
theorem d_Alg_passLink_105 : dec m_Alg_passLink 105 = .ok (.aload_n 0, 1) := by decide +kernel
theorem d_Alg_passLink_106 : dec m_Alg_passLink 106 = .ok (.getfield 79, 3) := by decide +kernel
theorem d_Alg_passLink_109 : dec m_Alg_passLink 109 = .ok (.invokevirtual 360, 3) := by decide +kernel
theorem d_Alg_passLink_112 : dec m_Alg_passLink 112 = .ok (.ifCond .eq 7, 3) := by decide +kernel
theorem d_Alg_passLink_115 : dec m_Alg_passLink 115 = .ok (.iconst 0, 1) := by decide +kernel
theorem d_Alg_passLink_116 : dec m_Alg_passLink 116 = .ok (.goto 5, 3) := by decide +kernel
theorem d_Alg_passLink_119 : dec m_Alg_passLink 119 = .ok (.bipush (-5), 2) := by decide +kernel
theorem d_Alg_passLink_121 : dec m_Alg_passLink 121 = .ok (.ireturn, 1) := by decide +kernel
theorem d_Alg_passLink_122 : dec m_Alg_passLink 122 = .ok (.aload_n 0, 1) := by decide +kernel
theorem d_Alg_passLink_123 : dec m_Alg_passLink 123 = .ok (.aload_n 1, 1) := by decide +kernel
theorem d_Alg_passLink_124 : dec m_Alg_passLink 124 = .ok (.getfield 409, 3) := by decide +kernel
theorem d_Alg_passLink_127 : dec m_Alg_passLink 127 = .ok (.invokevirtual 174, 3) := by decide +kernel
theorem d_Alg_passLink_130 : dec m_Alg_passLink 130 = .ok (.ireturn, 1) := by decide +kernel
theorem d_Alg_passLink_131 : dec m_Alg_passLink 131 = .ok (.aload_n 0, 1) := by decide +kernel
theorem d_Alg_passLink_132 : dec m_Alg_passLink 132 = .ok (.getfield 65, 3) := by decide +kernel
theorem d_Alg_passLink_135 : dec m_Alg_passLink 135 = .ok (.ldc2_w 146, 3) := by decide +kernel
theorem d_Alg_passLink_138 : dec m_Alg_passLink 138 = .ok (.invokevirtual 445, 3) := by decide +kernel
theorem d_Alg_passLink_141 : dec m_Alg_passLink 141 = .ok (.iconst 0, 1) := by decide +kernel
theorem d_Alg_passLink_142 : dec m_Alg_passLink 142 = .ok (.ireturn, 1) := by decide +kernel
theorem d_Alg_readTold_0 : dec m_Alg_readTold 0 = .ok (.iconst 4, 1) := by decide +kernel
theorem d_Alg_readTold_1 : dec m_Alg_readTold 1 = .ok (.iload_n 3, 1) := by decide +kernel
theorem d_Alg_readTold_2 : dec m_Alg_readTold 2 = .ok (.imul, 1) := by decide +kernel
theorem d_Alg_readTold_3 : dec m_Alg_readTold 3 = .ok (.istore 4, 2) := by decide +kernel
theorem d_Alg_readTold_5 : dec m_Alg_readTold 5 = .ok (.iload_n 2, 1) := by decide +kernel
theorem d_Alg_readTold_6 : dec m_Alg_readTold 6 = .ok (.ifCond .lt 24, 3) := by decide +kernel
theorem d_Alg_readTold_9 : dec m_Alg_readTold 9 = .ok (.iload_n 2, 1) := by decide +kernel
theorem d_Alg_readTold_10 : dec m_Alg_readTold 10 = .ok (.aload_n 1, 1) := by decide +kernel
theorem d_Alg_readTold_11 : dec m_Alg_readTold 11 = .ok (.getfield 225, 3) := by decide +kernel
theorem d_Alg_readTold_14 : dec m_Alg_readTold 14 = .ok (.if_icmp .gt 16, 3) := by decide +kernel
theorem d_Alg_readTold_17 : dec m_Alg_readTold 17 = .ok (.iload_n 2, 1) := by decide +kernel
theorem d_Alg_readTold_18 : dec m_Alg_readTold 18 = .ok (.iload 4, 2) := by decide +kernel
theorem d_Alg_readTold_20 : dec m_Alg_readTold 20 = .ok (.iadd, 1) := by decide +kernel
theorem d_Alg_readTold_21 : dec m_Alg_readTold 21 = .ok (.iconst 4, 1) := by decide +kernel
theorem d_Alg_readTold_22 : dec m_Alg_readTold 22 = .ok (.iadd, 1) := by decide +kernel
theorem d_Alg_readTold_23 : dec m_Alg_readTold 23 = .ok (.aload_n 1, 1) := by decide +kernel
theorem d_Alg_readTold_24 : dec m_Alg_readTold 24 = .ok (.getfield 225, 3) := by decide +kernel
theorem d_Alg_readTold_27 : dec m_Alg_readTold 27 = .ok (.if_icmp .le 6, 3) := by decide +kernel
theorem d_Alg_readTold_30 : dec m_Alg_readTold 30 = .ok (.bipush (-12), 2) := by decide +kernel
theorem d_Alg_readTold_32 : dec m_Alg_readTold 32 = .ok (.ireturn, 1) := by decide +kernel
theorem d_Alg_readTold_33 : dec m_Alg_readTold 33 = .ok (.aload_n 1, 1) := by decide +kernel
theorem d_Alg_readTold_34 : dec m_Alg_readTold 34 = .ok (.getfield 385, 3) := by decide +kernel
theorem d_Alg_readTold_37 : dec m_Alg_readTold 37 = .ok (.iload_n 2, 1) := by decide +kernel
theorem d_Alg_readTold_38 : dec m_Alg_readTold 38 = .ok (.iload 4, 2) := by decide +kernel
theorem d_Alg_readTold_40 : dec m_Alg_readTold 40 = .ok (.iadd, 1) := by decide +kernel
theorem d_Alg_readTold_41 : dec m_Alg_readTold 41 = .ok (.iaload, 1) := by decide +kernel
theorem d_Alg_readTold_42 : dec m_Alg_readTold 42 = .ok (.istore 5, 2) := by decide +kernel
theorem d_Alg_readTold_44 : dec m_Alg_readTold 44 = .ok (.aload_n 1, 1) := by decide +kernel
theorem d_Alg_readTold_45 : dec m_Alg_readTold 45 = .ok (.getfield 385, 3) := by decide +kernel
theorem d_Alg_readTold_48 : dec m_Alg_readTold 48 = .ok (.iload_n 2, 1) := by decide +kernel
theorem d_Alg_readTold_49 : dec m_Alg_readTold 49 = .ok (.iload 4, 2) := by decide +kernel
theorem d_Alg_readTold_51 : dec m_Alg_readTold 51 = .ok (.iadd, 1) := by decide +kernel
theorem d_Alg_readTold_52 : dec m_Alg_readTold 52 = .ok (.iconst 1, 1) := by decide +kernel
theorem d_Alg_readTold_53 : dec m_Alg_readTold 53 = .ok (.iadd, 1) := by decide +kernel
theorem d_Alg_readTold_54 : dec m_Alg_readTold 54 = .ok (.iaload, 1) := by decide +kernel
theorem d_Alg_readTold_55 : dec m_Alg_readTold 55 = .ok (.istore 6, 2) := by decide +kernel
theorem d_Alg_readTold_57 : dec m_Alg_readTold 57 = .ok (.aload_n 1, 1) := by decide +kernel
theorem d_Alg_readTold_58 : dec m_Alg_readTold 58 = .ok (.getfield 385, 3) := by decide +kernel
theorem d_Alg_readTold_61 : dec m_Alg_readTold 61 = .ok (.iload_n 2, 1) := by decide +kernel
theorem d_Alg_readTold_62 : dec m_Alg_readTold 62 = .ok (.iload 4, 2) := by decide +kernel
theorem d_Alg_readTold_64 : dec m_Alg_readTold 64 = .ok (.iadd, 1) := by decide +kernel
theorem d_Alg_readTold_65 : dec m_Alg_readTold 65 = .ok (.iconst 2, 1) := by decide +kernel
theorem d_Alg_readTold_66 : dec m_Alg_readTold 66 = .ok (.iadd, 1) := by decide +kernel
theorem d_Alg_readTold_67 : dec m_Alg_readTold 67 = .ok (.iaload, 1) := by decide +kernel
theorem d_Alg_readTold_68 : dec m_Alg_readTold 68 = .ok (.istore 7, 2) := by decide +kernel
theorem d_Alg_readTold_70 : dec m_Alg_readTold 70 = .ok (.aload_n 1, 1) := by decide +kernel
theorem d_Alg_readTold_71 : dec m_Alg_readTold 71 = .ok (.getfield 385, 3) := by decide +kernel
theorem d_Alg_readTold_74 : dec m_Alg_readTold 74 = .ok (.iload_n 2, 1) := by decide +kernel
theorem d_Alg_readTold_75 : dec m_Alg_readTold 75 = .ok (.iload 4, 2) := by decide +kernel
theorem d_Alg_readTold_77 : dec m_Alg_readTold 77 = .ok (.iadd, 1) := by decide +kernel
theorem d_Alg_readTold_78 : dec m_Alg_readTold 78 = .ok (.iconst 3, 1) := by decide +kernel
theorem d_Alg_readTold_79 : dec m_Alg_readTold 79 = .ok (.iadd, 1) := by decide +kernel
theorem d_Alg_readTold_80 : dec m_Alg_readTold 80 = .ok (.iaload, 1) := by decide +kernel
theorem d_Alg_readTold_81 : dec m_Alg_readTold 81 = .ok (.istore 8, 2) := by decide +kernel
theorem d_Alg_readTold_83 : dec m_Alg_readTold 83 = .ok (.iload 5, 2) := by decide +kernel
theorem d_Alg_readTold_85 : dec m_Alg_readTold 85 = .ok (.invokestatic 123, 3) := by decide +kernel
theorem d_Alg_readTold_88 : dec m_Alg_readTold 88 = .ok (.ifCond .eq 15, 3) := by decide +kernel
theorem d_Alg_readTold_91 : dec m_Alg_readTold 91 = .ok (.iload 6, 2) := by decide +kernel
theorem d_Alg_readTold_93 : dec m_Alg_readTold 93 = .ok (.iload 7, 2) := by decide +kernel
theorem d_Alg_readTold_95 : dec m_Alg_readTold 95 = .ok (.iload 8, 2) := by decide +kernel
theorem d_Alg_readTold_97 : dec m_Alg_readTold 97 = .ok (.invokestatic 126, 3) := by decide +kernel
theorem d_Alg_readTold_100 : dec m_Alg_readTold 100 = .ok (.ifCond .ne 5, 3) := by decide +kernel
theorem d_Alg_readTold_103 : dec m_Alg_readTold 103 = .ok (.iconst (-1), 1) := by decide +kernel
theorem d_Alg_readTold_104 : dec m_Alg_readTold 104 = .ok (.ireturn, 1) := by decide +kernel
theorem d_Alg_readTold_105 : dec m_Alg_readTold 105 = .ok (.iload 6, 2) := by decide +kernel
theorem d_Alg_readTold_107 : dec m_Alg_readTold 107 = .ok (.iload 7, 2) := by decide +kernel
theorem d_Alg_readTold_109 : dec m_Alg_readTold 109 = .ok (.iload 8, 2) := by decide +kernel
theorem d_Alg_readTold_111 : dec m_Alg_readTold 111 = .ok (.invokestatic 152, 3) := by decide +kernel
theorem d_Alg_readTold_114 : dec m_Alg_readTold 114 = .ok (.istore 9, 2) := by decide +kernel
theorem d_Alg_readTold_116 : dec m_Alg_readTold 116 = .ok (.aload_n 0, 1) := by decide +kernel
theorem d_Alg_readTold_117 : dec m_Alg_readTold 117 = .ok (.getfield 65, 3) := by decide +kernel
theorem d_Alg_readTold_120 : dec m_Alg_readTold 120 = .ok (.getfield 148, 3) := by decide +kernel
theorem d_Alg_readTold_123 : dec m_Alg_readTold 123 = .ok (.iload 9, 2) := by decide +kernel
theorem d_Alg_readTold_125 : dec m_Alg_readTold 125 = .ok (.dup2, 1) := by decide +kernel
theorem d_Alg_readTold_126 : dec m_Alg_readTold 126 = .ok (.laload, 1) := by decide +kernel
theorem d_Alg_readTold_127 : dec m_Alg_readTold 127 = .ok (.iload 5, 2) := by decide +kernel
theorem d_Alg_readTold_129 : dec m_Alg_readTold 129 = .ok (.i2l, 1) := by decide +kernel
theorem d_Alg_readTold_130 : dec m_Alg_readTold 130 = .ok (.ladd, 1) := by decide +kernel
theorem d_Alg_readTold_131 : dec m_Alg_readTold 131 = .ok (.lastore, 1) := by decide +kernel
theorem d_Alg_readTold_132 : dec m_Alg_readTold 132 = .ok (.aload_n 0, 1) := by decide +kernel
theorem d_Alg_readTold_133 : dec m_Alg_readTold 133 = .ok (.getfield 69, 3) := by decide +kernel
theorem d_Alg_readTold_136 : dec m_Alg_readTold 136 = .ok (.getfield 148, 3) := by decide +kernel
theorem d_Alg_readTold_139 : dec m_Alg_readTold 139 = .ok (.iload 9, 2) := by decide +kernel
theorem d_Alg_readTold_141 : dec m_Alg_readTold 141 = .ok (.lconst 1, 1) := by decide +kernel
theorem d_Alg_readTold_142 : dec m_Alg_readTold 142 = .ok (.lastore, 1) := by decide +kernel
theorem d_Alg_readTold_143 : dec m_Alg_readTold 143 = .ok (.iconst 0, 1) := by decide +kernel
theorem d_Alg_readTold_144 : dec m_Alg_readTold 144 = .ok (.ireturn, 1) := by decide +kernel
theorem d_Alg_sheetsThere_0 : dec m_Alg_sheetsThere 0 = .ok (.iconst 0, 1) := by decide +kernel
theorem d_Alg_sheetsThere_1 : dec m_Alg_sheetsThere 1 = .ok (.istore_n 1, 1) := by decide +kernel
theorem d_Alg_sheetsThere_2 : dec m_Alg_sheetsThere 2 = .ok (.iconst 0, 1) := by decide +kernel
theorem d_Alg_sheetsThere_3 : dec m_Alg_sheetsThere 3 = .ok (.istore_n 2, 1) := by decide +kernel
theorem d_Alg_sheetsThere_4 : dec m_Alg_sheetsThere 4 = .ok (.iload_n 2, 1) := by decide +kernel
theorem d_Alg_sheetsThere_5 : dec m_Alg_sheetsThere 5 = .ok (.iconst 4, 1) := by decide +kernel
theorem d_Alg_sheetsThere_6 : dec m_Alg_sheetsThere 6 = .ok (.if_icmp .ge 29, 3) := by decide +kernel
theorem d_Alg_sheetsThere_9 : dec m_Alg_sheetsThere 9 = .ok (.iload_n 1, 1) := by decide +kernel
theorem d_Alg_sheetsThere_10 : dec m_Alg_sheetsThere 10 = .ok (.aload_n 0, 1) := by decide +kernel
theorem d_Alg_sheetsThere_11 : dec m_Alg_sheetsThere 11 = .ok (.getfield 54, 3) := by decide +kernel
theorem d_Alg_sheetsThere_14 : dec m_Alg_sheetsThere 14 = .ok (.iload_n 2, 1) := by decide +kernel
theorem d_Alg_sheetsThere_15 : dec m_Alg_sheetsThere 15 = .ok (.aaload, 1) := by decide +kernel
theorem d_Alg_sheetsThere_16 : dec m_Alg_sheetsThere 16 = .ok (.invokevirtual 217, 3) := by decide +kernel
theorem d_Alg_sheetsThere_19 : dec m_Alg_sheetsThere 19 = .ok (.ifCond .eq 7, 3) := by decide +kernel
theorem d_Alg_sheetsThere_22 : dec m_Alg_sheetsThere 22 = .ok (.iconst 0, 1) := by decide +kernel
theorem d_Alg_sheetsThere_23 : dec m_Alg_sheetsThere 23 = .ok (.goto 4, 3) := by decide +kernel
theorem d_Alg_sheetsThere_26 : dec m_Alg_sheetsThere 26 = .ok (.iconst 1, 1) := by decide +kernel
theorem d_Alg_sheetsThere_27 : dec m_Alg_sheetsThere 27 = .ok (.iadd, 1) := by decide +kernel
theorem d_Alg_sheetsThere_28 : dec m_Alg_sheetsThere 28 = .ok (.istore_n 1, 1) := by decide +kernel
theorem d_Alg_sheetsThere_29 : dec m_Alg_sheetsThere 29 = .ok (.iinc 2 1, 3) := by decide +kernel
theorem d_Alg_sheetsThere_32 : dec m_Alg_sheetsThere 32 = .ok (.goto (-28), 3) := by decide +kernel
theorem d_Alg_sheetsThere_35 : dec m_Alg_sheetsThere 35 = .ok (.iload_n 1, 1) := by decide +kernel
theorem d_Alg_sheetsThere_36 : dec m_Alg_sheetsThere 36 = .ok (.ireturn, 1) := by decide +kernel
theorem d_Alg_takeDifference_0 : dec m_Alg_takeDifference 0 = .ok (.aload_n 0, 1) := by decide +kernel
theorem d_Alg_takeDifference_1 : dec m_Alg_takeDifference 1 = .ok (.getfield 27, 3) := by decide +kernel
theorem d_Alg_takeDifference_4 : dec m_Alg_takeDifference 4 = .ok (.iload_n 1, 1) := by decide +kernel
theorem d_Alg_takeDifference_5 : dec m_Alg_takeDifference 5 = .ok (.invokevirtual 455, 3) := by decide +kernel
theorem d_Alg_takeDifference_8 : dec m_Alg_takeDifference 8 = .ok (.aload_n 0, 1) := by decide +kernel
theorem d_Alg_takeDifference_9 : dec m_Alg_takeDifference 9 = .ok (.getfield 27, 3) := by decide +kernel
theorem d_Alg_takeDifference_12 : dec m_Alg_takeDifference 12 = .ok (.iload_n 2, 1) := by decide +kernel
theorem d_Alg_takeDifference_13 : dec m_Alg_takeDifference 13 = .ok (.invokevirtual 455, 3) := by decide +kernel
theorem d_Alg_takeDifference_16 : dec m_Alg_takeDifference 16 = .ok (.invokestatic 142, 3) := by decide +kernel
theorem d_Alg_takeDifference_19 : dec m_Alg_takeDifference 19 = .ok (.ldc2_w 146, 3) := by decide +kernel
theorem d_Alg_takeDifference_22 : dec m_Alg_takeDifference 22 = .ok (.lcmp, 1) := by decide +kernel
theorem d_Alg_takeDifference_23 : dec m_Alg_takeDifference 23 = .ok (.ifCond .ne 5, 3) := by decide +kernel
theorem d_Alg_takeDifference_26 : dec m_Alg_takeDifference 26 = .ok (.iconst 0, 1) := by decide +kernel
theorem d_Alg_takeDifference_27 : dec m_Alg_takeDifference 27 = .ok (.ireturn, 1) := by decide +kernel
theorem d_Alg_takeDifference_28 : dec m_Alg_takeDifference 28 = .ok (.aload_n 0, 1) := by decide +kernel
theorem d_Alg_takeDifference_29 : dec m_Alg_takeDifference 29 = .ok (.getfield 27, 3) := by decide +kernel
theorem d_Alg_takeDifference_32 : dec m_Alg_takeDifference 32 = .ok (.iload_n 1, 1) := by decide +kernel
theorem d_Alg_takeDifference_33 : dec m_Alg_takeDifference 33 = .ok (.aload_n 0, 1) := by decide +kernel
theorem d_Alg_takeDifference_34 : dec m_Alg_takeDifference 34 = .ok (.getfield 65, 3) := by decide +kernel
theorem d_Alg_takeDifference_37 : dec m_Alg_takeDifference 37 = .ok (.invokevirtual 459, 3) := by decide +kernel
theorem d_Alg_takeDifference_40 : dec m_Alg_takeDifference 40 = .ok (.aload_n 0, 1) := by decide +kernel
theorem d_Alg_takeDifference_41 : dec m_Alg_takeDifference 41 = .ok (.getfield 27, 3) := by decide +kernel
theorem d_Alg_takeDifference_44 : dec m_Alg_takeDifference 44 = .ok (.iload_n 2, 1) := by decide +kernel
theorem d_Alg_takeDifference_45 : dec m_Alg_takeDifference 45 = .ok (.aload_n 0, 1) := by decide +kernel
theorem d_Alg_takeDifference_46 : dec m_Alg_takeDifference 46 = .ok (.getfield 69, 3) := by decide +kernel
theorem d_Alg_takeDifference_49 : dec m_Alg_takeDifference 49 = .ok (.invokevirtual 459, 3) := by decide +kernel
theorem d_Alg_takeDifference_52 : dec m_Alg_takeDifference 52 = .ok (.aload_n 0, 1) := by decide +kernel
theorem d_Alg_takeDifference_53 : dec m_Alg_takeDifference 53 = .ok (.getfield 65, 3) := by decide +kernel
theorem d_Alg_takeDifference_56 : dec m_Alg_takeDifference 56 = .ok (.aload_n 0, 1) := by decide +kernel
theorem d_Alg_takeDifference_57 : dec m_Alg_takeDifference 57 = .ok (.getfield 69, 3) := by decide +kernel
theorem d_Alg_takeDifference_60 : dec m_Alg_takeDifference 60 = .ok (.ldc2_w 146, 3) := by decide +kernel
theorem d_Alg_takeDifference_63 : dec m_Alg_takeDifference 63 = .ok (.invokevirtual 166, 3) := by decide +kernel
theorem d_Alg_takeDifference_66 : dec m_Alg_takeDifference 66 = .ok (.iconst 1, 1) := by decide +kernel
theorem d_Alg_takeDifference_67 : dec m_Alg_takeDifference 67 = .ok (.ireturn, 1) := by decide +kernel
theorem d_Alg_takeApart_0 : dec m_Alg_takeApart 0 = .ok (.aload_n 1, 1) := by decide +kernel
theorem d_Alg_takeApart_1 : dec m_Alg_takeApart 1 = .ok (.iconst 0, 1) := by decide +kernel
theorem d_Alg_takeApart_2 : dec m_Alg_takeApart 2 = .ok (.putfield 294, 3) := by decide +kernel
theorem d_Alg_takeApart_5 : dec m_Alg_takeApart 5 = .ok (.bipush 83, 2) := by decide +kernel
theorem d_Alg_takeApart_7 : dec m_Alg_takeApart 7 = .ok (.istore_n 2, 1) := by decide +kernel
theorem d_Alg_takeApart_8 : dec m_Alg_takeApart 8 = .ok (.iload_n 2, 1) := by decide +kernel
theorem d_Alg_takeApart_9 : dec m_Alg_takeApart 9 = .ok (.ifCond .lt 129, 3) := by decide +kernel
theorem d_Alg_takeApart_12 : dec m_Alg_takeApart 12 = .ok (.aload_n 0, 1) := by decide +kernel
theorem d_Alg_takeApart_13 : dec m_Alg_takeApart 13 = .ok (.getfield 20, 3) := by decide +kernel
theorem d_Alg_takeApart_16 : dec m_Alg_takeApart 16 = .ok (.getfield 226, 3) := by decide +kernel
theorem d_Alg_takeApart_19 : dec m_Alg_takeApart 19 = .ok (.iload_n 2, 1) := by decide +kernel
theorem d_Alg_takeApart_20 : dec m_Alg_takeApart 20 = .ok (.iaload, 1) := by decide +kernel
theorem d_Alg_takeApart_21 : dec m_Alg_takeApart 21 = .ok (.istore_n 3, 1) := by decide +kernel
theorem d_Alg_takeApart_22 : dec m_Alg_takeApart 22 = .ok (.aload_n 0, 1) := by decide +kernel
theorem d_Alg_takeApart_23 : dec m_Alg_takeApart 23 = .ok (.getfield 65, 3) := by decide +kernel
theorem d_Alg_takeApart_26 : dec m_Alg_takeApart 26 = .ok (.getfield 148, 3) := by decide +kernel
theorem d_Alg_takeApart_29 : dec m_Alg_takeApart 29 = .ok (.iload_n 3, 1) := by decide +kernel
theorem d_Alg_takeApart_30 : dec m_Alg_takeApart 30 = .ok (.laload, 1) := by decide +kernel
theorem d_Alg_takeApart_31 : dec m_Alg_takeApart 31 = .ok (.lstore 4, 2) := by decide +kernel
theorem d_Alg_takeApart_33 : dec m_Alg_takeApart 33 = .ok (.lload 4, 2) := by decide +kernel
theorem d_Alg_takeApart_35 : dec m_Alg_takeApart 35 = .ok (.lconst 0, 1) := by decide +kernel
theorem d_Alg_takeApart_36 : dec m_Alg_takeApart 36 = .ok (.lcmp, 1) := by decide +kernel
theorem d_Alg_takeApart_37 : dec m_Alg_takeApart 37 = .ok (.ifCond .eq 95, 3) := by decide +kernel
theorem d_Alg_takeApart_40 : dec m_Alg_takeApart 40 = .ok (.aload_n 0, 1) := by decide +kernel
theorem d_Alg_takeApart_41 : dec m_Alg_takeApart 41 = .ok (.getfield 34, 3) := by decide +kernel
theorem d_Alg_takeApart_44 : dec m_Alg_takeApart 44 = .ok (.iload_n 3, 1) := by decide +kernel
theorem d_Alg_takeApart_45 : dec m_Alg_takeApart 45 = .ok (.invokevirtual 266, 3) := by decide +kernel
theorem d_Alg_takeApart_48 : dec m_Alg_takeApart 48 = .ok (.ifCond .le 84, 3) := by decide +kernel
theorem d_Alg_takeApart_51 : dec m_Alg_takeApart 51 = .ok (.aload_n 0, 1) := by decide +kernel
theorem d_Alg_takeApart_52 : dec m_Alg_takeApart 52 = .ok (.getfield 34, 3) := by decide +kernel
theorem d_Alg_takeApart_55 : dec m_Alg_takeApart 55 = .ok (.iload_n 3, 1) := by decide +kernel
theorem d_Alg_takeApart_56 : dec m_Alg_takeApart 56 = .ok (.iconst 0, 1) := by decide +kernel
theorem d_Alg_takeApart_57 : dec m_Alg_takeApart 57 = .ok (.invokevirtual 308, 3) := by decide +kernel
theorem d_Alg_takeApart_60 : dec m_Alg_takeApart 60 = .ok (.istore 6, 2) := by decide +kernel
theorem d_Alg_takeApart_62 : dec m_Alg_takeApart 62 = .ok (.lload 4, 2) := by decide +kernel
theorem d_Alg_takeApart_64 : dec m_Alg_takeApart 64 = .ok (.invokestatic 463, 3) := by decide +kernel
theorem d_Alg_takeApart_67 : dec m_Alg_takeApart 67 = .ok (.aload_n 0, 1) := by decide +kernel
theorem d_Alg_takeApart_68 : dec m_Alg_takeApart 68 = .ok (.getfield 27, 3) := by decide +kernel
theorem d_Alg_takeApart_71 : dec m_Alg_takeApart 71 = .ok (.iload 6, 2) := by decide +kernel
theorem d_Alg_takeApart_73 : dec m_Alg_takeApart 73 = .ok (.invokevirtual 455, 3) := by decide +kernel
theorem d_Alg_takeApart_76 : dec m_Alg_takeApart 76 = .ok (.invokestatic 163, 3) := by decide +kernel
theorem d_Alg_takeApart_79 : dec m_Alg_takeApart 79 = .ok (.lstore 7, 2) := by decide +kernel
theorem d_Alg_takeApart_81 : dec m_Alg_takeApart 81 = .ok (.aload_n 0, 1) := by decide +kernel
theorem d_Alg_takeApart_82 : dec m_Alg_takeApart 82 = .ok (.getfield 65, 3) := by decide +kernel
theorem d_Alg_takeApart_85 : dec m_Alg_takeApart 85 = .ok (.invokevirtual 132, 3) := by decide +kernel
theorem d_Alg_takeApart_88 : dec m_Alg_takeApart 88 = .ok (.lload 7, 2) := by decide +kernel
theorem d_Alg_takeApart_90 : dec m_Alg_takeApart 90 = .ok (.invokestatic 142, 3) := by decide +kernel
theorem d_Alg_takeApart_93 : dec m_Alg_takeApart 93 = .ok (.ldc2_w 146, 3) := by decide +kernel
theorem d_Alg_takeApart_96 : dec m_Alg_takeApart 96 = .ok (.lcmp, 1) := by decide +kernel
theorem d_Alg_takeApart_97 : dec m_Alg_takeApart 97 = .ok (.ifCond .ne 5, 3) := by decide +kernel
theorem d_Alg_takeApart_100 : dec m_Alg_takeApart 100 = .ok (.iconst 0, 1) := by decide +kernel
theorem d_Alg_takeApart_101 : dec m_Alg_takeApart 101 = .ok (.ireturn, 1) := by decide +kernel
theorem d_Alg_takeApart_102 : dec m_Alg_takeApart 102 = .ok (.aload_n 0, 1) := by decide +kernel
theorem d_Alg_takeApart_103 : dec m_Alg_takeApart 103 = .ok (.getfield 65, 3) := by decide +kernel
theorem d_Alg_takeApart_106 : dec m_Alg_takeApart 106 = .ok (.aload_n 0, 1) := by decide +kernel
theorem d_Alg_takeApart_107 : dec m_Alg_takeApart 107 = .ok (.getfield 34, 3) := by decide +kernel
theorem d_Alg_takeApart_110 : dec m_Alg_takeApart 110 = .ok (.iload_n 3, 1) := by decide +kernel
theorem d_Alg_takeApart_111 : dec m_Alg_takeApart 111 = .ok (.aload_n 0, 1) := by decide +kernel
theorem d_Alg_takeApart_112 : dec m_Alg_takeApart 112 = .ok (.getfield 27, 3) := by decide +kernel
theorem d_Alg_takeApart_115 : dec m_Alg_takeApart 115 = .ok (.invokevirtual 466, 3) := by decide +kernel
theorem d_Alg_takeApart_118 : dec m_Alg_takeApart 118 = .ok (.lload 4, 2) := by decide +kernel
theorem d_Alg_takeApart_120 : dec m_Alg_takeApart 120 = .ok (.lneg, 1) := by decide +kernel
theorem d_Alg_takeApart_121 : dec m_Alg_takeApart 121 = .ok (.invokevirtual 166, 3) := by decide +kernel
theorem d_Alg_takeApart_124 : dec m_Alg_takeApart 124 = .ok (.aload_n 1, 1) := by decide +kernel
theorem d_Alg_takeApart_125 : dec m_Alg_takeApart 125 = .ok (.lload 4, 2) := by decide +kernel
theorem d_Alg_takeApart_127 : dec m_Alg_takeApart 127 = .ok (.iload 6, 2) := by decide +kernel
theorem d_Alg_takeApart_129 : dec m_Alg_takeApart 129 = .ok (.invokevirtual 301, 3) := by decide +kernel
theorem d_Alg_takeApart_132 : dec m_Alg_takeApart 132 = .ok (.iinc 2 (-1), 3) := by decide +kernel
theorem d_Alg_takeApart_135 : dec m_Alg_takeApart 135 = .ok (.goto (-127), 3) := by decide +kernel
theorem d_Alg_takeApart_138 : dec m_Alg_takeApart 138 = .ok (.iconst 1, 1) := by decide +kernel
theorem d_Alg_takeApart_139 : dec m_Alg_takeApart 139 = .ok (.ireturn, 1) := by decide +kernel
theorem d_Alg_sumSteps_0 : dec m_Alg_sumSteps 0 = .ok (.lconst 0, 1) := by decide +kernel
theorem d_Alg_sumSteps_1 : dec m_Alg_sumSteps 1 = .ok (.lstore_n 2, 1) := by decide +kernel
theorem d_Alg_sumSteps_2 : dec m_Alg_sumSteps 2 = .ok (.iconst 0, 1) := by decide +kernel
theorem d_Alg_sumSteps_3 : dec m_Alg_sumSteps 3 = .ok (.istore 4, 2) := by decide +kernel
theorem d_Alg_sumSteps_5 : dec m_Alg_sumSteps 5 = .ok (.iload 4, 2) := by decide +kernel
theorem d_Alg_sumSteps_7 : dec m_Alg_sumSteps 7 = .ok (.aload_n 1, 1) := by decide +kernel
theorem d_Alg_sumSteps_8 : dec m_Alg_sumSteps 8 = .ok (.getfield 294, 3) := by decide +kernel
theorem d_Alg_sumSteps_11 : dec m_Alg_sumSteps 11 = .ok (.if_icmp .ge 45, 3) := by decide +kernel
theorem d_Alg_sumSteps_14 : dec m_Alg_sumSteps 14 = .ok (.aload_n 1, 1) := by decide +kernel
theorem d_Alg_sumSteps_15 : dec m_Alg_sumSteps 15 = .ok (.getfield 376, 3) := by decide +kernel
theorem d_Alg_sumSteps_18 : dec m_Alg_sumSteps 18 = .ok (.iload 4, 2) := by decide +kernel
theorem d_Alg_sumSteps_20 : dec m_Alg_sumSteps 20 = .ok (.laload, 1) := by decide +kernel
theorem d_Alg_sumSteps_21 : dec m_Alg_sumSteps 21 = .ok (.invokestatic 463, 3) := by decide +kernel
theorem d_Alg_sumSteps_24 : dec m_Alg_sumSteps 24 = .ok (.aload_n 0, 1) := by decide +kernel
theorem d_Alg_sumSteps_25 : dec m_Alg_sumSteps 25 = .ok (.getfield 27, 3) := by decide +kernel
theorem d_Alg_sumSteps_28 : dec m_Alg_sumSteps 28 = .ok (.aload_n 1, 1) := by decide +kernel
theorem d_Alg_sumSteps_29 : dec m_Alg_sumSteps 29 = .ok (.getfield 379, 3) := by decide +kernel
theorem d_Alg_sumSteps_32 : dec m_Alg_sumSteps 32 = .ok (.iload 4, 2) := by decide +kernel
theorem d_Alg_sumSteps_34 : dec m_Alg_sumSteps 34 = .ok (.iaload, 1) := by decide +kernel
theorem d_Alg_sumSteps_35 : dec m_Alg_sumSteps 35 = .ok (.invokevirtual 455, 3) := by decide +kernel
theorem d_Alg_sumSteps_38 : dec m_Alg_sumSteps 38 = .ok (.invokestatic 163, 3) := by decide +kernel
theorem d_Alg_sumSteps_41 : dec m_Alg_sumSteps 41 = .ok (.lstore 5, 2) := by decide +kernel
theorem d_Alg_sumSteps_43 : dec m_Alg_sumSteps 43 = .ok (.lload_n 2, 1) := by decide +kernel
theorem d_Alg_sumSteps_44 : dec m_Alg_sumSteps 44 = .ok (.lload 5, 2) := by decide +kernel
theorem d_Alg_sumSteps_46 : dec m_Alg_sumSteps 46 = .ok (.invokestatic 142, 3) := by decide +kernel
theorem d_Alg_sumSteps_49 : dec m_Alg_sumSteps 49 = .ok (.lstore_n 2, 1) := by decide +kernel
theorem d_Alg_sumSteps_50 : dec m_Alg_sumSteps 50 = .ok (.iinc 4 1, 3) := by decide +kernel
theorem d_Alg_sumSteps_53 : dec m_Alg_sumSteps 53 = .ok (.goto (-48), 3) := by decide +kernel
theorem d_Alg_sumSteps_56 : dec m_Alg_sumSteps 56 = .ok (.lload_n 2, 1) := by decide +kernel
theorem d_Alg_sumSteps_57 : dec m_Alg_sumSteps 57 = .ok (.ldc2_w 146, 3) := by decide +kernel
theorem d_Alg_sumSteps_60 : dec m_Alg_sumSteps 60 = .ok (.lcmp, 1) := by decide +kernel
theorem d_Alg_sumSteps_61 : dec m_Alg_sumSteps 61 = .ok (.ifCond .ne 5, 3) := by decide +kernel
theorem d_Alg_sumSteps_64 : dec m_Alg_sumSteps 64 = .ok (.iconst 0, 1) := by decide +kernel
theorem d_Alg_sumSteps_65 : dec m_Alg_sumSteps 65 = .ok (.ireturn, 1) := by decide +kernel
theorem d_Alg_sumSteps_66 : dec m_Alg_sumSteps 66 = .ok (.aload_n 0, 1) := by decide +kernel
theorem d_Alg_sumSteps_67 : dec m_Alg_sumSteps 67 = .ok (.getfield 65, 3) := by decide +kernel
theorem d_Alg_sumSteps_70 : dec m_Alg_sumSteps 70 = .ok (.invokevirtual 160, 3) := by decide +kernel
theorem d_Alg_sumSteps_73 : dec m_Alg_sumSteps 73 = .ok (.iconst 0, 1) := by decide +kernel
theorem d_Alg_sumSteps_74 : dec m_Alg_sumSteps 74 = .ok (.istore 4, 2) := by decide +kernel
theorem d_Alg_sumSteps_76 : dec m_Alg_sumSteps 76 = .ok (.iload 4, 2) := by decide +kernel
theorem d_Alg_sumSteps_78 : dec m_Alg_sumSteps 78 = .ok (.aload_n 1, 1) := by decide +kernel
theorem d_Alg_sumSteps_79 : dec m_Alg_sumSteps 79 = .ok (.getfield 294, 3) := by decide +kernel
theorem d_Alg_sumSteps_82 : dec m_Alg_sumSteps 82 = .ok (.if_icmp .ge 45, 3) := by decide +kernel
theorem d_Alg_sumSteps_85 : dec m_Alg_sumSteps 85 = .ok (.aload_n 0, 1) := by decide +kernel
theorem d_Alg_sumSteps_86 : dec m_Alg_sumSteps 86 = .ok (.getfield 27, 3) := by decide +kernel
theorem d_Alg_sumSteps_89 : dec m_Alg_sumSteps 89 = .ok (.aload_n 1, 1) := by decide +kernel
theorem d_Alg_sumSteps_90 : dec m_Alg_sumSteps 90 = .ok (.getfield 379, 3) := by decide +kernel
theorem d_Alg_sumSteps_93 : dec m_Alg_sumSteps 93 = .ok (.iload 4, 2) := by decide +kernel
theorem d_Alg_sumSteps_95 : dec m_Alg_sumSteps 95 = .ok (.iaload, 1) := by decide +kernel
theorem d_Alg_sumSteps_96 : dec m_Alg_sumSteps 96 = .ok (.aload_n 0, 1) := by decide +kernel
theorem d_Alg_sumSteps_97 : dec m_Alg_sumSteps 97 = .ok (.getfield 69, 3) := by decide +kernel
theorem d_Alg_sumSteps_100 : dec m_Alg_sumSteps 100 = .ok (.invokevirtual 459, 3) := by decide +kernel
theorem d_Alg_sumSteps_103 : dec m_Alg_sumSteps 103 = .ok (.aload_n 0, 1) := by decide +kernel
theorem d_Alg_sumSteps_104 : dec m_Alg_sumSteps 104 = .ok (.getfield 65, 3) := by decide +kernel
theorem d_Alg_sumSteps_107 : dec m_Alg_sumSteps 107 = .ok (.aload_n 0, 1) := by decide +kernel
theorem d_Alg_sumSteps_108 : dec m_Alg_sumSteps 108 = .ok (.getfield 69, 3) := by decide +kernel
theorem d_Alg_sumSteps_111 : dec m_Alg_sumSteps 111 = .ok (.aload_n 1, 1) := by decide +kernel
theorem d_Alg_sumSteps_112 : dec m_Alg_sumSteps 112 = .ok (.getfield 376, 3) := by decide +kernel
theorem d_Alg_sumSteps_115 : dec m_Alg_sumSteps 115 = .ok (.iload 4, 2) := by decide +kernel
theorem d_Alg_sumSteps_117 : dec m_Alg_sumSteps 117 = .ok (.laload, 1) := by decide +kernel
theorem d_Alg_sumSteps_118 : dec m_Alg_sumSteps 118 = .ok (.invokevirtual 166, 3) := by decide +kernel
theorem d_Alg_sumSteps_121 : dec m_Alg_sumSteps 121 = .ok (.iinc 4 1, 3) := by decide +kernel
theorem d_Alg_sumSteps_124 : dec m_Alg_sumSteps 124 = .ok (.goto (-48), 3) := by decide +kernel
theorem d_Alg_sumSteps_127 : dec m_Alg_sumSteps 127 = .ok (.iconst 1, 1) := by decide +kernel
theorem d_Alg_sumSteps_128 : dec m_Alg_sumSteps 128 = .ok (.ireturn, 1) := by decide +kernel
theorem d_Alg_completeTo_0 : dec m_Alg_completeTo 0 = .ok (.aload_n 0, 1) := by decide +kernel
theorem d_Alg_completeTo_1 : dec m_Alg_completeTo 1 = .ok (.iconst 0, 1) := by decide +kernel
theorem d_Alg_completeTo_2 : dec m_Alg_completeTo 2 = .ok (.putfield 100, 3) := by decide +kernel
theorem d_Alg_completeTo_5 : dec m_Alg_completeTo 5 = .ok (.iconst 0, 1) := by decide +kernel
theorem d_Alg_completeTo_6 : dec m_Alg_completeTo 6 = .ok (.istore_n 2, 1) := by decide +kernel
theorem d_Alg_completeTo_7 : dec m_Alg_completeTo 7 = .ok (.iload_n 2, 1) := by decide +kernel
theorem d_Alg_completeTo_8 : dec m_Alg_completeTo 8 = .ok (.bipush 7, 2) := by decide +kernel
theorem d_Alg_completeTo_10 : dec m_Alg_completeTo 10 = .ok (.if_icmp .gt 100, 3) := by decide +kernel
theorem d_Alg_completeTo_13 : dec m_Alg_completeTo 13 = .ok (.aload_n 0, 1) := by decide +kernel
theorem d_Alg_completeTo_14 : dec m_Alg_completeTo 14 = .ok (.dup, 1) := by decide +kernel
theorem d_Alg_completeTo_15 : dec m_Alg_completeTo 15 = .ok (.getfield 100, 3) := by decide +kernel
theorem d_Alg_completeTo_18 : dec m_Alg_completeTo 18 = .ok (.iconst 1, 1) := by decide +kernel
theorem d_Alg_completeTo_19 : dec m_Alg_completeTo 19 = .ok (.iadd, 1) := by decide +kernel
theorem d_Alg_completeTo_20 : dec m_Alg_completeTo 20 = .ok (.putfield 100, 3) := by decide +kernel
theorem d_Alg_completeTo_23 : dec m_Alg_completeTo 23 = .ok (.aload_n 0, 1) := by decide +kernel
theorem d_Alg_completeTo_24 : dec m_Alg_completeTo 24 = .ok (.getfield 27, 3) := by decide +kernel
theorem d_Alg_completeTo_27 : dec m_Alg_completeTo 27 = .ok (.getfield 109, 3) := by decide +kernel
theorem d_Alg_completeTo_30 : dec m_Alg_completeTo 30 = .ok (.istore_n 3, 1) := by decide +kernel
theorem d_Alg_completeTo_31 : dec m_Alg_completeTo 31 = .ok (.aload_n 0, 1) := by decide +kernel
theorem d_Alg_completeTo_32 : dec m_Alg_completeTo 32 = .ok (.invokevirtual 336, 3) := by decide +kernel
theorem d_Alg_completeTo_35 : dec m_Alg_completeTo 35 = .ok (.iload_n 1, 1) := by decide +kernel
theorem d_Alg_completeTo_36 : dec m_Alg_completeTo 36 = .ok (.invokevirtual 340, 3) := by decide +kernel
theorem d_Alg_completeTo_39 : dec m_Alg_completeTo 39 = .ok (.istore 4, 2) := by decide +kernel
theorem d_Alg_completeTo_41 : dec m_Alg_completeTo 41 = .ok (.iconst 0, 1) := by decide +kernel
theorem d_Alg_completeTo_42 : dec m_Alg_completeTo 42 = .ok (.istore 5, 2) := by decide +kernel
theorem d_Alg_completeTo_44 : dec m_Alg_completeTo 44 = .ok (.iload 5, 2) := by decide +kernel
theorem d_Alg_completeTo_46 : dec m_Alg_completeTo 46 = .ok (.iload 4, 2) := by decide +kernel
theorem d_Alg_completeTo_48 : dec m_Alg_completeTo 48 = .ok (.if_icmp .ge 43, 3) := by decide +kernel
theorem d_Alg_completeTo_51 : dec m_Alg_completeTo 51 = .ok (.aload_n 0, 1) := by decide +kernel
theorem d_Alg_completeTo_52 : dec m_Alg_completeTo 52 = .ok (.aload_n 0, 1) := by decide +kernel
theorem d_Alg_completeTo_53 : dec m_Alg_completeTo 53 = .ok (.getfield 41, 3) := by decide +kernel
theorem d_Alg_completeTo_56 : dec m_Alg_completeTo 56 = .ok (.getfield 347, 3) := by decide +kernel
theorem d_Alg_completeTo_59 : dec m_Alg_completeTo 59 = .ok (.iload 5, 2) := by decide +kernel
theorem d_Alg_completeTo_61 : dec m_Alg_completeTo 61 = .ok (.iaload, 1) := by decide +kernel
theorem d_Alg_completeTo_62 : dec m_Alg_completeTo 62 = .ok (.aload_n 0, 1) := by decide +kernel
theorem d_Alg_completeTo_63 : dec m_Alg_completeTo 63 = .ok (.getfield 41, 3) := by decide +kernel
theorem d_Alg_completeTo_66 : dec m_Alg_completeTo 66 = .ok (.getfield 350, 3) := by decide +kernel
theorem d_Alg_completeTo_69 : dec m_Alg_completeTo 69 = .ok (.iload 5, 2) := by decide +kernel
theorem d_Alg_completeTo_71 : dec m_Alg_completeTo 71 = .ok (.iaload, 1) := by decide +kernel
theorem d_Alg_completeTo_72 : dec m_Alg_completeTo 72 = .ok (.invokevirtual 470, 3) := by decide +kernel
theorem d_Alg_completeTo_75 : dec m_Alg_completeTo 75 = .ok (.istore 6, 2) := by decide +kernel
theorem d_Alg_completeTo_77 : dec m_Alg_completeTo 77 = .ok (.iload 6, 2) := by decide +kernel
theorem d_Alg_completeTo_79 : dec m_Alg_completeTo 79 = .ok (.ifCond .eq 6, 3) := by decide +kernel
theorem d_Alg_completeTo_82 : dec m_Alg_completeTo 82 = .ok (.iload 6, 2) := by decide +kernel
theorem d_Alg_completeTo_84 : dec m_Alg_completeTo 84 = .ok (.ireturn, 1) := by decide +kernel
theorem d_Alg_completeTo_85 : dec m_Alg_completeTo 85 = .ok (.iinc 5 1, 3) := by decide +kernel
theorem d_Alg_completeTo_88 : dec m_Alg_completeTo 88 = .ok (.goto (-44), 3) := by decide +kernel
theorem d_Alg_completeTo_91 : dec m_Alg_completeTo 91 = .ok (.aload_n 0, 1) := by decide +kernel
theorem d_Alg_completeTo_92 : dec m_Alg_completeTo 92 = .ok (.getfield 27, 3) := by decide +kernel
theorem d_Alg_completeTo_95 : dec m_Alg_completeTo 95 = .ok (.getfield 109, 3) := by decide +kernel
theorem d_Alg_completeTo_98 : dec m_Alg_completeTo 98 = .ok (.iload_n 3, 1) := by decide +kernel
theorem d_Alg_completeTo_99 : dec m_Alg_completeTo 99 = .ok (.if_icmp .ne 5, 3) := by decide +kernel
theorem d_Alg_completeTo_102 : dec m_Alg_completeTo 102 = .ok (.iconst 0, 1) := by decide +kernel
theorem d_Alg_completeTo_103 : dec m_Alg_completeTo 103 = .ok (.ireturn, 1) := by decide +kernel
theorem d_Alg_completeTo_104 : dec m_Alg_completeTo 104 = .ok (.iinc 2 1, 3) := by decide +kernel
theorem d_Alg_completeTo_107 : dec m_Alg_completeTo 107 = .ok (.goto (-100), 3) := by decide +kernel
theorem d_Alg_completeTo_110 : dec m_Alg_completeTo 110 = .ok (.iconst 0, 1) := by decide +kernel
theorem d_Alg_completeTo_111 : dec m_Alg_completeTo 111 = .ok (.ireturn, 1) := by decide +kernel
theorem d_Alg_settle_0 : dec m_Alg_settle 0 = .ok (.aload_n 0, 1) := by decide +kernel
theorem d_Alg_settle_1 : dec m_Alg_settle 1 = .ok (.iload_n 1, 1) := by decide +kernel
theorem d_Alg_settle_2 : dec m_Alg_settle 2 = .ok (.iload_n 2, 1) := by decide +kernel
theorem d_Alg_settle_3 : dec m_Alg_settle 3 = .ok (.invokevirtual 357, 3) := by decide +kernel
theorem d_Alg_settle_6 : dec m_Alg_settle 6 = .ok (.ifCond .eq 14, 3) := by decide +kernel
theorem d_Alg_settle_9 : dec m_Alg_settle 9 = .ok (.aload_n 0, 1) := by decide +kernel
theorem d_Alg_settle_10 : dec m_Alg_settle 10 = .ok (.aload_n 0, 1) := by decide +kernel
theorem d_Alg_settle_11 : dec m_Alg_settle 11 = .ok (.getfield 79, 3) := by decide +kernel
theorem d_Alg_settle_14 : dec m_Alg_settle 14 = .ok (.invokevirtual 360, 3) := by decide +kernel
theorem d_Alg_settle_17 : dec m_Alg_settle 17 = .ok (.ifCond .ne 5, 3) := by decide +kernel
theorem d_Alg_settle_20 : dec m_Alg_settle 20 = .ok (.iconst 3, 1) := by decide +kernel
theorem d_Alg_settle_21 : dec m_Alg_settle 21 = .ok (.ireturn, 1) := by decide +kernel
theorem d_Alg_settle_22 : dec m_Alg_settle 22 = .ok (.aload_n 0, 1) := by decide +kernel
theorem d_Alg_settle_23 : dec m_Alg_settle 23 = .ok (.getfield 20, 3) := by decide +kernel
theorem d_Alg_settle_26 : dec m_Alg_settle 26 = .ok (.aload_n 0, 1) := by decide +kernel
theorem d_Alg_settle_27 : dec m_Alg_settle 27 = .ok (.getfield 65, 3) := by decide +kernel
theorem d_Alg_settle_30 : dec m_Alg_settle 30 = .ok (.invokevirtual 196, 3) := by decide +kernel
theorem d_Alg_settle_33 : dec m_Alg_settle 33 = .ok (.istore_n 3, 1) := by decide +kernel
theorem d_Alg_settle_34 : dec m_Alg_settle 34 = .ok (.iload_n 3, 1) := by decide +kernel
theorem d_Alg_settle_35 : dec m_Alg_settle 35 = .ok (.ifCond .ge 5, 3) := by decide +kernel
theorem d_Alg_settle_38 : dec m_Alg_settle 38 = .ok (.iconst 0, 1) := by decide +kernel
theorem d_Alg_settle_39 : dec m_Alg_settle 39 = .ok (.ireturn, 1) := by decide +kernel
theorem d_Alg_settle_40 : dec m_Alg_settle 40 = .ok (.aload_n 0, 1) := by decide +kernel
theorem d_Alg_settle_41 : dec m_Alg_settle 41 = .ok (.getfield 65, 3) := by decide +kernel
theorem d_Alg_settle_44 : dec m_Alg_settle 44 = .ok (.getfield 148, 3) := by decide +kernel
theorem d_Alg_settle_47 : dec m_Alg_settle 47 = .ok (.iload_n 3, 1) := by decide +kernel
theorem d_Alg_settle_48 : dec m_Alg_settle 48 = .ok (.laload, 1) := by decide +kernel
theorem d_Alg_settle_49 : dec m_Alg_settle 49 = .ok (.lstore 4, 2) := by decide +kernel
theorem d_Alg_settle_51 : dec m_Alg_settle 51 = .ok (.lload 4, 2) := by decide +kernel
theorem d_Alg_settle_53 : dec m_Alg_settle 53 = .ok (.lconst 1, 1) := by decide +kernel
theorem d_Alg_settle_54 : dec m_Alg_settle 54 = .ok (.lcmp, 1) := by decide +kernel
theorem d_Alg_settle_55 : dec m_Alg_settle 55 = .ok (.ifCond .eq 14, 3) := by decide +kernel
theorem d_Alg_settle_58 : dec m_Alg_settle 58 = .ok (.lload 4, 2) := by decide +kernel
theorem d_Alg_settle_60 : dec m_Alg_settle 60 = .ok (.ldc2_w 146, 3) := by decide +kernel
theorem d_Alg_settle_63 : dec m_Alg_settle 63 = .ok (.lcmp, 1) := by decide +kernel
theorem d_Alg_settle_64 : dec m_Alg_settle 64 = .ok (.ifCond .eq 5, 3) := by decide +kernel
theorem d_Alg_settle_67 : dec m_Alg_settle 67 = .ok (.iconst 2, 1) := by decide +kernel
theorem d_Alg_settle_68 : dec m_Alg_settle 68 = .ok (.ireturn, 1) := by decide +kernel
theorem d_Alg_settle_69 : dec m_Alg_settle 69 = .ok (.aload_n 0, 1) := by decide +kernel
theorem d_Alg_settle_70 : dec m_Alg_settle 70 = .ok (.getfield 27, 3) := by decide +kernel
theorem d_Alg_settle_73 : dec m_Alg_settle 73 = .ok (.getfield 109, 3) := by decide +kernel
theorem d_Alg_settle_76 : dec m_Alg_settle 76 = .ok (.bipush 7, 2) := by decide +kernel
theorem d_Alg_settle_78 : dec m_Alg_settle 78 = .ok (.if_icmp .lt 5, 3) := by decide +kernel
theorem d_Alg_settle_81 : dec m_Alg_settle 81 = .ok (.iconst 1, 1) := by decide +kernel
theorem d_Alg_settle_82 : dec m_Alg_settle 82 = .ok (.ireturn, 1) := by decide +kernel
theorem d_Alg_settle_83 : dec m_Alg_settle 83 = .ok (.aload_n 0, 1) := by decide +kernel
theorem d_Alg_settle_84 : dec m_Alg_settle 84 = .ok (.getfield 65, 3) := by decide +kernel
theorem d_Alg_settle_87 : dec m_Alg_settle 87 = .ok (.lload 4, 2) := by decide +kernel
theorem d_Alg_settle_89 : dec m_Alg_settle 89 = .ok (.invokevirtual 445, 3) := by decide +kernel
theorem d_Alg_settle_92 : dec m_Alg_settle 92 = .ok (.aload_n 0, 1) := by decide +kernel
theorem d_Alg_settle_93 : dec m_Alg_settle 93 = .ok (.getfield 27, 3) := by decide +kernel
theorem d_Alg_settle_96 : dec m_Alg_settle 96 = .ok (.aload_n 0, 1) := by decide +kernel
theorem d_Alg_settle_97 : dec m_Alg_settle 97 = .ok (.getfield 65, 3) := by decide +kernel
theorem d_Alg_settle_100 : dec m_Alg_settle 100 = .ok (.iload_n 3, 1) := by decide +kernel
theorem d_Alg_settle_101 : dec m_Alg_settle 101 = .ok (.invokevirtual 242, 3) := by decide +kernel
theorem d_Alg_settle_104 : dec m_Alg_settle 104 = .ok (.aload_n 0, 1) := by decide +kernel
theorem d_Alg_settle_105 : dec m_Alg_settle 105 = .ok (.getfield 27, 3) := by decide +kernel
theorem d_Alg_settle_108 : dec m_Alg_settle 108 = .ok (.lload 4, 2) := by decide +kernel
theorem d_Alg_settle_110 : dec m_Alg_settle 110 = .ok (.iload_n 1, 1) := by decide +kernel
theorem d_Alg_settle_111 : dec m_Alg_settle 111 = .ok (.iload_n 2, 1) := by decide +kernel
theorem d_Alg_settle_112 : dec m_Alg_settle 112 = .ok (.aload_n 0, 1) := by decide +kernel
theorem d_Alg_settle_113 : dec m_Alg_settle 113 = .ok (.getfield 79, 3) := by decide +kernel
theorem d_Alg_settle_116 : dec m_Alg_settle 116 = .ok (.invokevirtual 473, 3) := by decide +kernel
theorem d_Alg_settle_119 : dec m_Alg_settle 119 = .ok (.aload_n 0, 1) := by decide +kernel
theorem d_Alg_settle_120 : dec m_Alg_settle 120 = .ok (.invokevirtual 245, 3) := by decide +kernel
theorem d_Alg_settle_123 : dec m_Alg_settle 123 = .ok (.iconst 0, 1) := by decide +kernel
theorem d_Alg_settle_124 : dec m_Alg_settle 124 = .ok (.ireturn, 1) := by decide +kernel
theorem d_Mod_init_0 : dec m_Mod_init 0 = .ok (.aload_n 0, 1) := by decide +kernel
theorem d_Mod_init_1 : dec m_Mod_init 1 = .ok (.invokespecial 3, 3) := by decide +kernel
theorem d_Mod_init_4 : dec m_Mod_init 4 = .ok (.aload_n 0, 1) := by decide +kernel
theorem d_Mod_init_5 : dec m_Mod_init 5 = .ok (.sipush 1680, 3) := by decide +kernel
theorem d_Mod_init_8 : dec m_Mod_init 8 = .ok (.newarray .long, 2) := by decide +kernel
theorem d_Mod_init_10 : dec m_Mod_init 10 = .ok (.putfield 9, 3) := by decide +kernel
theorem d_Mod_init_13 : dec m_Mod_init 13 = .ok (.aload_n 0, 1) := by decide +kernel
theorem d_Mod_init_14 : dec m_Mod_init 14 = .ok (.sipush 1092, 3) := by decide +kernel
theorem d_Mod_init_17 : dec m_Mod_init 17 = .ok (.newarray .long, 2) := by decide +kernel
theorem d_Mod_init_19 : dec m_Mod_init 19 = .ok (.putfield 15, 3) := by decide +kernel
theorem d_Mod_init_22 : dec m_Mod_init 22 = .ok (.aload_n 0, 1) := by decide +kernel
theorem d_Mod_init_23 : dec m_Mod_init 23 = .ok (.bipush 84, 2) := by decide +kernel
theorem d_Mod_init_25 : dec m_Mod_init 25 = .ok (.newarray .int, 2) := by decide +kernel
theorem d_Mod_init_27 : dec m_Mod_init 27 = .ok (.putfield 18, 3) := by decide +kernel
theorem d_Mod_init_30 : dec m_Mod_init 30 = .ok (.aload_n 0, 1) := by decide +kernel
theorem d_Mod_init_31 : dec m_Mod_init 31 = .ok (.bipush 84, 2) := by decide +kernel
theorem d_Mod_init_33 : dec m_Mod_init 33 = .ok (.newarray .int, 2) := by decide +kernel
theorem d_Mod_init_35 : dec m_Mod_init 35 = .ok (.putfield 22, 3) := by decide +kernel
theorem d_Mod_init_38 : dec m_Mod_init 38 = .ok (.aload_n 0, 1) := by decide +kernel
theorem d_Mod_init_39 : dec m_Mod_init 39 = .ok (.bipush 84, 2) := by decide +kernel
theorem d_Mod_init_41 : dec m_Mod_init 41 = .ok (.newarray .int, 2) := by decide +kernel
theorem d_Mod_init_43 : dec m_Mod_init 43 = .ok (.putfield 25, 3) := by decide +kernel
theorem d_Mod_init_46 : dec m_Mod_init 46 = .ok (.aload_n 0, 1) := by decide +kernel
theorem d_Mod_init_47 : dec m_Mod_init 47 = .ok (.sipush 343, 3) := by decide +kernel
theorem d_Mod_init_50 : dec m_Mod_init 50 = .ok (.newarray .int, 2) := by decide +kernel
theorem d_Mod_init_52 : dec m_Mod_init 52 = .ok (.putfield 28, 3) := by decide +kernel
theorem d_Mod_init_55 : dec m_Mod_init 55 = .ok (.aload_n 0, 1) := by decide +kernel
theorem d_Mod_init_56 : dec m_Mod_init 56 = .ok (.bipush 84, 2) := by decide +kernel
theorem d_Mod_init_58 : dec m_Mod_init 58 = .ok (.newarray .int, 2) := by decide +kernel
theorem d_Mod_init_60 : dec m_Mod_init 60 = .ok (.putfield 31, 3) := by decide +kernel
theorem d_Mod_init_63 : dec m_Mod_init 63 = .ok (.aload_n 0, 1) := by decide +kernel
theorem d_Mod_init_64 : dec m_Mod_init 64 = .ok (.bipush 84, 2) := by decide +kernel
theorem d_Mod_init_66 : dec m_Mod_init 66 = .ok (.newarray .int, 2) := by decide +kernel
theorem d_Mod_init_68 : dec m_Mod_init 68 = .ok (.putfield 34, 3) := by decide +kernel
theorem d_Mod_init_71 : dec m_Mod_init 71 = .ok (.aload_n 0, 1) := by decide +kernel
theorem d_Mod_init_72 : dec m_Mod_init 72 = .ok (.bipush 7, 2) := by decide +kernel
theorem d_Mod_init_74 : dec m_Mod_init 74 = .ok (.newarray .int, 2) := by decide +kernel
theorem d_Mod_init_76 : dec m_Mod_init 76 = .ok (.putfield 37, 3) := by decide +kernel
theorem d_Mod_init_79 : dec m_Mod_init 79 = .ok (.aload_n 0, 1) := by decide +kernel
theorem d_Mod_init_80 : dec m_Mod_init 80 = .ok (.bipush 7, 2) := by decide +kernel
theorem d_Mod_init_82 : dec m_Mod_init 82 = .ok (.newarray .int, 2) := by decide +kernel
theorem d_Mod_init_84 : dec m_Mod_init 84 = .ok (.putfield 40, 3) := by decide +kernel
theorem d_Mod_init_87 : dec m_Mod_init 87 = .ok (.aload_n 0, 1) := by decide +kernel
theorem d_Mod_init_88 : dec m_Mod_init 88 = .ok (.sipush 602, 3) := by decide +kernel
theorem d_Mod_init_91 : dec m_Mod_init 91 = .ok (.newarray .long, 2) := by decide +kernel
theorem d_Mod_init_93 : dec m_Mod_init 93 = .ok (.putfield 43, 3) := by decide +kernel
theorem d_Mod_init_96 : dec m_Mod_init 96 = .ok (.aload_n 0, 1) := by decide +kernel
theorem d_Mod_init_97 : dec m_Mod_init 97 = .ok (.sipush 4214, 3) := by decide +kernel
theorem d_Mod_init_100 : dec m_Mod_init 100 = .ok (.newarray .int, 2) := by decide +kernel
theorem d_Mod_init_102 : dec m_Mod_init 102 = .ok (.putfield 46, 3) := by decide +kernel
theorem d_Mod_init_105 : dec m_Mod_init 105 = .ok (.aload_n 0, 1) := by decide +kernel
theorem d_Mod_init_106 : dec m_Mod_init 106 = .ok (.bipush 7, 2) := by decide +kernel
theorem d_Mod_init_108 : dec m_Mod_init 108 = .ok (.newarray .int, 2) := by decide +kernel
theorem d_Mod_init_110 : dec m_Mod_init 110 = .ok (.putfield 49, 3) := by decide +kernel
theorem d_Mod_init_113 : dec m_Mod_init 113 = .ok (.aload_n 0, 1) := by decide +kernel
theorem d_Mod_init_114 : dec m_Mod_init 114 = .ok (.sipush 602, 3) := by decide +kernel
theorem d_Mod_init_117 : dec m_Mod_init 117 = .ok (.newarray .long, 2) := by decide +kernel
theorem d_Mod_init_119 : dec m_Mod_init 119 = .ok (.putfield 52, 3) := by decide +kernel
theorem d_Mod_init_122 : dec m_Mod_init 122 = .ok (.aload_n 0, 1) := by decide +kernel
theorem d_Mod_init_123 : dec m_Mod_init 123 = .ok (.sipush 4214, 3) := by decide +kernel
theorem d_Mod_init_126 : dec m_Mod_init 126 = .ok (.newarray .int, 2) := by decide +kernel
theorem d_Mod_init_128 : dec m_Mod_init 128 = .ok (.putfield 55, 3) := by decide +kernel
theorem d_Mod_init_131 : dec m_Mod_init 131 = .ok (.aload_n 0, 1) := by decide +kernel
theorem d_Mod_init_132 : dec m_Mod_init 132 = .ok (.bipush 84, 2) := by decide +kernel
theorem d_Mod_init_134 : dec m_Mod_init 134 = .ok (.newarray .long, 2) := by decide +kernel
theorem d_Mod_init_136 : dec m_Mod_init 136 = .ok (.putfield 58, 3) := by decide +kernel
theorem d_Mod_init_139 : dec m_Mod_init 139 = .ok (.aload_n 0, 1) := by decide +kernel
theorem d_Mod_init_140 : dec m_Mod_init 140 = .ok (.sipush 588, 3) := by decide +kernel
theorem d_Mod_init_143 : dec m_Mod_init 143 = .ok (.newarray .int, 2) := by decide +kernel
theorem d_Mod_init_145 : dec m_Mod_init 145 = .ok (.putfield 61, 3) := by decide +kernel
theorem d_Mod_init_148 : dec m_Mod_init 148 = .ok (.aload_n 0, 1) := by decide +kernel
theorem d_Mod_init_149 : dec m_Mod_init 149 = .ok (.bipush 84, 2) := by decide +kernel
theorem d_Mod_init_151 : dec m_Mod_init 151 = .ok (.newarray .long, 2) := by decide +kernel
theorem d_Mod_init_153 : dec m_Mod_init 153 = .ok (.putfield 64, 3) := by decide +kernel
theorem d_Mod_init_156 : dec m_Mod_init 156 = .ok (.aload_n 0, 1) := by decide +kernel
theorem d_Mod_init_157 : dec m_Mod_init 157 = .ok (.sipush 588, 3) := by decide +kernel
theorem d_Mod_init_160 : dec m_Mod_init 160 = .ok (.newarray .int, 2) := by decide +kernel
theorem d_Mod_init_162 : dec m_Mod_init 162 = .ok (.putfield 67, 3) := by decide +kernel
theorem d_Mod_init_165 : dec m_Mod_init 165 = .ok (.aload_n 0, 1) := by decide +kernel
theorem d_Mod_init_166 : dec m_Mod_init 166 = .ok (.bipush 7, 2) := by decide +kernel
theorem d_Mod_init_168 : dec m_Mod_init 168 = .ok (.newarray .int, 2) := by decide +kernel
theorem d_Mod_init_170 : dec m_Mod_init 170 = .ok (.putfield 70, 3) := by decide +kernel
theorem d_Mod_init_173 : dec m_Mod_init 173 = .ok (.aload_n 0, 1) := by decide +kernel
theorem d_Mod_init_174 : dec m_Mod_init 174 = .ok (.bipush 7, 2) := by decide +kernel
theorem d_Mod_init_176 : dec m_Mod_init 176 = .ok (.newarray .long, 2) := by decide +kernel
theorem d_Mod_init_178 : dec m_Mod_init 178 = .ok (.putfield 73, 3) := by decide +kernel
theorem d_Mod_init_181 : dec m_Mod_init 181 = .ok (.aload_n 0, 1) := by decide +kernel
theorem d_Mod_init_182 : dec m_Mod_init 182 = .ok (.sipush 896, 3) := by decide +kernel
theorem d_Mod_init_185 : dec m_Mod_init 185 = .ok (.newarray .int, 2) := by decide +kernel
theorem d_Mod_init_187 : dec m_Mod_init 187 = .ok (.putfield 76, 3) := by decide +kernel
theorem d_Mod_init_190 : dec m_Mod_init 190 = .ok (.aload_n 0, 1) := by decide +kernel
theorem d_Mod_init_191 : dec m_Mod_init 191 = .ok (.bipush 8, 2) := by decide +kernel
theorem d_Mod_init_193 : dec m_Mod_init 193 = .ok (.newarray .int, 2) := by decide +kernel
theorem d_Mod_init_195 : dec m_Mod_init 195 = .ok (.putfield 79, 3) := by decide +kernel
theorem d_Mod_init_198 : dec m_Mod_init 198 = .ok (.aload_n 0, 1) := by decide +kernel
theorem d_Mod_init_199 : dec m_Mod_init 199 = .ok (.bipush 8, 2) := by decide +kernel
theorem d_Mod_init_201 : dec m_Mod_init 201 = .ok (.newarray .int, 2) := by decide +kernel
theorem d_Mod_init_203 : dec m_Mod_init 203 = .ok (.putfield 82, 3) := by decide +kernel
theorem d_Mod_init_206 : dec m_Mod_init 206 = .ok (.aload_n 0, 1) := by decide +kernel
theorem d_Mod_init_207 : dec m_Mod_init 207 = .ok (.bipush 8, 2) := by decide +kernel
theorem d_Mod_init_209 : dec m_Mod_init 209 = .ok (.newarray .int, 2) := by decide +kernel
theorem d_Mod_init_211 : dec m_Mod_init 211 = .ok (.putfield 85, 3) := by decide +kernel
theorem d_Mod_init_214 : dec m_Mod_init 214 = .ok (.aload_n 0, 1) := by decide +kernel
theorem d_Mod_init_215 : dec m_Mod_init 215 = .ok (.bipush 7, 2) := by decide +kernel
theorem d_Mod_init_217 : dec m_Mod_init 217 = .ok (.newarray .int, 2) := by decide +kernel
theorem d_Mod_init_219 : dec m_Mod_init 219 = .ok (.putfield 88, 3) := by decide +kernel
theorem d_Mod_init_222 : dec m_Mod_init 222 = .ok (.aload_n 0, 1) := by decide +kernel
theorem d_Mod_init_223 : dec m_Mod_init 223 = .ok (.bipush 35, 2) := by decide +kernel
theorem d_Mod_init_225 : dec m_Mod_init 225 = .ok (.newarray .int, 2) := by decide +kernel
theorem d_Mod_init_227 : dec m_Mod_init 227 = .ok (.putfield 91, 3) := by decide +kernel
theorem d_Mod_init_230 : dec m_Mod_init 230 = .ok (.aload_n 0, 1) := by decide +kernel
theorem d_Mod_init_231 : dec m_Mod_init 231 = .ok (.sipush 128, 3) := by decide +kernel
theorem d_Mod_init_234 : dec m_Mod_init 234 = .ok (.newarray .int, 2) := by decide +kernel
theorem d_Mod_init_236 : dec m_Mod_init 236 = .ok (.putfield 94, 3) := by decide +kernel
theorem d_Mod_init_239 : dec m_Mod_init 239 = .ok (.aload_n 0, 1) := by decide +kernel
theorem d_Mod_init_240 : dec m_Mod_init 240 = .ok (.sipush 896, 3) := by decide +kernel
theorem d_Mod_init_243 : dec m_Mod_init 243 = .ok (.newarray .int, 2) := by decide +kernel
theorem d_Mod_init_245 : dec m_Mod_init 245 = .ok (.putfield 97, 3) := by decide +kernel
theorem d_Mod_init_248 : dec m_Mod_init 248 = .ok (.aload_n 0, 1) := by decide +kernel
theorem d_Mod_init_249 : dec m_Mod_init 249 = .ok (.bipush 70, 2) := by decide +kernel
theorem d_Mod_init_251 : dec m_Mod_init 251 = .ok (.newarray .long, 2) := by decide +kernel
theorem d_Mod_init_253 : dec m_Mod_init 253 = .ok (.putfield 100, 3) := by decide +kernel
theorem d_Mod_init_256 : dec m_Mod_init 256 = .ok (.aload_n 0, 1) := by decide +kernel
theorem d_Mod_init_257 : dec m_Mod_init 257 = .ok (.bipush 49, 2) := by decide +kernel
theorem d_Mod_init_259 : dec m_Mod_init 259 = .ok (.newarray .long, 2) := by decide +kernel
theorem d_Mod_init_261 : dec m_Mod_init 261 = .ok (.putfield 103, 3) := by decide +kernel
theorem d_Mod_init_264 : dec m_Mod_init 264 = .ok (.aload_n 0, 1) := by decide +kernel
theorem d_Mod_init_265 : dec m_Mod_init 265 = .ok (.bipush 7, 2) := by decide +kernel
theorem d_Mod_init_267 : dec m_Mod_init 267 = .ok (.newarray .int, 2) := by decide +kernel
theorem d_Mod_init_269 : dec m_Mod_init 269 = .ok (.putfield 106, 3) := by decide +kernel
theorem d_Mod_init_272 : dec m_Mod_init 272 = .ok (.aload_n 0, 1) := by decide +kernel
theorem d_Mod_init_273 : dec m_Mod_init 273 = .ok (.bipush 7, 2) := by decide +kernel
theorem d_Mod_init_275 : dec m_Mod_init 275 = .ok (.newarray .long, 2) := by decide +kernel
theorem d_Mod_init_277 : dec m_Mod_init 277 = .ok (.putfield 109, 3) := by decide +kernel
theorem d_Mod_init_280 : dec m_Mod_init 280 = .ok (.aload_n 0, 1) := by decide +kernel
theorem d_Mod_init_281 : dec m_Mod_init 281 = .ok (.bipush 8, 2) := by decide +kernel
theorem d_Mod_init_283 : dec m_Mod_init 283 = .ok (.newarray .int, 2) := by decide +kernel
theorem d_Mod_init_285 : dec m_Mod_init 285 = .ok (.putfield 112, 3) := by decide +kernel
theorem d_Mod_init_288 : dec m_Mod_init 288 = .ok (.aload_n 0, 1) := by decide +kernel
theorem d_Mod_init_289 : dec m_Mod_init 289 = .ok (.bipush 8, 2) := by decide +kernel
theorem d_Mod_init_291 : dec m_Mod_init 291 = .ok (.newarray .int, 2) := by decide +kernel
theorem d_Mod_init_293 : dec m_Mod_init 293 = .ok (.putfield 115, 3) := by decide +kernel
theorem d_Mod_init_296 : dec m_Mod_init 296 = .ok (.aload_n 0, 1) := by decide +kernel
theorem d_Mod_init_297 : dec m_Mod_init 297 = .ok (.sipush 672, 3) := by decide +kernel
theorem d_Mod_init_300 : dec m_Mod_init 300 = .ok (.newarray .long, 2) := by decide +kernel
theorem d_Mod_init_302 : dec m_Mod_init 302 = .ok (.putfield 118, 3) := by decide +kernel
theorem d_Mod_init_305 : dec m_Mod_init 305 = .ok (.aload_n 0, 1) := by decide +kernel
theorem d_Mod_init_306 : dec m_Mod_init 306 = .ok (.iconst 4, 1) := by decide +kernel
theorem d_Mod_init_307 : dec m_Mod_init 307 = .ok (.newarray .int, 2) := by decide +kernel
theorem d_Mod_init_309 : dec m_Mod_init 309 = .ok (.dup, 1) := by decide +kernel
theorem d_Mod_init_310 : dec m_Mod_init 310 = .ok (.iconst 0, 1) := by decide +kernel
theorem d_Mod_init_311 : dec m_Mod_init 311 = .ok (.iconst (-1), 1) := by decide +kernel
theorem d_Mod_init_312 : dec m_Mod_init 312 = .ok (.iastore, 1) := by decide +kernel
theorem d_Mod_init_313 : dec m_Mod_init 313 = .ok (.dup, 1) := by decide +kernel
theorem d_Mod_init_314 : dec m_Mod_init 314 = .ok (.iconst 1, 1) := by decide +kernel
theorem d_Mod_init_315 : dec m_Mod_init 315 = .ok (.iconst (-1), 1) := by decide +kernel
theorem d_Mod_init_316 : dec m_Mod_init 316 = .ok (.iastore, 1) := by decide +kernel
theorem d_Mod_init_317 : dec m_Mod_init 317 = .ok (.dup, 1) := by decide +kernel
theorem d_Mod_init_318 : dec m_Mod_init 318 = .ok (.iconst 2, 1) := by decide +kernel
theorem d_Mod_init_319 : dec m_Mod_init 319 = .ok (.iconst (-1), 1) := by decide +kernel
theorem d_Mod_init_320 : dec m_Mod_init 320 = .ok (.iastore, 1) := by decide +kernel
theorem d_Mod_init_321 : dec m_Mod_init 321 = .ok (.dup, 1) := by decide +kernel
theorem d_Mod_init_322 : dec m_Mod_init 322 = .ok (.iconst 3, 1) := by decide +kernel
theorem d_Mod_init_323 : dec m_Mod_init 323 = .ok (.iconst (-1), 1) := by decide +kernel
theorem d_Mod_init_324 : dec m_Mod_init 324 = .ok (.iastore, 1) := by decide +kernel
theorem d_Mod_init_325 : dec m_Mod_init 325 = .ok (.putfield 121, 3) := by decide +kernel
theorem d_Mod_init_328 : dec m_Mod_init 328 = .ok (.aload_n 0, 1) := by decide +kernel
theorem d_Mod_init_329 : dec m_Mod_init 329 = .ok (.iconst 4, 1) := by decide +kernel
theorem d_Mod_init_330 : dec m_Mod_init 330 = .ok (.newarray .int, 2) := by decide +kernel
theorem d_Mod_init_332 : dec m_Mod_init 332 = .ok (.putfield 124, 3) := by decide +kernel
theorem d_Mod_init_335 : dec m_Mod_init 335 = .ok (.aload_n 0, 1) := by decide +kernel
theorem d_Mod_init_336 : dec m_Mod_init 336 = .ok (.sipush 160, 3) := by decide +kernel
theorem d_Mod_init_339 : dec m_Mod_init 339 = .ok (.newarray .int, 2) := by decide +kernel
theorem d_Mod_init_341 : dec m_Mod_init 341 = .ok (.putfield 127, 3) := by decide +kernel
theorem d_Mod_init_344 : dec m_Mod_init 344 = .ok (.iconst 0, 1) := by decide +kernel
theorem d_Mod_init_345 : dec m_Mod_init 345 = .ok (.istore_n 1, 1) := by decide +kernel
theorem d_Mod_init_346 : dec m_Mod_init 346 = .ok (.iconst 0, 1) := by decide +kernel
theorem d_Mod_init_347 : dec m_Mod_init 347 = .ok (.istore_n 2, 1) := by decide +kernel
theorem d_Mod_init_348 : dec m_Mod_init 348 = .ok (.iload_n 2, 1) := by decide +kernel
theorem d_Mod_init_349 : dec m_Mod_init 349 = .ok (.bipush 6, 2) := by decide +kernel
theorem d_Mod_init_351 : dec m_Mod_init 351 = .ok (.if_icmp .gt 90, 3) := by decide +kernel
theorem d_Mod_init_354 : dec m_Mod_init 354 = .ok (.iload_n 2, 1) := by decide +kernel
theorem d_Mod_init_355 : dec m_Mod_init 355 = .ok (.istore_n 3, 1) := by decide +kernel
theorem d_Mod_init_356 : dec m_Mod_init 356 = .ok (.iload_n 3, 1) := by decide +kernel
theorem d_Mod_init_357 : dec m_Mod_init 357 = .ok (.ifCond .lt 78, 3) := by decide +kernel
theorem d_Mod_init_360 : dec m_Mod_init 360 = .ok (.iload_n 2, 1) := by decide +kernel
theorem d_Mod_init_361 : dec m_Mod_init 361 = .ok (.iload_n 3, 1) := by decide +kernel
theorem d_Mod_init_362 : dec m_Mod_init 362 = .ok (.isub, 1) := by decide +kernel
theorem d_Mod_init_363 : dec m_Mod_init 363 = .ok (.istore 4, 2) := by decide +kernel
theorem d_Mod_init_365 : dec m_Mod_init 365 = .ok (.iload 4, 2) := by decide +kernel
theorem d_Mod_init_367 : dec m_Mod_init 367 = .ok (.ifCond .lt 62, 3) := by decide +kernel
theorem d_Mod_init_370 : dec m_Mod_init 370 = .ok (.aload_n 0, 1) := by decide +kernel
theorem d_Mod_init_371 : dec m_Mod_init 371 = .ok (.getfield 18, 3) := by decide +kernel
theorem d_Mod_init_374 : dec m_Mod_init 374 = .ok (.iload_n 1, 1) := by decide +kernel
theorem d_Mod_init_375 : dec m_Mod_init 375 = .ok (.iload_n 3, 1) := by decide +kernel
theorem d_Mod_init_376 : dec m_Mod_init 376 = .ok (.iastore, 1) := by decide +kernel
theorem d_Mod_init_377 : dec m_Mod_init 377 = .ok (.aload_n 0, 1) := by decide +kernel
theorem d_Mod_init_378 : dec m_Mod_init 378 = .ok (.getfield 22, 3) := by decide +kernel
theorem d_Mod_init_381 : dec m_Mod_init 381 = .ok (.iload_n 1, 1) := by decide +kernel
theorem d_Mod_init_382 : dec m_Mod_init 382 = .ok (.iload 4, 2) := by decide +kernel
theorem d_Mod_init_384 : dec m_Mod_init 384 = .ok (.iastore, 1) := by decide +kernel
theorem d_Mod_init_385 : dec m_Mod_init 385 = .ok (.aload_n 0, 1) := by decide +kernel
theorem d_Mod_init_386 : dec m_Mod_init 386 = .ok (.getfield 25, 3) := by decide +kernel
theorem d_Mod_init_389 : dec m_Mod_init 389 = .ok (.iload_n 1, 1) := by decide +kernel
theorem d_Mod_init_390 : dec m_Mod_init 390 = .ok (.iload_n 2, 1) := by decide +kernel
theorem d_Mod_init_391 : dec m_Mod_init 391 = .ok (.iload_n 3, 1) := by decide +kernel
theorem d_Mod_init_392 : dec m_Mod_init 392 = .ok (.isub, 1) := by decide +kernel
theorem d_Mod_init_393 : dec m_Mod_init 393 = .ok (.iload 4, 2) := by decide +kernel
theorem d_Mod_init_395 : dec m_Mod_init 395 = .ok (.isub, 1) := by decide +kernel
theorem d_Mod_init_396 : dec m_Mod_init 396 = .ok (.iastore, 1) := by decide +kernel
theorem d_Mod_init_397 : dec m_Mod_init 397 = .ok (.aload_n 0, 1) := by decide +kernel
theorem d_Mod_init_398 : dec m_Mod_init 398 = .ok (.getfield 28, 3) := by decide +kernel
theorem d_Mod_init_401 : dec m_Mod_init 401 = .ok (.bipush 49, 2) := by decide +kernel
theorem d_Mod_init_403 : dec m_Mod_init 403 = .ok (.iload_n 3, 1) := by decide +kernel
theorem d_Mod_init_404 : dec m_Mod_init 404 = .ok (.imul, 1) := by decide +kernel
theorem d_Mod_init_405 : dec m_Mod_init 405 = .ok (.bipush 7, 2) := by decide +kernel
theorem d_Mod_init_407 : dec m_Mod_init 407 = .ok (.iload 4, 2) := by decide +kernel
theorem d_Mod_init_409 : dec m_Mod_init 409 = .ok (.imul, 1) := by decide +kernel
theorem d_Mod_init_410 : dec m_Mod_init 410 = .ok (.iadd, 1) := by decide +kernel
theorem d_Mod_init_411 : dec m_Mod_init 411 = .ok (.iload_n 2, 1) := by decide +kernel
theorem d_Mod_init_412 : dec m_Mod_init 412 = .ok (.iadd, 1) := by decide +kernel
theorem d_Mod_init_413 : dec m_Mod_init 413 = .ok (.iload_n 3, 1) := by decide +kernel
theorem d_Mod_init_414 : dec m_Mod_init 414 = .ok (.isub, 1) := by decide +kernel
theorem d_Mod_init_415 : dec m_Mod_init 415 = .ok (.iload 4, 2) := by decide +kernel
theorem d_Mod_init_417 : dec m_Mod_init 417 = .ok (.isub, 1) := by decide +kernel
theorem d_Mod_init_418 : dec m_Mod_init 418 = .ok (.iload_n 1, 1) := by decide +kernel
theorem d_Mod_init_419 : dec m_Mod_init 419 = .ok (.iastore, 1) := by decide +kernel
theorem d_Mod_init_420 : dec m_Mod_init 420 = .ok (.iinc 1 1, 3) := by decide +kernel
theorem d_Mod_init_423 : dec m_Mod_init 423 = .ok (.iinc 4 (-1), 3) := by decide +kernel
theorem d_Mod_init_426 : dec m_Mod_init 426 = .ok (.goto (-61), 3) := by decide +kernel
theorem d_Mod_init_429 : dec m_Mod_init 429 = .ok (.iinc 3 (-1), 3) := by decide +kernel
theorem d_Mod_init_432 : dec m_Mod_init 432 = .ok (.goto (-76), 3) := by decide +kernel
theorem d_Mod_init_435 : dec m_Mod_init 435 = .ok (.iinc 2 1, 3) := by decide +kernel
theorem d_Mod_init_438 : dec m_Mod_init 438 = .ok (.goto (-90), 3) := by decide +kernel
theorem d_Mod_init_441 : dec m_Mod_init 441 = .ok (.aload_n 0, 1) := by decide +kernel
theorem d_Mod_init_442 : dec m_Mod_init 442 = .ok (.invokevirtual 130, 3) := by decide +kernel
theorem d_Mod_init_445 : dec m_Mod_init 445 = .ok (.return_, 1) := by decide +kernel
theorem d_Mod_in_0 : dec m_Mod_in 0 = .ok (.lload_n 0, 1) := by decide +kernel
theorem d_Mod_in_1 : dec m_Mod_in 1 = .ok (.lload_n 2, 1) := by decide +kernel
theorem d_Mod_in_2 : dec m_Mod_in 2 = .ok (.lcmp, 1) := by decide +kernel
theorem d_Mod_in_3 : dec m_Mod_in 3 = .ok (.ifCond .lt 14, 3) := by decide +kernel
theorem d_Mod_in_6 : dec m_Mod_in 6 = .ok (.lload_n 0, 1) := by decide +kernel
theorem d_Mod_in_7 : dec m_Mod_in 7 = .ok (.lload 4, 2) := by decide +kernel
theorem d_Mod_in_9 : dec m_Mod_in 9 = .ok (.lcmp, 1) := by decide +kernel
theorem d_Mod_in_10 : dec m_Mod_in 10 = .ok (.ifCond .gt 7, 3) := by decide +kernel
theorem d_Mod_in_13 : dec m_Mod_in 13 = .ok (.iconst 1, 1) := by decide +kernel
theorem d_Mod_in_14 : dec m_Mod_in 14 = .ok (.goto 4, 3) := by decide +kernel
theorem d_Mod_in_17 : dec m_Mod_in 17 = .ok (.iconst 0, 1) := by decide +kernel
theorem d_Mod_in_18 : dec m_Mod_in 18 = .ok (.ireturn, 1) := by decide +kernel
theorem d_Mod_isSlot_0 : dec m_Mod_isSlot 0 = .ok (.iload_n 0, 1) := by decide +kernel
theorem d_Mod_isSlot_1 : dec m_Mod_isSlot 1 = .ok (.ifCond .lt 13, 3) := by decide +kernel
theorem d_Mod_isSlot_4 : dec m_Mod_isSlot 4 = .ok (.iload_n 0, 1) := by decide +kernel
theorem d_Mod_isSlot_5 : dec m_Mod_isSlot 5 = .ok (.bipush 6, 2) := by decide +kernel
theorem d_Mod_isSlot_7 : dec m_Mod_isSlot 7 = .ok (.if_icmp .ge 7, 3) := by decide +kernel
theorem d_Mod_isSlot_10 : dec m_Mod_isSlot 10 = .ok (.iconst 1, 1) := by decide +kernel
theorem d_Mod_isSlot_11 : dec m_Mod_isSlot 11 = .ok (.goto 4, 3) := by decide +kernel
theorem d_Mod_isSlot_14 : dec m_Mod_isSlot 14 = .ok (.iconst 0, 1) := by decide +kernel
theorem d_Mod_isSlot_15 : dec m_Mod_isSlot 15 = .ok (.ireturn, 1) := by decide +kernel
theorem d_Mod_isGenerator_0 : dec m_Mod_isGenerator 0 = .ok (.iload_n 1, 1) := by decide +kernel
theorem d_Mod_isGenerator_1 : dec m_Mod_isGenerator 1 = .ok (.ifCond .lt 15, 3) := by decide +kernel
theorem d_Mod_isGenerator_4 : dec m_Mod_isGenerator 4 = .ok (.iload_n 1, 1) := by decide +kernel
theorem d_Mod_isGenerator_5 : dec m_Mod_isGenerator 5 = .ok (.aload_n 0, 1) := by decide +kernel
theorem d_Mod_isGenerator_6 : dec m_Mod_isGenerator 6 = .ok (.getfield 133, 3) := by decide +kernel
theorem d_Mod_isGenerator_9 : dec m_Mod_isGenerator 9 = .ok (.if_icmp .ge 7, 3) := by decide +kernel
theorem d_Mod_isGenerator_12 : dec m_Mod_isGenerator 12 = .ok (.iconst 1, 1) := by decide +kernel
theorem d_Mod_isGenerator_13 : dec m_Mod_isGenerator 13 = .ok (.goto 4, 3) := by decide +kernel
theorem d_Mod_isGenerator_16 : dec m_Mod_isGenerator 16 = .ok (.iconst 0, 1) := by decide +kernel
theorem d_Mod_isGenerator_17 : dec m_Mod_isGenerator 17 = .ok (.ireturn, 1) := by decide +kernel
theorem d_Mod_isTerm_0 : dec m_Mod_isTerm 0 = .ok (.iload_n 0, 1) := by decide +kernel
theorem d_Mod_isTerm_1 : dec m_Mod_isTerm 1 = .ok (.i2l, 1) := by decide +kernel
theorem d_Mod_isTerm_2 : dec m_Mod_isTerm 2 = .ok (.lconst 0, 1) := by decide +kernel
theorem d_Mod_isTerm_3 : dec m_Mod_isTerm 3 = .ok (.ldc2_w 137, 3) := by decide +kernel
theorem d_Mod_isTerm_6 : dec m_Mod_isTerm 6 = .ok (.invokestatic 139, 3) := by decide +kernel
theorem d_Mod_isTerm_9 : dec m_Mod_isTerm 9 = .ok (.ifCond .eq 41, 3) := by decide +kernel
theorem d_Mod_isTerm_12 : dec m_Mod_isTerm 12 = .ok (.iload_n 1, 1) := by decide +kernel
theorem d_Mod_isTerm_13 : dec m_Mod_isTerm 13 = .ok (.i2l, 1) := by decide +kernel
theorem d_Mod_isTerm_14 : dec m_Mod_isTerm 14 = .ok (.lconst 0, 1) := by decide +kernel
theorem d_Mod_isTerm_15 : dec m_Mod_isTerm 15 = .ok (.ldc2_w 137, 3) := by decide +kernel
theorem d_Mod_isTerm_18 : dec m_Mod_isTerm 18 = .ok (.invokestatic 139, 3) := by decide +kernel
theorem d_Mod_isTerm_21 : dec m_Mod_isTerm 21 = .ok (.ifCond .eq 29, 3) := by decide +kernel
theorem d_Mod_isTerm_24 : dec m_Mod_isTerm 24 = .ok (.iload_n 2, 1) := by decide +kernel
theorem d_Mod_isTerm_25 : dec m_Mod_isTerm 25 = .ok (.i2l, 1) := by decide +kernel
theorem d_Mod_isTerm_26 : dec m_Mod_isTerm 26 = .ok (.lconst 0, 1) := by decide +kernel
theorem d_Mod_isTerm_27 : dec m_Mod_isTerm 27 = .ok (.ldc2_w 137, 3) := by decide +kernel
theorem d_Mod_isTerm_30 : dec m_Mod_isTerm 30 = .ok (.invokestatic 139, 3) := by decide +kernel
theorem d_Mod_isTerm_33 : dec m_Mod_isTerm 33 = .ok (.ifCond .eq 17, 3) := by decide +kernel
theorem d_Mod_isTerm_36 : dec m_Mod_isTerm 36 = .ok (.iload_n 0, 1) := by decide +kernel
theorem d_Mod_isTerm_37 : dec m_Mod_isTerm 37 = .ok (.iload_n 1, 1) := by decide +kernel
theorem d_Mod_isTerm_38 : dec m_Mod_isTerm 38 = .ok (.iadd, 1) := by decide +kernel
theorem d_Mod_isTerm_39 : dec m_Mod_isTerm 39 = .ok (.iload_n 2, 1) := by decide +kernel
theorem d_Mod_isTerm_40 : dec m_Mod_isTerm 40 = .ok (.iadd, 1) := by decide +kernel
theorem d_Mod_isTerm_41 : dec m_Mod_isTerm 41 = .ok (.bipush 6, 2) := by decide +kernel
theorem d_Mod_isTerm_43 : dec m_Mod_isTerm 43 = .ok (.if_icmp .gt 7, 3) := by decide +kernel
theorem d_Mod_isTerm_46 : dec m_Mod_isTerm 46 = .ok (.iconst 1, 1) := by decide +kernel
theorem d_Mod_isTerm_47 : dec m_Mod_isTerm 47 = .ok (.goto 4, 3) := by decide +kernel
theorem d_Mod_isTerm_50 : dec m_Mod_isTerm 50 = .ok (.iconst 0, 1) := by decide +kernel
theorem d_Mod_isTerm_51 : dec m_Mod_isTerm 51 = .ok (.ireturn, 1) := by decide +kernel
theorem d_Mod_termOf_0 : dec m_Mod_termOf 0 = .ok (.aload_n 0, 1) := by decide +kernel
theorem d_Mod_termOf_1 : dec m_Mod_termOf 1 = .ok (.getfield 28, 3) := by decide +kernel
theorem d_Mod_termOf_4 : dec m_Mod_termOf 4 = .ok (.bipush 49, 2) := by decide +kernel
theorem d_Mod_termOf_6 : dec m_Mod_termOf 6 = .ok (.iload_n 1, 1) := by decide +kernel
theorem d_Mod_termOf_7 : dec m_Mod_termOf 7 = .ok (.imul, 1) := by decide +kernel
theorem d_Mod_termOf_8 : dec m_Mod_termOf 8 = .ok (.bipush 7, 2) := by decide +kernel
theorem d_Mod_termOf_10 : dec m_Mod_termOf 10 = .ok (.iload_n 2, 1) := by decide +kernel
theorem d_Mod_termOf_11 : dec m_Mod_termOf 11 = .ok (.imul, 1) := by decide +kernel
theorem d_Mod_termOf_12 : dec m_Mod_termOf 12 = .ok (.iadd, 1) := by decide +kernel
theorem d_Mod_termOf_13 : dec m_Mod_termOf 13 = .ok (.iload_n 3, 1) := by decide +kernel
theorem d_Mod_termOf_14 : dec m_Mod_termOf 14 = .ok (.iadd, 1) := by decide +kernel
theorem d_Mod_termOf_15 : dec m_Mod_termOf 15 = .ok (.iaload, 1) := by decide +kernel
theorem d_Mod_termOf_16 : dec m_Mod_termOf 16 = .ok (.ireturn, 1) := by decide +kernel
theorem d_Mod_degreeOf_0 : dec m_Mod_degreeOf 0 = .ok (.aload_n 0, 1) := by decide +kernel
theorem d_Mod_degreeOf_1 : dec m_Mod_degreeOf 1 = .ok (.getfield 18, 3) := by decide +kernel
theorem d_Mod_degreeOf_4 : dec m_Mod_degreeOf 4 = .ok (.iload_n 1, 1) := by decide +kernel
theorem d_Mod_degreeOf_5 : dec m_Mod_degreeOf 5 = .ok (.iaload, 1) := by decide +kernel
theorem d_Mod_degreeOf_6 : dec m_Mod_degreeOf 6 = .ok (.aload_n 0, 1) := by decide +kernel
theorem d_Mod_degreeOf_7 : dec m_Mod_degreeOf 7 = .ok (.getfield 22, 3) := by decide +kernel
theorem d_Mod_degreeOf_10 : dec m_Mod_degreeOf 10 = .ok (.iload_n 1, 1) := by decide +kernel
theorem d_Mod_degreeOf_11 : dec m_Mod_degreeOf 11 = .ok (.iaload, 1) := by decide +kernel
theorem d_Mod_degreeOf_12 : dec m_Mod_degreeOf 12 = .ok (.iadd, 1) := by decide +kernel
theorem d_Mod_degreeOf_13 : dec m_Mod_degreeOf 13 = .ok (.aload_n 0, 1) := by decide +kernel
theorem d_Mod_degreeOf_14 : dec m_Mod_degreeOf 14 = .ok (.getfield 25, 3) := by decide +kernel
theorem d_Mod_degreeOf_17 : dec m_Mod_degreeOf 17 = .ok (.iload_n 1, 1) := by decide +kernel
theorem d_Mod_degreeOf_18 : dec m_Mod_degreeOf 18 = .ok (.iaload, 1) := by decide +kernel
theorem d_Mod_degreeOf_19 : dec m_Mod_degreeOf 19 = .ok (.iadd, 1) := by decide +kernel
theorem d_Mod_degreeOf_20 : dec m_Mod_degreeOf 20 = .ok (.ireturn, 1) := by decide +kernel
theorem d_Mod_size_0 : dec m_Mod_size 0 = .ok (.lload_n 0, 1) := by decide +kernel
theorem d_Mod_size_1 : dec m_Mod_size 1 = .ok (.lconst 0, 1) := by decide +kernel
theorem d_Mod_size_2 : dec m_Mod_size 2 = .ok (.lcmp, 1) := by decide +kernel
theorem d_Mod_size_3 : dec m_Mod_size 3 = .ok (.ifCond .ge 8, 3) := by decide +kernel
theorem d_Mod_size_6 : dec m_Mod_size 6 = .ok (.lload_n 0, 1) := by decide +kernel
theorem d_Mod_size_7 : dec m_Mod_size 7 = .ok (.lneg, 1) := by decide +kernel
theorem d_Mod_size_8 : dec m_Mod_size 8 = .ok (.goto 4, 3) := by decide +kernel
theorem d_Mod_size_11 : dec m_Mod_size 11 = .ok (.lload_n 0, 1) := by decide +kernel
theorem d_Mod_size_12 : dec m_Mod_size 12 = .ok (.lreturn, 1) := by decide +kernel
theorem d_Mod_timesUp_0 : dec m_Mod_timesUp 0 = .ok (.lload_n 0, 1) := by decide +kernel
theorem d_Mod_timesUp_1 : dec m_Mod_timesUp 1 = .ok (.lconst 0, 1) := by decide +kernel
theorem d_Mod_timesUp_2 : dec m_Mod_timesUp 2 = .ok (.lcmp, 1) := by decide +kernel
theorem d_Mod_timesUp_3 : dec m_Mod_timesUp 3 = .ok (.ifCond .eq 9, 3) := by decide +kernel
theorem d_Mod_timesUp_6 : dec m_Mod_timesUp 6 = .ok (.lload_n 2, 1) := by decide +kernel
theorem d_Mod_timesUp_7 : dec m_Mod_timesUp 7 = .ok (.lconst 0, 1) := by decide +kernel
theorem d_Mod_timesUp_8 : dec m_Mod_timesUp 8 = .ok (.lcmp, 1) := by decide +kernel
theorem d_Mod_timesUp_9 : dec m_Mod_timesUp 9 = .ok (.ifCond .ne 5, 3) := by decide +kernel
theorem d_Mod_timesUp_12 : dec m_Mod_timesUp 12 = .ok (.lconst 0, 1) := by decide +kernel
theorem d_Mod_timesUp_13 : dec m_Mod_timesUp 13 = .ok (.lreturn, 1) := by decide +kernel
theorem d_Mod_timesUp_14 : dec m_Mod_timesUp 14 = .ok (.lload_n 0, 1) := by decide +kernel
theorem d_Mod_timesUp_15 : dec m_Mod_timesUp 15 = .ok (.lconst 0, 1) := by decide +kernel
theorem d_Mod_timesUp_16 : dec m_Mod_timesUp 16 = .ok (.lcmp, 1) := by decide +kernel
theorem d_Mod_timesUp_17 : dec m_Mod_timesUp 17 = .ok (.ifCond .lt 19, 3) := by decide +kernel
theorem d_Mod_timesUp_20 : dec m_Mod_timesUp 20 = .ok (.lload_n 2, 1) := by decide +kernel
theorem d_Mod_timesUp_21 : dec m_Mod_timesUp 21 = .ok (.lconst 0, 1) := by decide +kernel
theorem d_Mod_timesUp_22 : dec m_Mod_timesUp 22 = .ok (.lcmp, 1) := by decide +kernel
theorem d_Mod_timesUp_23 : dec m_Mod_timesUp 23 = .ok (.ifCond .lt 13, 3) := by decide +kernel
theorem d_Mod_timesUp_26 : dec m_Mod_timesUp 26 = .ok (.lload_n 0, 1) := by decide +kernel
theorem d_Mod_timesUp_27 : dec m_Mod_timesUp 27 = .ok (.ldc2_w 143, 3) := by decide +kernel
theorem d_Mod_timesUp_30 : dec m_Mod_timesUp 30 = .ok (.lload_n 2, 1) := by decide +kernel
theorem d_Mod_timesUp_31 : dec m_Mod_timesUp 31 = .ok (.ldiv, 1) := by decide +kernel
theorem d_Mod_timesUp_32 : dec m_Mod_timesUp 32 = .ok (.lcmp, 1) := by decide +kernel
theorem d_Mod_timesUp_33 : dec m_Mod_timesUp 33 = .ok (.ifCond .le 9, 3) := by decide +kernel
theorem d_Mod_timesUp_36 : dec m_Mod_timesUp 36 = .ok (.ldc2_w 145, 3) := by decide +kernel
theorem d_Mod_timesUp_39 : dec m_Mod_timesUp 39 = .ok (.goto 6, 3) := by decide +kernel
theorem d_Mod_timesUp_42 : dec m_Mod_timesUp 42 = .ok (.lload_n 0, 1) := by decide +kernel
theorem d_Mod_timesUp_43 : dec m_Mod_timesUp 43 = .ok (.lload_n 2, 1) := by decide +kernel
theorem d_Mod_timesUp_44 : dec m_Mod_timesUp 44 = .ok (.lmul, 1) := by decide +kernel
theorem d_Mod_timesUp_45 : dec m_Mod_timesUp 45 = .ok (.lreturn, 1) := by decide +kernel
theorem d_Mod_plusUp_0 : dec m_Mod_plusUp 0 = .ok (.lload_n 0, 1) := by decide +kernel
theorem d_Mod_plusUp_1 : dec m_Mod_plusUp 1 = .ok (.lconst 0, 1) := by decide +kernel
theorem d_Mod_plusUp_2 : dec m_Mod_plusUp 2 = .ok (.lcmp, 1) := by decide +kernel
theorem d_Mod_plusUp_3 : dec m_Mod_plusUp 3 = .ok (.ifCond .lt 19, 3) := by decide +kernel
theorem d_Mod_plusUp_6 : dec m_Mod_plusUp 6 = .ok (.lload_n 2, 1) := by decide +kernel
theorem d_Mod_plusUp_7 : dec m_Mod_plusUp 7 = .ok (.lconst 0, 1) := by decide +kernel
theorem d_Mod_plusUp_8 : dec m_Mod_plusUp 8 = .ok (.lcmp, 1) := by decide +kernel
theorem d_Mod_plusUp_9 : dec m_Mod_plusUp 9 = .ok (.ifCond .lt 13, 3) := by decide +kernel
theorem d_Mod_plusUp_12 : dec m_Mod_plusUp 12 = .ok (.lload_n 0, 1) := by decide +kernel
theorem d_Mod_plusUp_13 : dec m_Mod_plusUp 13 = .ok (.ldc2_w 143, 3) := by decide +kernel
theorem d_Mod_plusUp_16 : dec m_Mod_plusUp 16 = .ok (.lload_n 2, 1) := by decide +kernel
theorem d_Mod_plusUp_17 : dec m_Mod_plusUp 17 = .ok (.lsub, 1) := by decide +kernel
theorem d_Mod_plusUp_18 : dec m_Mod_plusUp 18 = .ok (.lcmp, 1) := by decide +kernel
theorem d_Mod_plusUp_19 : dec m_Mod_plusUp 19 = .ok (.ifCond .le 9, 3) := by decide +kernel
theorem d_Mod_plusUp_22 : dec m_Mod_plusUp 22 = .ok (.ldc2_w 145, 3) := by decide +kernel
theorem d_Mod_plusUp_25 : dec m_Mod_plusUp 25 = .ok (.goto 6, 3) := by decide +kernel
theorem d_Mod_plusUp_28 : dec m_Mod_plusUp 28 = .ok (.lload_n 0, 1) := by decide +kernel
theorem d_Mod_plusUp_29 : dec m_Mod_plusUp 29 = .ok (.lload_n 2, 1) := by decide +kernel
theorem d_Mod_plusUp_30 : dec m_Mod_plusUp 30 = .ok (.ladd, 1) := by decide +kernel
theorem d_Mod_plusUp_31 : dec m_Mod_plusUp 31 = .ok (.lreturn, 1) := by decide +kernel
theorem d_Mod_isGreater_0 : dec m_Mod_isGreater 0 = .ok (.aload_n 0, 1) := by decide +kernel
theorem d_Mod_isGreater_1 : dec m_Mod_isGreater 1 = .ok (.iload_n 1, 1) := by decide +kernel
theorem d_Mod_isGreater_2 : dec m_Mod_isGreater 2 = .ok (.invokevirtual 147, 3) := by decide +kernel
theorem d_Mod_isGreater_5 : dec m_Mod_isGreater 5 = .ok (.aload_n 0, 1) := by decide +kernel
theorem d_Mod_isGreater_6 : dec m_Mod_isGreater 6 = .ok (.iload_n 2, 1) := by decide +kernel
theorem d_Mod_isGreater_7 : dec m_Mod_isGreater 7 = .ok (.invokevirtual 147, 3) := by decide +kernel
theorem d_Mod_isGreater_10 : dec m_Mod_isGreater 10 = .ok (.isub, 1) := by decide +kernel
theorem d_Mod_isGreater_11 : dec m_Mod_isGreater 11 = .ok (.istore_n 3, 1) := by decide +kernel
theorem d_Mod_isGreater_12 : dec m_Mod_isGreater 12 = .ok (.iconst 0, 1) := by decide +kernel
theorem d_Mod_isGreater_13 : dec m_Mod_isGreater 13 = .ok (.istore 4, 2) := by decide +kernel
theorem d_Mod_isGreater_15 : dec m_Mod_isGreater 15 = .ok (.iconst 0, 1) := by decide +kernel
theorem d_Mod_isGreater_16 : dec m_Mod_isGreater 16 = .ok (.istore 5, 2) := by decide +kernel
theorem d_Mod_isGreater_18 : dec m_Mod_isGreater 18 = .ok (.aload_n 0, 1) := by decide +kernel
theorem d_Mod_isGreater_19 : dec m_Mod_isGreater 19 = .ok (.getfield 151, 3) := by decide +kernel
theorem d_Mod_isGreater_22 : dec m_Mod_isGreater 22 = .ok (.ifCond .ne 36, 3) := by decide +kernel
theorem d_Mod_isGreater_25 : dec m_Mod_isGreater 25 = .ok (.aload_n 0, 1) := by decide +kernel
theorem d_Mod_isGreater_26 : dec m_Mod_isGreater 26 = .ok (.getfield 18, 3) := by decide +kernel
theorem d_Mod_isGreater_29 : dec m_Mod_isGreater 29 = .ok (.iload_n 1, 1) := by decide +kernel
theorem d_Mod_isGreater_30 : dec m_Mod_isGreater 30 = .ok (.iaload, 1) := by decide +kernel
theorem d_Mod_isGreater_31 : dec m_Mod_isGreater 31 = .ok (.aload_n 0, 1) := by decide +kernel
theorem d_Mod_isGreater_32 : dec m_Mod_isGreater 32 = .ok (.getfield 18, 3) := by decide +kernel
theorem d_Mod_isGreater_35 : dec m_Mod_isGreater 35 = .ok (.iload_n 2, 1) := by decide +kernel
theorem d_Mod_isGreater_36 : dec m_Mod_isGreater 36 = .ok (.iaload, 1) := by decide +kernel
theorem d_Mod_isGreater_37 : dec m_Mod_isGreater 37 = .ok (.isub, 1) := by decide +kernel
theorem d_Mod_isGreater_38 : dec m_Mod_isGreater 38 = .ok (.istore 4, 2) := by decide +kernel
theorem d_Mod_isGreater_40 : dec m_Mod_isGreater 40 = .ok (.aload_n 0, 1) := by decide +kernel
theorem d_Mod_isGreater_41 : dec m_Mod_isGreater 41 = .ok (.getfield 22, 3) := by decide +kernel
theorem d_Mod_isGreater_44 : dec m_Mod_isGreater 44 = .ok (.iload_n 1, 1) := by decide +kernel
theorem d_Mod_isGreater_45 : dec m_Mod_isGreater 45 = .ok (.iaload, 1) := by decide +kernel
theorem d_Mod_isGreater_46 : dec m_Mod_isGreater 46 = .ok (.aload_n 0, 1) := by decide +kernel
theorem d_Mod_isGreater_47 : dec m_Mod_isGreater 47 = .ok (.getfield 22, 3) := by decide +kernel
theorem d_Mod_isGreater_50 : dec m_Mod_isGreater 50 = .ok (.iload_n 2, 1) := by decide +kernel
theorem d_Mod_isGreater_51 : dec m_Mod_isGreater 51 = .ok (.iaload, 1) := by decide +kernel
theorem d_Mod_isGreater_52 : dec m_Mod_isGreater 52 = .ok (.isub, 1) := by decide +kernel
theorem d_Mod_isGreater_53 : dec m_Mod_isGreater 53 = .ok (.istore 5, 2) := by decide +kernel
theorem d_Mod_isGreater_55 : dec m_Mod_isGreater 55 = .ok (.goto 74, 3) := by decide +kernel
theorem d_Mod_isGreater_58 : dec m_Mod_isGreater 58 = .ok (.aload_n 0, 1) := by decide +kernel
theorem d_Mod_isGreater_59 : dec m_Mod_isGreater 59 = .ok (.getfield 151, 3) := by decide +kernel
theorem d_Mod_isGreater_62 : dec m_Mod_isGreater 62 = .ok (.iconst 1, 1) := by decide +kernel
theorem d_Mod_isGreater_63 : dec m_Mod_isGreater 63 = .ok (.if_icmp .ne 36, 3) := by decide +kernel
theorem d_Mod_isGreater_66 : dec m_Mod_isGreater 66 = .ok (.aload_n 0, 1) := by decide +kernel
theorem d_Mod_isGreater_67 : dec m_Mod_isGreater 67 = .ok (.getfield 25, 3) := by decide +kernel
theorem d_Mod_isGreater_70 : dec m_Mod_isGreater 70 = .ok (.iload_n 2, 1) := by decide +kernel
theorem d_Mod_isGreater_71 : dec m_Mod_isGreater 71 = .ok (.iaload, 1) := by decide +kernel
theorem d_Mod_isGreater_72 : dec m_Mod_isGreater 72 = .ok (.aload_n 0, 1) := by decide +kernel
theorem d_Mod_isGreater_73 : dec m_Mod_isGreater 73 = .ok (.getfield 25, 3) := by decide +kernel
theorem d_Mod_isGreater_76 : dec m_Mod_isGreater 76 = .ok (.iload_n 1, 1) := by decide +kernel
theorem d_Mod_isGreater_77 : dec m_Mod_isGreater 77 = .ok (.iaload, 1) := by decide +kernel
theorem d_Mod_isGreater_78 : dec m_Mod_isGreater 78 = .ok (.isub, 1) := by decide +kernel
theorem d_Mod_isGreater_79 : dec m_Mod_isGreater 79 = .ok (.istore 4, 2) := by decide +kernel
theorem d_Mod_isGreater_81 : dec m_Mod_isGreater 81 = .ok (.aload_n 0, 1) := by decide +kernel
theorem d_Mod_isGreater_82 : dec m_Mod_isGreater 82 = .ok (.getfield 22, 3) := by decide +kernel
theorem d_Mod_isGreater_85 : dec m_Mod_isGreater 85 = .ok (.iload_n 2, 1) := by decide +kernel
theorem d_Mod_isGreater_86 : dec m_Mod_isGreater 86 = .ok (.iaload, 1) := by decide +kernel
theorem d_Mod_isGreater_87 : dec m_Mod_isGreater 87 = .ok (.aload_n 0, 1) := by decide +kernel
theorem d_Mod_isGreater_88 : dec m_Mod_isGreater 88 = .ok (.getfield 22, 3) := by decide +kernel
theorem d_Mod_isGreater_91 : dec m_Mod_isGreater 91 = .ok (.iload_n 1, 1) := by decide +kernel
theorem d_Mod_isGreater_92 : dec m_Mod_isGreater 92 = .ok (.iaload, 1) := by decide +kernel
theorem d_Mod_isGreater_93 : dec m_Mod_isGreater 93 = .ok (.isub, 1) := by decide +kernel
theorem d_Mod_isGreater_94 : dec m_Mod_isGreater 94 = .ok (.istore 5, 2) := by decide +kernel
theorem d_Mod_isGreater_96 : dec m_Mod_isGreater 96 = .ok (.goto 33, 3) := by decide +kernel
theorem d_Mod_isGreater_99 : dec m_Mod_isGreater 99 = .ok (.aload_n 0, 1) := by decide +kernel
theorem d_Mod_isGreater_100 : dec m_Mod_isGreater 100 = .ok (.getfield 25, 3) := by decide +kernel
theorem d_Mod_isGreater_103 : dec m_Mod_isGreater 103 = .ok (.iload_n 1, 1) := by decide +kernel
theorem d_Mod_isGreater_104 : dec m_Mod_isGreater 104 = .ok (.iaload, 1) := by decide +kernel
theorem d_Mod_isGreater_105 : dec m_Mod_isGreater 105 = .ok (.aload_n 0, 1) := by decide +kernel
theorem d_Mod_isGreater_106 : dec m_Mod_isGreater 106 = .ok (.getfield 25, 3) := by decide +kernel
theorem d_Mod_isGreater_109 : dec m_Mod_isGreater 109 = .ok (.iload_n 2, 1) := by decide +kernel
theorem d_Mod_isGreater_110 : dec m_Mod_isGreater 110 = .ok (.iaload, 1) := by decide +kernel
theorem d_Mod_isGreater_111 : dec m_Mod_isGreater 111 = .ok (.isub, 1) := by decide +kernel
theorem d_Mod_isGreater_112 : dec m_Mod_isGreater 112 = .ok (.istore 4, 2) := by decide +kernel
theorem d_Mod_isGreater_114 : dec m_Mod_isGreater 114 = .ok (.aload_n 0, 1) := by decide +kernel
theorem d_Mod_isGreater_115 : dec m_Mod_isGreater 115 = .ok (.getfield 22, 3) := by decide +kernel
theorem d_Mod_isGreater_118 : dec m_Mod_isGreater 118 = .ok (.iload_n 1, 1) := by decide +kernel
theorem d_Mod_isGreater_119 : dec m_Mod_isGreater 119 = .ok (.iaload, 1) := by decide +kernel
theorem d_Mod_isGreater_120 : dec m_Mod_isGreater 120 = .ok (.aload_n 0, 1) := by decide +kernel
theorem d_Mod_isGreater_121 : dec m_Mod_isGreater 121 = .ok (.getfield 22, 3) := by decide +kernel
theorem d_Mod_isGreater_124 : dec m_Mod_isGreater 124 = .ok (.iload_n 2, 1) := by decide +kernel
theorem d_Mod_isGreater_125 : dec m_Mod_isGreater 125 = .ok (.iaload, 1) := by decide +kernel
theorem d_Mod_isGreater_126 : dec m_Mod_isGreater 126 = .ok (.isub, 1) := by decide +kernel
theorem d_Mod_isGreater_127 : dec m_Mod_isGreater 127 = .ok (.istore 5, 2) := by decide +kernel
theorem d_Mod_isGreater_129 : dec m_Mod_isGreater 129 = .ok (.iload_n 3, 1) := by decide +kernel
theorem d_Mod_isGreater_130 : dec m_Mod_isGreater 130 = .ok (.ifCond .eq 15, 3) := by decide +kernel
theorem d_Mod_isGreater_133 : dec m_Mod_isGreater 133 = .ok (.iload_n 3, 1) := by decide +kernel
theorem d_Mod_isGreater_134 : dec m_Mod_isGreater 134 = .ok (.ifCond .le 7, 3) := by decide +kernel
theorem d_Mod_isGreater_137 : dec m_Mod_isGreater 137 = .ok (.iconst 1, 1) := by decide +kernel
theorem d_Mod_isGreater_138 : dec m_Mod_isGreater 138 = .ok (.goto 35, 3) := by decide +kernel
theorem d_Mod_isGreater_141 : dec m_Mod_isGreater 141 = .ok (.iconst 0, 1) := by decide +kernel
theorem d_Mod_isGreater_142 : dec m_Mod_isGreater 142 = .ok (.goto 31, 3) := by decide +kernel
theorem d_Mod_isGreater_145 : dec m_Mod_isGreater 145 = .ok (.iload 4, 2) := by decide +kernel
theorem d_Mod_isGreater_147 : dec m_Mod_isGreater 147 = .ok (.ifCond .eq 16, 3) := by decide +kernel
theorem d_Mod_isGreater_150 : dec m_Mod_isGreater 150 = .ok (.iload 4, 2) := by decide +kernel
theorem d_Mod_isGreater_152 : dec m_Mod_isGreater 152 = .ok (.ifCond .le 7, 3) := by decide +kernel
theorem d_Mod_isGreater_155 : dec m_Mod_isGreater 155 = .ok (.iconst 1, 1) := by decide +kernel
theorem d_Mod_isGreater_156 : dec m_Mod_isGreater 156 = .ok (.goto 17, 3) := by decide +kernel
theorem d_Mod_isGreater_159 : dec m_Mod_isGreater 159 = .ok (.iconst 0, 1) := by decide +kernel
theorem d_Mod_isGreater_160 : dec m_Mod_isGreater 160 = .ok (.goto 13, 3) := by decide +kernel
theorem d_Mod_isGreater_163 : dec m_Mod_isGreater 163 = .ok (.iload 5, 2) := by decide +kernel
theorem d_Mod_isGreater_165 : dec m_Mod_isGreater 165 = .ok (.ifCond .le 7, 3) := by decide +kernel
theorem d_Mod_isGreater_168 : dec m_Mod_isGreater 168 = .ok (.iconst 1, 1) := by decide +kernel
theorem d_Mod_isGreater_169 : dec m_Mod_isGreater 169 = .ok (.goto 4, 3) := by decide +kernel
theorem d_Mod_isGreater_172 : dec m_Mod_isGreater 172 = .ok (.iconst 0, 1) := by decide +kernel
theorem d_Mod_isGreater_173 : dec m_Mod_isGreater 173 = .ok (.ireturn, 1) := by decide +kernel
theorem d_Mod_ranks_0 : dec m_Mod_ranks 0 = .ok (.iconst 0, 1) := by decide +kernel
theorem d_Mod_ranks_1 : dec m_Mod_ranks 1 = .ok (.istore_n 1, 1) := by decide +kernel
theorem d_Mod_ranks_2 : dec m_Mod_ranks 2 = .ok (.iload_n 1, 1) := by decide +kernel
theorem d_Mod_ranks_3 : dec m_Mod_ranks 3 = .ok (.bipush 84, 2) := by decide +kernel
theorem d_Mod_ranks_5 : dec m_Mod_ranks 5 = .ok (.if_icmp .ge 56, 3) := by decide +kernel
theorem d_Mod_ranks_8 : dec m_Mod_ranks 8 = .ok (.iconst 0, 1) := by decide +kernel
theorem d_Mod_ranks_9 : dec m_Mod_ranks 9 = .ok (.istore_n 2, 1) := by decide +kernel
theorem d_Mod_ranks_10 : dec m_Mod_ranks 10 = .ok (.iconst 0, 1) := by decide +kernel
theorem d_Mod_ranks_11 : dec m_Mod_ranks 11 = .ok (.istore_n 3, 1) := by decide +kernel
theorem d_Mod_ranks_12 : dec m_Mod_ranks 12 = .ok (.iload_n 3, 1) := by decide +kernel
theorem d_Mod_ranks_13 : dec m_Mod_ranks 13 = .ok (.bipush 84, 2) := by decide +kernel
theorem d_Mod_ranks_15 : dec m_Mod_ranks 15 = .ok (.if_icmp .ge 26, 3) := by decide +kernel
theorem d_Mod_ranks_18 : dec m_Mod_ranks 18 = .ok (.iload_n 2, 1) := by decide +kernel
theorem d_Mod_ranks_19 : dec m_Mod_ranks 19 = .ok (.aload_n 0, 1) := by decide +kernel
theorem d_Mod_ranks_20 : dec m_Mod_ranks 20 = .ok (.iload_n 1, 1) := by decide +kernel
theorem d_Mod_ranks_21 : dec m_Mod_ranks 21 = .ok (.iload_n 3, 1) := by decide +kernel
theorem d_Mod_ranks_22 : dec m_Mod_ranks 22 = .ok (.invokevirtual 154, 3) := by decide +kernel
theorem d_Mod_ranks_25 : dec m_Mod_ranks 25 = .ok (.ifCond .eq 7, 3) := by decide +kernel
theorem d_Mod_ranks_28 : dec m_Mod_ranks 28 = .ok (.iconst 1, 1) := by decide +kernel
theorem d_Mod_ranks_29 : dec m_Mod_ranks 29 = .ok (.goto 4, 3) := by decide +kernel
theorem d_Mod_ranks_32 : dec m_Mod_ranks 32 = .ok (.iconst 0, 1) := by decide +kernel
theorem d_Mod_ranks_33 : dec m_Mod_ranks 33 = .ok (.iadd, 1) := by decide +kernel
theorem d_Mod_ranks_34 : dec m_Mod_ranks 34 = .ok (.istore_n 2, 1) := by decide +kernel
theorem d_Mod_ranks_35 : dec m_Mod_ranks 35 = .ok (.iinc 3 1, 3) := by decide +kernel
theorem d_Mod_ranks_38 : dec m_Mod_ranks 38 = .ok (.goto (-26), 3) := by decide +kernel
theorem d_Mod_ranks_41 : dec m_Mod_ranks 41 = .ok (.aload_n 0, 1) := by decide +kernel
theorem d_Mod_ranks_42 : dec m_Mod_ranks 42 = .ok (.getfield 31, 3) := by decide +kernel
theorem d_Mod_ranks_45 : dec m_Mod_ranks 45 = .ok (.iload_n 2, 1) := by decide +kernel
theorem d_Mod_ranks_46 : dec m_Mod_ranks 46 = .ok (.iload_n 1, 1) := by decide +kernel
theorem d_Mod_ranks_47 : dec m_Mod_ranks 47 = .ok (.iastore, 1) := by decide +kernel
theorem d_Mod_ranks_48 : dec m_Mod_ranks 48 = .ok (.aload_n 0, 1) := by decide +kernel
theorem d_Mod_ranks_49 : dec m_Mod_ranks 49 = .ok (.getfield 34, 3) := by decide +kernel
theorem d_Mod_ranks_52 : dec m_Mod_ranks 52 = .ok (.iload_n 1, 1) := by decide +kernel
theorem d_Mod_ranks_53 : dec m_Mod_ranks 53 = .ok (.iload_n 2, 1) := by decide +kernel
theorem d_Mod_ranks_54 : dec m_Mod_ranks 54 = .ok (.iastore, 1) := by decide +kernel
theorem d_Mod_ranks_55 : dec m_Mod_ranks 55 = .ok (.iinc 1 1, 3) := by decide +kernel
theorem d_Mod_ranks_58 : dec m_Mod_ranks 58 = .ok (.goto (-56), 3) := by decide +kernel
theorem d_Mod_ranks_61 : dec m_Mod_ranks 61 = .ok (.return_, 1) := by decide +kernel
theorem d_Mod_leading_0 : dec m_Mod_leading 0 = .ok (.bipush 83, 2) := by decide +kernel
theorem d_Mod_leading_2 : dec m_Mod_leading 2 = .ok (.istore_n 2, 1) := by decide +kernel
theorem d_Mod_leading_3 : dec m_Mod_leading 3 = .ok (.iload_n 2, 1) := by decide +kernel
theorem d_Mod_leading_4 : dec m_Mod_leading 4 = .ok (.ifCond .lt 37, 3) := by decide +kernel
theorem d_Mod_leading_7 : dec m_Mod_leading 7 = .ok (.aload_n 0, 1) := by decide +kernel
theorem d_Mod_leading_8 : dec m_Mod_leading 8 = .ok (.getfield 9, 3) := by decide +kernel
theorem d_Mod_leading_11 : dec m_Mod_leading 11 = .ok (.bipush 84, 2) := by decide +kernel
theorem d_Mod_leading_13 : dec m_Mod_leading 13 = .ok (.iload_n 1, 1) := by decide +kernel
theorem d_Mod_leading_14 : dec m_Mod_leading 14 = .ok (.imul, 1) := by decide +kernel
theorem d_Mod_leading_15 : dec m_Mod_leading 15 = .ok (.aload_n 0, 1) := by decide +kernel
theorem d_Mod_leading_16 : dec m_Mod_leading 16 = .ok (.getfield 31, 3) := by decide +kernel
theorem d_Mod_leading_19 : dec m_Mod_leading 19 = .ok (.iload_n 2, 1) := by decide +kernel
theorem d_Mod_leading_20 : dec m_Mod_leading 20 = .ok (.iaload, 1) := by decide +kernel
theorem d_Mod_leading_21 : dec m_Mod_leading 21 = .ok (.iadd, 1) := by decide +kernel
theorem d_Mod_leading_22 : dec m_Mod_leading 22 = .ok (.laload, 1) := by decide +kernel
theorem d_Mod_leading_23 : dec m_Mod_leading 23 = .ok (.lconst 0, 1) := by decide +kernel
theorem d_Mod_leading_24 : dec m_Mod_leading 24 = .ok (.lcmp, 1) := by decide +kernel
theorem d_Mod_leading_25 : dec m_Mod_leading 25 = .ok (.ifCond .eq 10, 3) := by decide +kernel
theorem d_Mod_leading_28 : dec m_Mod_leading 28 = .ok (.aload_n 0, 1) := by decide +kernel
theorem d_Mod_leading_29 : dec m_Mod_leading 29 = .ok (.getfield 31, 3) := by decide +kernel
theorem d_Mod_leading_32 : dec m_Mod_leading 32 = .ok (.iload_n 2, 1) := by decide +kernel
theorem d_Mod_leading_33 : dec m_Mod_leading 33 = .ok (.iaload, 1) := by decide +kernel
theorem d_Mod_leading_34 : dec m_Mod_leading 34 = .ok (.ireturn, 1) := by decide +kernel
theorem d_Mod_leading_35 : dec m_Mod_leading 35 = .ok (.iinc 2 (-1), 3) := by decide +kernel
theorem d_Mod_leading_38 : dec m_Mod_leading 38 = .ok (.goto (-35), 3) := by decide +kernel
theorem d_Mod_leading_41 : dec m_Mod_leading 41 = .ok (.iconst (-1), 1) := by decide +kernel
theorem d_Mod_leading_42 : dec m_Mod_leading 42 = .ok (.ireturn, 1) := by decide +kernel
theorem d_Mod_termsIn_0 : dec m_Mod_termsIn 0 = .ok (.iconst 0, 1) := by decide +kernel
theorem d_Mod_termsIn_1 : dec m_Mod_termsIn 1 = .ok (.istore_n 2, 1) := by decide +kernel
theorem d_Mod_termsIn_2 : dec m_Mod_termsIn 2 = .ok (.iconst 0, 1) := by decide +kernel
theorem d_Mod_termsIn_3 : dec m_Mod_termsIn 3 = .ok (.istore_n 3, 1) := by decide +kernel
theorem d_Mod_termsIn_4 : dec m_Mod_termsIn 4 = .ok (.iload_n 3, 1) := by decide +kernel
theorem d_Mod_termsIn_5 : dec m_Mod_termsIn 5 = .ok (.bipush 84, 2) := by decide +kernel
theorem d_Mod_termsIn_7 : dec m_Mod_termsIn 7 = .ok (.if_icmp .ge 33, 3) := by decide +kernel
theorem d_Mod_termsIn_10 : dec m_Mod_termsIn 10 = .ok (.iload_n 2, 1) := by decide +kernel
theorem d_Mod_termsIn_11 : dec m_Mod_termsIn 11 = .ok (.aload_n 0, 1) := by decide +kernel
theorem d_Mod_termsIn_12 : dec m_Mod_termsIn 12 = .ok (.getfield 9, 3) := by decide +kernel
theorem d_Mod_termsIn_15 : dec m_Mod_termsIn 15 = .ok (.bipush 84, 2) := by decide +kernel
theorem d_Mod_termsIn_17 : dec m_Mod_termsIn 17 = .ok (.iload_n 1, 1) := by decide +kernel
theorem d_Mod_termsIn_18 : dec m_Mod_termsIn 18 = .ok (.imul, 1) := by decide +kernel
theorem d_Mod_termsIn_19 : dec m_Mod_termsIn 19 = .ok (.iload_n 3, 1) := by decide +kernel
theorem d_Mod_termsIn_20 : dec m_Mod_termsIn 20 = .ok (.iadd, 1) := by decide +kernel
theorem d_Mod_termsIn_21 : dec m_Mod_termsIn 21 = .ok (.laload, 1) := by decide +kernel
theorem d_Mod_termsIn_22 : dec m_Mod_termsIn 22 = .ok (.lconst 0, 1) := by decide +kernel
theorem d_Mod_termsIn_23 : dec m_Mod_termsIn 23 = .ok (.lcmp, 1) := by decide +kernel
theorem d_Mod_termsIn_24 : dec m_Mod_termsIn 24 = .ok (.ifCond .eq 7, 3) := by decide +kernel
theorem d_Mod_termsIn_27 : dec m_Mod_termsIn 27 = .ok (.iconst 1, 1) := by decide +kernel
theorem d_Mod_termsIn_28 : dec m_Mod_termsIn 28 = .ok (.goto 4, 3) := by decide +kernel
theorem d_Mod_termsIn_31 : dec m_Mod_termsIn 31 = .ok (.iconst 0, 1) := by decide +kernel
theorem d_Mod_termsIn_32 : dec m_Mod_termsIn 32 = .ok (.iadd, 1) := by decide +kernel
theorem d_Mod_termsIn_33 : dec m_Mod_termsIn 33 = .ok (.istore_n 2, 1) := by decide +kernel
theorem d_Mod_termsIn_34 : dec m_Mod_termsIn 34 = .ok (.iinc 3 1, 3) := by decide +kernel
theorem d_Mod_termsIn_37 : dec m_Mod_termsIn 37 = .ok (.goto (-33), 3) := by decide +kernel
theorem d_Mod_termsIn_40 : dec m_Mod_termsIn 40 = .ok (.iload_n 2, 1) := by decide +kernel
theorem d_Mod_termsIn_41 : dec m_Mod_termsIn 41 = .ok (.ireturn, 1) := by decide +kernel
theorem d_Mod_normOf_0 : dec m_Mod_normOf 0 = .ok (.lconst 0, 1) := by decide +kernel
theorem d_Mod_normOf_1 : dec m_Mod_normOf 1 = .ok (.lstore_n 2, 1) := by decide +kernel
theorem d_Mod_normOf_2 : dec m_Mod_normOf 2 = .ok (.iconst 0, 1) := by decide +kernel
theorem d_Mod_normOf_3 : dec m_Mod_normOf 3 = .ok (.istore 4, 2) := by decide +kernel
theorem d_Mod_normOf_5 : dec m_Mod_normOf 5 = .ok (.iload 4, 2) := by decide +kernel
theorem d_Mod_normOf_7 : dec m_Mod_normOf 7 = .ok (.bipush 84, 2) := by decide +kernel
theorem d_Mod_normOf_9 : dec m_Mod_normOf 9 = .ok (.if_icmp .ge 27, 3) := by decide +kernel
theorem d_Mod_normOf_12 : dec m_Mod_normOf 12 = .ok (.lload_n 2, 1) := by decide +kernel
theorem d_Mod_normOf_13 : dec m_Mod_normOf 13 = .ok (.aload_n 0, 1) := by decide +kernel
theorem d_Mod_normOf_14 : dec m_Mod_normOf 14 = .ok (.getfield 9, 3) := by decide +kernel
theorem d_Mod_normOf_17 : dec m_Mod_normOf 17 = .ok (.bipush 84, 2) := by decide +kernel
theorem d_Mod_normOf_19 : dec m_Mod_normOf 19 = .ok (.iload_n 1, 1) := by decide +kernel
theorem d_Mod_normOf_20 : dec m_Mod_normOf 20 = .ok (.imul, 1) := by decide +kernel
theorem d_Mod_normOf_21 : dec m_Mod_normOf 21 = .ok (.iload 4, 2) := by decide +kernel
theorem d_Mod_normOf_23 : dec m_Mod_normOf 23 = .ok (.iadd, 1) := by decide +kernel
theorem d_Mod_normOf_24 : dec m_Mod_normOf 24 = .ok (.laload, 1) := by decide +kernel
theorem d_Mod_normOf_25 : dec m_Mod_normOf 25 = .ok (.invokestatic 158, 3) := by decide +kernel
theorem d_Mod_normOf_28 : dec m_Mod_normOf 28 = .ok (.ladd, 1) := by decide +kernel
theorem d_Mod_normOf_29 : dec m_Mod_normOf 29 = .ok (.lstore_n 2, 1) := by decide +kernel
theorem d_Mod_normOf_30 : dec m_Mod_normOf 30 = .ok (.iinc 4 1, 3) := by decide +kernel
theorem d_Mod_normOf_33 : dec m_Mod_normOf 33 = .ok (.goto (-28), 3) := by decide +kernel
theorem d_Mod_normOf_36 : dec m_Mod_normOf 36 = .ok (.lload_n 2, 1) := by decide +kernel
theorem d_Mod_normOf_37 : dec m_Mod_normOf 37 = .ok (.lreturn, 1) := by decide +kernel
theorem d_Mod_clearAt_0 : dec m_Mod_clearAt 0 = .ok (.iconst 0, 1) := by decide +kernel
theorem d_Mod_clearAt_1 : dec m_Mod_clearAt 1 = .ok (.istore_n 2, 1) := by decide +kernel
theorem d_Mod_clearAt_2 : dec m_Mod_clearAt 2 = .ok (.iload_n 2, 1) := by decide +kernel
theorem d_Mod_clearAt_3 : dec m_Mod_clearAt 3 = .ok (.bipush 84, 2) := by decide +kernel
theorem d_Mod_clearAt_5 : dec m_Mod_clearAt 5 = .ok (.if_icmp .ge 21, 3) := by decide +kernel
theorem d_Mod_clearAt_8 : dec m_Mod_clearAt 8 = .ok (.aload_n 0, 1) := by decide +kernel
theorem d_Mod_clearAt_9 : dec m_Mod_clearAt 9 = .ok (.getfield 9, 3) := by decide +kernel
theorem d_Mod_clearAt_12 : dec m_Mod_clearAt 12 = .ok (.bipush 84, 2) := by decide +kernel
theorem d_Mod_clearAt_14 : dec m_Mod_clearAt 14 = .ok (.iload_n 1, 1) := by decide +kernel
theorem d_Mod_clearAt_15 : dec m_Mod_clearAt 15 = .ok (.imul, 1) := by decide +kernel
theorem d_Mod_clearAt_16 : dec m_Mod_clearAt 16 = .ok (.iload_n 2, 1) := by decide +kernel
theorem d_Mod_clearAt_17 : dec m_Mod_clearAt 17 = .ok (.iadd, 1) := by decide +kernel
theorem d_Mod_clearAt_18 : dec m_Mod_clearAt 18 = .ok (.lconst 0, 1) := by decide +kernel
theorem d_Mod_clearAt_19 : dec m_Mod_clearAt 19 = .ok (.lastore, 1) := by decide +kernel
theorem d_Mod_clearAt_20 : dec m_Mod_clearAt 20 = .ok (.iinc 2 1, 3) := by decide +kernel
theorem d_Mod_clearAt_23 : dec m_Mod_clearAt 23 = .ok (.goto (-21), 3) := by decide +kernel
theorem d_Mod_clearAt_26 : dec m_Mod_clearAt 26 = .ok (.return_, 1) := by decide +kernel
theorem d_Mod_copyTo_0 : dec m_Mod_copyTo 0 = .ok (.iconst 0, 1) := by decide +kernel
theorem d_Mod_copyTo_1 : dec m_Mod_copyTo 1 = .ok (.istore_n 3, 1) := by decide +kernel
theorem d_Mod_copyTo_2 : dec m_Mod_copyTo 2 = .ok (.iload_n 3, 1) := by decide +kernel
theorem d_Mod_copyTo_3 : dec m_Mod_copyTo 3 = .ok (.bipush 84, 2) := by decide +kernel
theorem d_Mod_copyTo_5 : dec m_Mod_copyTo 5 = .ok (.if_icmp .ge 31, 3) := by decide +kernel
theorem d_Mod_copyTo_8 : dec m_Mod_copyTo 8 = .ok (.aload_n 0, 1) := by decide +kernel
theorem d_Mod_copyTo_9 : dec m_Mod_copyTo 9 = .ok (.getfield 9, 3) := by decide +kernel
theorem d_Mod_copyTo_12 : dec m_Mod_copyTo 12 = .ok (.bipush 84, 2) := by decide +kernel
theorem d_Mod_copyTo_14 : dec m_Mod_copyTo 14 = .ok (.iload_n 2, 1) := by decide +kernel
theorem d_Mod_copyTo_15 : dec m_Mod_copyTo 15 = .ok (.imul, 1) := by decide +kernel
theorem d_Mod_copyTo_16 : dec m_Mod_copyTo 16 = .ok (.iload_n 3, 1) := by decide +kernel
theorem d_Mod_copyTo_17 : dec m_Mod_copyTo 17 = .ok (.iadd, 1) := by decide +kernel
theorem d_Mod_copyTo_18 : dec m_Mod_copyTo 18 = .ok (.aload_n 0, 1) := by decide +kernel
theorem d_Mod_copyTo_19 : dec m_Mod_copyTo 19 = .ok (.getfield 9, 3) := by decide +kernel
theorem d_Mod_copyTo_22 : dec m_Mod_copyTo 22 = .ok (.bipush 84, 2) := by decide +kernel
theorem d_Mod_copyTo_24 : dec m_Mod_copyTo 24 = .ok (.iload_n 1, 1) := by decide +kernel
theorem d_Mod_copyTo_25 : dec m_Mod_copyTo 25 = .ok (.imul, 1) := by decide +kernel
theorem d_Mod_copyTo_26 : dec m_Mod_copyTo 26 = .ok (.iload_n 3, 1) := by decide +kernel
theorem d_Mod_copyTo_27 : dec m_Mod_copyTo 27 = .ok (.iadd, 1) := by decide +kernel
theorem d_Mod_copyTo_28 : dec m_Mod_copyTo 28 = .ok (.laload, 1) := by decide +kernel
theorem d_Mod_copyTo_29 : dec m_Mod_copyTo 29 = .ok (.lastore, 1) := by decide +kernel
theorem d_Mod_copyTo_30 : dec m_Mod_copyTo 30 = .ok (.iinc 3 1, 3) := by decide +kernel
theorem d_Mod_copyTo_33 : dec m_Mod_copyTo 33 = .ok (.goto (-31), 3) := by decide +kernel
theorem d_Mod_copyTo_36 : dec m_Mod_copyTo 36 = .ok (.return_, 1) := by decide +kernel
theorem d_Mod_addTo_0 : dec m_Mod_addTo 0 = .ok (.iconst 0, 1) := by decide +kernel
theorem d_Mod_addTo_1 : dec m_Mod_addTo 1 = .ok (.istore 5, 2) := by decide +kernel
theorem d_Mod_addTo_3 : dec m_Mod_addTo 3 = .ok (.iload 5, 2) := by decide +kernel
theorem d_Mod_addTo_5 : dec m_Mod_addTo 5 = .ok (.bipush 84, 2) := by decide +kernel
theorem d_Mod_addTo_7 : dec m_Mod_addTo 7 = .ok (.if_icmp .ge 38, 3) := by decide +kernel
theorem d_Mod_addTo_10 : dec m_Mod_addTo 10 = .ok (.aload_n 0, 1) := by decide +kernel
theorem d_Mod_addTo_11 : dec m_Mod_addTo 11 = .ok (.getfield 9, 3) := by decide +kernel
theorem d_Mod_addTo_14 : dec m_Mod_addTo 14 = .ok (.bipush 84, 2) := by decide +kernel
theorem d_Mod_addTo_16 : dec m_Mod_addTo 16 = .ok (.iload_n 1, 1) := by decide +kernel
theorem d_Mod_addTo_17 : dec m_Mod_addTo 17 = .ok (.imul, 1) := by decide +kernel
theorem d_Mod_addTo_18 : dec m_Mod_addTo 18 = .ok (.iload 5, 2) := by decide +kernel
theorem d_Mod_addTo_20 : dec m_Mod_addTo 20 = .ok (.iadd, 1) := by decide +kernel
theorem d_Mod_addTo_21 : dec m_Mod_addTo 21 = .ok (.dup2, 1) := by decide +kernel
theorem d_Mod_addTo_22 : dec m_Mod_addTo 22 = .ok (.laload, 1) := by decide +kernel
theorem d_Mod_addTo_23 : dec m_Mod_addTo 23 = .ok (.lload_n 3, 1) := by decide +kernel
theorem d_Mod_addTo_24 : dec m_Mod_addTo 24 = .ok (.aload_n 0, 1) := by decide +kernel
theorem d_Mod_addTo_25 : dec m_Mod_addTo 25 = .ok (.getfield 9, 3) := by decide +kernel
theorem d_Mod_addTo_28 : dec m_Mod_addTo 28 = .ok (.bipush 84, 2) := by decide +kernel
theorem d_Mod_addTo_30 : dec m_Mod_addTo 30 = .ok (.iload_n 2, 1) := by decide +kernel
theorem d_Mod_addTo_31 : dec m_Mod_addTo 31 = .ok (.imul, 1) := by decide +kernel
theorem d_Mod_addTo_32 : dec m_Mod_addTo 32 = .ok (.iload 5, 2) := by decide +kernel
theorem d_Mod_addTo_34 : dec m_Mod_addTo 34 = .ok (.iadd, 1) := by decide +kernel
theorem d_Mod_addTo_35 : dec m_Mod_addTo 35 = .ok (.laload, 1) := by decide +kernel
theorem d_Mod_addTo_36 : dec m_Mod_addTo 36 = .ok (.lmul, 1) := by decide +kernel
theorem d_Mod_addTo_37 : dec m_Mod_addTo 37 = .ok (.ladd, 1) := by decide +kernel
theorem d_Mod_addTo_38 : dec m_Mod_addTo 38 = .ok (.lastore, 1) := by decide +kernel
theorem d_Mod_addTo_39 : dec m_Mod_addTo 39 = .ok (.iinc 5 1, 3) := by decide +kernel
theorem d_Mod_addTo_42 : dec m_Mod_addTo 42 = .ok (.goto (-39), 3) := by decide +kernel
theorem d_Mod_addTo_45 : dec m_Mod_addTo 45 = .ok (.return_, 1) := by decide +kernel
theorem d_Mod_areSame_0 : dec m_Mod_areSame 0 = .ok (.iconst 1, 1) := by decide +kernel
theorem d_Mod_areSame_1 : dec m_Mod_areSame 1 = .ok (.istore_n 3, 1) := by decide +kernel
theorem d_Mod_areSame_2 : dec m_Mod_areSame 2 = .ok (.iconst 0, 1) := by decide +kernel
theorem d_Mod_areSame_3 : dec m_Mod_areSame 3 = .ok (.istore 4, 2) := by decide +kernel
theorem d_Mod_areSame_5 : dec m_Mod_areSame 5 = .ok (.iload 4, 2) := by decide +kernel
theorem d_Mod_areSame_7 : dec m_Mod_areSame 7 = .ok (.bipush 84, 2) := by decide +kernel
theorem d_Mod_areSame_9 : dec m_Mod_areSame 9 = .ok (.if_icmp .ge 47, 3) := by decide +kernel
theorem d_Mod_areSame_12 : dec m_Mod_areSame 12 = .ok (.iload_n 3, 1) := by decide +kernel
theorem d_Mod_areSame_13 : dec m_Mod_areSame 13 = .ok (.ifCond .eq 35, 3) := by decide +kernel
theorem d_Mod_areSame_16 : dec m_Mod_areSame 16 = .ok (.aload_n 0, 1) := by decide +kernel
theorem d_Mod_areSame_17 : dec m_Mod_areSame 17 = .ok (.getfield 9, 3) := by decide +kernel
theorem d_Mod_areSame_20 : dec m_Mod_areSame 20 = .ok (.bipush 84, 2) := by decide +kernel
theorem d_Mod_areSame_22 : dec m_Mod_areSame 22 = .ok (.iload_n 1, 1) := by decide +kernel
theorem d_Mod_areSame_23 : dec m_Mod_areSame 23 = .ok (.imul, 1) := by decide +kernel
theorem d_Mod_areSame_24 : dec m_Mod_areSame 24 = .ok (.iload 4, 2) := by decide +kernel
theorem d_Mod_areSame_26 : dec m_Mod_areSame 26 = .ok (.iadd, 1) := by decide +kernel
theorem d_Mod_areSame_27 : dec m_Mod_areSame 27 = .ok (.laload, 1) := by decide +kernel
theorem d_Mod_areSame_28 : dec m_Mod_areSame 28 = .ok (.aload_n 0, 1) := by decide +kernel
theorem d_Mod_areSame_29 : dec m_Mod_areSame 29 = .ok (.getfield 9, 3) := by decide +kernel
theorem d_Mod_areSame_32 : dec m_Mod_areSame 32 = .ok (.bipush 84, 2) := by decide +kernel
theorem d_Mod_areSame_34 : dec m_Mod_areSame 34 = .ok (.iload_n 2, 1) := by decide +kernel
theorem d_Mod_areSame_35 : dec m_Mod_areSame 35 = .ok (.imul, 1) := by decide +kernel
theorem d_Mod_areSame_36 : dec m_Mod_areSame 36 = .ok (.iload 4, 2) := by decide +kernel
theorem d_Mod_areSame_38 : dec m_Mod_areSame 38 = .ok (.iadd, 1) := by decide +kernel
theorem d_Mod_areSame_39 : dec m_Mod_areSame 39 = .ok (.laload, 1) := by decide +kernel
theorem d_Mod_areSame_40 : dec m_Mod_areSame 40 = .ok (.lcmp, 1) := by decide +kernel
theorem d_Mod_areSame_41 : dec m_Mod_areSame 41 = .ok (.ifCond .ne 7, 3) := by decide +kernel
theorem d_Mod_areSame_44 : dec m_Mod_areSame 44 = .ok (.iconst 1, 1) := by decide +kernel
theorem d_Mod_areSame_45 : dec m_Mod_areSame 45 = .ok (.goto 4, 3) := by decide +kernel
theorem d_Mod_areSame_48 : dec m_Mod_areSame 48 = .ok (.iconst 0, 1) := by decide +kernel
theorem d_Mod_areSame_49 : dec m_Mod_areSame 49 = .ok (.istore_n 3, 1) := by decide +kernel
theorem d_Mod_areSame_50 : dec m_Mod_areSame 50 = .ok (.iinc 4 1, 3) := by decide +kernel
theorem d_Mod_areSame_53 : dec m_Mod_areSame 53 = .ok (.goto (-48), 3) := by decide +kernel
theorem d_Mod_areSame_56 : dec m_Mod_areSame 56 = .ok (.iload_n 3, 1) := by decide +kernel
theorem d_Mod_areSame_57 : dec m_Mod_areSame 57 = .ok (.ireturn, 1) := by decide +kernel
theorem d_Mod_degreeAt_0 : dec m_Mod_degreeAt 0 = .ok (.iconst (-1), 1) := by decide +kernel
theorem d_Mod_degreeAt_1 : dec m_Mod_degreeAt 1 = .ok (.istore_n 2, 1) := by decide +kernel
theorem d_Mod_degreeAt_2 : dec m_Mod_degreeAt 2 = .ok (.iconst 0, 1) := by decide +kernel
theorem d_Mod_degreeAt_3 : dec m_Mod_degreeAt 3 = .ok (.istore_n 3, 1) := by decide +kernel
theorem d_Mod_degreeAt_4 : dec m_Mod_degreeAt 4 = .ok (.iload_n 3, 1) := by decide +kernel
theorem d_Mod_degreeAt_5 : dec m_Mod_degreeAt 5 = .ok (.bipush 84, 2) := by decide +kernel
theorem d_Mod_degreeAt_7 : dec m_Mod_degreeAt 7 = .ok (.if_icmp .ge 44, 3) := by decide +kernel
theorem d_Mod_degreeAt_10 : dec m_Mod_degreeAt 10 = .ok (.aload_n 0, 1) := by decide +kernel
theorem d_Mod_degreeAt_11 : dec m_Mod_degreeAt 11 = .ok (.getfield 9, 3) := by decide +kernel
theorem d_Mod_degreeAt_14 : dec m_Mod_degreeAt 14 = .ok (.bipush 84, 2) := by decide +kernel
theorem d_Mod_degreeAt_16 : dec m_Mod_degreeAt 16 = .ok (.iload_n 1, 1) := by decide +kernel
theorem d_Mod_degreeAt_17 : dec m_Mod_degreeAt 17 = .ok (.imul, 1) := by decide +kernel
theorem d_Mod_degreeAt_18 : dec m_Mod_degreeAt 18 = .ok (.iload_n 3, 1) := by decide +kernel
theorem d_Mod_degreeAt_19 : dec m_Mod_degreeAt 19 = .ok (.iadd, 1) := by decide +kernel
theorem d_Mod_degreeAt_20 : dec m_Mod_degreeAt 20 = .ok (.laload, 1) := by decide +kernel
theorem d_Mod_degreeAt_21 : dec m_Mod_degreeAt 21 = .ok (.lconst 0, 1) := by decide +kernel
theorem d_Mod_degreeAt_22 : dec m_Mod_degreeAt 22 = .ok (.lcmp, 1) := by decide +kernel
theorem d_Mod_degreeAt_23 : dec m_Mod_degreeAt 23 = .ok (.ifCond .eq 20, 3) := by decide +kernel
theorem d_Mod_degreeAt_26 : dec m_Mod_degreeAt 26 = .ok (.aload_n 0, 1) := by decide +kernel
theorem d_Mod_degreeAt_27 : dec m_Mod_degreeAt 27 = .ok (.iload_n 3, 1) := by decide +kernel
theorem d_Mod_degreeAt_28 : dec m_Mod_degreeAt 28 = .ok (.invokevirtual 147, 3) := by decide +kernel
theorem d_Mod_degreeAt_31 : dec m_Mod_degreeAt 31 = .ok (.iload_n 2, 1) := by decide +kernel
theorem d_Mod_degreeAt_32 : dec m_Mod_degreeAt 32 = .ok (.if_icmp .le 11, 3) := by decide +kernel
theorem d_Mod_degreeAt_35 : dec m_Mod_degreeAt 35 = .ok (.aload_n 0, 1) := by decide +kernel
theorem d_Mod_degreeAt_36 : dec m_Mod_degreeAt 36 = .ok (.iload_n 3, 1) := by decide +kernel
theorem d_Mod_degreeAt_37 : dec m_Mod_degreeAt 37 = .ok (.invokevirtual 147, 3) := by decide +kernel
theorem d_Mod_degreeAt_40 : dec m_Mod_degreeAt 40 = .ok (.goto 4, 3) := by decide +kernel
theorem d_Mod_degreeAt_43 : dec m_Mod_degreeAt 43 = .ok (.iload_n 2, 1) := by decide +kernel
theorem d_Mod_degreeAt_44 : dec m_Mod_degreeAt 44 = .ok (.istore_n 2, 1) := by decide +kernel
theorem d_Mod_degreeAt_45 : dec m_Mod_degreeAt 45 = .ok (.iinc 3 1, 3) := by decide +kernel
theorem d_Mod_degreeAt_48 : dec m_Mod_degreeAt 48 = .ok (.goto (-44), 3) := by decide +kernel
theorem d_Mod_degreeAt_51 : dec m_Mod_degreeAt 51 = .ok (.iload_n 2, 1) := by decide +kernel
theorem d_Mod_degreeAt_52 : dec m_Mod_degreeAt 52 = .ok (.ireturn, 1) := by decide +kernel
theorem d_Mod_multiply_0 : dec m_Mod_multiply 0 = .ok (.aload_n 0, 1) := by decide +kernel
theorem d_Mod_multiply_1 : dec m_Mod_multiply 1 = .ok (.iload_n 3, 1) := by decide +kernel
theorem d_Mod_multiply_2 : dec m_Mod_multiply 2 = .ok (.invokevirtual 162, 3) := by decide +kernel
theorem d_Mod_multiply_5 : dec m_Mod_multiply 5 = .ok (.aload_n 0, 1) := by decide +kernel
theorem d_Mod_multiply_6 : dec m_Mod_multiply 6 = .ok (.iload_n 2, 1) := by decide +kernel
theorem d_Mod_multiply_7 : dec m_Mod_multiply 7 = .ok (.invokevirtual 166, 3) := by decide +kernel
theorem d_Mod_multiply_10 : dec m_Mod_multiply 10 = .ok (.invokestatic 169, 3) := by decide +kernel
theorem d_Mod_multiply_13 : dec m_Mod_multiply 13 = .ok (.istore 4, 2) := by decide +kernel
theorem d_Mod_multiply_15 : dec m_Mod_multiply 15 = .ok (.iconst 0, 1) := by decide +kernel
theorem d_Mod_multiply_16 : dec m_Mod_multiply 16 = .ok (.istore 5, 2) := by decide +kernel
theorem d_Mod_multiply_18 : dec m_Mod_multiply 18 = .ok (.iload 5, 2) := by decide +kernel
theorem d_Mod_multiply_20 : dec m_Mod_multiply 20 = .ok (.bipush 84, 2) := by decide +kernel
theorem d_Mod_multiply_22 : dec m_Mod_multiply 22 = .ok (.if_icmp .ge 42, 3) := by decide +kernel
theorem d_Mod_multiply_25 : dec m_Mod_multiply 25 = .ok (.aload_n 0, 1) := by decide +kernel
theorem d_Mod_multiply_26 : dec m_Mod_multiply 26 = .ok (.getfield 9, 3) := by decide +kernel
theorem d_Mod_multiply_29 : dec m_Mod_multiply 29 = .ok (.bipush 84, 2) := by decide +kernel
theorem d_Mod_multiply_31 : dec m_Mod_multiply 31 = .ok (.iload_n 1, 1) := by decide +kernel
theorem d_Mod_multiply_32 : dec m_Mod_multiply 32 = .ok (.imul, 1) := by decide +kernel
theorem d_Mod_multiply_33 : dec m_Mod_multiply 33 = .ok (.iload 5, 2) := by decide +kernel
theorem d_Mod_multiply_35 : dec m_Mod_multiply 35 = .ok (.iadd, 1) := by decide +kernel
theorem d_Mod_multiply_36 : dec m_Mod_multiply 36 = .ok (.laload, 1) := by decide +kernel
theorem d_Mod_multiply_37 : dec m_Mod_multiply 37 = .ok (.lstore 6, 2) := by decide +kernel
theorem d_Mod_multiply_39 : dec m_Mod_multiply 39 = .ok (.lload 6, 2) := by decide +kernel
theorem d_Mod_multiply_41 : dec m_Mod_multiply 41 = .ok (.lconst 0, 1) := by decide +kernel
theorem d_Mod_multiply_42 : dec m_Mod_multiply 42 = .ok (.lcmp, 1) := by decide +kernel
theorem d_Mod_multiply_43 : dec m_Mod_multiply 43 = .ok (.ifCond .eq 15, 3) := by decide +kernel
theorem d_Mod_multiply_46 : dec m_Mod_multiply 46 = .ok (.aload_n 0, 1) := by decide +kernel
theorem d_Mod_multiply_47 : dec m_Mod_multiply 47 = .ok (.iload 5, 2) := by decide +kernel
theorem d_Mod_multiply_49 : dec m_Mod_multiply 49 = .ok (.lload 6, 2) := by decide +kernel
theorem d_Mod_multiply_51 : dec m_Mod_multiply 51 = .ok (.iload_n 2, 1) := by decide +kernel
theorem d_Mod_multiply_52 : dec m_Mod_multiply 52 = .ok (.iload_n 3, 1) := by decide +kernel
theorem d_Mod_multiply_53 : dec m_Mod_multiply 53 = .ok (.iload 4, 2) := by decide +kernel
theorem d_Mod_multiply_55 : dec m_Mod_multiply 55 = .ok (.invokevirtual 172, 3) := by decide +kernel
theorem d_Mod_multiply_58 : dec m_Mod_multiply 58 = .ok (.iinc 5 1, 3) := by decide +kernel
theorem d_Mod_multiply_61 : dec m_Mod_multiply 61 = .ok (.goto (-43), 3) := by decide +kernel
theorem d_Mod_multiply_64 : dec m_Mod_multiply 64 = .ok (.return_, 1) := by decide +kernel
theorem d_Mod_upTo_0 : dec m_Mod_upTo 0 = .ok (.iload_n 0, 1) := by decide +kernel
theorem d_Mod_upTo_1 : dec m_Mod_upTo 1 = .ok (.iconst 1, 1) := by decide +kernel
theorem d_Mod_upTo_2 : dec m_Mod_upTo 2 = .ok (.iadd, 1) := by decide +kernel
theorem d_Mod_upTo_3 : dec m_Mod_upTo 3 = .ok (.iload_n 0, 1) := by decide +kernel
theorem d_Mod_upTo_4 : dec m_Mod_upTo 4 = .ok (.iconst 2, 1) := by decide +kernel
theorem d_Mod_upTo_5 : dec m_Mod_upTo 5 = .ok (.iadd, 1) := by decide +kernel
theorem d_Mod_upTo_6 : dec m_Mod_upTo 6 = .ok (.imul, 1) := by decide +kernel
theorem d_Mod_upTo_7 : dec m_Mod_upTo 7 = .ok (.iload_n 0, 1) := by decide +kernel
theorem d_Mod_upTo_8 : dec m_Mod_upTo 8 = .ok (.iconst 3, 1) := by decide +kernel
theorem d_Mod_upTo_9 : dec m_Mod_upTo 9 = .ok (.iadd, 1) := by decide +kernel
theorem d_Mod_upTo_10 : dec m_Mod_upTo 10 = .ok (.imul, 1) := by decide +kernel
theorem d_Mod_upTo_11 : dec m_Mod_upTo 11 = .ok (.bipush 6, 2) := by decide +kernel
theorem d_Mod_upTo_13 : dec m_Mod_upTo 13 = .ok (.idiv, 1) := by decide +kernel
theorem d_Mod_upTo_14 : dec m_Mod_upTo 14 = .ok (.ireturn, 1) := by decide +kernel
theorem d_Mod_spreadOne_0 : dec m_Mod_spreadOne 0 = .ok (.iconst 0, 1) := by decide +kernel
theorem d_Mod_spreadOne_1 : dec m_Mod_spreadOne 1 = .ok (.istore 7, 2) := by decide +kernel
theorem d_Mod_spreadOne_3 : dec m_Mod_spreadOne 3 = .ok (.iload 7, 2) := by decide +kernel
theorem d_Mod_spreadOne_5 : dec m_Mod_spreadOne 5 = .ok (.iload 6, 2) := by decide +kernel
theorem d_Mod_spreadOne_7 : dec m_Mod_spreadOne 7 = .ok (.if_icmp .ge 99, 3) := by decide +kernel
theorem d_Mod_spreadOne_10 : dec m_Mod_spreadOne 10 = .ok (.aload_n 0, 1) := by decide +kernel
theorem d_Mod_spreadOne_11 : dec m_Mod_spreadOne 11 = .ok (.getfield 9, 3) := by decide +kernel
theorem d_Mod_spreadOne_14 : dec m_Mod_spreadOne 14 = .ok (.bipush 84, 2) := by decide +kernel
theorem d_Mod_spreadOne_16 : dec m_Mod_spreadOne 16 = .ok (.iload 4, 2) := by decide +kernel
theorem d_Mod_spreadOne_18 : dec m_Mod_spreadOne 18 = .ok (.imul, 1) := by decide +kernel
theorem d_Mod_spreadOne_19 : dec m_Mod_spreadOne 19 = .ok (.iload 7, 2) := by decide +kernel
theorem d_Mod_spreadOne_21 : dec m_Mod_spreadOne 21 = .ok (.iadd, 1) := by decide +kernel
theorem d_Mod_spreadOne_22 : dec m_Mod_spreadOne 22 = .ok (.laload, 1) := by decide +kernel
theorem d_Mod_spreadOne_23 : dec m_Mod_spreadOne 23 = .ok (.lstore 8, 2) := by decide +kernel
theorem d_Mod_spreadOne_25 : dec m_Mod_spreadOne 25 = .ok (.lload 8, 2) := by decide +kernel
theorem d_Mod_spreadOne_27 : dec m_Mod_spreadOne 27 = .ok (.lconst 0, 1) := by decide +kernel
theorem d_Mod_spreadOne_28 : dec m_Mod_spreadOne 28 = .ok (.lcmp, 1) := by decide +kernel
theorem d_Mod_spreadOne_29 : dec m_Mod_spreadOne 29 = .ok (.ifCond .eq 71, 3) := by decide +kernel
theorem d_Mod_spreadOne_32 : dec m_Mod_spreadOne 32 = .ok (.aload_n 0, 1) := by decide +kernel
theorem d_Mod_spreadOne_33 : dec m_Mod_spreadOne 33 = .ok (.aload_n 0, 1) := by decide +kernel
theorem d_Mod_spreadOne_34 : dec m_Mod_spreadOne 34 = .ok (.getfield 18, 3) := by decide +kernel
theorem d_Mod_spreadOne_37 : dec m_Mod_spreadOne 37 = .ok (.iload_n 1, 1) := by decide +kernel
theorem d_Mod_spreadOne_38 : dec m_Mod_spreadOne 38 = .ok (.iaload, 1) := by decide +kernel
theorem d_Mod_spreadOne_39 : dec m_Mod_spreadOne 39 = .ok (.aload_n 0, 1) := by decide +kernel
theorem d_Mod_spreadOne_40 : dec m_Mod_spreadOne 40 = .ok (.getfield 18, 3) := by decide +kernel
theorem d_Mod_spreadOne_43 : dec m_Mod_spreadOne 43 = .ok (.iload 7, 2) := by decide +kernel
theorem d_Mod_spreadOne_45 : dec m_Mod_spreadOne 45 = .ok (.iaload, 1) := by decide +kernel
theorem d_Mod_spreadOne_46 : dec m_Mod_spreadOne 46 = .ok (.iadd, 1) := by decide +kernel
theorem d_Mod_spreadOne_47 : dec m_Mod_spreadOne 47 = .ok (.aload_n 0, 1) := by decide +kernel
theorem d_Mod_spreadOne_48 : dec m_Mod_spreadOne 48 = .ok (.getfield 22, 3) := by decide +kernel
theorem d_Mod_spreadOne_51 : dec m_Mod_spreadOne 51 = .ok (.iload_n 1, 1) := by decide +kernel
theorem d_Mod_spreadOne_52 : dec m_Mod_spreadOne 52 = .ok (.iaload, 1) := by decide +kernel
theorem d_Mod_spreadOne_53 : dec m_Mod_spreadOne 53 = .ok (.aload_n 0, 1) := by decide +kernel
theorem d_Mod_spreadOne_54 : dec m_Mod_spreadOne 54 = .ok (.getfield 22, 3) := by decide +kernel
theorem d_Mod_spreadOne_57 : dec m_Mod_spreadOne 57 = .ok (.iload 7, 2) := by decide +kernel
theorem d_Mod_spreadOne_59 : dec m_Mod_spreadOne 59 = .ok (.iaload, 1) := by decide +kernel
theorem d_Mod_spreadOne_60 : dec m_Mod_spreadOne 60 = .ok (.iadd, 1) := by decide +kernel
theorem d_Mod_spreadOne_61 : dec m_Mod_spreadOne 61 = .ok (.aload_n 0, 1) := by decide +kernel
theorem d_Mod_spreadOne_62 : dec m_Mod_spreadOne 62 = .ok (.getfield 25, 3) := by decide +kernel
theorem d_Mod_spreadOne_65 : dec m_Mod_spreadOne 65 = .ok (.iload_n 1, 1) := by decide +kernel
theorem d_Mod_spreadOne_66 : dec m_Mod_spreadOne 66 = .ok (.iaload, 1) := by decide +kernel
theorem d_Mod_spreadOne_67 : dec m_Mod_spreadOne 67 = .ok (.aload_n 0, 1) := by decide +kernel
theorem d_Mod_spreadOne_68 : dec m_Mod_spreadOne 68 = .ok (.getfield 25, 3) := by decide +kernel
theorem d_Mod_spreadOne_71 : dec m_Mod_spreadOne 71 = .ok (.iload 7, 2) := by decide +kernel
theorem d_Mod_spreadOne_73 : dec m_Mod_spreadOne 73 = .ok (.iaload, 1) := by decide +kernel
theorem d_Mod_spreadOne_74 : dec m_Mod_spreadOne 74 = .ok (.iadd, 1) := by decide +kernel
theorem d_Mod_spreadOne_75 : dec m_Mod_spreadOne 75 = .ok (.invokevirtual 176, 3) := by decide +kernel
theorem d_Mod_spreadOne_78 : dec m_Mod_spreadOne 78 = .ok (.istore 10, 2) := by decide +kernel
theorem d_Mod_spreadOne_80 : dec m_Mod_spreadOne 80 = .ok (.aload_n 0, 1) := by decide +kernel
theorem d_Mod_spreadOne_81 : dec m_Mod_spreadOne 81 = .ok (.getfield 9, 3) := by decide +kernel
theorem d_Mod_spreadOne_84 : dec m_Mod_spreadOne 84 = .ok (.bipush 84, 2) := by decide +kernel
theorem d_Mod_spreadOne_86 : dec m_Mod_spreadOne 86 = .ok (.iload 5, 2) := by decide +kernel
theorem d_Mod_spreadOne_88 : dec m_Mod_spreadOne 88 = .ok (.imul, 1) := by decide +kernel
theorem d_Mod_spreadOne_89 : dec m_Mod_spreadOne 89 = .ok (.iload 10, 2) := by decide +kernel
theorem d_Mod_spreadOne_91 : dec m_Mod_spreadOne 91 = .ok (.iadd, 1) := by decide +kernel
theorem d_Mod_spreadOne_92 : dec m_Mod_spreadOne 92 = .ok (.dup2, 1) := by decide +kernel
theorem d_Mod_spreadOne_93 : dec m_Mod_spreadOne 93 = .ok (.laload, 1) := by decide +kernel
theorem d_Mod_spreadOne_94 : dec m_Mod_spreadOne 94 = .ok (.lload_n 2, 1) := by decide +kernel
theorem d_Mod_spreadOne_95 : dec m_Mod_spreadOne 95 = .ok (.lload 8, 2) := by decide +kernel
theorem d_Mod_spreadOne_97 : dec m_Mod_spreadOne 97 = .ok (.lmul, 1) := by decide +kernel
theorem d_Mod_spreadOne_98 : dec m_Mod_spreadOne 98 = .ok (.ladd, 1) := by decide +kernel
theorem d_Mod_spreadOne_99 : dec m_Mod_spreadOne 99 = .ok (.lastore, 1) := by decide +kernel
theorem d_Mod_spreadOne_100 : dec m_Mod_spreadOne 100 = .ok (.iinc 7 1, 3) := by decide +kernel
theorem d_Mod_spreadOne_103 : dec m_Mod_spreadOne 103 = .ok (.goto (-100), 3) := by decide +kernel
theorem d_Mod_spreadOne_106 : dec m_Mod_spreadOne 106 = .ok (.return_, 1) := by decide +kernel
theorem d_Mod_order_0 : dec m_Mod_order 0 = .ok (.iload_n 1, 1) := by decide +kernel
theorem d_Mod_order_1 : dec m_Mod_order 1 = .ok (.i2l, 1) := by decide +kernel
theorem d_Mod_order_2 : dec m_Mod_order 2 = .ok (.lconst 0, 1) := by decide +kernel
theorem d_Mod_order_3 : dec m_Mod_order 3 = .ok (.ldc2_w 180, 3) := by decide +kernel
theorem d_Mod_order_6 : dec m_Mod_order 6 = .ok (.invokestatic 139, 3) := by decide +kernel
theorem d_Mod_order_9 : dec m_Mod_order 9 = .ok (.ifCond .ne 5, 3) := by decide +kernel
theorem d_Mod_order_12 : dec m_Mod_order 12 = .ok (.iconst (-1), 1) := by decide +kernel
theorem d_Mod_order_13 : dec m_Mod_order 13 = .ok (.ireturn, 1) := by decide +kernel
theorem d_Mod_order_14 : dec m_Mod_order 14 = .ok (.aload_n 0, 1) := by decide +kernel
theorem d_Mod_order_15 : dec m_Mod_order 15 = .ok (.getfield 133, 3) := by decide +kernel
theorem d_Mod_order_18 : dec m_Mod_order 18 = .ok (.ifCond .le 6, 3) := by decide +kernel
theorem d_Mod_order_21 : dec m_Mod_order 21 = .ok (.bipush (-3), 2) := by decide +kernel
theorem d_Mod_order_23 : dec m_Mod_order 23 = .ok (.ireturn, 1) := by decide +kernel
theorem d_Mod_order_24 : dec m_Mod_order 24 = .ok (.aload_n 0, 1) := by decide +kernel
theorem d_Mod_order_25 : dec m_Mod_order 25 = .ok (.getfield 151, 3) := by decide +kernel
theorem d_Mod_order_28 : dec m_Mod_order 28 = .ok (.istore_n 2, 1) := by decide +kernel
theorem d_Mod_order_29 : dec m_Mod_order 29 = .ok (.aload_n 0, 1) := by decide +kernel
theorem d_Mod_order_30 : dec m_Mod_order 30 = .ok (.iload_n 1, 1) := by decide +kernel
theorem d_Mod_order_31 : dec m_Mod_order 31 = .ok (.putfield 151, 3) := by decide +kernel
theorem d_Mod_order_34 : dec m_Mod_order 34 = .ok (.aload_n 0, 1) := by decide +kernel
theorem d_Mod_order_35 : dec m_Mod_order 35 = .ok (.invokevirtual 130, 3) := by decide +kernel
theorem d_Mod_order_38 : dec m_Mod_order 38 = .ok (.iload_n 2, 1) := by decide +kernel
theorem d_Mod_order_39 : dec m_Mod_order 39 = .ok (.ireturn, 1) := by decide +kernel
theorem d_Mod_term_0 : dec m_Mod_term 0 = .ok (.iload_n 1, 1) := by decide +kernel
theorem d_Mod_term_1 : dec m_Mod_term 1 = .ok (.invokestatic 182, 3) := by decide +kernel
theorem d_Mod_term_4 : dec m_Mod_term 4 = .ok (.ifCond .eq 28, 3) := by decide +kernel
theorem d_Mod_term_7 : dec m_Mod_term 7 = .ok (.iload_n 2, 1) := by decide +kernel
theorem d_Mod_term_8 : dec m_Mod_term 8 = .ok (.i2l, 1) := by decide +kernel
theorem d_Mod_term_9 : dec m_Mod_term 9 = .ok (.ldc2_w 186, 3) := by decide +kernel
theorem d_Mod_term_12 : dec m_Mod_term 12 = .ok (.ldc2_w 188, 3) := by decide +kernel
theorem d_Mod_term_15 : dec m_Mod_term 15 = .ok (.invokestatic 139, 3) := by decide +kernel
theorem d_Mod_term_18 : dec m_Mod_term 18 = .ok (.ifCond .eq 14, 3) := by decide +kernel
theorem d_Mod_term_21 : dec m_Mod_term 21 = .ok (.iload_n 3, 1) := by decide +kernel
theorem d_Mod_term_22 : dec m_Mod_term 22 = .ok (.iload 4, 2) := by decide +kernel
theorem d_Mod_term_24 : dec m_Mod_term 24 = .ok (.iload 5, 2) := by decide +kernel
theorem d_Mod_term_26 : dec m_Mod_term 26 = .ok (.invokestatic 190, 3) := by decide +kernel
theorem d_Mod_term_29 : dec m_Mod_term 29 = .ok (.ifCond .ne 5, 3) := by decide +kernel
theorem d_Mod_term_32 : dec m_Mod_term 32 = .ok (.iconst (-1), 1) := by decide +kernel
theorem d_Mod_term_33 : dec m_Mod_term 33 = .ok (.ireturn, 1) := by decide +kernel
theorem d_Mod_term_34 : dec m_Mod_term 34 = .ok (.aload_n 0, 1) := by decide +kernel
theorem d_Mod_term_35 : dec m_Mod_term 35 = .ok (.iload_n 1, 1) := by decide +kernel
theorem d_Mod_term_36 : dec m_Mod_term 36 = .ok (.invokevirtual 194, 3) := by decide +kernel
theorem d_Mod_term_39 : dec m_Mod_term 39 = .ok (.iload_n 2, 1) := by decide +kernel
theorem d_Mod_term_40 : dec m_Mod_term 40 = .ok (.i2l, 1) := by decide +kernel
theorem d_Mod_term_41 : dec m_Mod_term 41 = .ok (.invokestatic 158, 3) := by decide +kernel
theorem d_Mod_term_44 : dec m_Mod_term 44 = .ok (.invokestatic 198, 3) := by decide +kernel
theorem d_Mod_term_47 : dec m_Mod_term 47 = .ok (.lconst 0, 1) := by decide +kernel
theorem d_Mod_term_48 : dec m_Mod_term 48 = .ok (.lcmp, 1) := by decide +kernel
theorem d_Mod_term_49 : dec m_Mod_term 49 = .ok (.ifCond .ge 6, 3) := by decide +kernel
theorem d_Mod_term_52 : dec m_Mod_term 52 = .ok (.bipush (-5), 2) := by decide +kernel
theorem d_Mod_term_54 : dec m_Mod_term 54 = .ok (.ireturn, 1) := by decide +kernel
theorem d_Mod_term_55 : dec m_Mod_term 55 = .ok (.aload_n 0, 1) := by decide +kernel
theorem d_Mod_term_56 : dec m_Mod_term 56 = .ok (.getfield 9, 3) := by decide +kernel
theorem d_Mod_term_59 : dec m_Mod_term 59 = .ok (.bipush 84, 2) := by decide +kernel
theorem d_Mod_term_61 : dec m_Mod_term 61 = .ok (.iload_n 1, 1) := by decide +kernel
theorem d_Mod_term_62 : dec m_Mod_term 62 = .ok (.imul, 1) := by decide +kernel
theorem d_Mod_term_63 : dec m_Mod_term 63 = .ok (.aload_n 0, 1) := by decide +kernel
theorem d_Mod_term_64 : dec m_Mod_term 64 = .ok (.iload_n 3, 1) := by decide +kernel
theorem d_Mod_term_65 : dec m_Mod_term 65 = .ok (.iload 4, 2) := by decide +kernel
theorem d_Mod_term_67 : dec m_Mod_term 67 = .ok (.iload 5, 2) := by decide +kernel
theorem d_Mod_term_69 : dec m_Mod_term 69 = .ok (.invokevirtual 176, 3) := by decide +kernel
theorem d_Mod_term_72 : dec m_Mod_term 72 = .ok (.iadd, 1) := by decide +kernel
theorem d_Mod_term_73 : dec m_Mod_term 73 = .ok (.dup2, 1) := by decide +kernel
theorem d_Mod_term_74 : dec m_Mod_term 74 = .ok (.laload, 1) := by decide +kernel
theorem d_Mod_term_75 : dec m_Mod_term 75 = .ok (.iload_n 2, 1) := by decide +kernel
theorem d_Mod_term_76 : dec m_Mod_term 76 = .ok (.i2l, 1) := by decide +kernel
theorem d_Mod_term_77 : dec m_Mod_term 77 = .ok (.ladd, 1) := by decide +kernel
theorem d_Mod_term_78 : dec m_Mod_term 78 = .ok (.lastore, 1) := by decide +kernel
theorem d_Mod_term_79 : dec m_Mod_term 79 = .ok (.aload_n 0, 1) := by decide +kernel
theorem d_Mod_term_80 : dec m_Mod_term 80 = .ok (.iload_n 1, 1) := by decide +kernel
theorem d_Mod_term_81 : dec m_Mod_term 81 = .ok (.invokevirtual 202, 3) := by decide +kernel
theorem d_Mod_term_84 : dec m_Mod_term 84 = .ok (.ireturn, 1) := by decide +kernel
theorem d_Mod_clear_0 : dec m_Mod_clear 0 = .ok (.iload_n 1, 1) := by decide +kernel
theorem d_Mod_clear_1 : dec m_Mod_clear 1 = .ok (.invokestatic 182, 3) := by decide +kernel
theorem d_Mod_clear_4 : dec m_Mod_clear 4 = .ok (.ifCond .ne 5, 3) := by decide +kernel
theorem d_Mod_clear_7 : dec m_Mod_clear 7 = .ok (.iconst (-1), 1) := by decide +kernel
theorem d_Mod_clear_8 : dec m_Mod_clear 8 = .ok (.ireturn, 1) := by decide +kernel
theorem d_Mod_clear_9 : dec m_Mod_clear 9 = .ok (.aload_n 0, 1) := by decide +kernel
theorem d_Mod_clear_10 : dec m_Mod_clear 10 = .ok (.iload_n 1, 1) := by decide +kernel
theorem d_Mod_clear_11 : dec m_Mod_clear 11 = .ok (.invokevirtual 202, 3) := by decide +kernel
theorem d_Mod_clear_14 : dec m_Mod_clear 14 = .ok (.istore_n 2, 1) := by decide +kernel
theorem d_Mod_clear_15 : dec m_Mod_clear 15 = .ok (.aload_n 0, 1) := by decide +kernel
theorem d_Mod_clear_16 : dec m_Mod_clear 16 = .ok (.iload_n 1, 1) := by decide +kernel
theorem d_Mod_clear_17 : dec m_Mod_clear 17 = .ok (.invokevirtual 162, 3) := by decide +kernel
theorem d_Mod_clear_20 : dec m_Mod_clear 20 = .ok (.iload_n 2, 1) := by decide +kernel
theorem d_Mod_clear_21 : dec m_Mod_clear 21 = .ok (.ireturn, 1) := by decide +kernel
theorem d_Mod_add_0 : dec m_Mod_add 0 = .ok (.iload_n 1, 1) := by decide +kernel
theorem d_Mod_add_1 : dec m_Mod_add 1 = .ok (.invokestatic 182, 3) := by decide +kernel
theorem d_Mod_add_4 : dec m_Mod_add 4 = .ok (.ifCond .eq 24, 3) := by decide +kernel
theorem d_Mod_add_7 : dec m_Mod_add 7 = .ok (.iload_n 2, 1) := by decide +kernel
theorem d_Mod_add_8 : dec m_Mod_add 8 = .ok (.invokestatic 182, 3) := by decide +kernel
theorem d_Mod_add_11 : dec m_Mod_add 11 = .ok (.ifCond .eq 17, 3) := by decide +kernel
theorem d_Mod_add_14 : dec m_Mod_add 14 = .ok (.iload_n 3, 1) := by decide +kernel
theorem d_Mod_add_15 : dec m_Mod_add 15 = .ok (.i2l, 1) := by decide +kernel
theorem d_Mod_add_16 : dec m_Mod_add 16 = .ok (.ldc2_w 186, 3) := by decide +kernel
theorem d_Mod_add_19 : dec m_Mod_add 19 = .ok (.ldc2_w 188, 3) := by decide +kernel
theorem d_Mod_add_22 : dec m_Mod_add 22 = .ok (.invokestatic 139, 3) := by decide +kernel
theorem d_Mod_add_25 : dec m_Mod_add 25 = .ok (.ifCond .ne 5, 3) := by decide +kernel
theorem d_Mod_add_28 : dec m_Mod_add 28 = .ok (.iconst (-1), 1) := by decide +kernel
theorem d_Mod_add_29 : dec m_Mod_add 29 = .ok (.ireturn, 1) := by decide +kernel
theorem d_Mod_add_30 : dec m_Mod_add 30 = .ok (.aload_n 0, 1) := by decide +kernel
theorem d_Mod_add_31 : dec m_Mod_add 31 = .ok (.iload_n 1, 1) := by decide +kernel
theorem d_Mod_add_32 : dec m_Mod_add 32 = .ok (.invokevirtual 194, 3) := by decide +kernel
theorem d_Mod_add_35 : dec m_Mod_add 35 = .ok (.iload_n 3, 1) := by decide +kernel
theorem d_Mod_add_36 : dec m_Mod_add 36 = .ok (.i2l, 1) := by decide +kernel
theorem d_Mod_add_37 : dec m_Mod_add 37 = .ok (.invokestatic 158, 3) := by decide +kernel
theorem d_Mod_add_40 : dec m_Mod_add 40 = .ok (.aload_n 0, 1) := by decide +kernel
theorem d_Mod_add_41 : dec m_Mod_add 41 = .ok (.iload_n 2, 1) := by decide +kernel
theorem d_Mod_add_42 : dec m_Mod_add 42 = .ok (.invokevirtual 194, 3) := by decide +kernel
theorem d_Mod_add_45 : dec m_Mod_add 45 = .ok (.invokestatic 205, 3) := by decide +kernel
theorem d_Mod_add_48 : dec m_Mod_add 48 = .ok (.invokestatic 198, 3) := by decide +kernel
theorem d_Mod_add_51 : dec m_Mod_add 51 = .ok (.lconst 0, 1) := by decide +kernel
theorem d_Mod_add_52 : dec m_Mod_add 52 = .ok (.lcmp, 1) := by decide +kernel
theorem d_Mod_add_53 : dec m_Mod_add 53 = .ok (.ifCond .ge 6, 3) := by decide +kernel
theorem d_Mod_add_56 : dec m_Mod_add 56 = .ok (.bipush (-5), 2) := by decide +kernel
theorem d_Mod_add_58 : dec m_Mod_add 58 = .ok (.ireturn, 1) := by decide +kernel
theorem d_Mod_add_59 : dec m_Mod_add 59 = .ok (.aload_n 0, 1) := by decide +kernel
theorem d_Mod_add_60 : dec m_Mod_add 60 = .ok (.iload_n 2, 1) := by decide +kernel
theorem d_Mod_add_61 : dec m_Mod_add 61 = .ok (.bipush 13, 2) := by decide +kernel
theorem d_Mod_add_63 : dec m_Mod_add 63 = .ok (.invokevirtual 208, 3) := by decide +kernel
theorem d_Mod_add_66 : dec m_Mod_add 66 = .ok (.aload_n 0, 1) := by decide +kernel
theorem d_Mod_add_67 : dec m_Mod_add 67 = .ok (.iload_n 1, 1) := by decide +kernel
theorem d_Mod_add_68 : dec m_Mod_add 68 = .ok (.bipush 13, 2) := by decide +kernel
theorem d_Mod_add_70 : dec m_Mod_add 70 = .ok (.iload_n 3, 1) := by decide +kernel
theorem d_Mod_add_71 : dec m_Mod_add 71 = .ok (.i2l, 1) := by decide +kernel
theorem d_Mod_add_72 : dec m_Mod_add 72 = .ok (.invokevirtual 212, 3) := by decide +kernel
theorem d_Mod_add_75 : dec m_Mod_add 75 = .ok (.aload_n 0, 1) := by decide +kernel
theorem d_Mod_add_76 : dec m_Mod_add 76 = .ok (.iload_n 1, 1) := by decide +kernel
theorem d_Mod_add_77 : dec m_Mod_add 77 = .ok (.invokevirtual 202, 3) := by decide +kernel
theorem d_Mod_add_80 : dec m_Mod_add 80 = .ok (.ireturn, 1) := by decide +kernel
theorem d_Mod_times_0 : dec m_Mod_times 0 = .ok (.iload_n 1, 1) := by decide +kernel
theorem d_Mod_times_1 : dec m_Mod_times 1 = .ok (.invokestatic 182, 3) := by decide +kernel
theorem d_Mod_times_4 : dec m_Mod_times 4 = .ok (.ifCond .eq 10, 3) := by decide +kernel
theorem d_Mod_times_7 : dec m_Mod_times 7 = .ok (.iload_n 2, 1) := by decide +kernel
theorem d_Mod_times_8 : dec m_Mod_times 8 = .ok (.invokestatic 182, 3) := by decide +kernel
theorem d_Mod_times_11 : dec m_Mod_times 11 = .ok (.ifCond .ne 5, 3) := by decide +kernel
theorem d_Mod_times_14 : dec m_Mod_times 14 = .ok (.iconst (-1), 1) := by decide +kernel
theorem d_Mod_times_15 : dec m_Mod_times 15 = .ok (.ireturn, 1) := by decide +kernel
theorem d_Mod_times_16 : dec m_Mod_times 16 = .ok (.aload_n 0, 1) := by decide +kernel
theorem d_Mod_times_17 : dec m_Mod_times 17 = .ok (.iload_n 1, 1) := by decide +kernel
theorem d_Mod_times_18 : dec m_Mod_times 18 = .ok (.invokevirtual 166, 3) := by decide +kernel
theorem d_Mod_times_21 : dec m_Mod_times 21 = .ok (.ifCond .lt 30, 3) := by decide +kernel
theorem d_Mod_times_24 : dec m_Mod_times 24 = .ok (.aload_n 0, 1) := by decide +kernel
theorem d_Mod_times_25 : dec m_Mod_times 25 = .ok (.iload_n 2, 1) := by decide +kernel
theorem d_Mod_times_26 : dec m_Mod_times 26 = .ok (.invokevirtual 166, 3) := by decide +kernel
theorem d_Mod_times_29 : dec m_Mod_times 29 = .ok (.ifCond .lt 22, 3) := by decide +kernel
theorem d_Mod_times_32 : dec m_Mod_times 32 = .ok (.aload_n 0, 1) := by decide +kernel
theorem d_Mod_times_33 : dec m_Mod_times 33 = .ok (.iload_n 1, 1) := by decide +kernel
theorem d_Mod_times_34 : dec m_Mod_times 34 = .ok (.invokevirtual 166, 3) := by decide +kernel
theorem d_Mod_times_37 : dec m_Mod_times 37 = .ok (.aload_n 0, 1) := by decide +kernel
theorem d_Mod_times_38 : dec m_Mod_times 38 = .ok (.iload_n 2, 1) := by decide +kernel
theorem d_Mod_times_39 : dec m_Mod_times 39 = .ok (.invokevirtual 166, 3) := by decide +kernel
theorem d_Mod_times_42 : dec m_Mod_times 42 = .ok (.iadd, 1) := by decide +kernel
theorem d_Mod_times_43 : dec m_Mod_times 43 = .ok (.bipush 6, 2) := by decide +kernel
theorem d_Mod_times_45 : dec m_Mod_times 45 = .ok (.if_icmp .le 6, 3) := by decide +kernel
theorem d_Mod_times_48 : dec m_Mod_times 48 = .ok (.bipush (-6), 2) := by decide +kernel
theorem d_Mod_times_50 : dec m_Mod_times 50 = .ok (.ireturn, 1) := by decide +kernel
theorem d_Mod_times_51 : dec m_Mod_times 51 = .ok (.aload_n 0, 1) := by decide +kernel
theorem d_Mod_times_52 : dec m_Mod_times 52 = .ok (.iload_n 1, 1) := by decide +kernel
theorem d_Mod_times_53 : dec m_Mod_times 53 = .ok (.invokevirtual 194, 3) := by decide +kernel
theorem d_Mod_times_56 : dec m_Mod_times 56 = .ok (.aload_n 0, 1) := by decide +kernel
theorem d_Mod_times_57 : dec m_Mod_times 57 = .ok (.iload_n 2, 1) := by decide +kernel
theorem d_Mod_times_58 : dec m_Mod_times 58 = .ok (.invokevirtual 194, 3) := by decide +kernel
theorem d_Mod_times_61 : dec m_Mod_times 61 = .ok (.invokestatic 205, 3) := by decide +kernel
theorem d_Mod_times_64 : dec m_Mod_times 64 = .ok (.lconst 0, 1) := by decide +kernel
theorem d_Mod_times_65 : dec m_Mod_times 65 = .ok (.lcmp, 1) := by decide +kernel
theorem d_Mod_times_66 : dec m_Mod_times 66 = .ok (.ifCond .ge 6, 3) := by decide +kernel
theorem d_Mod_times_69 : dec m_Mod_times 69 = .ok (.bipush (-5), 2) := by decide +kernel
theorem d_Mod_times_71 : dec m_Mod_times 71 = .ok (.ireturn, 1) := by decide +kernel
theorem d_Mod_times_72 : dec m_Mod_times 72 = .ok (.aload_n 0, 1) := by decide +kernel
theorem d_Mod_times_73 : dec m_Mod_times 73 = .ok (.iload_n 1, 1) := by decide +kernel
theorem d_Mod_times_74 : dec m_Mod_times 74 = .ok (.iload_n 2, 1) := by decide +kernel
theorem d_Mod_times_75 : dec m_Mod_times 75 = .ok (.bipush 13, 2) := by decide +kernel
theorem d_Mod_times_77 : dec m_Mod_times 77 = .ok (.invokevirtual 216, 3) := by decide +kernel
theorem d_Mod_times_80 : dec m_Mod_times 80 = .ok (.aload_n 0, 1) := by decide +kernel
theorem d_Mod_times_81 : dec m_Mod_times 81 = .ok (.bipush 13, 2) := by decide +kernel
theorem d_Mod_times_83 : dec m_Mod_times 83 = .ok (.iload_n 1, 1) := by decide +kernel
theorem d_Mod_times_84 : dec m_Mod_times 84 = .ok (.invokevirtual 208, 3) := by decide +kernel
theorem d_Mod_times_87 : dec m_Mod_times 87 = .ok (.aload_n 0, 1) := by decide +kernel
theorem d_Mod_times_88 : dec m_Mod_times 88 = .ok (.iload_n 1, 1) := by decide +kernel
theorem d_Mod_times_89 : dec m_Mod_times 89 = .ok (.invokevirtual 202, 3) := by decide +kernel
theorem d_Mod_times_92 : dec m_Mod_times 92 = .ok (.ireturn, 1) := by decide +kernel
theorem d_Mod_letter_0 : dec m_Mod_letter 0 = .ok (.iload_n 0, 1) := by decide +kernel
theorem d_Mod_letter_1 : dec m_Mod_letter 1 = .ok (.tableswitch 74 0 4 #[35, 37, 49, 62, 68], 35) := by decide +kernel
theorem d_Mod_letter_36 : dec m_Mod_letter 36 = .ok (.iload_n 1, 1) := by decide +kernel
theorem d_Mod_letter_37 : dec m_Mod_letter 37 = .ok (.ireturn, 1) := by decide +kernel
theorem d_Mod_letter_38 : dec m_Mod_letter 38 = .ok (.iload_n 1, 1) := by decide +kernel
theorem d_Mod_letter_39 : dec m_Mod_letter 39 = .ok (.ifCond .ne 7, 3) := by decide +kernel
theorem d_Mod_letter_42 : dec m_Mod_letter 42 = .ok (.iconst 0, 1) := by decide +kernel
theorem d_Mod_letter_43 : dec m_Mod_letter 43 = .ok (.goto 6, 3) := by decide +kernel
theorem d_Mod_letter_46 : dec m_Mod_letter 46 = .ok (.iconst 3, 1) := by decide +kernel
theorem d_Mod_letter_47 : dec m_Mod_letter 47 = .ok (.iload_n 1, 1) := by decide +kernel
theorem d_Mod_letter_48 : dec m_Mod_letter 48 = .ok (.isub, 1) := by decide +kernel
theorem d_Mod_letter_49 : dec m_Mod_letter 49 = .ok (.ireturn, 1) := by decide +kernel
theorem d_Mod_letter_50 : dec m_Mod_letter 50 = .ok (.iload_n 1, 1) := by decide +kernel
theorem d_Mod_letter_51 : dec m_Mod_letter 51 = .ok (.iconst 2, 1) := by decide +kernel
theorem d_Mod_letter_52 : dec m_Mod_letter 52 = .ok (.if_icmp .ne 7, 3) := by decide +kernel
theorem d_Mod_letter_55 : dec m_Mod_letter 55 = .ok (.iconst 2, 1) := by decide +kernel
theorem d_Mod_letter_56 : dec m_Mod_letter 56 = .ok (.goto 6, 3) := by decide +kernel
theorem d_Mod_letter_59 : dec m_Mod_letter 59 = .ok (.iconst 1, 1) := by decide +kernel
theorem d_Mod_letter_60 : dec m_Mod_letter 60 = .ok (.iload_n 1, 1) := by decide +kernel
theorem d_Mod_letter_61 : dec m_Mod_letter 61 = .ok (.isub, 1) := by decide +kernel
theorem d_Mod_letter_62 : dec m_Mod_letter 62 = .ok (.ireturn, 1) := by decide +kernel
theorem d_Mod_letter_63 : dec m_Mod_letter 63 = .ok (.iload_n 1, 1) := by decide +kernel
theorem d_Mod_letter_64 : dec m_Mod_letter 64 = .ok (.iconst 1, 1) := by decide +kernel
theorem d_Mod_letter_65 : dec m_Mod_letter 65 = .ok (.iadd, 1) := by decide +kernel
theorem d_Mod_letter_66 : dec m_Mod_letter 66 = .ok (.iconst 3, 1) := by decide +kernel
theorem d_Mod_letter_67 : dec m_Mod_letter 67 = .ok (.irem, 1) := by decide +kernel
theorem d_Mod_letter_68 : dec m_Mod_letter 68 = .ok (.ireturn, 1) := by decide +kernel
theorem d_Mod_letter_69 : dec m_Mod_letter 69 = .ok (.iload_n 1, 1) := by decide +kernel
theorem d_Mod_letter_70 : dec m_Mod_letter 70 = .ok (.iconst 2, 1) := by decide +kernel
theorem d_Mod_letter_71 : dec m_Mod_letter 71 = .ok (.iadd, 1) := by decide +kernel
theorem d_Mod_letter_72 : dec m_Mod_letter 72 = .ok (.iconst 3, 1) := by decide +kernel
theorem d_Mod_letter_73 : dec m_Mod_letter 73 = .ok (.irem, 1) := by decide +kernel
theorem d_Mod_letter_74 : dec m_Mod_letter 74 = .ok (.ireturn, 1) := by decide +kernel
theorem d_Mod_letter_75 : dec m_Mod_letter 75 = .ok (.iconst 2, 1) := by decide +kernel
theorem d_Mod_letter_76 : dec m_Mod_letter 76 = .ok (.iload_n 1, 1) := by decide +kernel
theorem d_Mod_letter_77 : dec m_Mod_letter 77 = .ok (.isub, 1) := by decide +kernel
theorem d_Mod_letter_78 : dec m_Mod_letter 78 = .ok (.ireturn, 1) := by decide +kernel
theorem d_Mod_turned_0 : dec m_Mod_turned 0 = .ok (.iload_n 2, 1) := by decide +kernel
theorem d_Mod_turned_1 : dec m_Mod_turned 1 = .ok (.iconst 0, 1) := by decide +kernel
theorem d_Mod_turned_2 : dec m_Mod_turned 2 = .ok (.invokestatic 220, 3) := by decide +kernel
theorem d_Mod_turned_5 : dec m_Mod_turned 5 = .ok (.iload_n 3, 1) := by decide +kernel
theorem d_Mod_turned_6 : dec m_Mod_turned 6 = .ok (.if_icmp .ne 12, 3) := by decide +kernel
theorem d_Mod_turned_9 : dec m_Mod_turned 9 = .ok (.aload_n 0, 1) := by decide +kernel
theorem d_Mod_turned_10 : dec m_Mod_turned 10 = .ok (.getfield 18, 3) := by decide +kernel
theorem d_Mod_turned_13 : dec m_Mod_turned 13 = .ok (.iload_n 1, 1) := by decide +kernel
theorem d_Mod_turned_14 : dec m_Mod_turned 14 = .ok (.iaload, 1) := by decide +kernel
theorem d_Mod_turned_15 : dec m_Mod_turned 15 = .ok (.goto 4, 3) := by decide +kernel
theorem d_Mod_turned_18 : dec m_Mod_turned 18 = .ok (.iconst 0, 1) := by decide +kernel
theorem d_Mod_turned_19 : dec m_Mod_turned 19 = .ok (.istore 4, 2) := by decide +kernel
theorem d_Mod_turned_21 : dec m_Mod_turned 21 = .ok (.iload 4, 2) := by decide +kernel
theorem d_Mod_turned_23 : dec m_Mod_turned 23 = .ok (.iload_n 2, 1) := by decide +kernel
theorem d_Mod_turned_24 : dec m_Mod_turned 24 = .ok (.iconst 1, 1) := by decide +kernel
theorem d_Mod_turned_25 : dec m_Mod_turned 25 = .ok (.invokestatic 220, 3) := by decide +kernel
theorem d_Mod_turned_28 : dec m_Mod_turned 28 = .ok (.iload_n 3, 1) := by decide +kernel
theorem d_Mod_turned_29 : dec m_Mod_turned 29 = .ok (.if_icmp .ne 12, 3) := by decide +kernel
theorem d_Mod_turned_32 : dec m_Mod_turned 32 = .ok (.aload_n 0, 1) := by decide +kernel
theorem d_Mod_turned_33 : dec m_Mod_turned 33 = .ok (.getfield 22, 3) := by decide +kernel
theorem d_Mod_turned_36 : dec m_Mod_turned 36 = .ok (.iload_n 1, 1) := by decide +kernel
theorem d_Mod_turned_37 : dec m_Mod_turned 37 = .ok (.iaload, 1) := by decide +kernel
theorem d_Mod_turned_38 : dec m_Mod_turned 38 = .ok (.goto 4, 3) := by decide +kernel
theorem d_Mod_turned_41 : dec m_Mod_turned 41 = .ok (.iconst 0, 1) := by decide +kernel
theorem d_Mod_turned_42 : dec m_Mod_turned 42 = .ok (.iadd, 1) := by decide +kernel
theorem d_Mod_turned_43 : dec m_Mod_turned 43 = .ok (.istore 4, 2) := by decide +kernel
theorem d_Mod_turned_45 : dec m_Mod_turned 45 = .ok (.iload 4, 2) := by decide +kernel
theorem d_Mod_turned_47 : dec m_Mod_turned 47 = .ok (.iload_n 2, 1) := by decide +kernel
theorem d_Mod_turned_48 : dec m_Mod_turned 48 = .ok (.iconst 2, 1) := by decide +kernel
theorem d_Mod_turned_49 : dec m_Mod_turned 49 = .ok (.invokestatic 220, 3) := by decide +kernel
theorem d_Mod_turned_52 : dec m_Mod_turned 52 = .ok (.iload_n 3, 1) := by decide +kernel
theorem d_Mod_turned_53 : dec m_Mod_turned 53 = .ok (.if_icmp .ne 12, 3) := by decide +kernel
theorem d_Mod_turned_56 : dec m_Mod_turned 56 = .ok (.aload_n 0, 1) := by decide +kernel
theorem d_Mod_turned_57 : dec m_Mod_turned 57 = .ok (.getfield 25, 3) := by decide +kernel
theorem d_Mod_turned_60 : dec m_Mod_turned 60 = .ok (.iload_n 1, 1) := by decide +kernel
theorem d_Mod_turned_61 : dec m_Mod_turned 61 = .ok (.iaload, 1) := by decide +kernel
theorem d_Mod_turned_62 : dec m_Mod_turned 62 = .ok (.goto 4, 3) := by decide +kernel
theorem d_Mod_turned_65 : dec m_Mod_turned 65 = .ok (.iconst 0, 1) := by decide +kernel
theorem d_Mod_turned_66 : dec m_Mod_turned 66 = .ok (.iadd, 1) := by decide +kernel
theorem d_Mod_turned_67 : dec m_Mod_turned 67 = .ok (.ireturn, 1) := by decide +kernel
theorem d_Mod_turnTo_0 : dec m_Mod_turnTo 0 = .ok (.aload_n 0, 1) := by decide +kernel
theorem d_Mod_turnTo_1 : dec m_Mod_turnTo 1 = .ok (.iload_n 3, 1) := by decide +kernel
theorem d_Mod_turnTo_2 : dec m_Mod_turnTo 2 = .ok (.invokevirtual 162, 3) := by decide +kernel
theorem d_Mod_turnTo_5 : dec m_Mod_turnTo 5 = .ok (.iconst 0, 1) := by decide +kernel
theorem d_Mod_turnTo_6 : dec m_Mod_turnTo 6 = .ok (.istore 4, 2) := by decide +kernel
theorem d_Mod_turnTo_8 : dec m_Mod_turnTo 8 = .ok (.iload 4, 2) := by decide +kernel
theorem d_Mod_turnTo_10 : dec m_Mod_turnTo 10 = .ok (.bipush 84, 2) := by decide +kernel
theorem d_Mod_turnTo_12 : dec m_Mod_turnTo 12 = .ok (.if_icmp .ge 63, 3) := by decide +kernel
theorem d_Mod_turnTo_15 : dec m_Mod_turnTo 15 = .ok (.aload_n 0, 1) := by decide +kernel
theorem d_Mod_turnTo_16 : dec m_Mod_turnTo 16 = .ok (.aload_n 0, 1) := by decide +kernel
theorem d_Mod_turnTo_17 : dec m_Mod_turnTo 17 = .ok (.iload 4, 2) := by decide +kernel
theorem d_Mod_turnTo_19 : dec m_Mod_turnTo 19 = .ok (.iload_n 2, 1) := by decide +kernel
theorem d_Mod_turnTo_20 : dec m_Mod_turnTo 20 = .ok (.iconst 0, 1) := by decide +kernel
theorem d_Mod_turnTo_21 : dec m_Mod_turnTo 21 = .ok (.invokevirtual 224, 3) := by decide +kernel
theorem d_Mod_turnTo_24 : dec m_Mod_turnTo 24 = .ok (.aload_n 0, 1) := by decide +kernel
theorem d_Mod_turnTo_25 : dec m_Mod_turnTo 25 = .ok (.iload 4, 2) := by decide +kernel
theorem d_Mod_turnTo_27 : dec m_Mod_turnTo 27 = .ok (.iload_n 2, 1) := by decide +kernel
theorem d_Mod_turnTo_28 : dec m_Mod_turnTo 28 = .ok (.iconst 1, 1) := by decide +kernel
theorem d_Mod_turnTo_29 : dec m_Mod_turnTo 29 = .ok (.invokevirtual 224, 3) := by decide +kernel
theorem d_Mod_turnTo_32 : dec m_Mod_turnTo 32 = .ok (.aload_n 0, 1) := by decide +kernel
theorem d_Mod_turnTo_33 : dec m_Mod_turnTo 33 = .ok (.iload 4, 2) := by decide +kernel
theorem d_Mod_turnTo_35 : dec m_Mod_turnTo 35 = .ok (.iload_n 2, 1) := by decide +kernel
theorem d_Mod_turnTo_36 : dec m_Mod_turnTo 36 = .ok (.iconst 2, 1) := by decide +kernel
theorem d_Mod_turnTo_37 : dec m_Mod_turnTo 37 = .ok (.invokevirtual 224, 3) := by decide +kernel
theorem d_Mod_turnTo_40 : dec m_Mod_turnTo 40 = .ok (.invokevirtual 176, 3) := by decide +kernel
theorem d_Mod_turnTo_43 : dec m_Mod_turnTo 43 = .ok (.istore 5, 2) := by decide +kernel
theorem d_Mod_turnTo_45 : dec m_Mod_turnTo 45 = .ok (.aload_n 0, 1) := by decide +kernel
theorem d_Mod_turnTo_46 : dec m_Mod_turnTo 46 = .ok (.getfield 9, 3) := by decide +kernel
theorem d_Mod_turnTo_49 : dec m_Mod_turnTo 49 = .ok (.bipush 84, 2) := by decide +kernel
theorem d_Mod_turnTo_51 : dec m_Mod_turnTo 51 = .ok (.iload_n 3, 1) := by decide +kernel
theorem d_Mod_turnTo_52 : dec m_Mod_turnTo 52 = .ok (.imul, 1) := by decide +kernel
theorem d_Mod_turnTo_53 : dec m_Mod_turnTo 53 = .ok (.iload 5, 2) := by decide +kernel
theorem d_Mod_turnTo_55 : dec m_Mod_turnTo 55 = .ok (.iadd, 1) := by decide +kernel
theorem d_Mod_turnTo_56 : dec m_Mod_turnTo 56 = .ok (.aload_n 0, 1) := by decide +kernel
theorem d_Mod_turnTo_57 : dec m_Mod_turnTo 57 = .ok (.getfield 9, 3) := by decide +kernel
theorem d_Mod_turnTo_60 : dec m_Mod_turnTo 60 = .ok (.bipush 84, 2) := by decide +kernel
theorem d_Mod_turnTo_62 : dec m_Mod_turnTo 62 = .ok (.iload_n 1, 1) := by decide +kernel
theorem d_Mod_turnTo_63 : dec m_Mod_turnTo 63 = .ok (.imul, 1) := by decide +kernel
theorem d_Mod_turnTo_64 : dec m_Mod_turnTo 64 = .ok (.iload 4, 2) := by decide +kernel
theorem d_Mod_turnTo_66 : dec m_Mod_turnTo 66 = .ok (.iadd, 1) := by decide +kernel
theorem d_Mod_turnTo_67 : dec m_Mod_turnTo 67 = .ok (.laload, 1) := by decide +kernel
theorem d_Mod_turnTo_68 : dec m_Mod_turnTo 68 = .ok (.lastore, 1) := by decide +kernel
theorem d_Mod_turnTo_69 : dec m_Mod_turnTo 69 = .ok (.iinc 4 1, 3) := by decide +kernel
theorem d_Mod_turnTo_72 : dec m_Mod_turnTo 72 = .ok (.goto (-64), 3) := by decide +kernel
theorem d_Mod_turnTo_75 : dec m_Mod_turnTo 75 = .ok (.return_, 1) := by decide +kernel
theorem d_Mod_turn_0 : dec m_Mod_turn 0 = .ok (.iload_n 1, 1) := by decide +kernel
theorem d_Mod_turn_1 : dec m_Mod_turn 1 = .ok (.invokestatic 182, 3) := by decide +kernel
theorem d_Mod_turn_4 : dec m_Mod_turn 4 = .ok (.ifCond .eq 15, 3) := by decide +kernel
theorem d_Mod_turn_7 : dec m_Mod_turn 7 = .ok (.iload_n 2, 1) := by decide +kernel
theorem d_Mod_turn_8 : dec m_Mod_turn 8 = .ok (.i2l, 1) := by decide +kernel
theorem d_Mod_turn_9 : dec m_Mod_turn 9 = .ok (.lconst 0, 1) := by decide +kernel
theorem d_Mod_turn_10 : dec m_Mod_turn 10 = .ok (.ldc2_w 227, 3) := by decide +kernel
theorem d_Mod_turn_13 : dec m_Mod_turn 13 = .ok (.invokestatic 139, 3) := by decide +kernel
theorem d_Mod_turn_16 : dec m_Mod_turn 16 = .ok (.ifCond .ne 5, 3) := by decide +kernel
theorem d_Mod_turn_19 : dec m_Mod_turn 19 = .ok (.iconst (-1), 1) := by decide +kernel
theorem d_Mod_turn_20 : dec m_Mod_turn 20 = .ok (.ireturn, 1) := by decide +kernel
theorem d_Mod_turn_21 : dec m_Mod_turn 21 = .ok (.aload_n 0, 1) := by decide +kernel
theorem d_Mod_turn_22 : dec m_Mod_turn 22 = .ok (.iload_n 1, 1) := by decide +kernel
theorem d_Mod_turn_23 : dec m_Mod_turn 23 = .ok (.iload_n 2, 1) := by decide +kernel
theorem d_Mod_turn_24 : dec m_Mod_turn 24 = .ok (.bipush 13, 2) := by decide +kernel
theorem d_Mod_turn_26 : dec m_Mod_turn 26 = .ok (.invokevirtual 229, 3) := by decide +kernel
theorem d_Mod_turn_29 : dec m_Mod_turn 29 = .ok (.aload_n 0, 1) := by decide +kernel
theorem d_Mod_turn_30 : dec m_Mod_turn 30 = .ok (.bipush 13, 2) := by decide +kernel
theorem d_Mod_turn_32 : dec m_Mod_turn 32 = .ok (.iload_n 1, 1) := by decide +kernel
theorem d_Mod_turn_33 : dec m_Mod_turn 33 = .ok (.invokevirtual 208, 3) := by decide +kernel
theorem d_Mod_turn_36 : dec m_Mod_turn 36 = .ok (.aload_n 0, 1) := by decide +kernel
theorem d_Mod_turn_37 : dec m_Mod_turn 37 = .ok (.iload_n 1, 1) := by decide +kernel
theorem d_Mod_turn_38 : dec m_Mod_turn 38 = .ok (.invokevirtual 202, 3) := by decide +kernel
theorem d_Mod_turn_41 : dec m_Mod_turn 41 = .ok (.ireturn, 1) := by decide +kernel
theorem d_Mod_even_0 : dec m_Mod_even 0 = .ok (.iload_n 1, 1) := by decide +kernel
theorem d_Mod_even_1 : dec m_Mod_even 1 = .ok (.invokestatic 182, 3) := by decide +kernel
theorem d_Mod_even_4 : dec m_Mod_even 4 = .ok (.ifCond .ne 5, 3) := by decide +kernel
theorem d_Mod_even_7 : dec m_Mod_even 7 = .ok (.iconst (-1), 1) := by decide +kernel
theorem d_Mod_even_8 : dec m_Mod_even 8 = .ok (.ireturn, 1) := by decide +kernel
theorem d_Mod_even_9 : dec m_Mod_even 9 = .ok (.ldc2_w 137, 3) := by decide +kernel
theorem d_Mod_even_12 : dec m_Mod_even 12 = .ok (.aload_n 0, 1) := by decide +kernel
theorem d_Mod_even_13 : dec m_Mod_even 13 = .ok (.iload_n 1, 1) := by decide +kernel
theorem d_Mod_even_14 : dec m_Mod_even 14 = .ok (.invokevirtual 194, 3) := by decide +kernel
theorem d_Mod_even_17 : dec m_Mod_even 17 = .ok (.invokestatic 205, 3) := by decide +kernel
theorem d_Mod_even_20 : dec m_Mod_even 20 = .ok (.lconst 0, 1) := by decide +kernel
theorem d_Mod_even_21 : dec m_Mod_even 21 = .ok (.lcmp, 1) := by decide +kernel
theorem d_Mod_even_22 : dec m_Mod_even 22 = .ok (.ifCond .ge 6, 3) := by decide +kernel
theorem d_Mod_even_25 : dec m_Mod_even 25 = .ok (.bipush (-5), 2) := by decide +kernel
theorem d_Mod_even_27 : dec m_Mod_even 27 = .ok (.ireturn, 1) := by decide +kernel
theorem d_Mod_even_28 : dec m_Mod_even 28 = .ok (.aload_n 0, 1) := by decide +kernel
theorem d_Mod_even_29 : dec m_Mod_even 29 = .ok (.bipush 14, 2) := by decide +kernel
theorem d_Mod_even_31 : dec m_Mod_even 31 = .ok (.invokevirtual 162, 3) := by decide +kernel
theorem d_Mod_even_34 : dec m_Mod_even 34 = .ok (.iconst 0, 1) := by decide +kernel
theorem d_Mod_even_35 : dec m_Mod_even 35 = .ok (.istore_n 2, 1) := by decide +kernel
theorem d_Mod_even_36 : dec m_Mod_even 36 = .ok (.iload_n 2, 1) := by decide +kernel
theorem d_Mod_even_37 : dec m_Mod_even 37 = .ok (.bipush 6, 2) := by decide +kernel
theorem d_Mod_even_39 : dec m_Mod_even 39 = .ok (.if_icmp .ge 26, 3) := by decide +kernel
theorem d_Mod_even_42 : dec m_Mod_even 42 = .ok (.aload_n 0, 1) := by decide +kernel
theorem d_Mod_even_43 : dec m_Mod_even 43 = .ok (.iload_n 1, 1) := by decide +kernel
theorem d_Mod_even_44 : dec m_Mod_even 44 = .ok (.iload_n 2, 1) := by decide +kernel
theorem d_Mod_even_45 : dec m_Mod_even 45 = .ok (.bipush 13, 2) := by decide +kernel
theorem d_Mod_even_47 : dec m_Mod_even 47 = .ok (.invokevirtual 229, 3) := by decide +kernel
theorem d_Mod_even_50 : dec m_Mod_even 50 = .ok (.aload_n 0, 1) := by decide +kernel
theorem d_Mod_even_51 : dec m_Mod_even 51 = .ok (.bipush 14, 2) := by decide +kernel
theorem d_Mod_even_53 : dec m_Mod_even 53 = .ok (.bipush 13, 2) := by decide +kernel
theorem d_Mod_even_55 : dec m_Mod_even 55 = .ok (.lconst 1, 1) := by decide +kernel
theorem d_Mod_even_56 : dec m_Mod_even 56 = .ok (.invokevirtual 212, 3) := by decide +kernel
theorem d_Mod_even_59 : dec m_Mod_even 59 = .ok (.iinc 2 1, 3) := by decide +kernel
theorem d_Mod_even_62 : dec m_Mod_even 62 = .ok (.goto (-26), 3) := by decide +kernel
theorem d_Mod_even_65 : dec m_Mod_even 65 = .ok (.aload_n 0, 1) := by decide +kernel
theorem d_Mod_even_66 : dec m_Mod_even 66 = .ok (.bipush 14, 2) := by decide +kernel
theorem d_Mod_even_68 : dec m_Mod_even 68 = .ok (.iload_n 1, 1) := by decide +kernel
theorem d_Mod_even_69 : dec m_Mod_even 69 = .ok (.invokevirtual 208, 3) := by decide +kernel
theorem d_Mod_even_72 : dec m_Mod_even 72 = .ok (.aload_n 0, 1) := by decide +kernel
theorem d_Mod_even_73 : dec m_Mod_even 73 = .ok (.iload_n 1, 1) := by decide +kernel
theorem d_Mod_even_74 : dec m_Mod_even 74 = .ok (.invokevirtual 202, 3) := by decide +kernel
theorem d_Mod_even_77 : dec m_Mod_even 77 = .ok (.ireturn, 1) := by decide +kernel
theorem d_Mod_orbit_0 : dec m_Mod_orbit 0 = .ok (.iload_n 1, 1) := by decide +kernel
theorem d_Mod_orbit_1 : dec m_Mod_orbit 1 = .ok (.invokestatic 182, 3) := by decide +kernel
theorem d_Mod_orbit_4 : dec m_Mod_orbit 4 = .ok (.ifCond .ne 5, 3) := by decide +kernel
theorem d_Mod_orbit_7 : dec m_Mod_orbit 7 = .ok (.iconst (-1), 1) := by decide +kernel
theorem d_Mod_orbit_8 : dec m_Mod_orbit 8 = .ok (.ireturn, 1) := by decide +kernel
theorem d_Mod_orbit_9 : dec m_Mod_orbit 9 = .ok (.iconst 0, 1) := by decide +kernel
theorem d_Mod_orbit_10 : dec m_Mod_orbit 10 = .ok (.istore_n 2, 1) := by decide +kernel
theorem d_Mod_orbit_11 : dec m_Mod_orbit 11 = .ok (.iconst 0, 1) := by decide +kernel
theorem d_Mod_orbit_12 : dec m_Mod_orbit 12 = .ok (.istore_n 3, 1) := by decide +kernel
theorem d_Mod_orbit_13 : dec m_Mod_orbit 13 = .ok (.iload_n 3, 1) := by decide +kernel
theorem d_Mod_orbit_14 : dec m_Mod_orbit 14 = .ok (.bipush 6, 2) := by decide +kernel
theorem d_Mod_orbit_16 : dec m_Mod_orbit 16 = .ok (.if_icmp .ge 80, 3) := by decide +kernel
theorem d_Mod_orbit_19 : dec m_Mod_orbit 19 = .ok (.aload_n 0, 1) := by decide +kernel
theorem d_Mod_orbit_20 : dec m_Mod_orbit 20 = .ok (.iload_n 1, 1) := by decide +kernel
theorem d_Mod_orbit_21 : dec m_Mod_orbit 21 = .ok (.iload_n 3, 1) := by decide +kernel
theorem d_Mod_orbit_22 : dec m_Mod_orbit 22 = .ok (.bipush 13, 2) := by decide +kernel
theorem d_Mod_orbit_24 : dec m_Mod_orbit 24 = .ok (.invokevirtual 229, 3) := by decide +kernel
theorem d_Mod_orbit_27 : dec m_Mod_orbit 27 = .ok (.iconst 1, 1) := by decide +kernel
theorem d_Mod_orbit_28 : dec m_Mod_orbit 28 = .ok (.istore 4, 2) := by decide +kernel
theorem d_Mod_orbit_30 : dec m_Mod_orbit 30 = .ok (.iconst 0, 1) := by decide +kernel
theorem d_Mod_orbit_31 : dec m_Mod_orbit 31 = .ok (.istore 5, 2) := by decide +kernel
theorem d_Mod_orbit_33 : dec m_Mod_orbit 33 = .ok (.iload 5, 2) := by decide +kernel
theorem d_Mod_orbit_35 : dec m_Mod_orbit 35 = .ok (.iload_n 3, 1) := by decide +kernel
theorem d_Mod_orbit_36 : dec m_Mod_orbit 36 = .ok (.if_icmp .ge 41, 3) := by decide +kernel
theorem d_Mod_orbit_39 : dec m_Mod_orbit 39 = .ok (.aload_n 0, 1) := by decide +kernel
theorem d_Mod_orbit_40 : dec m_Mod_orbit 40 = .ok (.iload_n 1, 1) := by decide +kernel
theorem d_Mod_orbit_41 : dec m_Mod_orbit 41 = .ok (.iload 5, 2) := by decide +kernel
theorem d_Mod_orbit_43 : dec m_Mod_orbit 43 = .ok (.bipush 14, 2) := by decide +kernel
theorem d_Mod_orbit_45 : dec m_Mod_orbit 45 = .ok (.invokevirtual 229, 3) := by decide +kernel
theorem d_Mod_orbit_48 : dec m_Mod_orbit 48 = .ok (.iload 4, 2) := by decide +kernel
theorem d_Mod_orbit_50 : dec m_Mod_orbit 50 = .ok (.ifCond .eq 18, 3) := by decide +kernel
theorem d_Mod_orbit_53 : dec m_Mod_orbit 53 = .ok (.aload_n 0, 1) := by decide +kernel
theorem d_Mod_orbit_54 : dec m_Mod_orbit 54 = .ok (.bipush 13, 2) := by decide +kernel
theorem d_Mod_orbit_56 : dec m_Mod_orbit 56 = .ok (.bipush 14, 2) := by decide +kernel
theorem d_Mod_orbit_58 : dec m_Mod_orbit 58 = .ok (.invokevirtual 232, 3) := by decide +kernel
theorem d_Mod_orbit_61 : dec m_Mod_orbit 61 = .ok (.ifCond .ne 7, 3) := by decide +kernel
theorem d_Mod_orbit_64 : dec m_Mod_orbit 64 = .ok (.iconst 1, 1) := by decide +kernel
theorem d_Mod_orbit_65 : dec m_Mod_orbit 65 = .ok (.goto 4, 3) := by decide +kernel
theorem d_Mod_orbit_68 : dec m_Mod_orbit 68 = .ok (.iconst 0, 1) := by decide +kernel
theorem d_Mod_orbit_69 : dec m_Mod_orbit 69 = .ok (.istore 4, 2) := by decide +kernel
theorem d_Mod_orbit_71 : dec m_Mod_orbit 71 = .ok (.iinc 5 1, 3) := by decide +kernel
theorem d_Mod_orbit_74 : dec m_Mod_orbit 74 = .ok (.goto (-41), 3) := by decide +kernel
theorem d_Mod_orbit_77 : dec m_Mod_orbit 77 = .ok (.iload_n 2, 1) := by decide +kernel
theorem d_Mod_orbit_78 : dec m_Mod_orbit 78 = .ok (.iload 4, 2) := by decide +kernel
theorem d_Mod_orbit_80 : dec m_Mod_orbit 80 = .ok (.ifCond .eq 7, 3) := by decide +kernel
theorem d_Mod_orbit_83 : dec m_Mod_orbit 83 = .ok (.iconst 1, 1) := by decide +kernel
theorem d_Mod_orbit_84 : dec m_Mod_orbit 84 = .ok (.goto 4, 3) := by decide +kernel
theorem d_Mod_orbit_87 : dec m_Mod_orbit 87 = .ok (.iconst 0, 1) := by decide +kernel
theorem d_Mod_orbit_88 : dec m_Mod_orbit 88 = .ok (.iadd, 1) := by decide +kernel
theorem d_Mod_orbit_89 : dec m_Mod_orbit 89 = .ok (.istore_n 2, 1) := by decide +kernel
theorem d_Mod_orbit_90 : dec m_Mod_orbit 90 = .ok (.iinc 3 1, 3) := by decide +kernel
theorem d_Mod_orbit_93 : dec m_Mod_orbit 93 = .ok (.goto (-80), 3) := by decide +kernel
theorem d_Mod_orbit_96 : dec m_Mod_orbit 96 = .ok (.iload_n 2, 1) := by decide +kernel
theorem d_Mod_orbit_97 : dec m_Mod_orbit 97 = .ok (.ireturn, 1) := by decide +kernel
theorem d_Mod_like_0 : dec m_Mod_like 0 = .ok (.iload_n 1, 1) := by decide +kernel
theorem d_Mod_like_1 : dec m_Mod_like 1 = .ok (.invokestatic 182, 3) := by decide +kernel
theorem d_Mod_like_4 : dec m_Mod_like 4 = .ok (.ifCond .ne 5, 3) := by decide +kernel
theorem d_Mod_like_7 : dec m_Mod_like 7 = .ok (.iconst (-1), 1) := by decide +kernel
theorem d_Mod_like_8 : dec m_Mod_like 8 = .ok (.ireturn, 1) := by decide +kernel
theorem d_Mod_like_9 : dec m_Mod_like 9 = .ok (.iload_n 1, 1) := by decide +kernel
theorem d_Mod_like_10 : dec m_Mod_like 10 = .ok (.istore_n 2, 1) := by decide +kernel
theorem d_Mod_like_11 : dec m_Mod_like 11 = .ok (.iload_n 1, 1) := by decide +kernel
theorem d_Mod_like_12 : dec m_Mod_like 12 = .ok (.istore_n 3, 1) := by decide +kernel
theorem d_Mod_like_13 : dec m_Mod_like 13 = .ok (.iload_n 3, 1) := by decide +kernel
theorem d_Mod_like_14 : dec m_Mod_like 14 = .ok (.ifCond .lt 24, 3) := by decide +kernel
theorem d_Mod_like_17 : dec m_Mod_like 17 = .ok (.aload_n 0, 1) := by decide +kernel
theorem d_Mod_like_18 : dec m_Mod_like 18 = .ok (.iload_n 3, 1) := by decide +kernel
theorem d_Mod_like_19 : dec m_Mod_like 19 = .ok (.iload_n 1, 1) := by decide +kernel
theorem d_Mod_like_20 : dec m_Mod_like 20 = .ok (.invokevirtual 232, 3) := by decide +kernel
theorem d_Mod_like_23 : dec m_Mod_like 23 = .ok (.ifCond .eq 7, 3) := by decide +kernel
theorem d_Mod_like_26 : dec m_Mod_like 26 = .ok (.iload_n 3, 1) := by decide +kernel
theorem d_Mod_like_27 : dec m_Mod_like 27 = .ok (.goto 4, 3) := by decide +kernel
theorem d_Mod_like_30 : dec m_Mod_like 30 = .ok (.iload_n 2, 1) := by decide +kernel
theorem d_Mod_like_31 : dec m_Mod_like 31 = .ok (.istore_n 2, 1) := by decide +kernel
theorem d_Mod_like_32 : dec m_Mod_like 32 = .ok (.iinc 3 (-1), 3) := by decide +kernel
theorem d_Mod_like_35 : dec m_Mod_like 35 = .ok (.goto (-22), 3) := by decide +kernel
theorem d_Mod_like_38 : dec m_Mod_like 38 = .ok (.iload_n 2, 1) := by decide +kernel
theorem d_Mod_like_39 : dec m_Mod_like 39 = .ok (.ireturn, 1) := by decide +kernel
theorem d_Mod_coefficient_0 : dec m_Mod_coefficient 0 = .ok (.iload_n 1, 1) := by decide +kernel
theorem d_Mod_coefficient_1 : dec m_Mod_coefficient 1 = .ok (.invokestatic 182, 3) := by decide +kernel
theorem d_Mod_coefficient_4 : dec m_Mod_coefficient 4 = .ok (.ifCond .eq 34, 3) := by decide +kernel
theorem d_Mod_coefficient_7 : dec m_Mod_coefficient 7 = .ok (.iload_n 2, 1) := by decide +kernel
theorem d_Mod_coefficient_8 : dec m_Mod_coefficient 8 = .ok (.iload_n 3, 1) := by decide +kernel
theorem d_Mod_coefficient_9 : dec m_Mod_coefficient 9 = .ok (.iload 4, 2) := by decide +kernel
theorem d_Mod_coefficient_11 : dec m_Mod_coefficient 11 = .ok (.invokestatic 190, 3) := by decide +kernel
theorem d_Mod_coefficient_14 : dec m_Mod_coefficient 14 = .ok (.ifCond .eq 24, 3) := by decide +kernel
theorem d_Mod_coefficient_17 : dec m_Mod_coefficient 17 = .ok (.aload_n 0, 1) := by decide +kernel
theorem d_Mod_coefficient_18 : dec m_Mod_coefficient 18 = .ok (.getfield 9, 3) := by decide +kernel
theorem d_Mod_coefficient_21 : dec m_Mod_coefficient 21 = .ok (.bipush 84, 2) := by decide +kernel
theorem d_Mod_coefficient_23 : dec m_Mod_coefficient 23 = .ok (.iload_n 1, 1) := by decide +kernel
theorem d_Mod_coefficient_24 : dec m_Mod_coefficient 24 = .ok (.imul, 1) := by decide +kernel
theorem d_Mod_coefficient_25 : dec m_Mod_coefficient 25 = .ok (.aload_n 0, 1) := by decide +kernel
theorem d_Mod_coefficient_26 : dec m_Mod_coefficient 26 = .ok (.iload_n 2, 1) := by decide +kernel
theorem d_Mod_coefficient_27 : dec m_Mod_coefficient 27 = .ok (.iload_n 3, 1) := by decide +kernel
theorem d_Mod_coefficient_28 : dec m_Mod_coefficient 28 = .ok (.iload 4, 2) := by decide +kernel
theorem d_Mod_coefficient_30 : dec m_Mod_coefficient 30 = .ok (.invokevirtual 176, 3) := by decide +kernel
theorem d_Mod_coefficient_33 : dec m_Mod_coefficient 33 = .ok (.iadd, 1) := by decide +kernel
theorem d_Mod_coefficient_34 : dec m_Mod_coefficient 34 = .ok (.laload, 1) := by decide +kernel
theorem d_Mod_coefficient_35 : dec m_Mod_coefficient 35 = .ok (.goto 6, 3) := by decide +kernel
theorem d_Mod_coefficient_38 : dec m_Mod_coefficient 38 = .ok (.ldc2_w 235, 3) := by decide +kernel
theorem d_Mod_coefficient_41 : dec m_Mod_coefficient 41 = .ok (.lreturn, 1) := by decide +kernel
theorem d_Mod_lead_0 : dec m_Mod_lead 0 = .ok (.iload_n 1, 1) := by decide +kernel
theorem d_Mod_lead_1 : dec m_Mod_lead 1 = .ok (.invokestatic 182, 3) := by decide +kernel
theorem d_Mod_lead_4 : dec m_Mod_lead 4 = .ok (.ifCond .eq 15, 3) := by decide +kernel
theorem d_Mod_lead_7 : dec m_Mod_lead 7 = .ok (.iload_n 2, 1) := by decide +kernel
theorem d_Mod_lead_8 : dec m_Mod_lead 8 = .ok (.i2l, 1) := by decide +kernel
theorem d_Mod_lead_9 : dec m_Mod_lead 9 = .ok (.lconst 0, 1) := by decide +kernel
theorem d_Mod_lead_10 : dec m_Mod_lead 10 = .ok (.ldc2_w 237, 3) := by decide +kernel
theorem d_Mod_lead_13 : dec m_Mod_lead 13 = .ok (.invokestatic 139, 3) := by decide +kernel
theorem d_Mod_lead_16 : dec m_Mod_lead 16 = .ok (.ifCond .ne 5, 3) := by decide +kernel
theorem d_Mod_lead_19 : dec m_Mod_lead 19 = .ok (.iconst (-1), 1) := by decide +kernel
theorem d_Mod_lead_20 : dec m_Mod_lead 20 = .ok (.ireturn, 1) := by decide +kernel
theorem d_Mod_lead_21 : dec m_Mod_lead 21 = .ok (.iload_n 2, 1) := by decide +kernel
theorem d_Mod_lead_22 : dec m_Mod_lead 22 = .ok (.iconst 4, 1) := by decide +kernel
theorem d_Mod_lead_23 : dec m_Mod_lead 23 = .ok (.if_icmp .ne 9, 3) := by decide +kernel
theorem d_Mod_lead_26 : dec m_Mod_lead 26 = .ok (.aload_n 0, 1) := by decide +kernel
theorem d_Mod_lead_27 : dec m_Mod_lead 27 = .ok (.iload_n 1, 1) := by decide +kernel
theorem d_Mod_lead_28 : dec m_Mod_lead 28 = .ok (.invokevirtual 202, 3) := by decide +kernel
theorem d_Mod_lead_31 : dec m_Mod_lead 31 = .ok (.ireturn, 1) := by decide +kernel
theorem d_Mod_lead_32 : dec m_Mod_lead 32 = .ok (.aload_n 0, 1) := by decide +kernel
theorem d_Mod_lead_33 : dec m_Mod_lead 33 = .ok (.iload_n 1, 1) := by decide +kernel
theorem d_Mod_lead_34 : dec m_Mod_lead 34 = .ok (.invokevirtual 239, 3) := by decide +kernel
theorem d_Mod_lead_37 : dec m_Mod_lead 37 = .ok (.istore_n 3, 1) := by decide +kernel
theorem d_Mod_lead_38 : dec m_Mod_lead 38 = .ok (.iload_n 3, 1) := by decide +kernel
theorem d_Mod_lead_39 : dec m_Mod_lead 39 = .ok (.ifCond .ge 8, 3) := by decide +kernel
theorem d_Mod_lead_42 : dec m_Mod_lead 42 = .ok (.bipush (-2), 2) := by decide +kernel
theorem d_Mod_lead_44 : dec m_Mod_lead 44 = .ok (.goto 9, 3) := by decide +kernel
theorem d_Mod_lead_47 : dec m_Mod_lead 47 = .ok (.aload_n 0, 1) := by decide +kernel
theorem d_Mod_lead_48 : dec m_Mod_lead 48 = .ok (.iload_n 3, 1) := by decide +kernel
theorem d_Mod_lead_49 : dec m_Mod_lead 49 = .ok (.iload_n 2, 1) := by decide +kernel
theorem d_Mod_lead_50 : dec m_Mod_lead 50 = .ok (.invokevirtual 242, 3) := by decide +kernel
theorem d_Mod_lead_53 : dec m_Mod_lead 53 = .ok (.ireturn, 1) := by decide +kernel
theorem d_Mod_ofTerm_0 : dec m_Mod_ofTerm 0 = .ok (.iload_n 2, 1) := by decide +kernel
theorem d_Mod_ofTerm_1 : dec m_Mod_ofTerm 1 = .ok (.ifCond .ne 12, 3) := by decide +kernel
theorem d_Mod_ofTerm_4 : dec m_Mod_ofTerm 4 = .ok (.aload_n 0, 1) := by decide +kernel
theorem d_Mod_ofTerm_5 : dec m_Mod_ofTerm 5 = .ok (.getfield 18, 3) := by decide +kernel
theorem d_Mod_ofTerm_8 : dec m_Mod_ofTerm 8 = .ok (.iload_n 1, 1) := by decide +kernel
theorem d_Mod_ofTerm_9 : dec m_Mod_ofTerm 9 = .ok (.iaload, 1) := by decide +kernel
theorem d_Mod_ofTerm_10 : dec m_Mod_ofTerm 10 = .ok (.goto 36, 3) := by decide +kernel
theorem d_Mod_ofTerm_13 : dec m_Mod_ofTerm 13 = .ok (.iload_n 2, 1) := by decide +kernel
theorem d_Mod_ofTerm_14 : dec m_Mod_ofTerm 14 = .ok (.iconst 1, 1) := by decide +kernel
theorem d_Mod_ofTerm_15 : dec m_Mod_ofTerm 15 = .ok (.if_icmp .ne 12, 3) := by decide +kernel
theorem d_Mod_ofTerm_18 : dec m_Mod_ofTerm 18 = .ok (.aload_n 0, 1) := by decide +kernel
theorem d_Mod_ofTerm_19 : dec m_Mod_ofTerm 19 = .ok (.getfield 22, 3) := by decide +kernel
theorem d_Mod_ofTerm_22 : dec m_Mod_ofTerm 22 = .ok (.iload_n 1, 1) := by decide +kernel
theorem d_Mod_ofTerm_23 : dec m_Mod_ofTerm 23 = .ok (.iaload, 1) := by decide +kernel
theorem d_Mod_ofTerm_24 : dec m_Mod_ofTerm 24 = .ok (.goto 22, 3) := by decide +kernel
theorem d_Mod_ofTerm_27 : dec m_Mod_ofTerm 27 = .ok (.iload_n 2, 1) := by decide +kernel
theorem d_Mod_ofTerm_28 : dec m_Mod_ofTerm 28 = .ok (.iconst 2, 1) := by decide +kernel
theorem d_Mod_ofTerm_29 : dec m_Mod_ofTerm 29 = .ok (.if_icmp .ne 12, 3) := by decide +kernel
theorem d_Mod_ofTerm_32 : dec m_Mod_ofTerm 32 = .ok (.aload_n 0, 1) := by decide +kernel
theorem d_Mod_ofTerm_33 : dec m_Mod_ofTerm 33 = .ok (.getfield 25, 3) := by decide +kernel
theorem d_Mod_ofTerm_36 : dec m_Mod_ofTerm 36 = .ok (.iload_n 1, 1) := by decide +kernel
theorem d_Mod_ofTerm_37 : dec m_Mod_ofTerm 37 = .ok (.iaload, 1) := by decide +kernel
theorem d_Mod_ofTerm_38 : dec m_Mod_ofTerm 38 = .ok (.goto 8, 3) := by decide +kernel
theorem d_Mod_ofTerm_41 : dec m_Mod_ofTerm 41 = .ok (.aload_n 0, 1) := by decide +kernel
theorem d_Mod_ofTerm_42 : dec m_Mod_ofTerm 42 = .ok (.iload_n 1, 1) := by decide +kernel
theorem d_Mod_ofTerm_43 : dec m_Mod_ofTerm 43 = .ok (.invokevirtual 147, 3) := by decide +kernel
theorem d_Mod_ofTerm_46 : dec m_Mod_ofTerm 46 = .ok (.ireturn, 1) := by decide +kernel
theorem d_Mod_norm_0 : dec m_Mod_norm 0 = .ok (.iload_n 1, 1) := by decide +kernel
theorem d_Mod_norm_1 : dec m_Mod_norm 1 = .ok (.invokestatic 182, 3) := by decide +kernel
theorem d_Mod_norm_4 : dec m_Mod_norm 4 = .ok (.ifCond .eq 11, 3) := by decide +kernel
theorem d_Mod_norm_7 : dec m_Mod_norm 7 = .ok (.aload_n 0, 1) := by decide +kernel
theorem d_Mod_norm_8 : dec m_Mod_norm 8 = .ok (.iload_n 1, 1) := by decide +kernel
theorem d_Mod_norm_9 : dec m_Mod_norm 9 = .ok (.invokevirtual 194, 3) := by decide +kernel
