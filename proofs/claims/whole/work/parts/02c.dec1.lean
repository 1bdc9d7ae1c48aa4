theorem d_Gen_init_0 : dec m_Gen_init 0 = .ok (.aload_n 0, 1) := by decide +kernel
theorem d_Gen_init_1 : dec m_Gen_init 1 = .ok (.invokespecial 3, 3) := by decide +kernel
theorem d_Gen_init_4 : dec m_Gen_init 4 = .ok (.aload_n 0, 1) := by decide +kernel
theorem d_Gen_init_5 : dec m_Gen_init 5 = .ok (.iconst 0, 1) := by decide +kernel
theorem d_Gen_init_6 : dec m_Gen_init 6 = .ok (.putfield 9, 3) := by decide +kernel
theorem d_Gen_init_9 : dec m_Gen_init 9 = .ok (.aload_n 0, 1) := by decide +kernel
theorem d_Gen_init_10 : dec m_Gen_init 10 = .ok (.bipush 7, 2) := by decide +kernel
theorem d_Gen_init_12 : dec m_Gen_init 12 = .ok (.anewarray 15, 3) := by decide +kernel
theorem d_Gen_init_15 : dec m_Gen_init 15 = .ok (.putfield 17, 3) := by decide +kernel
theorem d_Gen_init_18 : dec m_Gen_init 18 = .ok (.aload_n 0, 1) := by decide +kernel
theorem d_Gen_init_19 : dec m_Gen_init 19 = .ok (.bipush 7, 2) := by decide +kernel
theorem d_Gen_init_21 : dec m_Gen_init 21 = .ok (.newarray .int, 2) := by decide +kernel
theorem d_Gen_init_23 : dec m_Gen_init 23 = .ok (.putfield 21, 3) := by decide +kernel
theorem d_Gen_init_26 : dec m_Gen_init 26 = .ok (.aload_n 0, 1) := by decide +kernel
theorem d_Gen_init_27 : dec m_Gen_init 27 = .ok (.bipush 7, 2) := by decide +kernel
theorem d_Gen_init_29 : dec m_Gen_init 29 = .ok (.newarray .long, 2) := by decide +kernel
theorem d_Gen_init_31 : dec m_Gen_init 31 = .ok (.putfield 25, 3) := by decide +kernel
theorem d_Gen_init_34 : dec m_Gen_init 34 = .ok (.aload_n 0, 1) := by decide +kernel
theorem d_Gen_init_35 : dec m_Gen_init 35 = .ok (.bipush 7, 2) := by decide +kernel
theorem d_Gen_init_37 : dec m_Gen_init 37 = .ok (.newarray .int, 2) := by decide +kernel
theorem d_Gen_init_39 : dec m_Gen_init 39 = .ok (.putfield 29, 3) := by decide +kernel
theorem d_Gen_init_42 : dec m_Gen_init 42 = .ok (.aload_n 0, 1) := by decide +kernel
theorem d_Gen_init_43 : dec m_Gen_init 43 = .ok (.bipush 7, 2) := by decide +kernel
theorem d_Gen_init_45 : dec m_Gen_init 45 = .ok (.newarray .int, 2) := by decide +kernel
theorem d_Gen_init_47 : dec m_Gen_init 47 = .ok (.putfield 32, 3) := by decide +kernel
theorem d_Gen_init_50 : dec m_Gen_init 50 = .ok (.aload_n 0, 1) := by decide +kernel
theorem d_Gen_init_51 : dec m_Gen_init 51 = .ok (.sipush 602, 3) := by decide +kernel
theorem d_Gen_init_54 : dec m_Gen_init 54 = .ok (.newarray .long, 2) := by decide +kernel
theorem d_Gen_init_56 : dec m_Gen_init 56 = .ok (.putfield 35, 3) := by decide +kernel
theorem d_Gen_init_59 : dec m_Gen_init 59 = .ok (.aload_n 0, 1) := by decide +kernel
theorem d_Gen_init_60 : dec m_Gen_init 60 = .ok (.sipush 602, 3) := by decide +kernel
theorem d_Gen_init_63 : dec m_Gen_init 63 = .ok (.newarray .int, 2) := by decide +kernel
theorem d_Gen_init_65 : dec m_Gen_init 65 = .ok (.putfield 38, 3) := by decide +kernel
theorem d_Gen_init_68 : dec m_Gen_init 68 = .ok (.aload_n 0, 1) := by decide +kernel
theorem d_Gen_init_69 : dec m_Gen_init 69 = .ok (.bipush 7, 2) := by decide +kernel
theorem d_Gen_init_71 : dec m_Gen_init 71 = .ok (.newarray .long, 2) := by decide +kernel
theorem d_Gen_init_73 : dec m_Gen_init 73 = .ok (.putfield 41, 3) := by decide +kernel
theorem d_Gen_init_76 : dec m_Gen_init 76 = .ok (.iconst 0, 1) := by decide +kernel
theorem d_Gen_init_77 : dec m_Gen_init 77 = .ok (.istore_n 1, 1) := by decide +kernel
theorem d_Gen_init_78 : dec m_Gen_init 78 = .ok (.iload_n 1, 1) := by decide +kernel
theorem d_Gen_init_79 : dec m_Gen_init 79 = .ok (.bipush 7, 2) := by decide +kernel
theorem d_Gen_init_81 : dec m_Gen_init 81 = .ok (.if_icmp .ge 22, 3) := by decide +kernel
theorem d_Gen_init_84 : dec m_Gen_init 84 = .ok (.aload_n 0, 1) := by decide +kernel
theorem d_Gen_init_85 : dec m_Gen_init 85 = .ok (.getfield 17, 3) := by decide +kernel
theorem d_Gen_init_88 : dec m_Gen_init 88 = .ok (.iload_n 1, 1) := by decide +kernel
theorem d_Gen_init_89 : dec m_Gen_init 89 = .ok (.new 15, 3) := by decide +kernel
theorem d_Gen_init_92 : dec m_Gen_init 92 = .ok (.dup, 1) := by decide +kernel
theorem d_Gen_init_93 : dec m_Gen_init 93 = .ok (.invokespecial 44, 3) := by decide +kernel
theorem d_Gen_init_96 : dec m_Gen_init 96 = .ok (.aastore, 1) := by decide +kernel
theorem d_Gen_init_97 : dec m_Gen_init 97 = .ok (.iinc 1 1, 3) := by decide +kernel
theorem d_Gen_init_100 : dec m_Gen_init 100 = .ok (.goto (-22), 3) := by decide +kernel
theorem d_Gen_init_103 : dec m_Gen_init 103 = .ok (.return_, 1) := by decide +kernel
theorem d_Gen_unit_0 : dec m_Gen_unit 0 = .ok (.iconst 1, 1) := by decide +kernel
theorem d_Gen_unit_1 : dec m_Gen_unit 1 = .ok (.iconst 3, 1) := by decide +kernel
theorem d_Gen_unit_2 : dec m_Gen_unit 2 = .ok (.bipush 6, 2) := by decide +kernel
theorem d_Gen_unit_4 : dec m_Gen_unit 4 = .ok (.iload_n 0, 1) := by decide +kernel
theorem d_Gen_unit_5 : dec m_Gen_unit 5 = .ok (.isub, 1) := by decide +kernel
theorem d_Gen_unit_6 : dec m_Gen_unit 6 = .ok (.imul, 1) := by decide +kernel
theorem d_Gen_unit_7 : dec m_Gen_unit 7 = .ok (.ishl, 1) := by decide +kernel
theorem d_Gen_unit_8 : dec m_Gen_unit 8 = .ok (.ireturn, 1) := by decide +kernel
theorem d_Gen_power_0 : dec m_Gen_power 0 = .ok (.iload_n 0, 1) := by decide +kernel
theorem d_Gen_power_1 : dec m_Gen_power 1 = .ok (.iconst 3, 1) := by decide +kernel
theorem d_Gen_power_2 : dec m_Gen_power 2 = .ok (.bipush 6, 2) := by decide +kernel
theorem d_Gen_power_4 : dec m_Gen_power 4 = .ok (.iload_n 1, 1) := by decide +kernel
theorem d_Gen_power_5 : dec m_Gen_power 5 = .ok (.isub, 1) := by decide +kernel
theorem d_Gen_power_6 : dec m_Gen_power 6 = .ok (.imul, 1) := by decide +kernel
theorem d_Gen_power_7 : dec m_Gen_power 7 = .ok (.ishr, 1) := by decide +kernel
theorem d_Gen_power_8 : dec m_Gen_power 8 = .ok (.bipush 7, 2) := by decide +kernel
theorem d_Gen_power_10 : dec m_Gen_power 10 = .ok (.iand, 1) := by decide +kernel
theorem d_Gen_power_11 : dec m_Gen_power 11 = .ok (.ireturn, 1) := by decide +kernel
theorem d_Gen_support_0 : dec m_Gen_support 0 = .ok (.iconst 0, 1) := by decide +kernel
theorem d_Gen_support_1 : dec m_Gen_support 1 = .ok (.istore_n 1, 1) := by decide +kernel
theorem d_Gen_support_2 : dec m_Gen_support 2 = .ok (.iconst 0, 1) := by decide +kernel
theorem d_Gen_support_3 : dec m_Gen_support 3 = .ok (.istore_n 2, 1) := by decide +kernel
theorem d_Gen_support_4 : dec m_Gen_support 4 = .ok (.iload_n 2, 1) := by decide +kernel
theorem d_Gen_support_5 : dec m_Gen_support 5 = .ok (.bipush 7, 2) := by decide +kernel
theorem d_Gen_support_7 : dec m_Gen_support 7 = .ok (.if_icmp .ge 23, 3) := by decide +kernel
theorem d_Gen_support_10 : dec m_Gen_support 10 = .ok (.iload_n 0, 1) := by decide +kernel
theorem d_Gen_support_11 : dec m_Gen_support 11 = .ok (.iload_n 2, 1) := by decide +kernel
theorem d_Gen_support_12 : dec m_Gen_support 12 = .ok (.invokestatic 45, 3) := by decide +kernel
theorem d_Gen_support_15 : dec m_Gen_support 15 = .ok (.ifCond .le 9, 3) := by decide +kernel
theorem d_Gen_support_18 : dec m_Gen_support 18 = .ok (.iload_n 1, 1) := by decide +kernel
theorem d_Gen_support_19 : dec m_Gen_support 19 = .ok (.iconst 1, 1) := by decide +kernel
theorem d_Gen_support_20 : dec m_Gen_support 20 = .ok (.iload_n 2, 1) := by decide +kernel
theorem d_Gen_support_21 : dec m_Gen_support 21 = .ok (.ishl, 1) := by decide +kernel
theorem d_Gen_support_22 : dec m_Gen_support 22 = .ok (.ior, 1) := by decide +kernel
theorem d_Gen_support_23 : dec m_Gen_support 23 = .ok (.istore_n 1, 1) := by decide +kernel
theorem d_Gen_support_24 : dec m_Gen_support 24 = .ok (.iinc 2 1, 3) := by decide +kernel
theorem d_Gen_support_27 : dec m_Gen_support 27 = .ok (.goto (-23), 3) := by decide +kernel
theorem d_Gen_support_30 : dec m_Gen_support 30 = .ok (.iload_n 1, 1) := by decide +kernel
theorem d_Gen_support_31 : dec m_Gen_support 31 = .ok (.ireturn, 1) := by decide +kernel
theorem d_Gen_partPlace_0 : dec m_Gen_partPlace 0 = .ok (.iload_n 0, 1) := by decide +kernel
theorem d_Gen_partPlace_1 : dec m_Gen_partPlace 1 = .ok (.bipush 86, 2) := by decide +kernel
theorem d_Gen_partPlace_3 : dec m_Gen_partPlace 3 = .ok (.imul, 1) := by decide +kernel
theorem d_Gen_partPlace_4 : dec m_Gen_partPlace 4 = .ok (.iload_n 1, 1) := by decide +kernel
theorem d_Gen_partPlace_5 : dec m_Gen_partPlace 5 = .ok (.iadd, 1) := by decide +kernel
theorem d_Gen_partPlace_6 : dec m_Gen_partPlace 6 = .ok (.ireturn, 1) := by decide +kernel
theorem d_Gen_becomeLike_0 : dec m_Gen_becomeLike 0 = .ok (.aload_n 0, 1) := by decide +kernel
theorem d_Gen_becomeLike_1 : dec m_Gen_becomeLike 1 = .ok (.aload_n 1, 1) := by decide +kernel
theorem d_Gen_becomeLike_2 : dec m_Gen_becomeLike 2 = .ok (.getfield 9, 3) := by decide +kernel
theorem d_Gen_becomeLike_5 : dec m_Gen_becomeLike 5 = .ok (.putfield 9, 3) := by decide +kernel
theorem d_Gen_becomeLike_8 : dec m_Gen_becomeLike 8 = .ok (.iconst 0, 1) := by decide +kernel
theorem d_Gen_becomeLike_9 : dec m_Gen_becomeLike 9 = .ok (.istore_n 2, 1) := by decide +kernel
theorem d_Gen_becomeLike_10 : dec m_Gen_becomeLike 10 = .ok (.iload_n 2, 1) := by decide +kernel
theorem d_Gen_becomeLike_11 : dec m_Gen_becomeLike 11 = .ok (.aload_n 0, 1) := by decide +kernel
theorem d_Gen_becomeLike_12 : dec m_Gen_becomeLike 12 = .ok (.getfield 9, 3) := by decide +kernel
theorem d_Gen_becomeLike_15 : dec m_Gen_becomeLike 15 = .ok (.if_icmp .ge 126, 3) := by decide +kernel
theorem d_Gen_becomeLike_18 : dec m_Gen_becomeLike 18 = .ok (.aload_n 0, 1) := by decide +kernel
theorem d_Gen_becomeLike_19 : dec m_Gen_becomeLike 19 = .ok (.getfield 17, 3) := by decide +kernel
theorem d_Gen_becomeLike_22 : dec m_Gen_becomeLike 22 = .ok (.iload_n 2, 1) := by decide +kernel
theorem d_Gen_becomeLike_23 : dec m_Gen_becomeLike 23 = .ok (.aaload, 1) := by decide +kernel
theorem d_Gen_becomeLike_24 : dec m_Gen_becomeLike 24 = .ok (.aload_n 1, 1) := by decide +kernel
theorem d_Gen_becomeLike_25 : dec m_Gen_becomeLike 25 = .ok (.getfield 17, 3) := by decide +kernel
theorem d_Gen_becomeLike_28 : dec m_Gen_becomeLike 28 = .ok (.iload_n 2, 1) := by decide +kernel
theorem d_Gen_becomeLike_29 : dec m_Gen_becomeLike 29 = .ok (.aaload, 1) := by decide +kernel
theorem d_Gen_becomeLike_30 : dec m_Gen_becomeLike 30 = .ok (.invokevirtual 49, 3) := by decide +kernel
theorem d_Gen_becomeLike_33 : dec m_Gen_becomeLike 33 = .ok (.aload_n 0, 1) := by decide +kernel
theorem d_Gen_becomeLike_34 : dec m_Gen_becomeLike 34 = .ok (.getfield 21, 3) := by decide +kernel
theorem d_Gen_becomeLike_37 : dec m_Gen_becomeLike 37 = .ok (.iload_n 2, 1) := by decide +kernel
theorem d_Gen_becomeLike_38 : dec m_Gen_becomeLike 38 = .ok (.aload_n 1, 1) := by decide +kernel
theorem d_Gen_becomeLike_39 : dec m_Gen_becomeLike 39 = .ok (.getfield 21, 3) := by decide +kernel
theorem d_Gen_becomeLike_42 : dec m_Gen_becomeLike 42 = .ok (.iload_n 2, 1) := by decide +kernel
theorem d_Gen_becomeLike_43 : dec m_Gen_becomeLike 43 = .ok (.iaload, 1) := by decide +kernel
theorem d_Gen_becomeLike_44 : dec m_Gen_becomeLike 44 = .ok (.iastore, 1) := by decide +kernel
theorem d_Gen_becomeLike_45 : dec m_Gen_becomeLike 45 = .ok (.aload_n 0, 1) := by decide +kernel
theorem d_Gen_becomeLike_46 : dec m_Gen_becomeLike 46 = .ok (.getfield 25, 3) := by decide +kernel
theorem d_Gen_becomeLike_49 : dec m_Gen_becomeLike 49 = .ok (.iload_n 2, 1) := by decide +kernel
theorem d_Gen_becomeLike_50 : dec m_Gen_becomeLike 50 = .ok (.aload_n 1, 1) := by decide +kernel
theorem d_Gen_becomeLike_51 : dec m_Gen_becomeLike 51 = .ok (.getfield 25, 3) := by decide +kernel
theorem d_Gen_becomeLike_54 : dec m_Gen_becomeLike 54 = .ok (.iload_n 2, 1) := by decide +kernel
theorem d_Gen_becomeLike_55 : dec m_Gen_becomeLike 55 = .ok (.laload, 1) := by decide +kernel
theorem d_Gen_becomeLike_56 : dec m_Gen_becomeLike 56 = .ok (.lastore, 1) := by decide +kernel
theorem d_Gen_becomeLike_57 : dec m_Gen_becomeLike 57 = .ok (.aload_n 0, 1) := by decide +kernel
theorem d_Gen_becomeLike_58 : dec m_Gen_becomeLike 58 = .ok (.getfield 29, 3) := by decide +kernel
theorem d_Gen_becomeLike_61 : dec m_Gen_becomeLike 61 = .ok (.iload_n 2, 1) := by decide +kernel
theorem d_Gen_becomeLike_62 : dec m_Gen_becomeLike 62 = .ok (.aload_n 1, 1) := by decide +kernel
theorem d_Gen_becomeLike_63 : dec m_Gen_becomeLike 63 = .ok (.getfield 29, 3) := by decide +kernel
theorem d_Gen_becomeLike_66 : dec m_Gen_becomeLike 66 = .ok (.iload_n 2, 1) := by decide +kernel
theorem d_Gen_becomeLike_67 : dec m_Gen_becomeLike 67 = .ok (.iaload, 1) := by decide +kernel
theorem d_Gen_becomeLike_68 : dec m_Gen_becomeLike 68 = .ok (.iastore, 1) := by decide +kernel
theorem d_Gen_becomeLike_69 : dec m_Gen_becomeLike 69 = .ok (.aload_n 0, 1) := by decide +kernel
theorem d_Gen_becomeLike_70 : dec m_Gen_becomeLike 70 = .ok (.getfield 32, 3) := by decide +kernel
theorem d_Gen_becomeLike_73 : dec m_Gen_becomeLike 73 = .ok (.iload_n 2, 1) := by decide +kernel
theorem d_Gen_becomeLike_74 : dec m_Gen_becomeLike 74 = .ok (.aload_n 1, 1) := by decide +kernel
theorem d_Gen_becomeLike_75 : dec m_Gen_becomeLike 75 = .ok (.getfield 32, 3) := by decide +kernel
theorem d_Gen_becomeLike_78 : dec m_Gen_becomeLike 78 = .ok (.iload_n 2, 1) := by decide +kernel
theorem d_Gen_becomeLike_79 : dec m_Gen_becomeLike 79 = .ok (.iaload, 1) := by decide +kernel
theorem d_Gen_becomeLike_80 : dec m_Gen_becomeLike 80 = .ok (.iastore, 1) := by decide +kernel
theorem d_Gen_becomeLike_81 : dec m_Gen_becomeLike 81 = .ok (.aload_n 1, 1) := by decide +kernel
theorem d_Gen_becomeLike_82 : dec m_Gen_becomeLike 82 = .ok (.getfield 35, 3) := by decide +kernel
theorem d_Gen_becomeLike_85 : dec m_Gen_becomeLike 85 = .ok (.iload_n 2, 1) := by decide +kernel
theorem d_Gen_becomeLike_86 : dec m_Gen_becomeLike 86 = .ok (.iconst 0, 1) := by decide +kernel
theorem d_Gen_becomeLike_87 : dec m_Gen_becomeLike 87 = .ok (.invokestatic 53, 3) := by decide +kernel
theorem d_Gen_becomeLike_90 : dec m_Gen_becomeLike 90 = .ok (.aload_n 0, 1) := by decide +kernel
theorem d_Gen_becomeLike_91 : dec m_Gen_becomeLike 91 = .ok (.getfield 35, 3) := by decide +kernel
theorem d_Gen_becomeLike_94 : dec m_Gen_becomeLike 94 = .ok (.iload_n 2, 1) := by decide +kernel
theorem d_Gen_becomeLike_95 : dec m_Gen_becomeLike 95 = .ok (.iconst 0, 1) := by decide +kernel
theorem d_Gen_becomeLike_96 : dec m_Gen_becomeLike 96 = .ok (.invokestatic 53, 3) := by decide +kernel
theorem d_Gen_becomeLike_99 : dec m_Gen_becomeLike 99 = .ok (.aload_n 0, 1) := by decide +kernel
theorem d_Gen_becomeLike_100 : dec m_Gen_becomeLike 100 = .ok (.getfield 32, 3) := by decide +kernel
theorem d_Gen_becomeLike_103 : dec m_Gen_becomeLike 103 = .ok (.iload_n 2, 1) := by decide +kernel
theorem d_Gen_becomeLike_104 : dec m_Gen_becomeLike 104 = .ok (.iaload, 1) := by decide +kernel
theorem d_Gen_becomeLike_105 : dec m_Gen_becomeLike 105 = .ok (.invokestatic 56, 3) := by decide +kernel
theorem d_Gen_becomeLike_108 : dec m_Gen_becomeLike 108 = .ok (.aload_n 1, 1) := by decide +kernel
theorem d_Gen_becomeLike_109 : dec m_Gen_becomeLike 109 = .ok (.getfield 38, 3) := by decide +kernel
theorem d_Gen_becomeLike_112 : dec m_Gen_becomeLike 112 = .ok (.iload_n 2, 1) := by decide +kernel
theorem d_Gen_becomeLike_113 : dec m_Gen_becomeLike 113 = .ok (.iconst 0, 1) := by decide +kernel
theorem d_Gen_becomeLike_114 : dec m_Gen_becomeLike 114 = .ok (.invokestatic 53, 3) := by decide +kernel
theorem d_Gen_becomeLike_117 : dec m_Gen_becomeLike 117 = .ok (.aload_n 0, 1) := by decide +kernel
theorem d_Gen_becomeLike_118 : dec m_Gen_becomeLike 118 = .ok (.getfield 38, 3) := by decide +kernel
theorem d_Gen_becomeLike_121 : dec m_Gen_becomeLike 121 = .ok (.iload_n 2, 1) := by decide +kernel
theorem d_Gen_becomeLike_122 : dec m_Gen_becomeLike 122 = .ok (.iconst 0, 1) := by decide +kernel
theorem d_Gen_becomeLike_123 : dec m_Gen_becomeLike 123 = .ok (.invokestatic 53, 3) := by decide +kernel
theorem d_Gen_becomeLike_126 : dec m_Gen_becomeLike 126 = .ok (.aload_n 0, 1) := by decide +kernel
theorem d_Gen_becomeLike_127 : dec m_Gen_becomeLike 127 = .ok (.getfield 32, 3) := by decide +kernel
theorem d_Gen_becomeLike_130 : dec m_Gen_becomeLike 130 = .ok (.iload_n 2, 1) := by decide +kernel
theorem d_Gen_becomeLike_131 : dec m_Gen_becomeLike 131 = .ok (.iaload, 1) := by decide +kernel
theorem d_Gen_becomeLike_132 : dec m_Gen_becomeLike 132 = .ok (.invokestatic 56, 3) := by decide +kernel
theorem d_Gen_becomeLike_135 : dec m_Gen_becomeLike 135 = .ok (.iinc 2 1, 3) := by decide +kernel
theorem d_Gen_becomeLike_138 : dec m_Gen_becomeLike 138 = .ok (.goto (-128), 3) := by decide +kernel
theorem d_Gen_becomeLike_141 : dec m_Gen_becomeLike 141 = .ok (.return_, 1) := by decide +kernel
theorem d_Gen_append_0 : dec m_Gen_append 0 = .ok (.aload_n 0, 1) := by decide +kernel
theorem d_Gen_append_1 : dec m_Gen_append 1 = .ok (.getfield 17, 3) := by decide +kernel
theorem d_Gen_append_4 : dec m_Gen_append 4 = .ok (.aload_n 0, 1) := by decide +kernel
theorem d_Gen_append_5 : dec m_Gen_append 5 = .ok (.getfield 9, 3) := by decide +kernel
theorem d_Gen_append_8 : dec m_Gen_append 8 = .ok (.aaload, 1) := by decide +kernel
theorem d_Gen_append_9 : dec m_Gen_append 9 = .ok (.aload_n 1, 1) := by decide +kernel
theorem d_Gen_append_10 : dec m_Gen_append 10 = .ok (.invokevirtual 49, 3) := by decide +kernel
theorem d_Gen_append_13 : dec m_Gen_append 13 = .ok (.aload_n 0, 1) := by decide +kernel
theorem d_Gen_append_14 : dec m_Gen_append 14 = .ok (.getfield 21, 3) := by decide +kernel
theorem d_Gen_append_17 : dec m_Gen_append 17 = .ok (.aload_n 0, 1) := by decide +kernel
theorem d_Gen_append_18 : dec m_Gen_append 18 = .ok (.getfield 9, 3) := by decide +kernel
theorem d_Gen_append_21 : dec m_Gen_append 21 = .ok (.iload_n 2, 1) := by decide +kernel
theorem d_Gen_append_22 : dec m_Gen_append 22 = .ok (.iastore, 1) := by decide +kernel
theorem d_Gen_append_23 : dec m_Gen_append 23 = .ok (.aload_n 0, 1) := by decide +kernel
theorem d_Gen_append_24 : dec m_Gen_append 24 = .ok (.getfield 25, 3) := by decide +kernel
theorem d_Gen_append_27 : dec m_Gen_append 27 = .ok (.aload_n 0, 1) := by decide +kernel
theorem d_Gen_append_28 : dec m_Gen_append 28 = .ok (.getfield 9, 3) := by decide +kernel
theorem d_Gen_append_31 : dec m_Gen_append 31 = .ok (.aload_n 1, 1) := by decide +kernel
theorem d_Gen_append_32 : dec m_Gen_append 32 = .ok (.invokevirtual 62, 3) := by decide +kernel
theorem d_Gen_append_35 : dec m_Gen_append 35 = .ok (.lastore, 1) := by decide +kernel
theorem d_Gen_append_36 : dec m_Gen_append 36 = .ok (.aload_n 0, 1) := by decide +kernel
theorem d_Gen_append_37 : dec m_Gen_append 37 = .ok (.getfield 29, 3) := by decide +kernel
theorem d_Gen_append_40 : dec m_Gen_append 40 = .ok (.aload_n 0, 1) := by decide +kernel
theorem d_Gen_append_41 : dec m_Gen_append 41 = .ok (.getfield 9, 3) := by decide +kernel
theorem d_Gen_append_44 : dec m_Gen_append 44 = .ok (.iconst 0, 1) := by decide +kernel
theorem d_Gen_append_45 : dec m_Gen_append 45 = .ok (.iastore, 1) := by decide +kernel
theorem d_Gen_append_46 : dec m_Gen_append 46 = .ok (.aload_n 0, 1) := by decide +kernel
theorem d_Gen_append_47 : dec m_Gen_append 47 = .ok (.getfield 32, 3) := by decide +kernel
theorem d_Gen_append_50 : dec m_Gen_append 50 = .ok (.aload_n 0, 1) := by decide +kernel
theorem d_Gen_append_51 : dec m_Gen_append 51 = .ok (.getfield 9, 3) := by decide +kernel
theorem d_Gen_append_54 : dec m_Gen_append 54 = .ok (.iconst 0, 1) := by decide +kernel
theorem d_Gen_append_55 : dec m_Gen_append 55 = .ok (.iastore, 1) := by decide +kernel
theorem d_Gen_append_56 : dec m_Gen_append 56 = .ok (.aload_n 0, 1) := by decide +kernel
theorem d_Gen_append_57 : dec m_Gen_append 57 = .ok (.dup, 1) := by decide +kernel
theorem d_Gen_append_58 : dec m_Gen_append 58 = .ok (.getfield 9, 3) := by decide +kernel
theorem d_Gen_append_61 : dec m_Gen_append 61 = .ok (.iconst 1, 1) := by decide +kernel
theorem d_Gen_append_62 : dec m_Gen_append 62 = .ok (.iadd, 1) := by decide +kernel
theorem d_Gen_append_63 : dec m_Gen_append 63 = .ok (.putfield 9, 3) := by decide +kernel
theorem d_Gen_append_66 : dec m_Gen_append 66 = .ok (.return_, 1) := by decide +kernel
theorem d_Gen_expressLast_0 : dec m_Gen_expressLast 0 = .ok (.aload_n 0, 1) := by decide +kernel
theorem d_Gen_expressLast_1 : dec m_Gen_expressLast 1 = .ok (.getfield 9, 3) := by decide +kernel
theorem d_Gen_expressLast_4 : dec m_Gen_expressLast 4 = .ok (.iconst 1, 1) := by decide +kernel
theorem d_Gen_expressLast_5 : dec m_Gen_expressLast 5 = .ok (.isub, 1) := by decide +kernel
theorem d_Gen_expressLast_6 : dec m_Gen_expressLast 6 = .ok (.istore 6, 2) := by decide +kernel
theorem d_Gen_expressLast_8 : dec m_Gen_expressLast 8 = .ok (.aload_n 0, 1) := by decide +kernel
theorem d_Gen_expressLast_9 : dec m_Gen_expressLast 9 = .ok (.iload 6, 2) := by decide +kernel
theorem d_Gen_expressLast_11 : dec m_Gen_expressLast 11 = .ok (.lload_n 1, 1) := by decide +kernel
theorem d_Gen_expressLast_12 : dec m_Gen_expressLast 12 = .ok (.iload_n 3, 1) := by decide +kernel
theorem d_Gen_expressLast_13 : dec m_Gen_expressLast 13 = .ok (.invokevirtual 66, 3) := by decide +kernel
theorem d_Gen_expressLast_16 : dec m_Gen_expressLast 16 = .ok (.aload_n 0, 1) := by decide +kernel
theorem d_Gen_expressLast_17 : dec m_Gen_expressLast 17 = .ok (.iload 6, 2) := by decide +kernel
theorem d_Gen_expressLast_19 : dec m_Gen_expressLast 19 = .ok (.lload_n 1, 1) := by decide +kernel
theorem d_Gen_expressLast_20 : dec m_Gen_expressLast 20 = .ok (.lneg, 1) := by decide +kernel
theorem d_Gen_expressLast_21 : dec m_Gen_expressLast 21 = .ok (.iload 4, 2) := by decide +kernel
theorem d_Gen_expressLast_23 : dec m_Gen_expressLast 23 = .ok (.invokevirtual 66, 3) := by decide +kernel
theorem d_Gen_expressLast_26 : dec m_Gen_expressLast 26 = .ok (.iconst 0, 1) := by decide +kernel
theorem d_Gen_expressLast_27 : dec m_Gen_expressLast 27 = .ok (.istore 7, 2) := by decide +kernel
theorem d_Gen_expressLast_29 : dec m_Gen_expressLast 29 = .ok (.iload 7, 2) := by decide +kernel
theorem d_Gen_expressLast_31 : dec m_Gen_expressLast 31 = .ok (.aload 5, 2) := by decide +kernel
theorem d_Gen_expressLast_33 : dec m_Gen_expressLast 33 = .ok (.getfield 70, 3) := by decide +kernel
theorem d_Gen_expressLast_36 : dec m_Gen_expressLast 36 = .ok (.if_icmp .ge 34, 3) := by decide +kernel
theorem d_Gen_expressLast_39 : dec m_Gen_expressLast 39 = .ok (.aload_n 0, 1) := by decide +kernel
theorem d_Gen_expressLast_40 : dec m_Gen_expressLast 40 = .ok (.iload 6, 2) := by decide +kernel
theorem d_Gen_expressLast_42 : dec m_Gen_expressLast 42 = .ok (.lload_n 1, 1) := by decide +kernel
theorem d_Gen_expressLast_43 : dec m_Gen_expressLast 43 = .ok (.lneg, 1) := by decide +kernel
theorem d_Gen_expressLast_44 : dec m_Gen_expressLast 44 = .ok (.aload 5, 2) := by decide +kernel
theorem d_Gen_expressLast_46 : dec m_Gen_expressLast 46 = .ok (.getfield 73, 3) := by decide +kernel
theorem d_Gen_expressLast_49 : dec m_Gen_expressLast 49 = .ok (.iload 7, 2) := by decide +kernel
theorem d_Gen_expressLast_51 : dec m_Gen_expressLast 51 = .ok (.laload, 1) := by decide +kernel
theorem d_Gen_expressLast_52 : dec m_Gen_expressLast 52 = .ok (.lmul, 1) := by decide +kernel
theorem d_Gen_expressLast_53 : dec m_Gen_expressLast 53 = .ok (.aload 5, 2) := by decide +kernel
theorem d_Gen_expressLast_55 : dec m_Gen_expressLast 55 = .ok (.getfield 76, 3) := by decide +kernel
theorem d_Gen_expressLast_58 : dec m_Gen_expressLast 58 = .ok (.iload 7, 2) := by decide +kernel
theorem d_Gen_expressLast_60 : dec m_Gen_expressLast 60 = .ok (.iaload, 1) := by decide +kernel
theorem d_Gen_expressLast_61 : dec m_Gen_expressLast 61 = .ok (.invokevirtual 66, 3) := by decide +kernel
theorem d_Gen_expressLast_64 : dec m_Gen_expressLast 64 = .ok (.iinc 7 1, 3) := by decide +kernel
theorem d_Gen_expressLast_67 : dec m_Gen_expressLast 67 = .ok (.goto (-38), 3) := by decide +kernel
theorem d_Gen_expressLast_70 : dec m_Gen_expressLast 70 = .ok (.return_, 1) := by decide +kernel
theorem d_Gen_appendPart_0 : dec m_Gen_appendPart 0 = .ok (.aload_n 0, 1) := by decide +kernel
theorem d_Gen_appendPart_1 : dec m_Gen_appendPart 1 = .ok (.getfield 32, 3) := by decide +kernel
theorem d_Gen_appendPart_4 : dec m_Gen_appendPart 4 = .ok (.iload_n 1, 1) := by decide +kernel
theorem d_Gen_appendPart_5 : dec m_Gen_appendPart 5 = .ok (.iaload, 1) := by decide +kernel
theorem d_Gen_appendPart_6 : dec m_Gen_appendPart 6 = .ok (.bipush 86, 2) := by decide +kernel
theorem d_Gen_appendPart_8 : dec m_Gen_appendPart 8 = .ok (.if_icmp .lt 4, 3) := by decide +kernel
theorem d_Gen_appendPart_11 : dec m_Gen_appendPart 11 = .ok (.return_, 1) := by decide +kernel
theorem d_Gen_appendPart_12 : dec m_Gen_appendPart 12 = .ok (.iload_n 1, 1) := by decide +kernel
theorem d_Gen_appendPart_13 : dec m_Gen_appendPart 13 = .ok (.aload_n 0, 1) := by decide +kernel
theorem d_Gen_appendPart_14 : dec m_Gen_appendPart 14 = .ok (.getfield 32, 3) := by decide +kernel
theorem d_Gen_appendPart_17 : dec m_Gen_appendPart 17 = .ok (.iload_n 1, 1) := by decide +kernel
theorem d_Gen_appendPart_18 : dec m_Gen_appendPart 18 = .ok (.iaload, 1) := by decide +kernel
theorem d_Gen_appendPart_19 : dec m_Gen_appendPart 19 = .ok (.invokestatic 53, 3) := by decide +kernel
theorem d_Gen_appendPart_22 : dec m_Gen_appendPart 22 = .ok (.istore 5, 2) := by decide +kernel
theorem d_Gen_appendPart_24 : dec m_Gen_appendPart 24 = .ok (.aload_n 0, 1) := by decide +kernel
theorem d_Gen_appendPart_25 : dec m_Gen_appendPart 25 = .ok (.getfield 35, 3) := by decide +kernel
theorem d_Gen_appendPart_28 : dec m_Gen_appendPart 28 = .ok (.iload 5, 2) := by decide +kernel
theorem d_Gen_appendPart_30 : dec m_Gen_appendPart 30 = .ok (.lload_n 2, 1) := by decide +kernel
theorem d_Gen_appendPart_31 : dec m_Gen_appendPart 31 = .ok (.lastore, 1) := by decide +kernel
theorem d_Gen_appendPart_32 : dec m_Gen_appendPart 32 = .ok (.aload_n 0, 1) := by decide +kernel
theorem d_Gen_appendPart_33 : dec m_Gen_appendPart 33 = .ok (.getfield 38, 3) := by decide +kernel
theorem d_Gen_appendPart_36 : dec m_Gen_appendPart 36 = .ok (.iload 5, 2) := by decide +kernel
theorem d_Gen_appendPart_38 : dec m_Gen_appendPart 38 = .ok (.iload 4, 2) := by decide +kernel
theorem d_Gen_appendPart_40 : dec m_Gen_appendPart 40 = .ok (.iastore, 1) := by decide +kernel
theorem d_Gen_appendPart_41 : dec m_Gen_appendPart 41 = .ok (.aload_n 0, 1) := by decide +kernel
theorem d_Gen_appendPart_42 : dec m_Gen_appendPart 42 = .ok (.getfield 32, 3) := by decide +kernel
theorem d_Gen_appendPart_45 : dec m_Gen_appendPart 45 = .ok (.iload_n 1, 1) := by decide +kernel
theorem d_Gen_appendPart_46 : dec m_Gen_appendPart 46 = .ok (.dup2, 1) := by decide +kernel
theorem d_Gen_appendPart_47 : dec m_Gen_appendPart 47 = .ok (.iaload, 1) := by decide +kernel
theorem d_Gen_appendPart_48 : dec m_Gen_appendPart 48 = .ok (.iconst 1, 1) := by decide +kernel
theorem d_Gen_appendPart_49 : dec m_Gen_appendPart 49 = .ok (.iadd, 1) := by decide +kernel
theorem d_Gen_appendPart_50 : dec m_Gen_appendPart 50 = .ok (.iastore, 1) := by decide +kernel
theorem d_Gen_appendPart_51 : dec m_Gen_appendPart 51 = .ok (.iconst 0, 1) := by decide +kernel
theorem d_Gen_appendPart_52 : dec m_Gen_appendPart 52 = .ok (.istore 6, 2) := by decide +kernel
theorem d_Gen_appendPart_54 : dec m_Gen_appendPart 54 = .ok (.iload 6, 2) := by decide +kernel
theorem d_Gen_appendPart_56 : dec m_Gen_appendPart 56 = .ok (.iload_n 1, 1) := by decide +kernel
theorem d_Gen_appendPart_57 : dec m_Gen_appendPart 57 = .ok (.if_icmp .ge 43, 3) := by decide +kernel
theorem d_Gen_appendPart_60 : dec m_Gen_appendPart 60 = .ok (.iload 4, 2) := by decide +kernel
theorem d_Gen_appendPart_62 : dec m_Gen_appendPart 62 = .ok (.iload 6, 2) := by decide +kernel
theorem d_Gen_appendPart_64 : dec m_Gen_appendPart 64 = .ok (.invokestatic 45, 3) := by decide +kernel
theorem d_Gen_appendPart_67 : dec m_Gen_appendPart 67 = .ok (.ifCond .le 27, 3) := by decide +kernel
theorem d_Gen_appendPart_70 : dec m_Gen_appendPart 70 = .ok (.aload_n 0, 1) := by decide +kernel
theorem d_Gen_appendPart_71 : dec m_Gen_appendPart 71 = .ok (.getfield 29, 3) := by decide +kernel
theorem d_Gen_appendPart_74 : dec m_Gen_appendPart 74 = .ok (.iload_n 1, 1) := by decide +kernel
theorem d_Gen_appendPart_75 : dec m_Gen_appendPart 75 = .ok (.aload_n 0, 1) := by decide +kernel
theorem d_Gen_appendPart_76 : dec m_Gen_appendPart 76 = .ok (.getfield 29, 3) := by decide +kernel
theorem d_Gen_appendPart_79 : dec m_Gen_appendPart 79 = .ok (.iload_n 1, 1) := by decide +kernel
theorem d_Gen_appendPart_80 : dec m_Gen_appendPart 80 = .ok (.iaload, 1) := by decide +kernel
theorem d_Gen_appendPart_81 : dec m_Gen_appendPart 81 = .ok (.aload_n 0, 1) := by decide +kernel
theorem d_Gen_appendPart_82 : dec m_Gen_appendPart 82 = .ok (.getfield 29, 3) := by decide +kernel
theorem d_Gen_appendPart_85 : dec m_Gen_appendPart 85 = .ok (.iload 6, 2) := by decide +kernel
theorem d_Gen_appendPart_87 : dec m_Gen_appendPart 87 = .ok (.iaload, 1) := by decide +kernel
theorem d_Gen_appendPart_88 : dec m_Gen_appendPart 88 = .ok (.iconst 1, 1) := by decide +kernel
theorem d_Gen_appendPart_89 : dec m_Gen_appendPart 89 = .ok (.iadd, 1) := by decide +kernel
theorem d_Gen_appendPart_90 : dec m_Gen_appendPart 90 = .ok (.invokestatic 79, 3) := by decide +kernel
theorem d_Gen_appendPart_93 : dec m_Gen_appendPart 93 = .ok (.iastore, 1) := by decide +kernel
theorem d_Gen_appendPart_94 : dec m_Gen_appendPart 94 = .ok (.iinc 6 1, 3) := by decide +kernel
theorem d_Gen_appendPart_97 : dec m_Gen_appendPart 97 = .ok (.goto (-43), 3) := by decide +kernel
theorem d_Gen_appendPart_100 : dec m_Gen_appendPart 100 = .ok (.return_, 1) := by decide +kernel
theorem d_Gen_isGrown_0 : dec m_Gen_isGrown 0 = .ok (.aload_n 0, 1) := by decide +kernel
theorem d_Gen_isGrown_1 : dec m_Gen_isGrown 1 = .ok (.getfield 32, 3) := by decide +kernel
theorem d_Gen_isGrown_4 : dec m_Gen_isGrown 4 = .ok (.iload_n 1, 1) := by decide +kernel
theorem d_Gen_isGrown_5 : dec m_Gen_isGrown 5 = .ok (.iaload, 1) := by decide +kernel
theorem d_Gen_isGrown_6 : dec m_Gen_isGrown 6 = .ok (.ifCond .le 7, 3) := by decide +kernel
theorem d_Gen_isGrown_9 : dec m_Gen_isGrown 9 = .ok (.iconst 1, 1) := by decide +kernel
theorem d_Gen_isGrown_10 : dec m_Gen_isGrown 10 = .ok (.goto 4, 3) := by decide +kernel
theorem d_Gen_isGrown_13 : dec m_Gen_isGrown 13 = .ok (.iconst 0, 1) := by decide +kernel
theorem d_Gen_isGrown_14 : dec m_Gen_isGrown 14 = .ok (.ireturn, 1) := by decide +kernel
theorem d_Gen_grownCount_0 : dec m_Gen_grownCount 0 = .ok (.iconst 0, 1) := by decide +kernel
theorem d_Gen_grownCount_1 : dec m_Gen_grownCount 1 = .ok (.istore_n 1, 1) := by decide +kernel
theorem d_Gen_grownCount_2 : dec m_Gen_grownCount 2 = .ok (.iconst 0, 1) := by decide +kernel
theorem d_Gen_grownCount_3 : dec m_Gen_grownCount 3 = .ok (.istore_n 2, 1) := by decide +kernel
theorem d_Gen_grownCount_4 : dec m_Gen_grownCount 4 = .ok (.iload_n 2, 1) := by decide +kernel
theorem d_Gen_grownCount_5 : dec m_Gen_grownCount 5 = .ok (.aload_n 0, 1) := by decide +kernel
theorem d_Gen_grownCount_6 : dec m_Gen_grownCount 6 = .ok (.getfield 9, 3) := by decide +kernel
theorem d_Gen_grownCount_9 : dec m_Gen_grownCount 9 = .ok (.if_icmp .ge 25, 3) := by decide +kernel
theorem d_Gen_grownCount_12 : dec m_Gen_grownCount 12 = .ok (.iload_n 1, 1) := by decide +kernel
theorem d_Gen_grownCount_13 : dec m_Gen_grownCount 13 = .ok (.aload_n 0, 1) := by decide +kernel
theorem d_Gen_grownCount_14 : dec m_Gen_grownCount 14 = .ok (.iload_n 2, 1) := by decide +kernel
theorem d_Gen_grownCount_15 : dec m_Gen_grownCount 15 = .ok (.invokevirtual 84, 3) := by decide +kernel
theorem d_Gen_grownCount_18 : dec m_Gen_grownCount 18 = .ok (.ifCond .eq 7, 3) := by decide +kernel
theorem d_Gen_grownCount_21 : dec m_Gen_grownCount 21 = .ok (.iconst 1, 1) := by decide +kernel
theorem d_Gen_grownCount_22 : dec m_Gen_grownCount 22 = .ok (.goto 4, 3) := by decide +kernel
theorem d_Gen_grownCount_25 : dec m_Gen_grownCount 25 = .ok (.iconst 0, 1) := by decide +kernel
theorem d_Gen_grownCount_26 : dec m_Gen_grownCount 26 = .ok (.iadd, 1) := by decide +kernel
theorem d_Gen_grownCount_27 : dec m_Gen_grownCount 27 = .ok (.istore_n 1, 1) := by decide +kernel
theorem d_Gen_grownCount_28 : dec m_Gen_grownCount 28 = .ok (.iinc 2 1, 3) := by decide +kernel
theorem d_Gen_grownCount_31 : dec m_Gen_grownCount 31 = .ok (.goto (-27), 3) := by decide +kernel
theorem d_Gen_grownCount_34 : dec m_Gen_grownCount 34 = .ok (.iload_n 1, 1) := by decide +kernel
theorem d_Gen_grownCount_35 : dec m_Gen_grownCount 35 = .ok (.ireturn, 1) := by decide +kernel
theorem d_Gen_hasLead_0 : dec m_Gen_hasLead 0 = .ok (.iconst 0, 1) := by decide +kernel
theorem d_Gen_hasLead_1 : dec m_Gen_hasLead 1 = .ok (.istore_n 2, 1) := by decide +kernel
theorem d_Gen_hasLead_2 : dec m_Gen_hasLead 2 = .ok (.iload_n 2, 1) := by decide +kernel
theorem d_Gen_hasLead_3 : dec m_Gen_hasLead 3 = .ok (.aload_n 0, 1) := by decide +kernel
theorem d_Gen_hasLead_4 : dec m_Gen_hasLead 4 = .ok (.getfield 9, 3) := by decide +kernel
theorem d_Gen_hasLead_7 : dec m_Gen_hasLead 7 = .ok (.if_icmp .ge 21, 3) := by decide +kernel
theorem d_Gen_hasLead_10 : dec m_Gen_hasLead 10 = .ok (.aload_n 0, 1) := by decide +kernel
theorem d_Gen_hasLead_11 : dec m_Gen_hasLead 11 = .ok (.getfield 21, 3) := by decide +kernel
theorem d_Gen_hasLead_14 : dec m_Gen_hasLead 14 = .ok (.iload_n 2, 1) := by decide +kernel
theorem d_Gen_hasLead_15 : dec m_Gen_hasLead 15 = .ok (.iaload, 1) := by decide +kernel
theorem d_Gen_hasLead_16 : dec m_Gen_hasLead 16 = .ok (.iload_n 1, 1) := by decide +kernel
theorem d_Gen_hasLead_17 : dec m_Gen_hasLead 17 = .ok (.if_icmp .ne 5, 3) := by decide +kernel
theorem d_Gen_hasLead_20 : dec m_Gen_hasLead 20 = .ok (.iconst 1, 1) := by decide +kernel
theorem d_Gen_hasLead_21 : dec m_Gen_hasLead 21 = .ok (.ireturn, 1) := by decide +kernel
theorem d_Gen_hasLead_22 : dec m_Gen_hasLead 22 = .ok (.iinc 2 1, 3) := by decide +kernel
theorem d_Gen_hasLead_25 : dec m_Gen_hasLead 25 = .ok (.goto (-23), 3) := by decide +kernel
theorem d_Gen_hasLead_28 : dec m_Gen_hasLead 28 = .ok (.iconst 0, 1) := by decide +kernel
theorem d_Gen_hasLead_29 : dec m_Gen_hasLead 29 = .ok (.ireturn, 1) := by decide +kernel
theorem d_Gen_has_0 : dec m_Gen_has 0 = .ok (.iconst 0, 1) := by decide +kernel
theorem d_Gen_has_1 : dec m_Gen_has 1 = .ok (.istore_n 2, 1) := by decide +kernel
theorem d_Gen_has_2 : dec m_Gen_has 2 = .ok (.iload_n 2, 1) := by decide +kernel
theorem d_Gen_has_3 : dec m_Gen_has 3 = .ok (.aload_n 0, 1) := by decide +kernel
theorem d_Gen_has_4 : dec m_Gen_has 4 = .ok (.getfield 9, 3) := by decide +kernel
theorem d_Gen_has_7 : dec m_Gen_has 7 = .ok (.if_icmp .ge 24, 3) := by decide +kernel
theorem d_Gen_has_10 : dec m_Gen_has 10 = .ok (.aload_n 0, 1) := by decide +kernel
theorem d_Gen_has_11 : dec m_Gen_has 11 = .ok (.getfield 17, 3) := by decide +kernel
theorem d_Gen_has_14 : dec m_Gen_has 14 = .ok (.iload_n 2, 1) := by decide +kernel
theorem d_Gen_has_15 : dec m_Gen_has 15 = .ok (.aaload, 1) := by decide +kernel
theorem d_Gen_has_16 : dec m_Gen_has 16 = .ok (.aload_n 1, 1) := by decide +kernel
theorem d_Gen_has_17 : dec m_Gen_has 17 = .ok (.invokevirtual 88, 3) := by decide +kernel
theorem d_Gen_has_20 : dec m_Gen_has 20 = .ok (.ifCond .eq 5, 3) := by decide +kernel
theorem d_Gen_has_23 : dec m_Gen_has 23 = .ok (.iconst 1, 1) := by decide +kernel
theorem d_Gen_has_24 : dec m_Gen_has 24 = .ok (.ireturn, 1) := by decide +kernel
theorem d_Gen_has_25 : dec m_Gen_has 25 = .ok (.iinc 2 1, 3) := by decide +kernel
theorem d_Gen_has_28 : dec m_Gen_has 28 = .ok (.goto (-26), 3) := by decide +kernel
theorem d_Gen_has_31 : dec m_Gen_has 31 = .ok (.iconst 0, 1) := by decide +kernel
theorem d_Gen_has_32 : dec m_Gen_has 32 = .ok (.ireturn, 1) := by decide +kernel
theorem d_Gen_worthOfParts_0 : dec m_Gen_worthOfParts 0 = .ok (.lconst 0, 1) := by decide +kernel
theorem d_Gen_worthOfParts_1 : dec m_Gen_worthOfParts 1 = .ok (.lstore_n 3, 1) := by decide +kernel
theorem d_Gen_worthOfParts_2 : dec m_Gen_worthOfParts 2 = .ok (.iconst 0, 1) := by decide +kernel
theorem d_Gen_worthOfParts_3 : dec m_Gen_worthOfParts 3 = .ok (.istore 5, 2) := by decide +kernel
theorem d_Gen_worthOfParts_5 : dec m_Gen_worthOfParts 5 = .ok (.iload 5, 2) := by decide +kernel
theorem d_Gen_worthOfParts_7 : dec m_Gen_worthOfParts 7 = .ok (.aload_n 0, 1) := by decide +kernel
theorem d_Gen_worthOfParts_8 : dec m_Gen_worthOfParts 8 = .ok (.getfield 32, 3) := by decide +kernel
theorem d_Gen_worthOfParts_11 : dec m_Gen_worthOfParts 11 = .ok (.iload_n 1, 1) := by decide +kernel
theorem d_Gen_worthOfParts_12 : dec m_Gen_worthOfParts 12 = .ok (.iaload, 1) := by decide +kernel
theorem d_Gen_worthOfParts_13 : dec m_Gen_worthOfParts 13 = .ok (.if_icmp .ge 81, 3) := by decide +kernel
theorem d_Gen_worthOfParts_16 : dec m_Gen_worthOfParts 16 = .ok (.iload_n 1, 1) := by decide +kernel
theorem d_Gen_worthOfParts_17 : dec m_Gen_worthOfParts 17 = .ok (.iload 5, 2) := by decide +kernel
theorem d_Gen_worthOfParts_19 : dec m_Gen_worthOfParts 19 = .ok (.invokestatic 53, 3) := by decide +kernel
theorem d_Gen_worthOfParts_22 : dec m_Gen_worthOfParts 22 = .ok (.istore 6, 2) := by decide +kernel
theorem d_Gen_worthOfParts_24 : dec m_Gen_worthOfParts 24 = .ok (.aload_n 0, 1) := by decide +kernel
theorem d_Gen_worthOfParts_25 : dec m_Gen_worthOfParts 25 = .ok (.getfield 35, 3) := by decide +kernel
theorem d_Gen_worthOfParts_28 : dec m_Gen_worthOfParts 28 = .ok (.iload 6, 2) := by decide +kernel
theorem d_Gen_worthOfParts_30 : dec m_Gen_worthOfParts 30 = .ok (.laload, 1) := by decide +kernel
theorem d_Gen_worthOfParts_31 : dec m_Gen_worthOfParts 31 = .ok (.iload_n 2, 1) := by decide +kernel
theorem d_Gen_worthOfParts_32 : dec m_Gen_worthOfParts 32 = .ok (.i2l, 1) := by decide +kernel
theorem d_Gen_worthOfParts_33 : dec m_Gen_worthOfParts 33 = .ok (.invokestatic 92, 3) := by decide +kernel
theorem d_Gen_worthOfParts_36 : dec m_Gen_worthOfParts 36 = .ok (.lstore 7, 2) := by decide +kernel
theorem d_Gen_worthOfParts_38 : dec m_Gen_worthOfParts 38 = .ok (.iconst 0, 1) := by decide +kernel
theorem d_Gen_worthOfParts_39 : dec m_Gen_worthOfParts 39 = .ok (.istore 9, 2) := by decide +kernel
theorem d_Gen_worthOfParts_41 : dec m_Gen_worthOfParts 41 = .ok (.iload 9, 2) := by decide +kernel
theorem d_Gen_worthOfParts_43 : dec m_Gen_worthOfParts 43 = .ok (.iload_n 1, 1) := by decide +kernel
theorem d_Gen_worthOfParts_44 : dec m_Gen_worthOfParts 44 = .ok (.if_icmp .ge 36, 3) := by decide +kernel
theorem d_Gen_worthOfParts_47 : dec m_Gen_worthOfParts 47 = .ok (.lload 7, 2) := by decide +kernel
theorem d_Gen_worthOfParts_49 : dec m_Gen_worthOfParts 49 = .ok (.aload_n 0, 1) := by decide +kernel
theorem d_Gen_worthOfParts_50 : dec m_Gen_worthOfParts 50 = .ok (.getfield 41, 3) := by decide +kernel
theorem d_Gen_worthOfParts_53 : dec m_Gen_worthOfParts 53 = .ok (.iload 9, 2) := by decide +kernel
theorem d_Gen_worthOfParts_55 : dec m_Gen_worthOfParts 55 = .ok (.laload, 1) := by decide +kernel
theorem d_Gen_worthOfParts_56 : dec m_Gen_worthOfParts 56 = .ok (.aload_n 0, 1) := by decide +kernel
theorem d_Gen_worthOfParts_57 : dec m_Gen_worthOfParts 57 = .ok (.getfield 38, 3) := by decide +kernel
theorem d_Gen_worthOfParts_60 : dec m_Gen_worthOfParts 60 = .ok (.iload 6, 2) := by decide +kernel
theorem d_Gen_worthOfParts_62 : dec m_Gen_worthOfParts 62 = .ok (.iaload, 1) := by decide +kernel
theorem d_Gen_worthOfParts_63 : dec m_Gen_worthOfParts 63 = .ok (.iload 9, 2) := by decide +kernel
theorem d_Gen_worthOfParts_65 : dec m_Gen_worthOfParts 65 = .ok (.invokestatic 45, 3) := by decide +kernel
theorem d_Gen_worthOfParts_68 : dec m_Gen_worthOfParts 68 = .ok (.iload_n 2, 1) := by decide +kernel
theorem d_Gen_worthOfParts_69 : dec m_Gen_worthOfParts 69 = .ok (.invokestatic 96, 3) := by decide +kernel
theorem d_Gen_worthOfParts_72 : dec m_Gen_worthOfParts 72 = .ok (.lstore 7, 2) := by decide +kernel
theorem d_Gen_worthOfParts_74 : dec m_Gen_worthOfParts 74 = .ok (.iinc 9 1, 3) := by decide +kernel
theorem d_Gen_worthOfParts_77 : dec m_Gen_worthOfParts 77 = .ok (.goto (-36), 3) := by decide +kernel
theorem d_Gen_worthOfParts_80 : dec m_Gen_worthOfParts 80 = .ok (.lload_n 3, 1) := by decide +kernel
theorem d_Gen_worthOfParts_81 : dec m_Gen_worthOfParts 81 = .ok (.lload 7, 2) := by decide +kernel
theorem d_Gen_worthOfParts_83 : dec m_Gen_worthOfParts 83 = .ok (.ladd, 1) := by decide +kernel
theorem d_Gen_worthOfParts_84 : dec m_Gen_worthOfParts 84 = .ok (.iload_n 2, 1) := by decide +kernel
theorem d_Gen_worthOfParts_85 : dec m_Gen_worthOfParts 85 = .ok (.i2l, 1) := by decide +kernel
theorem d_Gen_worthOfParts_86 : dec m_Gen_worthOfParts 86 = .ok (.lrem, 1) := by decide +kernel
theorem d_Gen_worthOfParts_87 : dec m_Gen_worthOfParts 87 = .ok (.lstore_n 3, 1) := by decide +kernel
theorem d_Gen_worthOfParts_88 : dec m_Gen_worthOfParts 88 = .ok (.iinc 5 1, 3) := by decide +kernel
theorem d_Gen_worthOfParts_91 : dec m_Gen_worthOfParts 91 = .ok (.goto (-86), 3) := by decide +kernel
theorem d_Gen_worthOfParts_94 : dec m_Gen_worthOfParts 94 = .ok (.lload_n 3, 1) := by decide +kernel
theorem d_Gen_worthOfParts_95 : dec m_Gen_worthOfParts 95 = .ok (.lreturn, 1) := by decide +kernel
theorem d_Gen_degreeOfRow_0 : dec m_Gen_degreeOfRow 0 = .ok (.iconst 0, 1) := by decide +kernel
theorem d_Gen_degreeOfRow_1 : dec m_Gen_degreeOfRow 1 = .ok (.istore_n 2, 1) := by decide +kernel
theorem d_Gen_degreeOfRow_2 : dec m_Gen_degreeOfRow 2 = .ok (.iconst 0, 1) := by decide +kernel
theorem d_Gen_degreeOfRow_3 : dec m_Gen_degreeOfRow 3 = .ok (.istore_n 3, 1) := by decide +kernel
theorem d_Gen_degreeOfRow_4 : dec m_Gen_degreeOfRow 4 = .ok (.iload_n 3, 1) := by decide +kernel
theorem d_Gen_degreeOfRow_5 : dec m_Gen_degreeOfRow 5 = .ok (.aload_n 0, 1) := by decide +kernel
theorem d_Gen_degreeOfRow_6 : dec m_Gen_degreeOfRow 6 = .ok (.getfield 9, 3) := by decide +kernel
theorem d_Gen_degreeOfRow_9 : dec m_Gen_degreeOfRow 9 = .ok (.if_icmp .ge 28, 3) := by decide +kernel
theorem d_Gen_degreeOfRow_12 : dec m_Gen_degreeOfRow 12 = .ok (.iload_n 2, 1) := by decide +kernel
theorem d_Gen_degreeOfRow_13 : dec m_Gen_degreeOfRow 13 = .ok (.iload_n 1, 1) := by decide +kernel
theorem d_Gen_degreeOfRow_14 : dec m_Gen_degreeOfRow 14 = .ok (.iload_n 3, 1) := by decide +kernel
theorem d_Gen_degreeOfRow_15 : dec m_Gen_degreeOfRow 15 = .ok (.invokestatic 45, 3) := by decide +kernel
theorem d_Gen_degreeOfRow_18 : dec m_Gen_degreeOfRow 18 = .ok (.getstatic 100, 3) := by decide +kernel
theorem d_Gen_degreeOfRow_21 : dec m_Gen_degreeOfRow 21 = .ok (.aload_n 0, 1) := by decide +kernel
theorem d_Gen_degreeOfRow_22 : dec m_Gen_degreeOfRow 22 = .ok (.getfield 21, 3) := by decide +kernel
theorem d_Gen_degreeOfRow_25 : dec m_Gen_degreeOfRow 25 = .ok (.iload_n 3, 1) := by decide +kernel
theorem d_Gen_degreeOfRow_26 : dec m_Gen_degreeOfRow 26 = .ok (.iaload, 1) := by decide +kernel
theorem d_Gen_degreeOfRow_27 : dec m_Gen_degreeOfRow 27 = .ok (.iaload, 1) := by decide +kernel
theorem d_Gen_degreeOfRow_28 : dec m_Gen_degreeOfRow 28 = .ok (.imul, 1) := by decide +kernel
theorem d_Gen_degreeOfRow_29 : dec m_Gen_degreeOfRow 29 = .ok (.iadd, 1) := by decide +kernel
theorem d_Gen_degreeOfRow_30 : dec m_Gen_degreeOfRow 30 = .ok (.istore_n 2, 1) := by decide +kernel
theorem d_Gen_degreeOfRow_31 : dec m_Gen_degreeOfRow 31 = .ok (.iinc 3 1, 3) := by decide +kernel
theorem d_Gen_degreeOfRow_34 : dec m_Gen_degreeOfRow 34 = .ok (.goto (-30), 3) := by decide +kernel
theorem d_Gen_degreeOfRow_37 : dec m_Gen_degreeOfRow 37 = .ok (.iload_n 2, 1) := by decide +kernel
theorem d_Gen_degreeOfRow_38 : dec m_Gen_degreeOfRow 38 = .ok (.ireturn, 1) := by decide +kernel
theorem d_Gen_costOf_0 : dec m_Gen_costOf 0 = .ok (.lconst 1, 1) := by decide +kernel
theorem d_Gen_costOf_1 : dec m_Gen_costOf 1 = .ok (.lstore_n 2, 1) := by decide +kernel
theorem d_Gen_costOf_2 : dec m_Gen_costOf 2 = .ok (.iconst 0, 1) := by decide +kernel
theorem d_Gen_costOf_3 : dec m_Gen_costOf 3 = .ok (.istore 4, 2) := by decide +kernel
theorem d_Gen_costOf_5 : dec m_Gen_costOf 5 = .ok (.iload 4, 2) := by decide +kernel
theorem d_Gen_costOf_7 : dec m_Gen_costOf 7 = .ok (.aload_n 0, 1) := by decide +kernel
theorem d_Gen_costOf_8 : dec m_Gen_costOf 8 = .ok (.getfield 9, 3) := by decide +kernel
theorem d_Gen_costOf_11 : dec m_Gen_costOf 11 = .ok (.if_icmp .ge 45, 3) := by decide +kernel
theorem d_Gen_costOf_14 : dec m_Gen_costOf 14 = .ok (.iload_n 1, 1) := by decide +kernel
theorem d_Gen_costOf_15 : dec m_Gen_costOf 15 = .ok (.iload 4, 2) := by decide +kernel
theorem d_Gen_costOf_17 : dec m_Gen_costOf 17 = .ok (.invokestatic 45, 3) := by decide +kernel
theorem d_Gen_costOf_20 : dec m_Gen_costOf 20 = .ok (.istore 5, 2) := by decide +kernel
theorem d_Gen_costOf_22 : dec m_Gen_costOf 22 = .ok (.iconst 0, 1) := by decide +kernel
theorem d_Gen_costOf_23 : dec m_Gen_costOf 23 = .ok (.istore 6, 2) := by decide +kernel
theorem d_Gen_costOf_25 : dec m_Gen_costOf 25 = .ok (.iload 6, 2) := by decide +kernel
theorem d_Gen_costOf_27 : dec m_Gen_costOf 27 = .ok (.iload 5, 2) := by decide +kernel
theorem d_Gen_costOf_29 : dec m_Gen_costOf 29 = .ok (.if_icmp .ge 21, 3) := by decide +kernel
theorem d_Gen_costOf_32 : dec m_Gen_costOf 32 = .ok (.lload_n 2, 1) := by decide +kernel
theorem d_Gen_costOf_33 : dec m_Gen_costOf 33 = .ok (.aload_n 0, 1) := by decide +kernel
theorem d_Gen_costOf_34 : dec m_Gen_costOf 34 = .ok (.getfield 25, 3) := by decide +kernel
theorem d_Gen_costOf_37 : dec m_Gen_costOf 37 = .ok (.iload 4, 2) := by decide +kernel
theorem d_Gen_costOf_39 : dec m_Gen_costOf 39 = .ok (.laload, 1) := by decide +kernel
theorem d_Gen_costOf_40 : dec m_Gen_costOf 40 = .ok (.invokestatic 103, 3) := by decide +kernel
theorem d_Gen_costOf_43 : dec m_Gen_costOf 43 = .ok (.lstore_n 2, 1) := by decide +kernel
theorem d_Gen_costOf_44 : dec m_Gen_costOf 44 = .ok (.iinc 6 1, 3) := by decide +kernel
theorem d_Gen_costOf_47 : dec m_Gen_costOf 47 = .ok (.goto (-22), 3) := by decide +kernel
theorem d_Gen_costOf_50 : dec m_Gen_costOf 50 = .ok (.iinc 4 1, 3) := by decide +kernel
theorem d_Gen_costOf_53 : dec m_Gen_costOf 53 = .ok (.goto (-48), 3) := by decide +kernel
theorem d_Gen_costOf_56 : dec m_Gen_costOf 56 = .ok (.lload_n 2, 1) := by decide +kernel
theorem d_Gen_costOf_57 : dec m_Gen_costOf 57 = .ok (.lreturn, 1) := by decide +kernel
theorem d_Gen_multiplyOut_0 : dec m_Gen_multiplyOut 0 = .ok (.aload_n 2, 1) := by decide +kernel
theorem d_Gen_multiplyOut_1 : dec m_Gen_multiplyOut 1 = .ok (.invokevirtual 108, 3) := by decide +kernel
theorem d_Gen_multiplyOut_4 : dec m_Gen_multiplyOut 4 = .ok (.aload_n 2, 1) := by decide +kernel
theorem d_Gen_multiplyOut_5 : dec m_Gen_multiplyOut 5 = .ok (.getfield 111, 3) := by decide +kernel
theorem d_Gen_multiplyOut_8 : dec m_Gen_multiplyOut 8 = .ok (.iconst 0, 1) := by decide +kernel
theorem d_Gen_multiplyOut_9 : dec m_Gen_multiplyOut 9 = .ok (.lconst 1, 1) := by decide +kernel
theorem d_Gen_multiplyOut_10 : dec m_Gen_multiplyOut 10 = .ok (.lastore, 1) := by decide +kernel
theorem d_Gen_multiplyOut_11 : dec m_Gen_multiplyOut 11 = .ok (.iconst 0, 1) := by decide +kernel
theorem d_Gen_multiplyOut_12 : dec m_Gen_multiplyOut 12 = .ok (.istore_n 3, 1) := by decide +kernel
theorem d_Gen_multiplyOut_13 : dec m_Gen_multiplyOut 13 = .ok (.iload_n 3, 1) := by decide +kernel
theorem d_Gen_multiplyOut_14 : dec m_Gen_multiplyOut 14 = .ok (.aload_n 0, 1) := by decide +kernel
theorem d_Gen_multiplyOut_15 : dec m_Gen_multiplyOut 15 = .ok (.getfield 9, 3) := by decide +kernel
theorem d_Gen_multiplyOut_18 : dec m_Gen_multiplyOut 18 = .ok (.if_icmp .ge 42, 3) := by decide +kernel
theorem d_Gen_multiplyOut_21 : dec m_Gen_multiplyOut 21 = .ok (.iload_n 1, 1) := by decide +kernel
theorem d_Gen_multiplyOut_22 : dec m_Gen_multiplyOut 22 = .ok (.iload_n 3, 1) := by decide +kernel
theorem d_Gen_multiplyOut_23 : dec m_Gen_multiplyOut 23 = .ok (.invokestatic 45, 3) := by decide +kernel
theorem d_Gen_multiplyOut_26 : dec m_Gen_multiplyOut 26 = .ok (.istore 4, 2) := by decide +kernel
theorem d_Gen_multiplyOut_28 : dec m_Gen_multiplyOut 28 = .ok (.iconst 0, 1) := by decide +kernel
theorem d_Gen_multiplyOut_29 : dec m_Gen_multiplyOut 29 = .ok (.istore 5, 2) := by decide +kernel
theorem d_Gen_multiplyOut_31 : dec m_Gen_multiplyOut 31 = .ok (.iload 5, 2) := by decide +kernel
theorem d_Gen_multiplyOut_33 : dec m_Gen_multiplyOut 33 = .ok (.iload 4, 2) := by decide +kernel
theorem d_Gen_multiplyOut_35 : dec m_Gen_multiplyOut 35 = .ok (.if_icmp .ge 19, 3) := by decide +kernel
theorem d_Gen_multiplyOut_38 : dec m_Gen_multiplyOut 38 = .ok (.aload_n 2, 1) := by decide +kernel
theorem d_Gen_multiplyOut_39 : dec m_Gen_multiplyOut 39 = .ok (.aload_n 0, 1) := by decide +kernel
theorem d_Gen_multiplyOut_40 : dec m_Gen_multiplyOut 40 = .ok (.getfield 17, 3) := by decide +kernel
theorem d_Gen_multiplyOut_43 : dec m_Gen_multiplyOut 43 = .ok (.iload_n 3, 1) := by decide +kernel
theorem d_Gen_multiplyOut_44 : dec m_Gen_multiplyOut 44 = .ok (.aaload, 1) := by decide +kernel
theorem d_Gen_multiplyOut_45 : dec m_Gen_multiplyOut 45 = .ok (.invokevirtual 114, 3) := by decide +kernel
theorem d_Gen_multiplyOut_48 : dec m_Gen_multiplyOut 48 = .ok (.iinc 5 1, 3) := by decide +kernel
theorem d_Gen_multiplyOut_51 : dec m_Gen_multiplyOut 51 = .ok (.goto (-20), 3) := by decide +kernel
theorem d_Gen_multiplyOut_54 : dec m_Gen_multiplyOut 54 = .ok (.iinc 3 1, 3) := by decide +kernel
theorem d_Gen_multiplyOut_57 : dec m_Gen_multiplyOut 57 = .ok (.goto (-44), 3) := by decide +kernel
theorem d_Gen_multiplyOut_60 : dec m_Gen_multiplyOut 60 = .ok (.return_, 1) := by decide +kernel
theorem d_Kept_init_0 : dec m_Kept_init 0 = .ok (.aload_n 0, 1) := by decide +kernel
theorem d_Kept_init_1 : dec m_Kept_init 1 = .ok (.invokespecial 3, 3) := by decide +kernel
theorem d_Kept_init_4 : dec m_Kept_init 4 = .ok (.aload_n 0, 1) := by decide +kernel
theorem d_Kept_init_5 : dec m_Kept_init 5 = .ok (.iconst 0, 1) := by decide +kernel
theorem d_Kept_init_6 : dec m_Kept_init 6 = .ok (.putfield 9, 3) := by decide +kernel
theorem d_Kept_init_9 : dec m_Kept_init 9 = .ok (.aload_n 0, 1) := by decide +kernel
theorem d_Kept_init_10 : dec m_Kept_init 10 = .ok (.bipush 6, 2) := by decide +kernel
theorem d_Kept_init_12 : dec m_Kept_init 12 = .ok (.anewarray 15, 3) := by decide +kernel
theorem d_Kept_init_15 : dec m_Kept_init 15 = .ok (.putfield 17, 3) := by decide +kernel
theorem d_Kept_init_18 : dec m_Kept_init 18 = .ok (.aload_n 0, 1) := by decide +kernel
theorem d_Kept_init_19 : dec m_Kept_init 19 = .ok (.new 21, 3) := by decide +kernel
theorem d_Kept_init_22 : dec m_Kept_init 22 = .ok (.dup, 1) := by decide +kernel
theorem d_Kept_init_23 : dec m_Kept_init 23 = .ok (.invokespecial 23, 3) := by decide +kernel
theorem d_Kept_init_26 : dec m_Kept_init 26 = .ok (.putfield 24, 3) := by decide +kernel
theorem d_Kept_init_29 : dec m_Kept_init 29 = .ok (.iconst 0, 1) := by decide +kernel
theorem d_Kept_init_30 : dec m_Kept_init 30 = .ok (.istore_n 1, 1) := by decide +kernel
theorem d_Kept_init_31 : dec m_Kept_init 31 = .ok (.iload_n 1, 1) := by decide +kernel
theorem d_Kept_init_32 : dec m_Kept_init 32 = .ok (.bipush 6, 2) := by decide +kernel
theorem d_Kept_init_34 : dec m_Kept_init 34 = .ok (.if_icmp .ge 22, 3) := by decide +kernel
theorem d_Kept_init_37 : dec m_Kept_init 37 = .ok (.aload_n 0, 1) := by decide +kernel
theorem d_Kept_init_38 : dec m_Kept_init 38 = .ok (.getfield 17, 3) := by decide +kernel
theorem d_Kept_init_41 : dec m_Kept_init 41 = .ok (.iload_n 1, 1) := by decide +kernel
theorem d_Kept_init_42 : dec m_Kept_init 42 = .ok (.new 15, 3) := by decide +kernel
theorem d_Kept_init_45 : dec m_Kept_init 45 = .ok (.dup, 1) := by decide +kernel
theorem d_Kept_init_46 : dec m_Kept_init 46 = .ok (.invokespecial 28, 3) := by decide +kernel
theorem d_Kept_init_49 : dec m_Kept_init 49 = .ok (.aastore, 1) := by decide +kernel
theorem d_Kept_init_50 : dec m_Kept_init 50 = .ok (.iinc 1 1, 3) := by decide +kernel
theorem d_Kept_init_53 : dec m_Kept_init 53 = .ok (.goto (-22), 3) := by decide +kernel
theorem d_Kept_init_56 : dec m_Kept_init 56 = .ok (.return_, 1) := by decide +kernel
theorem d_Lat_init_0 : dec m_Lat_init 0 = .ok (.aload_n 0, 1) := by decide +kernel
theorem d_Lat_init_1 : dec m_Lat_init 1 = .ok (.invokespecial 5, 3) := by decide +kernel
theorem d_Lat_init_4 : dec m_Lat_init 4 = .ok (.aload_n 0, 1) := by decide +kernel
theorem d_Lat_init_5 : dec m_Lat_init 5 = .ok (.bipush 10, 2) := by decide +kernel
theorem d_Lat_init_7 : dec m_Lat_init 7 = .ok (.bipush 10, 2) := by decide +kernel
theorem d_Lat_init_9 : dec m_Lat_init 9 = .ok (.multianewarray 11 2, 4) := by decide +kernel
theorem d_Lat_init_13 : dec m_Lat_init 13 = .ok (.putfield 13, 3) := by decide +kernel
theorem d_Lat_init_16 : dec m_Lat_init 16 = .ok (.aload_n 0, 1) := by decide +kernel
theorem d_Lat_init_17 : dec m_Lat_init 17 = .ok (.bipush 10, 2) := by decide +kernel
theorem d_Lat_init_19 : dec m_Lat_init 19 = .ok (.newarray .long, 2) := by decide +kernel
theorem d_Lat_init_21 : dec m_Lat_init 21 = .ok (.putfield 16, 3) := by decide +kernel
theorem d_Lat_init_24 : dec m_Lat_init 24 = .ok (.return_, 1) := by decide +kernel
theorem d_Lat_build_0 : dec m_Lat_build 0 = .ok (.iconst 0, 1) := by decide +kernel
theorem d_Lat_build_1 : dec m_Lat_build 1 = .ok (.istore_n 2, 1) := by decide +kernel
theorem d_Lat_build_2 : dec m_Lat_build 2 = .ok (.iload_n 2, 1) := by decide +kernel
theorem d_Lat_build_3 : dec m_Lat_build 3 = .ok (.bipush 10, 2) := by decide +kernel
theorem d_Lat_build_5 : dec m_Lat_build 5 = .ok (.if_icmp .ge 19, 3) := by decide +kernel
theorem d_Lat_build_8 : dec m_Lat_build 8 = .ok (.aload_n 0, 1) := by decide +kernel
theorem d_Lat_build_9 : dec m_Lat_build 9 = .ok (.getfield 13, 3) := by decide +kernel
theorem d_Lat_build_12 : dec m_Lat_build 12 = .ok (.iload_n 2, 1) := by decide +kernel
theorem d_Lat_build_13 : dec m_Lat_build 13 = .ok (.aaload, 1) := by decide +kernel
theorem d_Lat_build_14 : dec m_Lat_build 14 = .ok (.lconst 0, 1) := by decide +kernel
theorem d_Lat_build_15 : dec m_Lat_build 15 = .ok (.invokestatic 20, 3) := by decide +kernel
theorem d_Lat_build_18 : dec m_Lat_build 18 = .ok (.iinc 2 1, 3) := by decide +kernel
theorem d_Lat_build_21 : dec m_Lat_build 21 = .ok (.goto (-19), 3) := by decide +kernel
theorem d_Lat_build_24 : dec m_Lat_build 24 = .ok (.iconst 0, 1) := by decide +kernel
theorem d_Lat_build_25 : dec m_Lat_build 25 = .ok (.istore_n 2, 1) := by decide +kernel
theorem d_Lat_build_26 : dec m_Lat_build 26 = .ok (.iload_n 2, 1) := by decide +kernel
theorem d_Lat_build_27 : dec m_Lat_build 27 = .ok (.aload_n 1, 1) := by decide +kernel
theorem d_Lat_build_28 : dec m_Lat_build 28 = .ok (.getfield 26, 3) := by decide +kernel
theorem d_Lat_build_31 : dec m_Lat_build 31 = .ok (.if_icmp .ge 64, 3) := by decide +kernel
theorem d_Lat_build_34 : dec m_Lat_build 34 = .ok (.aload_n 0, 1) := by decide +kernel
theorem d_Lat_build_35 : dec m_Lat_build 35 = .ok (.getfield 16, 3) := by decide +kernel
theorem d_Lat_build_38 : dec m_Lat_build 38 = .ok (.lconst 0, 1) := by decide +kernel
theorem d_Lat_build_39 : dec m_Lat_build 39 = .ok (.invokestatic 20, 3) := by decide +kernel
theorem d_Lat_build_42 : dec m_Lat_build 42 = .ok (.iconst 0, 1) := by decide +kernel
theorem d_Lat_build_43 : dec m_Lat_build 43 = .ok (.istore_n 3, 1) := by decide +kernel
theorem d_Lat_build_44 : dec m_Lat_build 44 = .ok (.iload_n 3, 1) := by decide +kernel
theorem d_Lat_build_45 : dec m_Lat_build 45 = .ok (.iconst 3, 1) := by decide +kernel
theorem d_Lat_build_46 : dec m_Lat_build 46 = .ok (.if_icmp .ge 26, 3) := by decide +kernel
theorem d_Lat_build_49 : dec m_Lat_build 49 = .ok (.aload_n 0, 1) := by decide +kernel
theorem d_Lat_build_50 : dec m_Lat_build 50 = .ok (.getfield 16, 3) := by decide +kernel
theorem d_Lat_build_53 : dec m_Lat_build 53 = .ok (.iload_n 3, 1) := by decide +kernel
theorem d_Lat_build_54 : dec m_Lat_build 54 = .ok (.aload_n 1, 1) := by decide +kernel
theorem d_Lat_build_55 : dec m_Lat_build 55 = .ok (.getfield 30, 3) := by decide +kernel
theorem d_Lat_build_58 : dec m_Lat_build 58 = .ok (.iload_n 2, 1) := by decide +kernel
theorem d_Lat_build_59 : dec m_Lat_build 59 = .ok (.iaload, 1) := by decide +kernel
theorem d_Lat_build_60 : dec m_Lat_build 60 = .ok (.iload_n 3, 1) := by decide +kernel
theorem d_Lat_build_61 : dec m_Lat_build 61 = .ok (.invokestatic 34, 3) := by decide +kernel
theorem d_Lat_build_64 : dec m_Lat_build 64 = .ok (.i2l, 1) := by decide +kernel
theorem d_Lat_build_65 : dec m_Lat_build 65 = .ok (.lastore, 1) := by decide +kernel
theorem d_Lat_build_66 : dec m_Lat_build 66 = .ok (.iinc 3 1, 3) := by decide +kernel
theorem d_Lat_build_69 : dec m_Lat_build 69 = .ok (.goto (-25), 3) := by decide +kernel
theorem d_Lat_build_72 : dec m_Lat_build 72 = .ok (.aload_n 0, 1) := by decide +kernel
theorem d_Lat_build_73 : dec m_Lat_build 73 = .ok (.getfield 16, 3) := by decide +kernel
theorem d_Lat_build_76 : dec m_Lat_build 76 = .ok (.iconst 3, 1) := by decide +kernel
theorem d_Lat_build_77 : dec m_Lat_build 77 = .ok (.iload_n 2, 1) := by decide +kernel
theorem d_Lat_build_78 : dec m_Lat_build 78 = .ok (.iadd, 1) := by decide +kernel
theorem d_Lat_build_79 : dec m_Lat_build 79 = .ok (.lconst 1, 1) := by decide +kernel
theorem d_Lat_build_80 : dec m_Lat_build 80 = .ok (.lastore, 1) := by decide +kernel
theorem d_Lat_build_81 : dec m_Lat_build 81 = .ok (.aload_n 0, 1) := by decide +kernel
theorem d_Lat_build_82 : dec m_Lat_build 82 = .ok (.invokevirtual 40, 3) := by decide +kernel
theorem d_Lat_build_85 : dec m_Lat_build 85 = .ok (.aload_n 0, 1) := by decide +kernel
theorem d_Lat_build_86 : dec m_Lat_build 86 = .ok (.invokevirtual 43, 3) := by decide +kernel
theorem d_Lat_build_89 : dec m_Lat_build 89 = .ok (.iinc 2 1, 3) := by decide +kernel
theorem d_Lat_build_92 : dec m_Lat_build 92 = .ok (.goto (-66), 3) := by decide +kernel
theorem d_Lat_build_95 : dec m_Lat_build 95 = .ok (.return_, 1) := by decide +kernel
theorem d_Lat_insertNext_0 : dec m_Lat_insertNext 0 = .ok (.iconst 0, 1) := by decide +kernel
theorem d_Lat_insertNext_1 : dec m_Lat_insertNext 1 = .ok (.istore_n 1, 1) := by decide +kernel
theorem d_Lat_insertNext_2 : dec m_Lat_insertNext 2 = .ok (.iload_n 1, 1) := by decide +kernel
theorem d_Lat_insertNext_3 : dec m_Lat_insertNext 3 = .ok (.bipush 10, 2) := by decide +kernel
theorem d_Lat_insertNext_5 : dec m_Lat_insertNext 5 = .ok (.if_icmp .ge 95, 3) := by decide +kernel
theorem d_Lat_insertNext_8 : dec m_Lat_insertNext 8 = .ok (.iconst 0, 1) := by decide +kernel
theorem d_Lat_insertNext_9 : dec m_Lat_insertNext 9 = .ok (.istore_n 2, 1) := by decide +kernel
theorem d_Lat_insertNext_10 : dec m_Lat_insertNext 10 = .ok (.iload_n 2, 1) := by decide +kernel
theorem d_Lat_insertNext_11 : dec m_Lat_insertNext 11 = .ok (.sipush 200, 3) := by decide +kernel
theorem d_Lat_insertNext_14 : dec m_Lat_insertNext 14 = .ok (.if_icmp .ge 58, 3) := by decide +kernel
theorem d_Lat_insertNext_17 : dec m_Lat_insertNext 17 = .ok (.aload_n 0, 1) := by decide +kernel
theorem d_Lat_insertNext_18 : dec m_Lat_insertNext 18 = .ok (.getfield 16, 3) := by decide +kernel
theorem d_Lat_insertNext_21 : dec m_Lat_insertNext 21 = .ok (.iload_n 1, 1) := by decide +kernel
theorem d_Lat_insertNext_22 : dec m_Lat_insertNext 22 = .ok (.laload, 1) := by decide +kernel
theorem d_Lat_insertNext_23 : dec m_Lat_insertNext 23 = .ok (.lconst 0, 1) := by decide +kernel
theorem d_Lat_insertNext_24 : dec m_Lat_insertNext 24 = .ok (.lcmp, 1) := by decide +kernel
theorem d_Lat_insertNext_25 : dec m_Lat_insertNext 25 = .ok (.ifCond .eq 47, 3) := by decide +kernel
theorem d_Lat_insertNext_28 : dec m_Lat_insertNext 28 = .ok (.aload_n 0, 1) := by decide +kernel
theorem d_Lat_insertNext_29 : dec m_Lat_insertNext 29 = .ok (.getfield 13, 3) := by decide +kernel
theorem d_Lat_insertNext_32 : dec m_Lat_insertNext 32 = .ok (.iload_n 1, 1) := by decide +kernel
theorem d_Lat_insertNext_33 : dec m_Lat_insertNext 33 = .ok (.aaload, 1) := by decide +kernel
theorem d_Lat_insertNext_34 : dec m_Lat_insertNext 34 = .ok (.aload_n 0, 1) := by decide +kernel
theorem d_Lat_insertNext_35 : dec m_Lat_insertNext 35 = .ok (.getfield 16, 3) := by decide +kernel
theorem d_Lat_insertNext_38 : dec m_Lat_insertNext 38 = .ok (.aload_n 0, 1) := by decide +kernel
theorem d_Lat_insertNext_39 : dec m_Lat_insertNext 39 = .ok (.getfield 13, 3) := by decide +kernel
theorem d_Lat_insertNext_42 : dec m_Lat_insertNext 42 = .ok (.iload_n 1, 1) := by decide +kernel
theorem d_Lat_insertNext_43 : dec m_Lat_insertNext 43 = .ok (.aaload, 1) := by decide +kernel
theorem d_Lat_insertNext_44 : dec m_Lat_insertNext 44 = .ok (.iload_n 1, 1) := by decide +kernel
theorem d_Lat_insertNext_45 : dec m_Lat_insertNext 45 = .ok (.laload, 1) := by decide +kernel
theorem d_Lat_insertNext_46 : dec m_Lat_insertNext 46 = .ok (.aload_n 0, 1) := by decide +kernel
theorem d_Lat_insertNext_47 : dec m_Lat_insertNext 47 = .ok (.getfield 16, 3) := by decide +kernel
theorem d_Lat_insertNext_50 : dec m_Lat_insertNext 50 = .ok (.iload_n 1, 1) := by decide +kernel
theorem d_Lat_insertNext_51 : dec m_Lat_insertNext 51 = .ok (.laload, 1) := by decide +kernel
theorem d_Lat_insertNext_52 : dec m_Lat_insertNext 52 = .ok (.ldiv, 1) := by decide +kernel
theorem d_Lat_insertNext_53 : dec m_Lat_insertNext 53 = .ok (.invokestatic 46, 3) := by decide +kernel
theorem d_Lat_insertNext_56 : dec m_Lat_insertNext 56 = .ok (.aload_n 0, 1) := by decide +kernel
theorem d_Lat_insertNext_57 : dec m_Lat_insertNext 57 = .ok (.aload_n 0, 1) := by decide +kernel
theorem d_Lat_insertNext_58 : dec m_Lat_insertNext 58 = .ok (.getfield 13, 3) := by decide +kernel
theorem d_Lat_insertNext_61 : dec m_Lat_insertNext 61 = .ok (.iload_n 1, 1) := by decide +kernel
theorem d_Lat_insertNext_62 : dec m_Lat_insertNext 62 = .ok (.aaload, 1) := by decide +kernel
theorem d_Lat_insertNext_63 : dec m_Lat_insertNext 63 = .ok (.invokevirtual 50, 3) := by decide +kernel
theorem d_Lat_insertNext_66 : dec m_Lat_insertNext 66 = .ok (.iinc 2 1, 3) := by decide +kernel
theorem d_Lat_insertNext_69 : dec m_Lat_insertNext 69 = .ok (.goto (-59), 3) := by decide +kernel
theorem d_Lat_insertNext_72 : dec m_Lat_insertNext 72 = .ok (.aload_n 0, 1) := by decide +kernel
theorem d_Lat_insertNext_73 : dec m_Lat_insertNext 73 = .ok (.getfield 13, 3) := by decide +kernel
theorem d_Lat_insertNext_76 : dec m_Lat_insertNext 76 = .ok (.iload_n 1, 1) := by decide +kernel
theorem d_Lat_insertNext_77 : dec m_Lat_insertNext 77 = .ok (.aaload, 1) := by decide +kernel
theorem d_Lat_insertNext_78 : dec m_Lat_insertNext 78 = .ok (.iload_n 1, 1) := by decide +kernel
theorem d_Lat_insertNext_79 : dec m_Lat_insertNext 79 = .ok (.laload, 1) := by decide +kernel
theorem d_Lat_insertNext_80 : dec m_Lat_insertNext 80 = .ok (.lconst 0, 1) := by decide +kernel
theorem d_Lat_insertNext_81 : dec m_Lat_insertNext 81 = .ok (.lcmp, 1) := by decide +kernel
theorem d_Lat_insertNext_82 : dec m_Lat_insertNext 82 = .ok (.ifCond .ge 12, 3) := by decide +kernel
theorem d_Lat_insertNext_85 : dec m_Lat_insertNext 85 = .ok (.aload_n 0, 1) := by decide +kernel
theorem d_Lat_insertNext_86 : dec m_Lat_insertNext 86 = .ok (.getfield 13, 3) := by decide +kernel
theorem d_Lat_insertNext_89 : dec m_Lat_insertNext 89 = .ok (.iload_n 1, 1) := by decide +kernel
theorem d_Lat_insertNext_90 : dec m_Lat_insertNext 90 = .ok (.aaload, 1) := by decide +kernel
theorem d_Lat_insertNext_91 : dec m_Lat_insertNext 91 = .ok (.invokestatic 54, 3) := by decide +kernel
theorem d_Lat_insertNext_94 : dec m_Lat_insertNext 94 = .ok (.iinc 1 1, 3) := by decide +kernel
theorem d_Lat_insertNext_97 : dec m_Lat_insertNext 97 = .ok (.goto (-95), 3) := by decide +kernel
theorem d_Lat_insertNext_100 : dec m_Lat_insertNext 100 = .ok (.return_, 1) := by decide +kernel
theorem d_Lat_exchangeNext_0 : dec m_Lat_exchangeNext 0 = .ok (.iconst 0, 1) := by decide +kernel
theorem d_Lat_exchangeNext_1 : dec m_Lat_exchangeNext 1 = .ok (.istore_n 2, 1) := by decide +kernel
theorem d_Lat_exchangeNext_2 : dec m_Lat_exchangeNext 2 = .ok (.iload_n 2, 1) := by decide +kernel
theorem d_Lat_exchangeNext_3 : dec m_Lat_exchangeNext 3 = .ok (.bipush 10, 2) := by decide +kernel
theorem d_Lat_exchangeNext_5 : dec m_Lat_exchangeNext 5 = .ok (.if_icmp .ge 29, 3) := by decide +kernel
theorem d_Lat_exchangeNext_8 : dec m_Lat_exchangeNext 8 = .ok (.aload_n 1, 1) := by decide +kernel
theorem d_Lat_exchangeNext_9 : dec m_Lat_exchangeNext 9 = .ok (.iload_n 2, 1) := by decide +kernel
theorem d_Lat_exchangeNext_10 : dec m_Lat_exchangeNext 10 = .ok (.laload, 1) := by decide +kernel
theorem d_Lat_exchangeNext_11 : dec m_Lat_exchangeNext 11 = .ok (.lstore_n 3, 1) := by decide +kernel
theorem d_Lat_exchangeNext_12 : dec m_Lat_exchangeNext 12 = .ok (.aload_n 1, 1) := by decide +kernel
theorem d_Lat_exchangeNext_13 : dec m_Lat_exchangeNext 13 = .ok (.iload_n 2, 1) := by decide +kernel
theorem d_Lat_exchangeNext_14 : dec m_Lat_exchangeNext 14 = .ok (.aload_n 0, 1) := by decide +kernel
theorem d_Lat_exchangeNext_15 : dec m_Lat_exchangeNext 15 = .ok (.getfield 16, 3) := by decide +kernel
theorem d_Lat_exchangeNext_18 : dec m_Lat_exchangeNext 18 = .ok (.iload_n 2, 1) := by decide +kernel
theorem d_Lat_exchangeNext_19 : dec m_Lat_exchangeNext 19 = .ok (.laload, 1) := by decide +kernel
theorem d_Lat_exchangeNext_20 : dec m_Lat_exchangeNext 20 = .ok (.lastore, 1) := by decide +kernel
theorem d_Lat_exchangeNext_21 : dec m_Lat_exchangeNext 21 = .ok (.aload_n 0, 1) := by decide +kernel
theorem d_Lat_exchangeNext_22 : dec m_Lat_exchangeNext 22 = .ok (.getfield 16, 3) := by decide +kernel
theorem d_Lat_exchangeNext_25 : dec m_Lat_exchangeNext 25 = .ok (.iload_n 2, 1) := by decide +kernel
theorem d_Lat_exchangeNext_26 : dec m_Lat_exchangeNext 26 = .ok (.lload_n 3, 1) := by decide +kernel
theorem d_Lat_exchangeNext_27 : dec m_Lat_exchangeNext 27 = .ok (.lastore, 1) := by decide +kernel
theorem d_Lat_exchangeNext_28 : dec m_Lat_exchangeNext 28 = .ok (.iinc 2 1, 3) := by decide +kernel
theorem d_Lat_exchangeNext_31 : dec m_Lat_exchangeNext 31 = .ok (.goto (-29), 3) := by decide +kernel
theorem d_Lat_exchangeNext_34 : dec m_Lat_exchangeNext 34 = .ok (.return_, 1) := by decide +kernel
theorem d_Lat_negate_0 : dec m_Lat_negate 0 = .ok (.iconst 0, 1) := by decide +kernel
theorem d_Lat_negate_1 : dec m_Lat_negate 1 = .ok (.istore_n 1, 1) := by decide +kernel
theorem d_Lat_negate_2 : dec m_Lat_negate 2 = .ok (.iload_n 1, 1) := by decide +kernel
theorem d_Lat_negate_3 : dec m_Lat_negate 3 = .ok (.bipush 10, 2) := by decide +kernel
theorem d_Lat_negate_5 : dec m_Lat_negate 5 = .ok (.if_icmp .ge 16, 3) := by decide +kernel
theorem d_Lat_negate_8 : dec m_Lat_negate 8 = .ok (.aload_n 0, 1) := by decide +kernel
theorem d_Lat_negate_9 : dec m_Lat_negate 9 = .ok (.iload_n 1, 1) := by decide +kernel
theorem d_Lat_negate_10 : dec m_Lat_negate 10 = .ok (.aload_n 0, 1) := by decide +kernel
theorem d_Lat_negate_11 : dec m_Lat_negate 11 = .ok (.iload_n 1, 1) := by decide +kernel
theorem d_Lat_negate_12 : dec m_Lat_negate 12 = .ok (.laload, 1) := by decide +kernel
theorem d_Lat_negate_13 : dec m_Lat_negate 13 = .ok (.lneg, 1) := by decide +kernel
theorem d_Lat_negate_14 : dec m_Lat_negate 14 = .ok (.lastore, 1) := by decide +kernel
theorem d_Lat_negate_15 : dec m_Lat_negate 15 = .ok (.iinc 1 1, 3) := by decide +kernel
theorem d_Lat_negate_18 : dec m_Lat_negate 18 = .ok (.goto (-16), 3) := by decide +kernel
theorem d_Lat_negate_21 : dec m_Lat_negate 21 = .ok (.return_, 1) := by decide +kernel
theorem d_Lat_subtract_0 : dec m_Lat_subtract 0 = .ok (.iconst 0, 1) := by decide +kernel
theorem d_Lat_subtract_1 : dec m_Lat_subtract 1 = .ok (.istore 4, 2) := by decide +kernel
theorem d_Lat_subtract_3 : dec m_Lat_subtract 3 = .ok (.iload 4, 2) := by decide +kernel
theorem d_Lat_subtract_5 : dec m_Lat_subtract 5 = .ok (.bipush 10, 2) := by decide +kernel
theorem d_Lat_subtract_7 : dec m_Lat_subtract 7 = .ok (.if_icmp .ge 22, 3) := by decide +kernel
theorem d_Lat_subtract_10 : dec m_Lat_subtract 10 = .ok (.aload_n 0, 1) := by decide +kernel
theorem d_Lat_subtract_11 : dec m_Lat_subtract 11 = .ok (.iload 4, 2) := by decide +kernel
theorem d_Lat_subtract_13 : dec m_Lat_subtract 13 = .ok (.dup2, 1) := by decide +kernel
theorem d_Lat_subtract_14 : dec m_Lat_subtract 14 = .ok (.laload, 1) := by decide +kernel
theorem d_Lat_subtract_15 : dec m_Lat_subtract 15 = .ok (.lload_n 2, 1) := by decide +kernel
theorem d_Lat_subtract_16 : dec m_Lat_subtract 16 = .ok (.aload_n 1, 1) := by decide +kernel
theorem d_Lat_subtract_17 : dec m_Lat_subtract 17 = .ok (.iload 4, 2) := by decide +kernel
theorem d_Lat_subtract_19 : dec m_Lat_subtract 19 = .ok (.laload, 1) := by decide +kernel
theorem d_Lat_subtract_20 : dec m_Lat_subtract 20 = .ok (.lmul, 1) := by decide +kernel
theorem d_Lat_subtract_21 : dec m_Lat_subtract 21 = .ok (.lsub, 1) := by decide +kernel
theorem d_Lat_subtract_22 : dec m_Lat_subtract 22 = .ok (.lastore, 1) := by decide +kernel
theorem d_Lat_subtract_23 : dec m_Lat_subtract 23 = .ok (.iinc 4 1, 3) := by decide +kernel
theorem d_Lat_subtract_26 : dec m_Lat_subtract 26 = .ok (.goto (-23), 3) := by decide +kernel
theorem d_Lat_subtract_29 : dec m_Lat_subtract 29 = .ok (.return_, 1) := by decide +kernel
theorem d_Lat_reduceAll_0 : dec m_Lat_reduceAll 0 = .ok (.iconst 0, 1) := by decide +kernel
theorem d_Lat_reduceAll_1 : dec m_Lat_reduceAll 1 = .ok (.istore_n 1, 1) := by decide +kernel
theorem d_Lat_reduceAll_2 : dec m_Lat_reduceAll 2 = .ok (.iload_n 1, 1) := by decide +kernel
theorem d_Lat_reduceAll_3 : dec m_Lat_reduceAll 3 = .ok (.bipush 10, 2) := by decide +kernel
theorem d_Lat_reduceAll_5 : dec m_Lat_reduceAll 5 = .ok (.if_icmp .ge 72, 3) := by decide +kernel
theorem d_Lat_reduceAll_8 : dec m_Lat_reduceAll 8 = .ok (.iload_n 1, 1) := by decide +kernel
theorem d_Lat_reduceAll_9 : dec m_Lat_reduceAll 9 = .ok (.iconst 1, 1) := by decide +kernel
theorem d_Lat_reduceAll_10 : dec m_Lat_reduceAll 10 = .ok (.iadd, 1) := by decide +kernel
theorem d_Lat_reduceAll_11 : dec m_Lat_reduceAll 11 = .ok (.istore_n 2, 1) := by decide +kernel
theorem d_Lat_reduceAll_12 : dec m_Lat_reduceAll 12 = .ok (.iload_n 2, 1) := by decide +kernel
theorem d_Lat_reduceAll_13 : dec m_Lat_reduceAll 13 = .ok (.bipush 10, 2) := by decide +kernel
theorem d_Lat_reduceAll_15 : dec m_Lat_reduceAll 15 = .ok (.if_icmp .ge 56, 3) := by decide +kernel
theorem d_Lat_reduceAll_18 : dec m_Lat_reduceAll 18 = .ok (.aload_n 0, 1) := by decide +kernel
theorem d_Lat_reduceAll_19 : dec m_Lat_reduceAll 19 = .ok (.getfield 13, 3) := by decide +kernel
theorem d_Lat_reduceAll_22 : dec m_Lat_reduceAll 22 = .ok (.iload_n 2, 1) := by decide +kernel
theorem d_Lat_reduceAll_23 : dec m_Lat_reduceAll 23 = .ok (.aaload, 1) := by decide +kernel
theorem d_Lat_reduceAll_24 : dec m_Lat_reduceAll 24 = .ok (.iload_n 2, 1) := by decide +kernel
theorem d_Lat_reduceAll_25 : dec m_Lat_reduceAll 25 = .ok (.laload, 1) := by decide +kernel
theorem d_Lat_reduceAll_26 : dec m_Lat_reduceAll 26 = .ok (.lconst 0, 1) := by decide +kernel
theorem d_Lat_reduceAll_27 : dec m_Lat_reduceAll 27 = .ok (.lcmp, 1) := by decide +kernel
theorem d_Lat_reduceAll_28 : dec m_Lat_reduceAll 28 = .ok (.ifCond .le 37, 3) := by decide +kernel
theorem d_Lat_reduceAll_31 : dec m_Lat_reduceAll 31 = .ok (.aload_n 0, 1) := by decide +kernel
theorem d_Lat_reduceAll_32 : dec m_Lat_reduceAll 32 = .ok (.getfield 13, 3) := by decide +kernel
theorem d_Lat_reduceAll_35 : dec m_Lat_reduceAll 35 = .ok (.iload_n 1, 1) := by decide +kernel
theorem d_Lat_reduceAll_36 : dec m_Lat_reduceAll 36 = .ok (.aaload, 1) := by decide +kernel
theorem d_Lat_reduceAll_37 : dec m_Lat_reduceAll 37 = .ok (.aload_n 0, 1) := by decide +kernel
theorem d_Lat_reduceAll_38 : dec m_Lat_reduceAll 38 = .ok (.getfield 13, 3) := by decide +kernel
theorem d_Lat_reduceAll_41 : dec m_Lat_reduceAll 41 = .ok (.iload_n 2, 1) := by decide +kernel
theorem d_Lat_reduceAll_42 : dec m_Lat_reduceAll 42 = .ok (.aaload, 1) := by decide +kernel
theorem d_Lat_reduceAll_43 : dec m_Lat_reduceAll 43 = .ok (.aload_n 0, 1) := by decide +kernel
theorem d_Lat_reduceAll_44 : dec m_Lat_reduceAll 44 = .ok (.getfield 13, 3) := by decide +kernel
theorem d_Lat_reduceAll_47 : dec m_Lat_reduceAll 47 = .ok (.iload_n 1, 1) := by decide +kernel
theorem d_Lat_reduceAll_48 : dec m_Lat_reduceAll 48 = .ok (.aaload, 1) := by decide +kernel
theorem d_Lat_reduceAll_49 : dec m_Lat_reduceAll 49 = .ok (.iload_n 2, 1) := by decide +kernel
theorem d_Lat_reduceAll_50 : dec m_Lat_reduceAll 50 = .ok (.laload, 1) := by decide +kernel
theorem d_Lat_reduceAll_51 : dec m_Lat_reduceAll 51 = .ok (.aload_n 0, 1) := by decide +kernel
theorem d_Lat_reduceAll_52 : dec m_Lat_reduceAll 52 = .ok (.getfield 13, 3) := by decide +kernel
theorem d_Lat_reduceAll_55 : dec m_Lat_reduceAll 55 = .ok (.iload_n 2, 1) := by decide +kernel
theorem d_Lat_reduceAll_56 : dec m_Lat_reduceAll 56 = .ok (.aaload, 1) := by decide +kernel
theorem d_Lat_reduceAll_57 : dec m_Lat_reduceAll 57 = .ok (.iload_n 2, 1) := by decide +kernel
theorem d_Lat_reduceAll_58 : dec m_Lat_reduceAll 58 = .ok (.laload, 1) := by decide +kernel
theorem d_Lat_reduceAll_59 : dec m_Lat_reduceAll 59 = .ok (.invokestatic 57, 3) := by decide +kernel
theorem d_Lat_reduceAll_62 : dec m_Lat_reduceAll 62 = .ok (.invokestatic 46, 3) := by decide +kernel
theorem d_Lat_reduceAll_65 : dec m_Lat_reduceAll 65 = .ok (.iinc 2 1, 3) := by decide +kernel
theorem d_Lat_reduceAll_68 : dec m_Lat_reduceAll 68 = .ok (.goto (-56), 3) := by decide +kernel
theorem d_Lat_reduceAll_71 : dec m_Lat_reduceAll 71 = .ok (.iinc 1 1, 3) := by decide +kernel
theorem d_Lat_reduceAll_74 : dec m_Lat_reduceAll 74 = .ok (.goto (-72), 3) := by decide +kernel
theorem d_Lat_reduceAll_77 : dec m_Lat_reduceAll 77 = .ok (.return_, 1) := by decide +kernel
theorem d_Lat_pivotsIn_0 : dec m_Lat_pivotsIn 0 = .ok (.iconst 0, 1) := by decide +kernel
theorem d_Lat_pivotsIn_1 : dec m_Lat_pivotsIn 1 = .ok (.istore_n 3, 1) := by decide +kernel
theorem d_Lat_pivotsIn_2 : dec m_Lat_pivotsIn 2 = .ok (.iload_n 1, 1) := by decide +kernel
theorem d_Lat_pivotsIn_3 : dec m_Lat_pivotsIn 3 = .ok (.istore 4, 2) := by decide +kernel
theorem d_Lat_pivotsIn_5 : dec m_Lat_pivotsIn 5 = .ok (.iload 4, 2) := by decide +kernel
theorem d_Lat_pivotsIn_7 : dec m_Lat_pivotsIn 7 = .ok (.iload_n 2, 1) := by decide +kernel
theorem d_Lat_pivotsIn_8 : dec m_Lat_pivotsIn 8 = .ok (.if_icmp .ge 32, 3) := by decide +kernel
theorem d_Lat_pivotsIn_11 : dec m_Lat_pivotsIn 11 = .ok (.iload_n 3, 1) := by decide +kernel
theorem d_Lat_pivotsIn_12 : dec m_Lat_pivotsIn 12 = .ok (.aload_n 0, 1) := by decide +kernel
theorem d_Lat_pivotsIn_13 : dec m_Lat_pivotsIn 13 = .ok (.getfield 13, 3) := by decide +kernel
theorem d_Lat_pivotsIn_16 : dec m_Lat_pivotsIn 16 = .ok (.iload 4, 2) := by decide +kernel
theorem d_Lat_pivotsIn_18 : dec m_Lat_pivotsIn 18 = .ok (.aaload, 1) := by decide +kernel
theorem d_Lat_pivotsIn_19 : dec m_Lat_pivotsIn 19 = .ok (.iload 4, 2) := by decide +kernel
theorem d_Lat_pivotsIn_21 : dec m_Lat_pivotsIn 21 = .ok (.laload, 1) := by decide +kernel
theorem d_Lat_pivotsIn_22 : dec m_Lat_pivotsIn 22 = .ok (.lconst 0, 1) := by decide +kernel
theorem d_Lat_pivotsIn_23 : dec m_Lat_pivotsIn 23 = .ok (.lcmp, 1) := by decide +kernel
theorem d_Lat_pivotsIn_24 : dec m_Lat_pivotsIn 24 = .ok (.ifCond .le 7, 3) := by decide +kernel
theorem d_Lat_pivotsIn_27 : dec m_Lat_pivotsIn 27 = .ok (.iconst 1, 1) := by decide +kernel
theorem d_Lat_pivotsIn_28 : dec m_Lat_pivotsIn 28 = .ok (.goto 4, 3) := by decide +kernel
theorem d_Lat_pivotsIn_31 : dec m_Lat_pivotsIn 31 = .ok (.iconst 0, 1) := by decide +kernel
theorem d_Lat_pivotsIn_32 : dec m_Lat_pivotsIn 32 = .ok (.iadd, 1) := by decide +kernel
theorem d_Lat_pivotsIn_33 : dec m_Lat_pivotsIn 33 = .ok (.istore_n 3, 1) := by decide +kernel
theorem d_Lat_pivotsIn_34 : dec m_Lat_pivotsIn 34 = .ok (.iinc 4 1, 3) := by decide +kernel
theorem d_Lat_pivotsIn_37 : dec m_Lat_pivotsIn 37 = .ok (.goto (-32), 3) := by decide +kernel
theorem d_Lat_pivotsIn_40 : dec m_Lat_pivotsIn 40 = .ok (.iload_n 3, 1) := by decide +kernel
theorem d_Lat_pivotsIn_41 : dec m_Lat_pivotsIn 41 = .ok (.ireturn, 1) := by decide +kernel
theorem d_Lat_pivotColumn_0 : dec m_Lat_pivotColumn 0 = .ok (.iconst 0, 1) := by decide +kernel
theorem d_Lat_pivotColumn_1 : dec m_Lat_pivotColumn 1 = .ok (.istore_n 3, 1) := by decide +kernel
theorem d_Lat_pivotColumn_2 : dec m_Lat_pivotColumn 2 = .ok (.iload_n 1, 1) := by decide +kernel
theorem d_Lat_pivotColumn_3 : dec m_Lat_pivotColumn 3 = .ok (.istore 4, 2) := by decide +kernel
theorem d_Lat_pivotColumn_5 : dec m_Lat_pivotColumn 5 = .ok (.iload 4, 2) := by decide +kernel
theorem d_Lat_pivotColumn_7 : dec m_Lat_pivotColumn 7 = .ok (.bipush 10, 2) := by decide +kernel
theorem d_Lat_pivotColumn_9 : dec m_Lat_pivotColumn 9 = .ok (.if_icmp .ge 35, 3) := by decide +kernel
theorem d_Lat_pivotColumn_12 : dec m_Lat_pivotColumn 12 = .ok (.aload_n 0, 1) := by decide +kernel
theorem d_Lat_pivotColumn_13 : dec m_Lat_pivotColumn 13 = .ok (.getfield 13, 3) := by decide +kernel
theorem d_Lat_pivotColumn_16 : dec m_Lat_pivotColumn 16 = .ok (.iload 4, 2) := by decide +kernel
theorem d_Lat_pivotColumn_18 : dec m_Lat_pivotColumn 18 = .ok (.aaload, 1) := by decide +kernel
theorem d_Lat_pivotColumn_19 : dec m_Lat_pivotColumn 19 = .ok (.iload 4, 2) := by decide +kernel
theorem d_Lat_pivotColumn_21 : dec m_Lat_pivotColumn 21 = .ok (.laload, 1) := by decide +kernel
theorem d_Lat_pivotColumn_22 : dec m_Lat_pivotColumn 22 = .ok (.lconst 0, 1) := by decide +kernel
theorem d_Lat_pivotColumn_23 : dec m_Lat_pivotColumn 23 = .ok (.lcmp, 1) := by decide +kernel
theorem d_Lat_pivotColumn_24 : dec m_Lat_pivotColumn 24 = .ok (.ifCond .le 14, 3) := by decide +kernel
theorem d_Lat_pivotColumn_27 : dec m_Lat_pivotColumn 27 = .ok (.iload_n 3, 1) := by decide +kernel
theorem d_Lat_pivotColumn_28 : dec m_Lat_pivotColumn 28 = .ok (.iload_n 2, 1) := by decide +kernel
theorem d_Lat_pivotColumn_29 : dec m_Lat_pivotColumn 29 = .ok (.if_icmp .ne 6, 3) := by decide +kernel
theorem d_Lat_pivotColumn_32 : dec m_Lat_pivotColumn 32 = .ok (.iload 4, 2) := by decide +kernel
theorem d_Lat_pivotColumn_34 : dec m_Lat_pivotColumn 34 = .ok (.ireturn, 1) := by decide +kernel
theorem d_Lat_pivotColumn_35 : dec m_Lat_pivotColumn 35 = .ok (.iinc 3 1, 3) := by decide +kernel
theorem d_Lat_pivotColumn_38 : dec m_Lat_pivotColumn 38 = .ok (.iinc 4 1, 3) := by decide +kernel
theorem d_Lat_pivotColumn_41 : dec m_Lat_pivotColumn 41 = .ok (.goto (-36), 3) := by decide +kernel
theorem d_Lat_pivotColumn_44 : dec m_Lat_pivotColumn 44 = .ok (.iconst 0, 1) := by decide +kernel
theorem d_Lat_pivotColumn_45 : dec m_Lat_pivotColumn 45 = .ok (.ireturn, 1) := by decide +kernel
theorem d_Lat_spanRank_0 : dec m_Lat_spanRank 0 = .ok (.aload_n 0, 1) := by decide +kernel
theorem d_Lat_spanRank_1 : dec m_Lat_spanRank 1 = .ok (.iconst 0, 1) := by decide +kernel
theorem d_Lat_spanRank_2 : dec m_Lat_spanRank 2 = .ok (.iconst 3, 1) := by decide +kernel
theorem d_Lat_spanRank_3 : dec m_Lat_spanRank 3 = .ok (.invokevirtual 63, 3) := by decide +kernel
theorem d_Lat_spanRank_6 : dec m_Lat_spanRank 6 = .ok (.ireturn, 1) := by decide +kernel
theorem d_Lat_relationRank_0 : dec m_Lat_relationRank 0 = .ok (.aload_n 0, 1) := by decide +kernel
theorem d_Lat_relationRank_1 : dec m_Lat_relationRank 1 = .ok (.iconst 3, 1) := by decide +kernel
theorem d_Lat_relationRank_2 : dec m_Lat_relationRank 2 = .ok (.bipush 10, 2) := by decide +kernel
theorem d_Lat_relationRank_4 : dec m_Lat_relationRank 4 = .ok (.invokevirtual 63, 3) := by decide +kernel
theorem d_Lat_relationRank_7 : dec m_Lat_relationRank 7 = .ok (.ireturn, 1) := by decide +kernel
theorem d_Lat_spanNumber_0 : dec m_Lat_spanNumber 0 = .ok (.aload_n 0, 1) := by decide +kernel
theorem d_Lat_spanNumber_1 : dec m_Lat_spanNumber 1 = .ok (.getfield 13, 3) := by decide +kernel
theorem d_Lat_spanNumber_4 : dec m_Lat_spanNumber 4 = .ok (.aload_n 0, 1) := by decide +kernel
theorem d_Lat_spanNumber_5 : dec m_Lat_spanNumber 5 = .ok (.iconst 0, 1) := by decide +kernel
theorem d_Lat_spanNumber_6 : dec m_Lat_spanNumber 6 = .ok (.iload_n 1, 1) := by decide +kernel
theorem d_Lat_spanNumber_7 : dec m_Lat_spanNumber 7 = .ok (.invokevirtual 66, 3) := by decide +kernel
theorem d_Lat_spanNumber_10 : dec m_Lat_spanNumber 10 = .ok (.aaload, 1) := by decide +kernel
theorem d_Lat_spanNumber_11 : dec m_Lat_spanNumber 11 = .ok (.iload_n 2, 1) := by decide +kernel
theorem d_Lat_spanNumber_12 : dec m_Lat_spanNumber 12 = .ok (.laload, 1) := by decide +kernel
theorem d_Lat_spanNumber_13 : dec m_Lat_spanNumber 13 = .ok (.lreturn, 1) := by decide +kernel
theorem d_Lat_relationNumber_0 : dec m_Lat_relationNumber 0 = .ok (.aload_n 0, 1) := by decide +kernel
theorem d_Lat_relationNumber_1 : dec m_Lat_relationNumber 1 = .ok (.getfield 13, 3) := by decide +kernel
theorem d_Lat_relationNumber_4 : dec m_Lat_relationNumber 4 = .ok (.aload_n 0, 1) := by decide +kernel
theorem d_Lat_relationNumber_5 : dec m_Lat_relationNumber 5 = .ok (.iconst 3, 1) := by decide +kernel
theorem d_Lat_relationNumber_6 : dec m_Lat_relationNumber 6 = .ok (.iload_n 1, 1) := by decide +kernel
theorem d_Lat_relationNumber_7 : dec m_Lat_relationNumber 7 = .ok (.invokevirtual 66, 3) := by decide +kernel
theorem d_Lat_relationNumber_10 : dec m_Lat_relationNumber 10 = .ok (.aaload, 1) := by decide +kernel
theorem d_Lat_relationNumber_11 : dec m_Lat_relationNumber 11 = .ok (.iconst 3, 1) := by decide +kernel
theorem d_Lat_relationNumber_12 : dec m_Lat_relationNumber 12 = .ok (.iload_n 2, 1) := by decide +kernel
theorem d_Lat_relationNumber_13 : dec m_Lat_relationNumber 13 = .ok (.iadd, 1) := by decide +kernel
theorem d_Lat_relationNumber_14 : dec m_Lat_relationNumber 14 = .ok (.laload, 1) := by decide +kernel
theorem d_Lat_relationNumber_15 : dec m_Lat_relationNumber 15 = .ok (.lreturn, 1) := by decide +kernel
theorem d_Lat_pivotProduct_0 : dec m_Lat_pivotProduct 0 = .ok (.aload_n 0, 1) := by decide +kernel
theorem d_Lat_pivotProduct_1 : dec m_Lat_pivotProduct 1 = .ok (.getfield 13, 3) := by decide +kernel
theorem d_Lat_pivotProduct_4 : dec m_Lat_pivotProduct 4 = .ok (.iconst 0, 1) := by decide +kernel
theorem d_Lat_pivotProduct_5 : dec m_Lat_pivotProduct 5 = .ok (.aaload, 1) := by decide +kernel
theorem d_Lat_pivotProduct_6 : dec m_Lat_pivotProduct 6 = .ok (.iconst 0, 1) := by decide +kernel
theorem d_Lat_pivotProduct_7 : dec m_Lat_pivotProduct 7 = .ok (.laload, 1) := by decide +kernel
theorem d_Lat_pivotProduct_8 : dec m_Lat_pivotProduct 8 = .ok (.aload_n 0, 1) := by decide +kernel
theorem d_Lat_pivotProduct_9 : dec m_Lat_pivotProduct 9 = .ok (.getfield 13, 3) := by decide +kernel
theorem d_Lat_pivotProduct_12 : dec m_Lat_pivotProduct 12 = .ok (.iconst 1, 1) := by decide +kernel
theorem d_Lat_pivotProduct_13 : dec m_Lat_pivotProduct 13 = .ok (.aaload, 1) := by decide +kernel
theorem d_Lat_pivotProduct_14 : dec m_Lat_pivotProduct 14 = .ok (.iconst 1, 1) := by decide +kernel
theorem d_Lat_pivotProduct_15 : dec m_Lat_pivotProduct 15 = .ok (.laload, 1) := by decide +kernel
theorem d_Lat_pivotProduct_16 : dec m_Lat_pivotProduct 16 = .ok (.lmul, 1) := by decide +kernel
theorem d_Lat_pivotProduct_17 : dec m_Lat_pivotProduct 17 = .ok (.aload_n 0, 1) := by decide +kernel
theorem d_Lat_pivotProduct_18 : dec m_Lat_pivotProduct 18 = .ok (.getfield 13, 3) := by decide +kernel
theorem d_Lat_pivotProduct_21 : dec m_Lat_pivotProduct 21 = .ok (.iconst 2, 1) := by decide +kernel
theorem d_Lat_pivotProduct_22 : dec m_Lat_pivotProduct 22 = .ok (.aaload, 1) := by decide +kernel
theorem d_Lat_pivotProduct_23 : dec m_Lat_pivotProduct 23 = .ok (.iconst 2, 1) := by decide +kernel
theorem d_Lat_pivotProduct_24 : dec m_Lat_pivotProduct 24 = .ok (.laload, 1) := by decide +kernel
theorem d_Lat_pivotProduct_25 : dec m_Lat_pivotProduct 25 = .ok (.lmul, 1) := by decide +kernel
theorem d_Lat_pivotProduct_26 : dec m_Lat_pivotProduct 26 = .ok (.lreturn, 1) := by decide +kernel
theorem d_Lat_spans_0 : dec m_Lat_spans 0 = .ok (.aload_n 0, 1) := by decide +kernel
theorem d_Lat_spans_1 : dec m_Lat_spans 1 = .ok (.getfield 16, 3) := by decide +kernel
theorem d_Lat_spans_4 : dec m_Lat_spans 4 = .ok (.lconst 0, 1) := by decide +kernel
theorem d_Lat_spans_5 : dec m_Lat_spans 5 = .ok (.invokestatic 20, 3) := by decide +kernel
theorem d_Lat_spans_8 : dec m_Lat_spans 8 = .ok (.aload_n 0, 1) := by decide +kernel
theorem d_Lat_spans_9 : dec m_Lat_spans 9 = .ok (.getfield 16, 3) := by decide +kernel
theorem d_Lat_spans_12 : dec m_Lat_spans 12 = .ok (.iconst 0, 1) := by decide +kernel
theorem d_Lat_spans_13 : dec m_Lat_spans 13 = .ok (.iload_n 1, 1) := by decide +kernel
theorem d_Lat_spans_14 : dec m_Lat_spans 14 = .ok (.i2l, 1) := by decide +kernel
theorem d_Lat_spans_15 : dec m_Lat_spans 15 = .ok (.lastore, 1) := by decide +kernel
theorem d_Lat_spans_16 : dec m_Lat_spans 16 = .ok (.aload_n 0, 1) := by decide +kernel
theorem d_Lat_spans_17 : dec m_Lat_spans 17 = .ok (.getfield 16, 3) := by decide +kernel
theorem d_Lat_spans_20 : dec m_Lat_spans 20 = .ok (.iconst 1, 1) := by decide +kernel
theorem d_Lat_spans_21 : dec m_Lat_spans 21 = .ok (.iload_n 2, 1) := by decide +kernel
theorem d_Lat_spans_22 : dec m_Lat_spans 22 = .ok (.i2l, 1) := by decide +kernel
theorem d_Lat_spans_23 : dec m_Lat_spans 23 = .ok (.lastore, 1) := by decide +kernel
theorem d_Lat_spans_24 : dec m_Lat_spans 24 = .ok (.aload_n 0, 1) := by decide +kernel
theorem d_Lat_spans_25 : dec m_Lat_spans 25 = .ok (.getfield 16, 3) := by decide +kernel
theorem d_Lat_spans_28 : dec m_Lat_spans 28 = .ok (.iconst 2, 1) := by decide +kernel
theorem d_Lat_spans_29 : dec m_Lat_spans 29 = .ok (.iload_n 3, 1) := by decide +kernel
theorem d_Lat_spans_30 : dec m_Lat_spans 30 = .ok (.i2l, 1) := by decide +kernel
theorem d_Lat_spans_31 : dec m_Lat_spans 31 = .ok (.lastore, 1) := by decide +kernel
theorem d_Lat_spans_32 : dec m_Lat_spans 32 = .ok (.iconst 0, 1) := by decide +kernel
theorem d_Lat_spans_33 : dec m_Lat_spans 33 = .ok (.istore 4, 2) := by decide +kernel
theorem d_Lat_spans_35 : dec m_Lat_spans 35 = .ok (.iload 4, 2) := by decide +kernel
theorem d_Lat_spans_37 : dec m_Lat_spans 37 = .ok (.iconst 3, 1) := by decide +kernel
theorem d_Lat_spans_38 : dec m_Lat_spans 38 = .ok (.if_icmp .ge 70, 3) := by decide +kernel
theorem d_Lat_spans_41 : dec m_Lat_spans 41 = .ok (.aload_n 0, 1) := by decide +kernel
theorem d_Lat_spans_42 : dec m_Lat_spans 42 = .ok (.getfield 13, 3) := by decide +kernel
theorem d_Lat_spans_45 : dec m_Lat_spans 45 = .ok (.iload 4, 2) := by decide +kernel
theorem d_Lat_spans_47 : dec m_Lat_spans 47 = .ok (.aaload, 1) := by decide +kernel
theorem d_Lat_spans_48 : dec m_Lat_spans 48 = .ok (.iload 4, 2) := by decide +kernel
theorem d_Lat_spans_50 : dec m_Lat_spans 50 = .ok (.laload, 1) := by decide +kernel
theorem d_Lat_spans_51 : dec m_Lat_spans 51 = .ok (.lconst 0, 1) := by decide +kernel
theorem d_Lat_spans_52 : dec m_Lat_spans 52 = .ok (.lcmp, 1) := by decide +kernel
theorem d_Lat_spans_53 : dec m_Lat_spans 53 = .ok (.ifCond .le 35, 3) := by decide +kernel
theorem d_Lat_spans_56 : dec m_Lat_spans 56 = .ok (.aload_n 0, 1) := by decide +kernel
theorem d_Lat_spans_57 : dec m_Lat_spans 57 = .ok (.getfield 16, 3) := by decide +kernel
theorem d_Lat_spans_60 : dec m_Lat_spans 60 = .ok (.aload_n 0, 1) := by decide +kernel
theorem d_Lat_spans_61 : dec m_Lat_spans 61 = .ok (.getfield 13, 3) := by decide +kernel
theorem d_Lat_spans_64 : dec m_Lat_spans 64 = .ok (.iload 4, 2) := by decide +kernel
theorem d_Lat_spans_66 : dec m_Lat_spans 66 = .ok (.aaload, 1) := by decide +kernel
theorem d_Lat_spans_67 : dec m_Lat_spans 67 = .ok (.aload_n 0, 1) := by decide +kernel
theorem d_Lat_spans_68 : dec m_Lat_spans 68 = .ok (.getfield 16, 3) := by decide +kernel
theorem d_Lat_spans_71 : dec m_Lat_spans 71 = .ok (.iload 4, 2) := by decide +kernel
theorem d_Lat_spans_73 : dec m_Lat_spans 73 = .ok (.laload, 1) := by decide +kernel
theorem d_Lat_spans_74 : dec m_Lat_spans 74 = .ok (.aload_n 0, 1) := by decide +kernel
theorem d_Lat_spans_75 : dec m_Lat_spans 75 = .ok (.getfield 13, 3) := by decide +kernel
theorem d_Lat_spans_78 : dec m_Lat_spans 78 = .ok (.iload 4, 2) := by decide +kernel
theorem d_Lat_spans_80 : dec m_Lat_spans 80 = .ok (.aaload, 1) := by decide +kernel
theorem d_Lat_spans_81 : dec m_Lat_spans 81 = .ok (.iload 4, 2) := by decide +kernel
theorem d_Lat_spans_83 : dec m_Lat_spans 83 = .ok (.laload, 1) := by decide +kernel
theorem d_Lat_spans_84 : dec m_Lat_spans 84 = .ok (.ldiv, 1) := by decide +kernel
theorem d_Lat_spans_85 : dec m_Lat_spans 85 = .ok (.invokestatic 46, 3) := by decide +kernel
theorem d_Lat_spans_88 : dec m_Lat_spans 88 = .ok (.aload_n 0, 1) := by decide +kernel
theorem d_Lat_spans_89 : dec m_Lat_spans 89 = .ok (.getfield 16, 3) := by decide +kernel
theorem d_Lat_spans_92 : dec m_Lat_spans 92 = .ok (.iload 4, 2) := by decide +kernel
theorem d_Lat_spans_94 : dec m_Lat_spans 94 = .ok (.laload, 1) := by decide +kernel
theorem d_Lat_spans_95 : dec m_Lat_spans 95 = .ok (.lconst 0, 1) := by decide +kernel
theorem d_Lat_spans_96 : dec m_Lat_spans 96 = .ok (.lcmp, 1) := by decide +kernel
theorem d_Lat_spans_97 : dec m_Lat_spans 97 = .ok (.ifCond .eq 5, 3) := by decide +kernel
theorem d_Lat_spans_100 : dec m_Lat_spans 100 = .ok (.iconst 0, 1) := by decide +kernel
theorem d_Lat_spans_101 : dec m_Lat_spans 101 = .ok (.ireturn, 1) := by decide +kernel
theorem d_Lat_spans_102 : dec m_Lat_spans 102 = .ok (.iinc 4 1, 3) := by decide +kernel
theorem d_Lat_spans_105 : dec m_Lat_spans 105 = .ok (.goto (-70), 3) := by decide +kernel
theorem d_Lat_spans_108 : dec m_Lat_spans 108 = .ok (.iconst 1, 1) := by decide +kernel
theorem d_Lat_spans_109 : dec m_Lat_spans 109 = .ok (.ireturn, 1) := by decide +kernel
theorem d_Lat_relationPart_0 : dec m_Lat_relationPart 0 = .ok (.aload_n 0, 1) := by decide +kernel
theorem d_Lat_relationPart_1 : dec m_Lat_relationPart 1 = .ok (.getfield 16, 3) := by decide +kernel
theorem d_Lat_relationPart_4 : dec m_Lat_relationPart 4 = .ok (.lconst 0, 1) := by decide +kernel
theorem d_Lat_relationPart_5 : dec m_Lat_relationPart 5 = .ok (.invokestatic 20, 3) := by decide +kernel
theorem d_Lat_relationPart_8 : dec m_Lat_relationPart 8 = .ok (.iconst 0, 1) := by decide +kernel
theorem d_Lat_relationPart_9 : dec m_Lat_relationPart 9 = .ok (.istore 4, 2) := by decide +kernel
theorem d_Lat_relationPart_11 : dec m_Lat_relationPart 11 = .ok (.iload 4, 2) := by decide +kernel
theorem d_Lat_relationPart_13 : dec m_Lat_relationPart 13 = .ok (.bipush 7, 2) := by decide +kernel
theorem d_Lat_relationPart_15 : dec m_Lat_relationPart 15 = .ok (.if_icmp .ge 32, 3) := by decide +kernel
theorem d_Lat_relationPart_18 : dec m_Lat_relationPart 18 = .ok (.aload_n 0, 1) := by decide +kernel
theorem d_Lat_relationPart_19 : dec m_Lat_relationPart 19 = .ok (.getfield 16, 3) := by decide +kernel
theorem d_Lat_relationPart_22 : dec m_Lat_relationPart 22 = .ok (.iconst 3, 1) := by decide +kernel
theorem d_Lat_relationPart_23 : dec m_Lat_relationPart 23 = .ok (.iload 4, 2) := by decide +kernel
theorem d_Lat_relationPart_25 : dec m_Lat_relationPart 25 = .ok (.iadd, 1) := by decide +kernel
theorem d_Lat_relationPart_26 : dec m_Lat_relationPart 26 = .ok (.iload_n 1, 1) := by decide +kernel
theorem d_Lat_relationPart_27 : dec m_Lat_relationPart 27 = .ok (.iload 4, 2) := by decide +kernel
theorem d_Lat_relationPart_29 : dec m_Lat_relationPart 29 = .ok (.invokestatic 69, 3) := by decide +kernel
theorem d_Lat_relationPart_32 : dec m_Lat_relationPart 32 = .ok (.iload_n 2, 1) := by decide +kernel
theorem d_Lat_relationPart_33 : dec m_Lat_relationPart 33 = .ok (.iload 4, 2) := by decide +kernel
theorem d_Lat_relationPart_35 : dec m_Lat_relationPart 35 = .ok (.invokestatic 69, 3) := by decide +kernel
theorem d_Lat_relationPart_38 : dec m_Lat_relationPart 38 = .ok (.isub, 1) := by decide +kernel
theorem d_Lat_relationPart_39 : dec m_Lat_relationPart 39 = .ok (.i2l, 1) := by decide +kernel
theorem d_Lat_relationPart_40 : dec m_Lat_relationPart 40 = .ok (.lastore, 1) := by decide +kernel
theorem d_Lat_relationPart_41 : dec m_Lat_relationPart 41 = .ok (.iinc 4 1, 3) := by decide +kernel
theorem d_Lat_relationPart_44 : dec m_Lat_relationPart 44 = .ok (.goto (-33), 3) := by decide +kernel
theorem d_Lat_relationPart_47 : dec m_Lat_relationPart 47 = .ok (.aload_n 0, 1) := by decide +kernel
theorem d_Lat_relationPart_48 : dec m_Lat_relationPart 48 = .ok (.iconst 3, 1) := by decide +kernel
theorem d_Lat_relationPart_49 : dec m_Lat_relationPart 49 = .ok (.iload_n 3, 1) := by decide +kernel
theorem d_Lat_relationPart_50 : dec m_Lat_relationPart 50 = .ok (.invokevirtual 66, 3) := by decide +kernel
theorem d_Lat_relationPart_53 : dec m_Lat_relationPart 53 = .ok (.istore 4, 2) := by decide +kernel
theorem d_Lat_relationPart_55 : dec m_Lat_relationPart 55 = .ok (.lconst 0, 1) := by decide +kernel
theorem d_Lat_relationPart_56 : dec m_Lat_relationPart 56 = .ok (.lstore 5, 2) := by decide +kernel
theorem d_Lat_relationPart_58 : dec m_Lat_relationPart 58 = .ok (.iconst 3, 1) := by decide +kernel
theorem d_Lat_relationPart_59 : dec m_Lat_relationPart 59 = .ok (.istore 7, 2) := by decide +kernel
theorem d_Lat_relationPart_61 : dec m_Lat_relationPart 61 = .ok (.iload 7, 2) := by decide +kernel
theorem d_Lat_relationPart_63 : dec m_Lat_relationPart 63 = .ok (.iload 4, 2) := by decide +kernel
theorem d_Lat_relationPart_65 : dec m_Lat_relationPart 65 = .ok (.if_icmp .gt 60, 3) := by decide +kernel
theorem d_Lat_relationPart_68 : dec m_Lat_relationPart 68 = .ok (.aload_n 0, 1) := by decide +kernel
theorem d_Lat_relationPart_69 : dec m_Lat_relationPart 69 = .ok (.getfield 13, 3) := by decide +kernel
theorem d_Lat_relationPart_72 : dec m_Lat_relationPart 72 = .ok (.iload 7, 2) := by decide +kernel
theorem d_Lat_relationPart_74 : dec m_Lat_relationPart 74 = .ok (.aaload, 1) := by decide +kernel
theorem d_Lat_relationPart_75 : dec m_Lat_relationPart 75 = .ok (.iload 7, 2) := by decide +kernel
theorem d_Lat_relationPart_77 : dec m_Lat_relationPart 77 = .ok (.laload, 1) := by decide +kernel
theorem d_Lat_relationPart_78 : dec m_Lat_relationPart 78 = .ok (.lconst 0, 1) := by decide +kernel
theorem d_Lat_relationPart_79 : dec m_Lat_relationPart 79 = .ok (.lcmp, 1) := by decide +kernel
theorem d_Lat_relationPart_80 : dec m_Lat_relationPart 80 = .ok (.ifCond .le 39, 3) := by decide +kernel
theorem d_Lat_relationPart_83 : dec m_Lat_relationPart 83 = .ok (.aload_n 0, 1) := by decide +kernel
theorem d_Lat_relationPart_84 : dec m_Lat_relationPart 84 = .ok (.getfield 16, 3) := by decide +kernel
theorem d_Lat_relationPart_87 : dec m_Lat_relationPart 87 = .ok (.iload 7, 2) := by decide +kernel
theorem d_Lat_relationPart_89 : dec m_Lat_relationPart 89 = .ok (.laload, 1) := by decide +kernel
theorem d_Lat_relationPart_90 : dec m_Lat_relationPart 90 = .ok (.aload_n 0, 1) := by decide +kernel
theorem d_Lat_relationPart_91 : dec m_Lat_relationPart 91 = .ok (.getfield 13, 3) := by decide +kernel
theorem d_Lat_relationPart_94 : dec m_Lat_relationPart 94 = .ok (.iload 7, 2) := by decide +kernel
theorem d_Lat_relationPart_96 : dec m_Lat_relationPart 96 = .ok (.aaload, 1) := by decide +kernel
theorem d_Lat_relationPart_97 : dec m_Lat_relationPart 97 = .ok (.iload 7, 2) := by decide +kernel
theorem d_Lat_relationPart_99 : dec m_Lat_relationPart 99 = .ok (.laload, 1) := by decide +kernel
theorem d_Lat_relationPart_100 : dec m_Lat_relationPart 100 = .ok (.ldiv, 1) := by decide +kernel
theorem d_Lat_relationPart_101 : dec m_Lat_relationPart 101 = .ok (.lstore 5, 2) := by decide +kernel
theorem d_Lat_relationPart_103 : dec m_Lat_relationPart 103 = .ok (.aload_n 0, 1) := by decide +kernel
theorem d_Lat_relationPart_104 : dec m_Lat_relationPart 104 = .ok (.getfield 16, 3) := by decide +kernel
theorem d_Lat_relationPart_107 : dec m_Lat_relationPart 107 = .ok (.aload_n 0, 1) := by decide +kernel
theorem d_Lat_relationPart_108 : dec m_Lat_relationPart 108 = .ok (.getfield 13, 3) := by decide +kernel
theorem d_Lat_relationPart_111 : dec m_Lat_relationPart 111 = .ok (.iload 7, 2) := by decide +kernel
theorem d_Lat_relationPart_113 : dec m_Lat_relationPart 113 = .ok (.aaload, 1) := by decide +kernel
theorem d_Lat_relationPart_114 : dec m_Lat_relationPart 114 = .ok (.lload 5, 2) := by decide +kernel
theorem d_Lat_relationPart_116 : dec m_Lat_relationPart 116 = .ok (.invokestatic 46, 3) := by decide +kernel
theorem d_Lat_relationPart_119 : dec m_Lat_relationPart 119 = .ok (.iinc 7 1, 3) := by decide +kernel
theorem d_Lat_relationPart_122 : dec m_Lat_relationPart 122 = .ok (.goto (-61), 3) := by decide +kernel
theorem d_Lat_relationPart_125 : dec m_Lat_relationPart 125 = .ok (.lload 5, 2) := by decide +kernel
theorem d_Lat_relationPart_127 : dec m_Lat_relationPart 127 = .ok (.lreturn, 1) := by decide +kernel
theorem d_Lat_sideDegree_0 : dec m_Lat_sideDegree 0 = .ok (.lconst 0, 1) := by decide +kernel
theorem d_Lat_sideDegree_1 : dec m_Lat_sideDegree 1 = .ok (.lstore_n 2, 1) := by decide +kernel
theorem d_Lat_sideDegree_2 : dec m_Lat_sideDegree 2 = .ok (.iconst 0, 1) := by decide +kernel
theorem d_Lat_sideDegree_3 : dec m_Lat_sideDegree 3 = .ok (.istore 4, 2) := by decide +kernel
theorem d_Lat_sideDegree_5 : dec m_Lat_sideDegree 5 = .ok (.iload 4, 2) := by decide +kernel
theorem d_Lat_sideDegree_7 : dec m_Lat_sideDegree 7 = .ok (.aload_n 1, 1) := by decide +kernel
theorem d_Lat_sideDegree_8 : dec m_Lat_sideDegree 8 = .ok (.getfield 26, 3) := by decide +kernel
theorem d_Lat_sideDegree_11 : dec m_Lat_sideDegree 11 = .ok (.if_icmp .ge 36, 3) := by decide +kernel
theorem d_Lat_sideDegree_14 : dec m_Lat_sideDegree 14 = .ok (.lload_n 2, 1) := by decide +kernel
theorem d_Lat_sideDegree_15 : dec m_Lat_sideDegree 15 = .ok (.aload_n 0, 1) := by decide +kernel
theorem d_Lat_sideDegree_16 : dec m_Lat_sideDegree 16 = .ok (.iconst 0, 1) := by decide +kernel
theorem d_Lat_sideDegree_17 : dec m_Lat_sideDegree 17 = .ok (.iload 4, 2) := by decide +kernel
theorem d_Lat_sideDegree_19 : dec m_Lat_sideDegree 19 = .ok (.invokevirtual 72, 3) := by decide +kernel
theorem d_Lat_sideDegree_22 : dec m_Lat_sideDegree 22 = .ok (.lconst 0, 1) := by decide +kernel
theorem d_Lat_sideDegree_23 : dec m_Lat_sideDegree 23 = .ok (.invokestatic 76, 3) := by decide +kernel
theorem d_Lat_sideDegree_26 : dec m_Lat_sideDegree 26 = .ok (.getstatic 79, 3) := by decide +kernel
theorem d_Lat_sideDegree_29 : dec m_Lat_sideDegree 29 = .ok (.aload_n 1, 1) := by decide +kernel
theorem d_Lat_sideDegree_30 : dec m_Lat_sideDegree 30 = .ok (.getfield 30, 3) := by decide +kernel
theorem d_Lat_sideDegree_33 : dec m_Lat_sideDegree 33 = .ok (.iload 4, 2) := by decide +kernel
theorem d_Lat_sideDegree_35 : dec m_Lat_sideDegree 35 = .ok (.iaload, 1) := by decide +kernel
theorem d_Lat_sideDegree_36 : dec m_Lat_sideDegree 36 = .ok (.iaload, 1) := by decide +kernel
theorem d_Lat_sideDegree_37 : dec m_Lat_sideDegree 37 = .ok (.i2l, 1) := by decide +kernel
theorem d_Lat_sideDegree_38 : dec m_Lat_sideDegree 38 = .ok (.lmul, 1) := by decide +kernel
theorem d_Lat_sideDegree_39 : dec m_Lat_sideDegree 39 = .ok (.ladd, 1) := by decide +kernel
theorem d_Lat_sideDegree_40 : dec m_Lat_sideDegree 40 = .ok (.lstore_n 2, 1) := by decide +kernel
theorem d_Lat_sideDegree_41 : dec m_Lat_sideDegree 41 = .ok (.iinc 4 1, 3) := by decide +kernel
theorem d_Lat_sideDegree_44 : dec m_Lat_sideDegree 44 = .ok (.goto (-39), 3) := by decide +kernel
theorem d_Lat_sideDegree_47 : dec m_Lat_sideDegree 47 = .ok (.lload_n 2, 1) := by decide +kernel
theorem d_Lat_sideDegree_48 : dec m_Lat_sideDegree 48 = .ok (.lreturn, 1) := by decide +kernel
theorem d_Lat_sideRow_0 : dec m_Lat_sideRow 0 = .ok (.iconst 0, 1) := by decide +kernel
theorem d_Lat_sideRow_1 : dec m_Lat_sideRow 1 = .ok (.istore_n 2, 1) := by decide +kernel
theorem d_Lat_sideRow_2 : dec m_Lat_sideRow 2 = .ok (.iconst 0, 1) := by decide +kernel
theorem d_Lat_sideRow_3 : dec m_Lat_sideRow 3 = .ok (.istore_n 3, 1) := by decide +kernel
theorem d_Lat_sideRow_4 : dec m_Lat_sideRow 4 = .ok (.iload_n 3, 1) := by decide +kernel
theorem d_Lat_sideRow_5 : dec m_Lat_sideRow 5 = .ok (.bipush 7, 2) := by decide +kernel
theorem d_Lat_sideRow_7 : dec m_Lat_sideRow 7 = .ok (.if_icmp .ge 31, 3) := by decide +kernel
theorem d_Lat_sideRow_10 : dec m_Lat_sideRow 10 = .ok (.iload_n 2, 1) := by decide +kernel
theorem d_Lat_sideRow_11 : dec m_Lat_sideRow 11 = .ok (.iload_n 1, 1) := by decide +kernel
theorem d_Lat_sideRow_12 : dec m_Lat_sideRow 12 = .ok (.i2l, 1) := by decide +kernel
theorem d_Lat_sideRow_13 : dec m_Lat_sideRow 13 = .ok (.aload_n 0, 1) := by decide +kernel
theorem d_Lat_sideRow_14 : dec m_Lat_sideRow 14 = .ok (.iconst 0, 1) := by decide +kernel
theorem d_Lat_sideRow_15 : dec m_Lat_sideRow 15 = .ok (.iload_n 3, 1) := by decide +kernel
theorem d_Lat_sideRow_16 : dec m_Lat_sideRow 16 = .ok (.invokevirtual 72, 3) := by decide +kernel
theorem d_Lat_sideRow_19 : dec m_Lat_sideRow 19 = .ok (.lmul, 1) := by decide +kernel
theorem d_Lat_sideRow_20 : dec m_Lat_sideRow 20 = .ok (.lconst 0, 1) := by decide +kernel
theorem d_Lat_sideRow_21 : dec m_Lat_sideRow 21 = .ok (.invokestatic 76, 3) := by decide +kernel
theorem d_Lat_sideRow_24 : dec m_Lat_sideRow 24 = .ok (.l2i, 1) := by decide +kernel
theorem d_Lat_sideRow_25 : dec m_Lat_sideRow 25 = .ok (.iload_n 3, 1) := by decide +kernel
theorem d_Lat_sideRow_26 : dec m_Lat_sideRow 26 = .ok (.invokestatic 82, 3) := by decide +kernel
theorem d_Lat_sideRow_29 : dec m_Lat_sideRow 29 = .ok (.imul, 1) := by decide +kernel
theorem d_Lat_sideRow_30 : dec m_Lat_sideRow 30 = .ok (.iadd, 1) := by decide +kernel
theorem d_Lat_sideRow_31 : dec m_Lat_sideRow 31 = .ok (.istore_n 2, 1) := by decide +kernel
theorem d_Lat_sideRow_32 : dec m_Lat_sideRow 32 = .ok (.iinc 3 1, 3) := by decide +kernel
theorem d_Lat_sideRow_35 : dec m_Lat_sideRow 35 = .ok (.goto (-31), 3) := by decide +kernel
theorem d_Lat_sideRow_38 : dec m_Lat_sideRow 38 = .ok (.iload_n 2, 1) := by decide +kernel
theorem d_Lat_sideRow_39 : dec m_Lat_sideRow 39 = .ok (.ireturn, 1) := by decide +kernel
theorem d_Link_init_0 : dec m_Link_init 0 = .ok (.aload_n 0, 1) := by decide +kernel
theorem d_Link_init_1 : dec m_Link_init 1 = .ok (.invokespecial 1, 3) := by decide +kernel
theorem d_Link_init_4 : dec m_Link_init 4 = .ok (.aload_n 0, 1) := by decide +kernel
theorem d_Link_init_5 : dec m_Link_init 5 = .ok (.iconst 0, 1) := by decide +kernel
theorem d_Link_init_6 : dec m_Link_init 6 = .ok (.putfield 7, 3) := by decide +kernel
theorem d_Link_init_9 : dec m_Link_init 9 = .ok (.aload_n 0, 1) := by decide +kernel
theorem d_Link_init_10 : dec m_Link_init 10 = .ok (.iconst 0, 1) := by decide +kernel
theorem d_Link_init_11 : dec m_Link_init 11 = .ok (.putfield 13, 3) := by decide +kernel
theorem d_Link_init_14 : dec m_Link_init 14 = .ok (.aload_n 0, 1) := by decide +kernel
theorem d_Link_init_15 : dec m_Link_init 15 = .ok (.new 16, 3) := by decide +kernel
theorem d_Link_init_18 : dec m_Link_init 18 = .ok (.dup, 1) := by decide +kernel
theorem d_Link_init_19 : dec m_Link_init 19 = .ok (.invokespecial 18, 3) := by decide +kernel
theorem d_Link_init_22 : dec m_Link_init 22 = .ok (.putfield 19, 3) := by decide +kernel
theorem d_Link_init_25 : dec m_Link_init 25 = .ok (.return_, 1) := by decide +kernel
theorem d_Poly_init_0 : dec m_Poly_init 0 = .ok (.aload_n 0, 1) := by decide +kernel
theorem d_Poly_init_1 : dec m_Poly_init 1 = .ok (.invokespecial 1, 3) := by decide +kernel
theorem d_Poly_init_4 : dec m_Poly_init 4 = .ok (.aload_n 0, 1) := by decide +kernel
theorem d_Poly_init_5 : dec m_Poly_init 5 = .ok (.bipush 84, 2) := by decide +kernel
theorem d_Poly_init_7 : dec m_Poly_init 7 = .ok (.newarray .long, 2) := by decide +kernel
theorem d_Poly_init_9 : dec m_Poly_init 9 = .ok (.putfield 9, 3) := by decide +kernel
theorem d_Poly_init_12 : dec m_Poly_init 12 = .ok (.return_, 1) := by decide +kernel
theorem d_Poly_becomeZero_0 : dec m_Poly_becomeZero 0 = .ok (.aload_n 0, 1) := by decide +kernel
theorem d_Poly_becomeZero_1 : dec m_Poly_becomeZero 1 = .ok (.getfield 9, 3) := by decide +kernel
theorem d_Poly_becomeZero_4 : dec m_Poly_becomeZero 4 = .ok (.lconst 0, 1) := by decide +kernel
theorem d_Poly_becomeZero_5 : dec m_Poly_becomeZero 5 = .ok (.invokestatic 15, 3) := by decide +kernel
theorem d_Poly_becomeZero_8 : dec m_Poly_becomeZero 8 = .ok (.return_, 1) := by decide +kernel
theorem d_Poly_becomeLike_0 : dec m_Poly_becomeLike 0 = .ok (.aload_n 1, 1) := by decide +kernel
theorem d_Poly_becomeLike_1 : dec m_Poly_becomeLike 1 = .ok (.getfield 9, 3) := by decide +kernel
theorem d_Poly_becomeLike_4 : dec m_Poly_becomeLike 4 = .ok (.iconst 0, 1) := by decide +kernel
theorem d_Poly_becomeLike_5 : dec m_Poly_becomeLike 5 = .ok (.aload_n 0, 1) := by decide +kernel
theorem d_Poly_becomeLike_6 : dec m_Poly_becomeLike 6 = .ok (.getfield 9, 3) := by decide +kernel
theorem d_Poly_becomeLike_9 : dec m_Poly_becomeLike 9 = .ok (.iconst 0, 1) := by decide +kernel
theorem d_Poly_becomeLike_10 : dec m_Poly_becomeLike 10 = .ok (.bipush 84, 2) := by decide +kernel
theorem d_Poly_becomeLike_12 : dec m_Poly_becomeLike 12 = .ok (.invokestatic 21, 3) := by decide +kernel
theorem d_Poly_becomeLike_15 : dec m_Poly_becomeLike 15 = .ok (.return_, 1) := by decide +kernel
theorem d_Poly_becomeTurned_0 : dec m_Poly_becomeTurned 0 = .ok (.iconst 0, 1) := by decide +kernel
theorem d_Poly_becomeTurned_1 : dec m_Poly_becomeTurned 1 = .ok (.istore_n 3, 1) := by decide +kernel
theorem d_Poly_becomeTurned_2 : dec m_Poly_becomeTurned 2 = .ok (.iload_n 3, 1) := by decide +kernel
theorem d_Poly_becomeTurned_3 : dec m_Poly_becomeTurned 3 = .ok (.bipush 84, 2) := by decide +kernel
theorem d_Poly_becomeTurned_5 : dec m_Poly_becomeTurned 5 = .ok (.if_icmp .ge 25, 3) := by decide +kernel
theorem d_Poly_becomeTurned_8 : dec m_Poly_becomeTurned 8 = .ok (.aload_n 0, 1) := by decide +kernel
theorem d_Poly_becomeTurned_9 : dec m_Poly_becomeTurned 9 = .ok (.getfield 9, 3) := by decide +kernel
theorem d_Poly_becomeTurned_12 : dec m_Poly_becomeTurned 12 = .ok (.iload_n 3, 1) := by decide +kernel
theorem d_Poly_becomeTurned_13 : dec m_Poly_becomeTurned 13 = .ok (.iload_n 2, 1) := by decide +kernel
theorem d_Poly_becomeTurned_14 : dec m_Poly_becomeTurned 14 = .ok (.invokestatic 27, 3) := by decide +kernel
theorem d_Poly_becomeTurned_17 : dec m_Poly_becomeTurned 17 = .ok (.aload_n 1, 1) := by decide +kernel
theorem d_Poly_becomeTurned_18 : dec m_Poly_becomeTurned 18 = .ok (.getfield 9, 3) := by decide +kernel
theorem d_Poly_becomeTurned_21 : dec m_Poly_becomeTurned 21 = .ok (.iload_n 3, 1) := by decide +kernel
theorem d_Poly_becomeTurned_22 : dec m_Poly_becomeTurned 22 = .ok (.laload, 1) := by decide +kernel
theorem d_Poly_becomeTurned_23 : dec m_Poly_becomeTurned 23 = .ok (.lastore, 1) := by decide +kernel
theorem d_Poly_becomeTurned_24 : dec m_Poly_becomeTurned 24 = .ok (.iinc 3 1, 3) := by decide +kernel
theorem d_Poly_becomeTurned_27 : dec m_Poly_becomeTurned 27 = .ok (.goto (-25), 3) := by decide +kernel
theorem d_Poly_becomeTurned_30 : dec m_Poly_becomeTurned 30 = .ok (.return_, 1) := by decide +kernel
theorem d_Poly_isLike_0 : dec m_Poly_isLike 0 = .ok (.iconst 0, 1) := by decide +kernel
theorem d_Poly_isLike_1 : dec m_Poly_isLike 1 = .ok (.istore_n 2, 1) := by decide +kernel
theorem d_Poly_isLike_2 : dec m_Poly_isLike 2 = .ok (.iload_n 2, 1) := by decide +kernel
theorem d_Poly_isLike_3 : dec m_Poly_isLike 3 = .ok (.bipush 84, 2) := by decide +kernel
theorem d_Poly_isLike_5 : dec m_Poly_isLike 5 = .ok (.if_icmp .ge 27, 3) := by decide +kernel
theorem d_Poly_isLike_8 : dec m_Poly_isLike 8 = .ok (.aload_n 0, 1) := by decide +kernel
theorem d_Poly_isLike_9 : dec m_Poly_isLike 9 = .ok (.getfield 9, 3) := by decide +kernel
theorem d_Poly_isLike_12 : dec m_Poly_isLike 12 = .ok (.iload_n 2, 1) := by decide +kernel
theorem d_Poly_isLike_13 : dec m_Poly_isLike 13 = .ok (.laload, 1) := by decide +kernel
theorem d_Poly_isLike_14 : dec m_Poly_isLike 14 = .ok (.aload_n 1, 1) := by decide +kernel
theorem d_Poly_isLike_15 : dec m_Poly_isLike 15 = .ok (.getfield 9, 3) := by decide +kernel
theorem d_Poly_isLike_18 : dec m_Poly_isLike 18 = .ok (.iload_n 2, 1) := by decide +kernel
theorem d_Poly_isLike_19 : dec m_Poly_isLike 19 = .ok (.laload, 1) := by decide +kernel
theorem d_Poly_isLike_20 : dec m_Poly_isLike 20 = .ok (.lcmp, 1) := by decide +kernel
theorem d_Poly_isLike_21 : dec m_Poly_isLike 21 = .ok (.ifCond .eq 5, 3) := by decide +kernel
theorem d_Poly_isLike_24 : dec m_Poly_isLike 24 = .ok (.iconst 0, 1) := by decide +kernel
theorem d_Poly_isLike_25 : dec m_Poly_isLike 25 = .ok (.ireturn, 1) := by decide +kernel
theorem d_Poly_isLike_26 : dec m_Poly_isLike 26 = .ok (.iinc 2 1, 3) := by decide +kernel
theorem d_Poly_isLike_29 : dec m_Poly_isLike 29 = .ok (.goto (-27), 3) := by decide +kernel
theorem d_Poly_isLike_32 : dec m_Poly_isLike 32 = .ok (.iconst 1, 1) := by decide +kernel
theorem d_Poly_isLike_33 : dec m_Poly_isLike 33 = .ok (.ireturn, 1) := by decide +kernel
theorem d_Poly_isZero_0 : dec m_Poly_isZero 0 = .ok (.aload_n 0, 1) := by decide +kernel
theorem d_Poly_isZero_1 : dec m_Poly_isZero 1 = .ok (.invokevirtual 31, 3) := by decide +kernel
theorem d_Poly_isZero_4 : dec m_Poly_isZero 4 = .ok (.ifCond .ge 7, 3) := by decide +kernel
theorem d_Poly_isZero_7 : dec m_Poly_isZero 7 = .ok (.iconst 1, 1) := by decide +kernel
theorem d_Poly_isZero_8 : dec m_Poly_isZero 8 = .ok (.goto 4, 3) := by decide +kernel
theorem d_Poly_isZero_11 : dec m_Poly_isZero 11 = .ok (.iconst 0, 1) := by decide +kernel
theorem d_Poly_isZero_12 : dec m_Poly_isZero 12 = .ok (.ireturn, 1) := by decide +kernel
theorem d_Poly_degree_0 : dec m_Poly_degree 0 = .ok (.bipush 83, 2) := by decide +kernel
theorem d_Poly_degree_2 : dec m_Poly_degree 2 = .ok (.istore_n 1, 1) := by decide +kernel
theorem d_Poly_degree_3 : dec m_Poly_degree 3 = .ok (.iload_n 1, 1) := by decide +kernel
theorem d_Poly_degree_4 : dec m_Poly_degree 4 = .ok (.ifCond .lt 26, 3) := by decide +kernel
theorem d_Poly_degree_7 : dec m_Poly_degree 7 = .ok (.aload_n 0, 1) := by decide +kernel
theorem d_Poly_degree_8 : dec m_Poly_degree 8 = .ok (.getfield 9, 3) := by decide +kernel
theorem d_Poly_degree_11 : dec m_Poly_degree 11 = .ok (.iload_n 1, 1) := by decide +kernel
theorem d_Poly_degree_12 : dec m_Poly_degree 12 = .ok (.laload, 1) := by decide +kernel
theorem d_Poly_degree_13 : dec m_Poly_degree 13 = .ok (.lconst 0, 1) := by decide +kernel
theorem d_Poly_degree_14 : dec m_Poly_degree 14 = .ok (.lcmp, 1) := by decide +kernel
theorem d_Poly_degree_15 : dec m_Poly_degree 15 = .ok (.ifCond .eq 9, 3) := by decide +kernel
theorem d_Poly_degree_18 : dec m_Poly_degree 18 = .ok (.getstatic 35, 3) := by decide +kernel
theorem d_Poly_degree_21 : dec m_Poly_degree 21 = .ok (.iload_n 1, 1) := by decide +kernel
theorem d_Poly_degree_22 : dec m_Poly_degree 22 = .ok (.iaload, 1) := by decide +kernel
theorem d_Poly_degree_23 : dec m_Poly_degree 23 = .ok (.ireturn, 1) := by decide +kernel
theorem d_Poly_degree_24 : dec m_Poly_degree 24 = .ok (.iinc 1 (-1), 3) := by decide +kernel
theorem d_Poly_degree_27 : dec m_Poly_degree 27 = .ok (.goto (-24), 3) := by decide +kernel
theorem d_Poly_degree_30 : dec m_Poly_degree 30 = .ok (.iconst (-1), 1) := by decide +kernel
theorem d_Poly_degree_31 : dec m_Poly_degree 31 = .ok (.ireturn, 1) := by decide +kernel
theorem d_Poly_termCount_0 : dec m_Poly_termCount 0 = .ok (.iconst 0, 1) := by decide +kernel
theorem d_Poly_termCount_1 : dec m_Poly_termCount 1 = .ok (.istore_n 1, 1) := by decide +kernel
theorem d_Poly_termCount_2 : dec m_Poly_termCount 2 = .ok (.iconst 0, 1) := by decide +kernel
theorem d_Poly_termCount_3 : dec m_Poly_termCount 3 = .ok (.istore_n 2, 1) := by decide +kernel
theorem d_Poly_termCount_4 : dec m_Poly_termCount 4 = .ok (.iload_n 2, 1) := by decide +kernel
theorem d_Poly_termCount_5 : dec m_Poly_termCount 5 = .ok (.bipush 84, 2) := by decide +kernel
theorem d_Poly_termCount_7 : dec m_Poly_termCount 7 = .ok (.if_icmp .ge 23, 3) := by decide +kernel
theorem d_Poly_termCount_10 : dec m_Poly_termCount 10 = .ok (.aload_n 0, 1) := by decide +kernel
theorem d_Poly_termCount_11 : dec m_Poly_termCount 11 = .ok (.getfield 9, 3) := by decide +kernel
theorem d_Poly_termCount_14 : dec m_Poly_termCount 14 = .ok (.iload_n 2, 1) := by decide +kernel
theorem d_Poly_termCount_15 : dec m_Poly_termCount 15 = .ok (.laload, 1) := by decide +kernel
theorem d_Poly_termCount_16 : dec m_Poly_termCount 16 = .ok (.lconst 0, 1) := by decide +kernel
theorem d_Poly_termCount_17 : dec m_Poly_termCount 17 = .ok (.lcmp, 1) := by decide +kernel
theorem d_Poly_termCount_18 : dec m_Poly_termCount 18 = .ok (.ifCond .eq 6, 3) := by decide +kernel
theorem d_Poly_termCount_21 : dec m_Poly_termCount 21 = .ok (.iinc 1 1, 3) := by decide +kernel
theorem d_Poly_termCount_24 : dec m_Poly_termCount 24 = .ok (.iinc 2 1, 3) := by decide +kernel
theorem d_Poly_termCount_27 : dec m_Poly_termCount 27 = .ok (.goto (-23), 3) := by decide +kernel
theorem d_Poly_termCount_30 : dec m_Poly_termCount 30 = .ok (.iload_n 1, 1) := by decide +kernel
theorem d_Poly_termCount_31 : dec m_Poly_termCount 31 = .ok (.ireturn, 1) := by decide +kernel
theorem d_Poly_normNow_0 : dec m_Poly_normNow 0 = .ok (.lconst 0, 1) := by decide +kernel
theorem d_Poly_normNow_1 : dec m_Poly_normNow 1 = .ok (.lstore_n 1, 1) := by decide +kernel
theorem d_Poly_normNow_2 : dec m_Poly_normNow 2 = .ok (.iconst 0, 1) := by decide +kernel
theorem d_Poly_normNow_3 : dec m_Poly_normNow 3 = .ok (.istore_n 3, 1) := by decide +kernel
theorem d_Poly_normNow_4 : dec m_Poly_normNow 4 = .ok (.iload_n 3, 1) := by decide +kernel
theorem d_Poly_normNow_5 : dec m_Poly_normNow 5 = .ok (.bipush 84, 2) := by decide +kernel
theorem d_Poly_normNow_7 : dec m_Poly_normNow 7 = .ok (.if_icmp .ge 21, 3) := by decide +kernel
theorem d_Poly_normNow_10 : dec m_Poly_normNow 10 = .ok (.lload_n 1, 1) := by decide +kernel
theorem d_Poly_normNow_11 : dec m_Poly_normNow 11 = .ok (.aload_n 0, 1) := by decide +kernel
theorem d_Poly_normNow_12 : dec m_Poly_normNow 12 = .ok (.getfield 9, 3) := by decide +kernel
theorem d_Poly_normNow_15 : dec m_Poly_normNow 15 = .ok (.iload_n 3, 1) := by decide +kernel
theorem d_Poly_normNow_16 : dec m_Poly_normNow 16 = .ok (.laload, 1) := by decide +kernel
theorem d_Poly_normNow_17 : dec m_Poly_normNow 17 = .ok (.invokestatic 39, 3) := by decide +kernel
theorem d_Poly_normNow_20 : dec m_Poly_normNow 20 = .ok (.ladd, 1) := by decide +kernel
theorem d_Poly_normNow_21 : dec m_Poly_normNow 21 = .ok (.lstore_n 1, 1) := by decide +kernel
theorem d_Poly_normNow_22 : dec m_Poly_normNow 22 = .ok (.iinc 3 1, 3) := by decide +kernel
theorem d_Poly_normNow_25 : dec m_Poly_normNow 25 = .ok (.goto (-21), 3) := by decide +kernel
theorem d_Poly_normNow_28 : dec m_Poly_normNow 28 = .ok (.lload_n 1, 1) := by decide +kernel
theorem d_Poly_normNow_29 : dec m_Poly_normNow 29 = .ok (.lreturn, 1) := by decide +kernel
theorem d_Poly_scaleBy_0 : dec m_Poly_scaleBy 0 = .ok (.iconst 0, 1) := by decide +kernel
theorem d_Poly_scaleBy_1 : dec m_Poly_scaleBy 1 = .ok (.istore_n 3, 1) := by decide +kernel
theorem d_Poly_scaleBy_2 : dec m_Poly_scaleBy 2 = .ok (.iload_n 3, 1) := by decide +kernel
theorem d_Poly_scaleBy_3 : dec m_Poly_scaleBy 3 = .ok (.bipush 84, 2) := by decide +kernel
theorem d_Poly_scaleBy_5 : dec m_Poly_scaleBy 5 = .ok (.if_icmp .ge 19, 3) := by decide +kernel
theorem d_Poly_scaleBy_8 : dec m_Poly_scaleBy 8 = .ok (.aload_n 0, 1) := by decide +kernel
theorem d_Poly_scaleBy_9 : dec m_Poly_scaleBy 9 = .ok (.getfield 9, 3) := by decide +kernel
theorem d_Poly_scaleBy_12 : dec m_Poly_scaleBy 12 = .ok (.iload_n 3, 1) := by decide +kernel
theorem d_Poly_scaleBy_13 : dec m_Poly_scaleBy 13 = .ok (.dup2, 1) := by decide +kernel
theorem d_Poly_scaleBy_14 : dec m_Poly_scaleBy 14 = .ok (.laload, 1) := by decide +kernel
theorem d_Poly_scaleBy_15 : dec m_Poly_scaleBy 15 = .ok (.lload_n 1, 1) := by decide +kernel
theorem d_Poly_scaleBy_16 : dec m_Poly_scaleBy 16 = .ok (.lmul, 1) := by decide +kernel
theorem d_Poly_scaleBy_17 : dec m_Poly_scaleBy 17 = .ok (.lastore, 1) := by decide +kernel
theorem d_Poly_scaleBy_18 : dec m_Poly_scaleBy 18 = .ok (.iinc 3 1, 3) := by decide +kernel
theorem d_Poly_scaleBy_21 : dec m_Poly_scaleBy 21 = .ok (.goto (-19), 3) := by decide +kernel
theorem d_Poly_scaleBy_24 : dec m_Poly_scaleBy 24 = .ok (.return_, 1) := by decide +kernel
theorem d_Poly_addMultiple_0 : dec m_Poly_addMultiple 0 = .ok (.iconst 0, 1) := by decide +kernel
theorem d_Poly_addMultiple_1 : dec m_Poly_addMultiple 1 = .ok (.istore 4, 2) := by decide +kernel
theorem d_Poly_addMultiple_3 : dec m_Poly_addMultiple 3 = .ok (.iload 4, 2) := by decide +kernel
theorem d_Poly_addMultiple_5 : dec m_Poly_addMultiple 5 = .ok (.bipush 84, 2) := by decide +kernel
theorem d_Poly_addMultiple_7 : dec m_Poly_addMultiple 7 = .ok (.if_icmp .ge 28, 3) := by decide +kernel
theorem d_Poly_addMultiple_10 : dec m_Poly_addMultiple 10 = .ok (.aload_n 0, 1) := by decide +kernel
theorem d_Poly_addMultiple_11 : dec m_Poly_addMultiple 11 = .ok (.getfield 9, 3) := by decide +kernel
theorem d_Poly_addMultiple_14 : dec m_Poly_addMultiple 14 = .ok (.iload 4, 2) := by decide +kernel
theorem d_Poly_addMultiple_16 : dec m_Poly_addMultiple 16 = .ok (.dup2, 1) := by decide +kernel
theorem d_Poly_addMultiple_17 : dec m_Poly_addMultiple 17 = .ok (.laload, 1) := by decide +kernel
theorem d_Poly_addMultiple_18 : dec m_Poly_addMultiple 18 = .ok (.lload_n 2, 1) := by decide +kernel
theorem d_Poly_addMultiple_19 : dec m_Poly_addMultiple 19 = .ok (.aload_n 1, 1) := by decide +kernel
theorem d_Poly_addMultiple_20 : dec m_Poly_addMultiple 20 = .ok (.getfield 9, 3) := by decide +kernel
theorem d_Poly_addMultiple_23 : dec m_Poly_addMultiple 23 = .ok (.iload 4, 2) := by decide +kernel
theorem d_Poly_addMultiple_25 : dec m_Poly_addMultiple 25 = .ok (.laload, 1) := by decide +kernel
theorem d_Poly_addMultiple_26 : dec m_Poly_addMultiple 26 = .ok (.lmul, 1) := by decide +kernel
theorem d_Poly_addMultiple_27 : dec m_Poly_addMultiple 27 = .ok (.ladd, 1) := by decide +kernel
theorem d_Poly_addMultiple_28 : dec m_Poly_addMultiple 28 = .ok (.lastore, 1) := by decide +kernel
theorem d_Poly_addMultiple_29 : dec m_Poly_addMultiple 29 = .ok (.iinc 4 1, 3) := by decide +kernel
theorem d_Poly_addMultiple_32 : dec m_Poly_addMultiple 32 = .ok (.goto (-29), 3) := by decide +kernel
theorem d_Poly_addMultiple_35 : dec m_Poly_addMultiple 35 = .ok (.return_, 1) := by decide +kernel
theorem d_Poly_multiplyBy_0 : dec m_Poly_multiplyBy 0 = .ok (.bipush 83, 2) := by decide +kernel
theorem d_Poly_multiplyBy_2 : dec m_Poly_multiplyBy 2 = .ok (.istore_n 2, 1) := by decide +kernel
theorem d_Poly_multiplyBy_3 : dec m_Poly_multiplyBy 3 = .ok (.iload_n 2, 1) := by decide +kernel
theorem d_Poly_multiplyBy_4 : dec m_Poly_multiplyBy 4 = .ok (.ifCond .lt 148, 3) := by decide +kernel
theorem d_Poly_multiplyBy_7 : dec m_Poly_multiplyBy 7 = .ok (.aload_n 0, 1) := by decide +kernel
theorem d_Poly_multiplyBy_8 : dec m_Poly_multiplyBy 8 = .ok (.getfield 9, 3) := by decide +kernel
theorem d_Poly_multiplyBy_11 : dec m_Poly_multiplyBy 11 = .ok (.iload_n 2, 1) := by decide +kernel
theorem d_Poly_multiplyBy_12 : dec m_Poly_multiplyBy 12 = .ok (.laload, 1) := by decide +kernel
theorem d_Poly_multiplyBy_13 : dec m_Poly_multiplyBy 13 = .ok (.lstore_n 3, 1) := by decide +kernel
theorem d_Poly_multiplyBy_14 : dec m_Poly_multiplyBy 14 = .ok (.lload_n 3, 1) := by decide +kernel
theorem d_Poly_multiplyBy_15 : dec m_Poly_multiplyBy 15 = .ok (.lconst 0, 1) := by decide +kernel
theorem d_Poly_multiplyBy_16 : dec m_Poly_multiplyBy 16 = .ok (.lcmp, 1) := by decide +kernel
theorem d_Poly_multiplyBy_17 : dec m_Poly_multiplyBy 17 = .ok (.ifCond .eq 129, 3) := by decide +kernel
theorem d_Poly_multiplyBy_20 : dec m_Poly_multiplyBy 20 = .ok (.aload_n 0, 1) := by decide +kernel
theorem d_Poly_multiplyBy_21 : dec m_Poly_multiplyBy 21 = .ok (.getfield 9, 3) := by decide +kernel
theorem d_Poly_multiplyBy_24 : dec m_Poly_multiplyBy 24 = .ok (.iload_n 2, 1) := by decide +kernel
theorem d_Poly_multiplyBy_25 : dec m_Poly_multiplyBy 25 = .ok (.lconst 0, 1) := by decide +kernel
theorem d_Poly_multiplyBy_26 : dec m_Poly_multiplyBy 26 = .ok (.lastore, 1) := by decide +kernel
theorem d_Poly_multiplyBy_27 : dec m_Poly_multiplyBy 27 = .ok (.getstatic 35, 3) := by decide +kernel
theorem d_Poly_multiplyBy_30 : dec m_Poly_multiplyBy 30 = .ok (.iload_n 2, 1) := by decide +kernel
theorem d_Poly_multiplyBy_31 : dec m_Poly_multiplyBy 31 = .ok (.iaload, 1) := by decide +kernel
theorem d_Poly_multiplyBy_32 : dec m_Poly_multiplyBy 32 = .ok (.istore 5, 2) := by decide +kernel
theorem d_Poly_multiplyBy_34 : dec m_Poly_multiplyBy 34 = .ok (.getstatic 45, 3) := by decide +kernel
theorem d_Poly_multiplyBy_37 : dec m_Poly_multiplyBy 37 = .ok (.bipush 6, 2) := by decide +kernel
theorem d_Poly_multiplyBy_39 : dec m_Poly_multiplyBy 39 = .ok (.iload 5, 2) := by decide +kernel
theorem d_Poly_multiplyBy_41 : dec m_Poly_multiplyBy 41 = .ok (.isub, 1) := by decide +kernel
theorem d_Poly_multiplyBy_42 : dec m_Poly_multiplyBy 42 = .ok (.iconst 1, 1) := by decide +kernel
theorem d_Poly_multiplyBy_43 : dec m_Poly_multiplyBy 43 = .ok (.iadd, 1) := by decide +kernel
theorem d_Poly_multiplyBy_44 : dec m_Poly_multiplyBy 44 = .ok (.iaload, 1) := by decide +kernel
theorem d_Poly_multiplyBy_45 : dec m_Poly_multiplyBy 45 = .ok (.istore 6, 2) := by decide +kernel
theorem d_Poly_multiplyBy_47 : dec m_Poly_multiplyBy 47 = .ok (.iconst 0, 1) := by decide +kernel
theorem d_Poly_multiplyBy_48 : dec m_Poly_multiplyBy 48 = .ok (.istore 7, 2) := by decide +kernel
theorem d_Poly_multiplyBy_50 : dec m_Poly_multiplyBy 50 = .ok (.iload 7, 2) := by decide +kernel
theorem d_Poly_multiplyBy_52 : dec m_Poly_multiplyBy 52 = .ok (.iload 6, 2) := by decide +kernel
theorem d_Poly_multiplyBy_54 : dec m_Poly_multiplyBy 54 = .ok (.if_icmp .ge 92, 3) := by decide +kernel
theorem d_Poly_multiplyBy_57 : dec m_Poly_multiplyBy 57 = .ok (.aload_n 1, 1) := by decide +kernel
theorem d_Poly_multiplyBy_58 : dec m_Poly_multiplyBy 58 = .ok (.getfield 9, 3) := by decide +kernel
theorem d_Poly_multiplyBy_61 : dec m_Poly_multiplyBy 61 = .ok (.iload 7, 2) := by decide +kernel
theorem d_Poly_multiplyBy_63 : dec m_Poly_multiplyBy 63 = .ok (.laload, 1) := by decide +kernel
theorem d_Poly_multiplyBy_64 : dec m_Poly_multiplyBy 64 = .ok (.lconst 0, 1) := by decide +kernel
theorem d_Poly_multiplyBy_65 : dec m_Poly_multiplyBy 65 = .ok (.lcmp, 1) := by decide +kernel
theorem d_Poly_multiplyBy_66 : dec m_Poly_multiplyBy 66 = .ok (.ifCond .eq 74, 3) := by decide +kernel
theorem d_Poly_multiplyBy_69 : dec m_Poly_multiplyBy 69 = .ok (.getstatic 48, 3) := by decide +kernel
theorem d_Poly_multiplyBy_72 : dec m_Poly_multiplyBy 72 = .ok (.iload_n 2, 1) := by decide +kernel
theorem d_Poly_multiplyBy_73 : dec m_Poly_multiplyBy 73 = .ok (.iaload, 1) := by decide +kernel
theorem d_Poly_multiplyBy_74 : dec m_Poly_multiplyBy 74 = .ok (.getstatic 48, 3) := by decide +kernel
theorem d_Poly_multiplyBy_77 : dec m_Poly_multiplyBy 77 = .ok (.iload 7, 2) := by decide +kernel
theorem d_Poly_multiplyBy_79 : dec m_Poly_multiplyBy 79 = .ok (.iaload, 1) := by decide +kernel
theorem d_Poly_multiplyBy_80 : dec m_Poly_multiplyBy 80 = .ok (.iadd, 1) := by decide +kernel
theorem d_Poly_multiplyBy_81 : dec m_Poly_multiplyBy 81 = .ok (.istore 8, 2) := by decide +kernel
theorem d_Poly_multiplyBy_83 : dec m_Poly_multiplyBy 83 = .ok (.getstatic 51, 3) := by decide +kernel
theorem d_Poly_multiplyBy_86 : dec m_Poly_multiplyBy 86 = .ok (.iload_n 2, 1) := by decide +kernel
theorem d_Poly_multiplyBy_87 : dec m_Poly_multiplyBy 87 = .ok (.iaload, 1) := by decide +kernel
theorem d_Poly_multiplyBy_88 : dec m_Poly_multiplyBy 88 = .ok (.getstatic 51, 3) := by decide +kernel
theorem d_Poly_multiplyBy_91 : dec m_Poly_multiplyBy 91 = .ok (.iload 7, 2) := by decide +kernel
theorem d_Poly_multiplyBy_93 : dec m_Poly_multiplyBy 93 = .ok (.iaload, 1) := by decide +kernel
theorem d_Poly_multiplyBy_94 : dec m_Poly_multiplyBy 94 = .ok (.iadd, 1) := by decide +kernel
theorem d_Poly_multiplyBy_95 : dec m_Poly_multiplyBy 95 = .ok (.iload 8, 2) := by decide +kernel
theorem d_Poly_multiplyBy_97 : dec m_Poly_multiplyBy 97 = .ok (.iadd, 1) := by decide +kernel
theorem d_Poly_multiplyBy_98 : dec m_Poly_multiplyBy 98 = .ok (.istore 9, 2) := by decide +kernel
theorem d_Poly_multiplyBy_100 : dec m_Poly_multiplyBy 100 = .ok (.aload_n 0, 1) := by decide +kernel
theorem d_Poly_multiplyBy_101 : dec m_Poly_multiplyBy 101 = .ok (.getfield 9, 3) := by decide +kernel
theorem d_Poly_multiplyBy_104 : dec m_Poly_multiplyBy 104 = .ok (.getstatic 45, 3) := by decide +kernel
theorem d_Poly_multiplyBy_107 : dec m_Poly_multiplyBy 107 = .ok (.iload 5, 2) := by decide +kernel
theorem d_Poly_multiplyBy_109 : dec m_Poly_multiplyBy 109 = .ok (.getstatic 35, 3) := by decide +kernel
theorem d_Poly_multiplyBy_112 : dec m_Poly_multiplyBy 112 = .ok (.iload 7, 2) := by decide +kernel
theorem d_Poly_multiplyBy_114 : dec m_Poly_multiplyBy 114 = .ok (.iaload, 1) := by decide +kernel
theorem d_Poly_multiplyBy_115 : dec m_Poly_multiplyBy 115 = .ok (.iadd, 1) := by decide +kernel
theorem d_Poly_multiplyBy_116 : dec m_Poly_multiplyBy 116 = .ok (.iaload, 1) := by decide +kernel
theorem d_Poly_multiplyBy_117 : dec m_Poly_multiplyBy 117 = .ok (.getstatic 54, 3) := by decide +kernel
theorem d_Poly_multiplyBy_120 : dec m_Poly_multiplyBy 120 = .ok (.iload 9, 2) := by decide +kernel
theorem d_Poly_multiplyBy_122 : dec m_Poly_multiplyBy 122 = .ok (.iaload, 1) := by decide +kernel
theorem d_Poly_multiplyBy_123 : dec m_Poly_multiplyBy 123 = .ok (.iadd, 1) := by decide +kernel
theorem d_Poly_multiplyBy_124 : dec m_Poly_multiplyBy 124 = .ok (.iload 8, 2) := by decide +kernel
theorem d_Poly_multiplyBy_126 : dec m_Poly_multiplyBy 126 = .ok (.iadd, 1) := by decide +kernel
theorem d_Poly_multiplyBy_127 : dec m_Poly_multiplyBy 127 = .ok (.dup2, 1) := by decide +kernel
theorem d_Poly_multiplyBy_128 : dec m_Poly_multiplyBy 128 = .ok (.laload, 1) := by decide +kernel
theorem d_Poly_multiplyBy_129 : dec m_Poly_multiplyBy 129 = .ok (.lload_n 3, 1) := by decide +kernel
theorem d_Poly_multiplyBy_130 : dec m_Poly_multiplyBy 130 = .ok (.aload_n 1, 1) := by decide +kernel
theorem d_Poly_multiplyBy_131 : dec m_Poly_multiplyBy 131 = .ok (.getfield 9, 3) := by decide +kernel
theorem d_Poly_multiplyBy_134 : dec m_Poly_multiplyBy 134 = .ok (.iload 7, 2) := by decide +kernel
theorem d_Poly_multiplyBy_136 : dec m_Poly_multiplyBy 136 = .ok (.laload, 1) := by decide +kernel
theorem d_Poly_multiplyBy_137 : dec m_Poly_multiplyBy 137 = .ok (.lmul, 1) := by decide +kernel
theorem d_Poly_multiplyBy_138 : dec m_Poly_multiplyBy 138 = .ok (.ladd, 1) := by decide +kernel
theorem d_Poly_multiplyBy_139 : dec m_Poly_multiplyBy 139 = .ok (.lastore, 1) := by decide +kernel
theorem d_Poly_multiplyBy_140 : dec m_Poly_multiplyBy 140 = .ok (.iinc 7 1, 3) := by decide +kernel
theorem d_Poly_multiplyBy_143 : dec m_Poly_multiplyBy 143 = .ok (.goto (-93), 3) := by decide +kernel
theorem d_Poly_multiplyBy_146 : dec m_Poly_multiplyBy 146 = .ok (.iinc 2 (-1), 3) := by decide +kernel
theorem d_Poly_multiplyBy_149 : dec m_Poly_multiplyBy 149 = .ok (.goto (-146), 3) := by decide +kernel
theorem d_Poly_multiplyBy_152 : dec m_Poly_multiplyBy 152 = .ok (.return_, 1) := by decide +kernel
theorem d_Poly_worth_0 : dec m_Poly_worth 0 = .ok (.lconst 0, 1) := by decide +kernel
theorem d_Poly_worth_1 : dec m_Poly_worth 1 = .ok (.lstore 5, 2) := by decide +kernel
theorem d_Poly_worth_3 : dec m_Poly_worth 3 = .ok (.iconst 0, 1) := by decide +kernel
theorem d_Poly_worth_4 : dec m_Poly_worth 4 = .ok (.istore 7, 2) := by decide +kernel
theorem d_Poly_worth_6 : dec m_Poly_worth 6 = .ok (.iload 7, 2) := by decide +kernel
theorem d_Poly_worth_8 : dec m_Poly_worth 8 = .ok (.bipush 84, 2) := by decide +kernel
theorem d_Poly_worth_10 : dec m_Poly_worth 10 = .ok (.if_icmp .ge 98, 3) := by decide +kernel
theorem d_Poly_worth_13 : dec m_Poly_worth 13 = .ok (.aload_n 0, 1) := by decide +kernel
theorem d_Poly_worth_14 : dec m_Poly_worth 14 = .ok (.getfield 9, 3) := by decide +kernel
theorem d_Poly_worth_17 : dec m_Poly_worth 17 = .ok (.iload 7, 2) := by decide +kernel
theorem d_Poly_worth_19 : dec m_Poly_worth 19 = .ok (.laload, 1) := by decide +kernel
theorem d_Poly_worth_20 : dec m_Poly_worth 20 = .ok (.lconst 0, 1) := by decide +kernel
theorem d_Poly_worth_21 : dec m_Poly_worth 21 = .ok (.lcmp, 1) := by decide +kernel
theorem d_Poly_worth_22 : dec m_Poly_worth 22 = .ok (.ifCond .eq 80, 3) := by decide +kernel
theorem d_Poly_worth_25 : dec m_Poly_worth 25 = .ok (.aload_n 0, 1) := by decide +kernel
theorem d_Poly_worth_26 : dec m_Poly_worth 26 = .ok (.getfield 9, 3) := by decide +kernel
theorem d_Poly_worth_29 : dec m_Poly_worth 29 = .ok (.iload 7, 2) := by decide +kernel
theorem d_Poly_worth_31 : dec m_Poly_worth 31 = .ok (.laload, 1) := by decide +kernel
theorem d_Poly_worth_32 : dec m_Poly_worth 32 = .ok (.iload 4, 2) := by decide +kernel
theorem d_Poly_worth_34 : dec m_Poly_worth 34 = .ok (.i2l, 1) := by decide +kernel
theorem d_Poly_worth_35 : dec m_Poly_worth 35 = .ok (.invokestatic 57, 3) := by decide +kernel
theorem d_Poly_worth_38 : dec m_Poly_worth 38 = .ok (.lstore 8, 2) := by decide +kernel
theorem d_Poly_worth_40 : dec m_Poly_worth 40 = .ok (.lload 8, 2) := by decide +kernel
theorem d_Poly_worth_42 : dec m_Poly_worth 42 = .ok (.iload_n 1, 1) := by decide +kernel
theorem d_Poly_worth_43 : dec m_Poly_worth 43 = .ok (.i2l, 1) := by decide +kernel
theorem d_Poly_worth_44 : dec m_Poly_worth 44 = .ok (.getstatic 61, 3) := by decide +kernel
theorem d_Poly_worth_47 : dec m_Poly_worth 47 = .ok (.iload 7, 2) := by decide +kernel
theorem d_Poly_worth_49 : dec m_Poly_worth 49 = .ok (.iaload, 1) := by decide +kernel
theorem d_Poly_worth_50 : dec m_Poly_worth 50 = .ok (.iload 4, 2) := by decide +kernel
theorem d_Poly_worth_52 : dec m_Poly_worth 52 = .ok (.invokestatic 64, 3) := by decide +kernel
theorem d_Poly_worth_55 : dec m_Poly_worth 55 = .ok (.lstore 8, 2) := by decide +kernel
theorem d_Poly_worth_57 : dec m_Poly_worth 57 = .ok (.lload 8, 2) := by decide +kernel
theorem d_Poly_worth_59 : dec m_Poly_worth 59 = .ok (.iload_n 2, 1) := by decide +kernel
theorem d_Poly_worth_60 : dec m_Poly_worth 60 = .ok (.i2l, 1) := by decide +kernel
theorem d_Poly_worth_61 : dec m_Poly_worth 61 = .ok (.getstatic 51, 3) := by decide +kernel
theorem d_Poly_worth_64 : dec m_Poly_worth 64 = .ok (.iload 7, 2) := by decide +kernel
theorem d_Poly_worth_66 : dec m_Poly_worth 66 = .ok (.iaload, 1) := by decide +kernel
theorem d_Poly_worth_67 : dec m_Poly_worth 67 = .ok (.iload 4, 2) := by decide +kernel
theorem d_Poly_worth_69 : dec m_Poly_worth 69 = .ok (.invokestatic 64, 3) := by decide +kernel
theorem d_Poly_worth_72 : dec m_Poly_worth 72 = .ok (.lstore 8, 2) := by decide +kernel
theorem d_Poly_worth_74 : dec m_Poly_worth 74 = .ok (.lload 8, 2) := by decide +kernel
theorem d_Poly_worth_76 : dec m_Poly_worth 76 = .ok (.iload_n 3, 1) := by decide +kernel
theorem d_Poly_worth_77 : dec m_Poly_worth 77 = .ok (.i2l, 1) := by decide +kernel
theorem d_Poly_worth_78 : dec m_Poly_worth 78 = .ok (.getstatic 48, 3) := by decide +kernel
theorem d_Poly_worth_81 : dec m_Poly_worth 81 = .ok (.iload 7, 2) := by decide +kernel
theorem d_Poly_worth_83 : dec m_Poly_worth 83 = .ok (.iaload, 1) := by decide +kernel
theorem d_Poly_worth_84 : dec m_Poly_worth 84 = .ok (.iload 4, 2) := by decide +kernel
theorem d_Poly_worth_86 : dec m_Poly_worth 86 = .ok (.invokestatic 64, 3) := by decide +kernel
theorem d_Poly_worth_89 : dec m_Poly_worth 89 = .ok (.lstore 8, 2) := by decide +kernel
theorem d_Poly_worth_91 : dec m_Poly_worth 91 = .ok (.lload 5, 2) := by decide +kernel
theorem d_Poly_worth_93 : dec m_Poly_worth 93 = .ok (.lload 8, 2) := by decide +kernel
theorem d_Poly_worth_95 : dec m_Poly_worth 95 = .ok (.ladd, 1) := by decide +kernel
theorem d_Poly_worth_96 : dec m_Poly_worth 96 = .ok (.iload 4, 2) := by decide +kernel
theorem d_Poly_worth_98 : dec m_Poly_worth 98 = .ok (.i2l, 1) := by decide +kernel
theorem d_Poly_worth_99 : dec m_Poly_worth 99 = .ok (.lrem, 1) := by decide +kernel
theorem d_Poly_worth_100 : dec m_Poly_worth 100 = .ok (.lstore 5, 2) := by decide +kernel
theorem d_Poly_worth_102 : dec m_Poly_worth 102 = .ok (.iinc 7 1, 3) := by decide +kernel
theorem d_Poly_worth_105 : dec m_Poly_worth 105 = .ok (.goto (-99), 3) := by decide +kernel
theorem d_Poly_worth_108 : dec m_Poly_worth 108 = .ok (.lload 5, 2) := by decide +kernel
theorem d_Poly_worth_110 : dec m_Poly_worth 110 = .ok (.lreturn, 1) := by decide +kernel
theorem d_Poly_timesPower_0 : dec m_Poly_timesPower 0 = .ok (.lload_n 2, 1) := by decide +kernel
theorem d_Poly_timesPower_1 : dec m_Poly_timesPower 1 = .ok (.iload 5, 2) := by decide +kernel
theorem d_Poly_timesPower_3 : dec m_Poly_timesPower 3 = .ok (.i2l, 1) := by decide +kernel
theorem d_Poly_timesPower_4 : dec m_Poly_timesPower 4 = .ok (.invokestatic 57, 3) := by decide +kernel
theorem d_Poly_timesPower_7 : dec m_Poly_timesPower 7 = .ok (.lstore 6, 2) := by decide +kernel
theorem d_Poly_timesPower_9 : dec m_Poly_timesPower 9 = .ok (.lload_n 0, 1) := by decide +kernel
theorem d_Poly_timesPower_10 : dec m_Poly_timesPower 10 = .ok (.lstore 8, 2) := by decide +kernel
theorem d_Poly_timesPower_12 : dec m_Poly_timesPower 12 = .ok (.iconst 0, 1) := by decide +kernel
theorem d_Poly_timesPower_13 : dec m_Poly_timesPower 13 = .ok (.istore 10, 2) := by decide +kernel
theorem d_Poly_timesPower_15 : dec m_Poly_timesPower 15 = .ok (.iload 10, 2) := by decide +kernel
theorem d_Poly_timesPower_17 : dec m_Poly_timesPower 17 = .ok (.iload 4, 2) := by decide +kernel
theorem d_Poly_timesPower_19 : dec m_Poly_timesPower 19 = .ok (.if_icmp .ge 20, 3) := by decide +kernel
theorem d_Poly_timesPower_22 : dec m_Poly_timesPower 22 = .ok (.lload 8, 2) := by decide +kernel
theorem d_Poly_timesPower_24 : dec m_Poly_timesPower 24 = .ok (.lload 6, 2) := by decide +kernel
theorem d_Poly_timesPower_26 : dec m_Poly_timesPower 26 = .ok (.lmul, 1) := by decide +kernel
theorem d_Poly_timesPower_27 : dec m_Poly_timesPower 27 = .ok (.iload 5, 2) := by decide +kernel
theorem d_Poly_timesPower_29 : dec m_Poly_timesPower 29 = .ok (.i2l, 1) := by decide +kernel
theorem d_Poly_timesPower_30 : dec m_Poly_timesPower 30 = .ok (.lrem, 1) := by decide +kernel
theorem d_Poly_timesPower_31 : dec m_Poly_timesPower 31 = .ok (.lstore 8, 2) := by decide +kernel
theorem d_Poly_timesPower_33 : dec m_Poly_timesPower 33 = .ok (.iinc 10 1, 3) := by decide +kernel
theorem d_Poly_timesPower_36 : dec m_Poly_timesPower 36 = .ok (.goto (-21), 3) := by decide +kernel
theorem d_Poly_timesPower_39 : dec m_Poly_timesPower 39 = .ok (.lload 8, 2) := by decide +kernel
theorem d_Poly_timesPower_41 : dec m_Poly_timesPower 41 = .ok (.lreturn, 1) := by decide +kernel
theorem d_Rank_init_0 : dec m_Rank_init 0 = .ok (.aload_n 0, 1) := by decide +kernel
theorem d_Rank_init_1 : dec m_Rank_init 1 = .ok (.invokespecial 1, 3) := by decide +kernel
theorem d_Rank_init_4 : dec m_Rank_init 4 = .ok (.aload_n 0, 1) := by decide +kernel
theorem d_Rank_init_5 : dec m_Rank_init 5 = .ok (.iconst 0, 1) := by decide +kernel
theorem d_Rank_init_6 : dec m_Rank_init 6 = .ok (.putfield 7, 3) := by decide +kernel
theorem d_Rank_init_9 : dec m_Rank_init 9 = .ok (.aload_n 0, 1) := by decide +kernel
theorem d_Rank_init_10 : dec m_Rank_init 10 = .ok (.bipush 84, 2) := by decide +kernel
theorem d_Rank_init_12 : dec m_Rank_init 12 = .ok (.newarray .int, 2) := by decide +kernel
theorem d_Rank_init_14 : dec m_Rank_init 14 = .ok (.putfield 15, 3) := by decide +kernel
theorem d_Rank_init_17 : dec m_Rank_init 17 = .ok (.aload_n 0, 1) := by decide +kernel
theorem d_Rank_init_18 : dec m_Rank_init 18 = .ok (.iconst 0, 1) := by decide +kernel
theorem d_Rank_init_19 : dec m_Rank_init 19 = .ok (.invokevirtual 19, 3) := by decide +kernel
theorem d_Rank_init_22 : dec m_Rank_init 22 = .ok (.return_, 1) := by decide +kernel
theorem d_Rank_become_0 : dec m_Rank_become 0 = .ok (.aload_n 0, 1) := by decide +kernel
theorem d_Rank_become_1 : dec m_Rank_become 1 = .ok (.iload_n 1, 1) := by decide +kernel
theorem d_Rank_become_2 : dec m_Rank_become 2 = .ok (.putfield 7, 3) := by decide +kernel
theorem d_Rank_become_5 : dec m_Rank_become 5 = .ok (.iconst 0, 1) := by decide +kernel
theorem d_Rank_become_6 : dec m_Rank_become 6 = .ok (.istore_n 2, 1) := by decide +kernel
theorem d_Rank_become_7 : dec m_Rank_become 7 = .ok (.iload_n 2, 1) := by decide +kernel
theorem d_Rank_become_8 : dec m_Rank_become 8 = .ok (.bipush 84, 2) := by decide +kernel
theorem d_Rank_become_10 : dec m_Rank_become 10 = .ok (.if_icmp .ge 115, 3) := by decide +kernel
theorem d_Rank_become_13 : dec m_Rank_become 13 = .ok (.getstatic 23, 3) := by decide +kernel
theorem d_Rank_become_16 : dec m_Rank_become 16 = .ok (.iload_n 2, 1) := by decide +kernel
theorem d_Rank_become_17 : dec m_Rank_become 17 = .ok (.iaload, 1) := by decide +kernel
theorem d_Rank_become_18 : dec m_Rank_become 18 = .ok (.istore_n 3, 1) := by decide +kernel
theorem d_Rank_become_19 : dec m_Rank_become 19 = .ok (.getstatic 26, 3) := by decide +kernel
theorem d_Rank_become_22 : dec m_Rank_become 22 = .ok (.iload_n 3, 1) := by decide +kernel
theorem d_Rank_become_23 : dec m_Rank_become 23 = .ok (.iconst 1, 1) := by decide +kernel
theorem d_Rank_become_24 : dec m_Rank_become 24 = .ok (.iadd, 1) := by decide +kernel
theorem d_Rank_become_25 : dec m_Rank_become 25 = .ok (.iaload, 1) := by decide +kernel
theorem d_Rank_become_26 : dec m_Rank_become 26 = .ok (.iconst 1, 1) := by decide +kernel
theorem d_Rank_become_27 : dec m_Rank_become 27 = .ok (.isub, 1) := by decide +kernel
theorem d_Rank_become_28 : dec m_Rank_become 28 = .ok (.istore 4, 2) := by decide +kernel
theorem d_Rank_become_30 : dec m_Rank_become 30 = .ok (.getstatic 29, 3) := by decide +kernel
theorem d_Rank_become_33 : dec m_Rank_become 33 = .ok (.getstatic 32, 3) := by decide +kernel
theorem d_Rank_become_36 : dec m_Rank_become 36 = .ok (.iload_n 2, 1) := by decide +kernel
theorem d_Rank_become_37 : dec m_Rank_become 37 = .ok (.iaload, 1) := by decide +kernel
theorem d_Rank_become_38 : dec m_Rank_become 38 = .ok (.getstatic 35, 3) := by decide +kernel
theorem d_Rank_become_41 : dec m_Rank_become 41 = .ok (.iload_n 2, 1) := by decide +kernel
theorem d_Rank_become_42 : dec m_Rank_become 42 = .ok (.iaload, 1) := by decide +kernel
theorem d_Rank_become_43 : dec m_Rank_become 43 = .ok (.iadd, 1) := by decide +kernel
theorem d_Rank_become_44 : dec m_Rank_become 44 = .ok (.iaload, 1) := by decide +kernel
theorem d_Rank_become_45 : dec m_Rank_become 45 = .ok (.getstatic 32, 3) := by decide +kernel
theorem d_Rank_become_48 : dec m_Rank_become 48 = .ok (.iload_n 2, 1) := by decide +kernel
theorem d_Rank_become_49 : dec m_Rank_become 49 = .ok (.iaload, 1) := by decide +kernel
theorem d_Rank_become_50 : dec m_Rank_become 50 = .ok (.iadd, 1) := by decide +kernel
theorem d_Rank_become_51 : dec m_Rank_become 51 = .ok (.istore 5, 2) := by decide +kernel
theorem d_Rank_become_53 : dec m_Rank_become 53 = .ok (.getstatic 29, 3) := by decide +kernel
theorem d_Rank_become_56 : dec m_Rank_become 56 = .ok (.getstatic 35, 3) := by decide +kernel
theorem d_Rank_become_59 : dec m_Rank_become 59 = .ok (.iload_n 2, 1) := by decide +kernel
theorem d_Rank_become_60 : dec m_Rank_become 60 = .ok (.iaload, 1) := by decide +kernel
theorem d_Rank_become_61 : dec m_Rank_become 61 = .ok (.getstatic 38, 3) := by decide +kernel
theorem d_Rank_become_64 : dec m_Rank_become 64 = .ok (.iload_n 2, 1) := by decide +kernel
theorem d_Rank_become_65 : dec m_Rank_become 65 = .ok (.iaload, 1) := by decide +kernel
theorem d_Rank_become_66 : dec m_Rank_become 66 = .ok (.iadd, 1) := by decide +kernel
theorem d_Rank_become_67 : dec m_Rank_become 67 = .ok (.iaload, 1) := by decide +kernel
theorem d_Rank_become_68 : dec m_Rank_become 68 = .ok (.getstatic 38, 3) := by decide +kernel
theorem d_Rank_become_71 : dec m_Rank_become 71 = .ok (.iload_n 2, 1) := by decide +kernel
theorem d_Rank_become_72 : dec m_Rank_become 72 = .ok (.iaload, 1) := by decide +kernel
theorem d_Rank_become_73 : dec m_Rank_become 73 = .ok (.iadd, 1) := by decide +kernel
theorem d_Rank_become_74 : dec m_Rank_become 74 = .ok (.istore 6, 2) := by decide +kernel
theorem d_Rank_become_76 : dec m_Rank_become 76 = .ok (.iload_n 1, 1) := by decide +kernel
theorem d_Rank_become_77 : dec m_Rank_become 77 = .ok (.ifCond .ne 11, 3) := by decide +kernel
theorem d_Rank_become_80 : dec m_Rank_become 80 = .ok (.iload 4, 2) := by decide +kernel
theorem d_Rank_become_82 : dec m_Rank_become 82 = .ok (.iload 6, 2) := by decide +kernel
theorem d_Rank_become_84 : dec m_Rank_become 84 = .ok (.isub, 1) := by decide +kernel
theorem d_Rank_become_85 : dec m_Rank_become 85 = .ok (.goto 24, 3) := by decide +kernel
theorem d_Rank_become_88 : dec m_Rank_become 88 = .ok (.iload_n 1, 1) := by decide +kernel
theorem d_Rank_become_89 : dec m_Rank_become 89 = .ok (.iconst 1, 1) := by decide +kernel
theorem d_Rank_become_90 : dec m_Rank_become 90 = .ok (.if_icmp .ne 14, 3) := by decide +kernel
theorem d_Rank_become_93 : dec m_Rank_become 93 = .ok (.getstatic 26, 3) := by decide +kernel
theorem d_Rank_become_96 : dec m_Rank_become 96 = .ok (.iload_n 3, 1) := by decide +kernel
theorem d_Rank_become_97 : dec m_Rank_become 97 = .ok (.iaload, 1) := by decide +kernel
theorem d_Rank_become_98 : dec m_Rank_become 98 = .ok (.iload 5, 2) := by decide +kernel
theorem d_Rank_become_100 : dec m_Rank_become 100 = .ok (.iadd, 1) := by decide +kernel
theorem d_Rank_become_101 : dec m_Rank_become 101 = .ok (.goto 8, 3) := by decide +kernel
theorem d_Rank_become_104 : dec m_Rank_become 104 = .ok (.iload 4, 2) := by decide +kernel
theorem d_Rank_become_106 : dec m_Rank_become 106 = .ok (.iload 5, 2) := by decide +kernel
theorem d_Rank_become_108 : dec m_Rank_become 108 = .ok (.isub, 1) := by decide +kernel
theorem d_Rank_become_109 : dec m_Rank_become 109 = .ok (.istore 7, 2) := by decide +kernel
theorem d_Rank_become_111 : dec m_Rank_become 111 = .ok (.aload_n 0, 1) := by decide +kernel
theorem d_Rank_become_112 : dec m_Rank_become 112 = .ok (.getfield 15, 3) := by decide +kernel
theorem d_Rank_become_115 : dec m_Rank_become 115 = .ok (.iload 7, 2) := by decide +kernel
theorem d_Rank_become_117 : dec m_Rank_become 117 = .ok (.iload_n 2, 1) := by decide +kernel
theorem d_Rank_become_118 : dec m_Rank_become 118 = .ok (.iastore, 1) := by decide +kernel
theorem d_Rank_become_119 : dec m_Rank_become 119 = .ok (.iinc 2 1, 3) := by decide +kernel
theorem d_Rank_become_122 : dec m_Rank_become 122 = .ok (.goto (-115), 3) := by decide +kernel
theorem d_Rank_become_125 : dec m_Rank_become 125 = .ok (.return_, 1) := by decide +kernel
theorem d_Rank_leadOf_0 : dec m_Rank_leadOf 0 = .ok (.bipush 83, 2) := by decide +kernel
theorem d_Rank_leadOf_2 : dec m_Rank_leadOf 2 = .ok (.istore_n 2, 1) := by decide +kernel
theorem d_Rank_leadOf_3 : dec m_Rank_leadOf 3 = .ok (.iload_n 2, 1) := by decide +kernel
theorem d_Rank_leadOf_4 : dec m_Rank_leadOf 4 = .ok (.ifCond .lt 32, 3) := by decide +kernel
theorem d_Rank_leadOf_7 : dec m_Rank_leadOf 7 = .ok (.aload_n 1, 1) := by decide +kernel
theorem d_Rank_leadOf_8 : dec m_Rank_leadOf 8 = .ok (.getfield 41, 3) := by decide +kernel
theorem d_Rank_leadOf_11 : dec m_Rank_leadOf 11 = .ok (.aload_n 0, 1) := by decide +kernel
theorem d_Rank_leadOf_12 : dec m_Rank_leadOf 12 = .ok (.getfield 15, 3) := by decide +kernel
theorem d_Rank_leadOf_15 : dec m_Rank_leadOf 15 = .ok (.iload_n 2, 1) := by decide +kernel
theorem d_Rank_leadOf_16 : dec m_Rank_leadOf 16 = .ok (.iaload, 1) := by decide +kernel
theorem d_Rank_leadOf_17 : dec m_Rank_leadOf 17 = .ok (.laload, 1) := by decide +kernel
theorem d_Rank_leadOf_18 : dec m_Rank_leadOf 18 = .ok (.lconst 0, 1) := by decide +kernel
theorem d_Rank_leadOf_19 : dec m_Rank_leadOf 19 = .ok (.lcmp, 1) := by decide +kernel
theorem d_Rank_leadOf_20 : dec m_Rank_leadOf 20 = .ok (.ifCond .eq 10, 3) := by decide +kernel
theorem d_Rank_leadOf_23 : dec m_Rank_leadOf 23 = .ok (.aload_n 0, 1) := by decide +kernel
theorem d_Rank_leadOf_24 : dec m_Rank_leadOf 24 = .ok (.getfield 15, 3) := by decide +kernel
theorem d_Rank_leadOf_27 : dec m_Rank_leadOf 27 = .ok (.iload_n 2, 1) := by decide +kernel
theorem d_Rank_leadOf_28 : dec m_Rank_leadOf 28 = .ok (.iaload, 1) := by decide +kernel
theorem d_Rank_leadOf_29 : dec m_Rank_leadOf 29 = .ok (.ireturn, 1) := by decide +kernel
theorem d_Rank_leadOf_30 : dec m_Rank_leadOf 30 = .ok (.iinc 2 (-1), 3) := by decide +kernel
theorem d_Rank_leadOf_33 : dec m_Rank_leadOf 33 = .ok (.goto (-30), 3) := by decide +kernel
theorem d_Rank_leadOf_36 : dec m_Rank_leadOf 36 = .ok (.iconst (-1), 1) := by decide +kernel
theorem d_Rank_leadOf_37 : dec m_Rank_leadOf 37 = .ok (.ireturn, 1) := by decide +kernel
theorem d_Rel_init_0 : dec m_Rel_init 0 = .ok (.aload_n 0, 1) := by decide +kernel
theorem d_Rel_init_1 : dec m_Rel_init 1 = .ok (.invokespecial 1, 3) := by decide +kernel
theorem d_Rel_init_4 : dec m_Rel_init 4 = .ok (.aload_n 0, 1) := by decide +kernel
theorem d_Rel_init_5 : dec m_Rel_init 5 = .ok (.sipush 344, 3) := by decide +kernel
theorem d_Rel_init_8 : dec m_Rel_init 8 = .ok (.newarray .int, 2) := by decide +kernel
theorem d_Rel_init_10 : dec m_Rel_init 10 = .ok (.putfield 9, 3) := by decide +kernel
theorem d_Rel_init_13 : dec m_Rel_init 13 = .ok (.aload_n 0, 1) := by decide +kernel
theorem d_Rel_init_14 : dec m_Rel_init 14 = .ok (.sipush 344, 3) := by decide +kernel
theorem d_Rel_init_17 : dec m_Rel_init 17 = .ok (.newarray .int, 2) := by decide +kernel
theorem d_Rel_init_19 : dec m_Rel_init 19 = .ok (.putfield 15, 3) := by decide +kernel
theorem d_Rel_init_22 : dec m_Rel_init 22 = .ok (.aload_n 0, 1) := by decide +kernel
theorem d_Rel_init_23 : dec m_Rel_init 23 = .ok (.bipush 7, 2) := by decide +kernel
theorem d_Rel_init_25 : dec m_Rel_init 25 = .ok (.newarray .int, 2) := by decide +kernel
theorem d_Rel_init_27 : dec m_Rel_init 27 = .ok (.putfield 20, 3) := by decide +kernel
theorem d_Rel_init_30 : dec m_Rel_init 30 = .ok (.aload_n 0, 1) := by decide +kernel
theorem d_Rel_init_31 : dec m_Rel_init 31 = .ok (.bipush 7, 2) := by decide +kernel
theorem d_Rel_init_33 : dec m_Rel_init 33 = .ok (.newarray .int, 2) := by decide +kernel
theorem d_Rel_init_35 : dec m_Rel_init 35 = .ok (.putfield 25, 3) := by decide +kernel
theorem d_Rel_init_38 : dec m_Rel_init 38 = .ok (.aload_n 0, 1) := by decide +kernel
theorem d_Rel_init_39 : dec m_Rel_init 39 = .ok (.bipush 7, 2) := by decide +kernel
theorem d_Rel_init_41 : dec m_Rel_init 41 = .ok (.newarray .int, 2) := by decide +kernel
theorem d_Rel_init_43 : dec m_Rel_init 43 = .ok (.putfield 28, 3) := by decide +kernel
theorem d_Rel_init_46 : dec m_Rel_init 46 = .ok (.return_, 1) := by decide +kernel
theorem d_Rel_countTo_0 : dec m_Rel_countTo 0 = .ok (.aload_n 0, 1) := by decide +kernel
theorem d_Rel_countTo_1 : dec m_Rel_countTo 1 = .ok (.getfield 20, 3) := by decide +kernel
theorem d_Rel_countTo_4 : dec m_Rel_countTo 4 = .ok (.iload_n 1, 1) := by decide +kernel
theorem d_Rel_countTo_5 : dec m_Rel_countTo 5 = .ok (.iaload, 1) := by decide +kernel
theorem d_Rel_countTo_6 : dec m_Rel_countTo 6 = .ok (.ireturn, 1) := by decide +kernel
theorem d_Rel_build_0 : dec m_Rel_build 0 = .ok (.iconst 0, 1) := by decide +kernel
theorem d_Rel_build_1 : dec m_Rel_build 1 = .ok (.istore_n 3, 1) := by decide +kernel
theorem d_Rel_build_2 : dec m_Rel_build 2 = .ok (.iconst 0, 1) := by decide +kernel
theorem d_Rel_build_3 : dec m_Rel_build 3 = .ok (.istore 4, 2) := by decide +kernel
theorem d_Rel_build_5 : dec m_Rel_build 5 = .ok (.iload 4, 2) := by decide +kernel
theorem d_Rel_build_7 : dec m_Rel_build 7 = .ok (.bipush 84, 2) := by decide +kernel
theorem d_Rel_build_9 : dec m_Rel_build 9 = .ok (.if_icmp .ge 90, 3) := by decide +kernel
theorem d_Rel_build_12 : dec m_Rel_build 12 = .ok (.aload_n 2, 1) := by decide +kernel
theorem d_Rel_build_13 : dec m_Rel_build 13 = .ok (.getfield 31, 3) := by decide +kernel
theorem d_Rel_build_16 : dec m_Rel_build 16 = .ok (.iload 4, 2) := by decide +kernel
theorem d_Rel_build_18 : dec m_Rel_build 18 = .ok (.iaload, 1) := by decide +kernel
theorem d_Rel_build_19 : dec m_Rel_build 19 = .ok (.istore 5, 2) := by decide +kernel
theorem d_Rel_build_21 : dec m_Rel_build 21 = .ok (.aload_n 0, 1) := by decide +kernel
theorem d_Rel_build_22 : dec m_Rel_build 22 = .ok (.aload_n 1, 1) := by decide +kernel
theorem d_Rel_build_23 : dec m_Rel_build 23 = .ok (.iload 5, 2) := by decide +kernel
theorem d_Rel_build_25 : dec m_Rel_build 25 = .ok (.invokevirtual 36, 3) := by decide +kernel
theorem d_Rel_build_28 : dec m_Rel_build 28 = .ok (.istore 6, 2) := by decide +kernel
theorem d_Rel_build_30 : dec m_Rel_build 30 = .ok (.iconst 1, 1) := by decide +kernel
theorem d_Rel_build_31 : dec m_Rel_build 31 = .ok (.istore 7, 2) := by decide +kernel
theorem d_Rel_build_33 : dec m_Rel_build 33 = .ok (.iload 7, 2) := by decide +kernel
theorem d_Rel_build_35 : dec m_Rel_build 35 = .ok (.iload 6, 2) := by decide +kernel
theorem d_Rel_build_37 : dec m_Rel_build 37 = .ok (.if_icmp .ge 44, 3) := by decide +kernel
theorem d_Rel_build_40 : dec m_Rel_build 40 = .ok (.iload_n 3, 1) := by decide +kernel
theorem d_Rel_build_41 : dec m_Rel_build 41 = .ok (.sipush 344, 3) := by decide +kernel
theorem d_Rel_build_44 : dec m_Rel_build 44 = .ok (.if_icmp .ge 37, 3) := by decide +kernel
theorem d_Rel_build_47 : dec m_Rel_build 47 = .ok (.aload_n 0, 1) := by decide +kernel
theorem d_Rel_build_48 : dec m_Rel_build 48 = .ok (.getfield 9, 3) := by decide +kernel
theorem d_Rel_build_51 : dec m_Rel_build 51 = .ok (.iload_n 3, 1) := by decide +kernel
theorem d_Rel_build_52 : dec m_Rel_build 52 = .ok (.aload_n 0, 1) := by decide +kernel
theorem d_Rel_build_53 : dec m_Rel_build 53 = .ok (.getfield 28, 3) := by decide +kernel
theorem d_Rel_build_56 : dec m_Rel_build 56 = .ok (.iconst 0, 1) := by decide +kernel
theorem d_Rel_build_57 : dec m_Rel_build 57 = .ok (.iaload, 1) := by decide +kernel
theorem d_Rel_build_58 : dec m_Rel_build 58 = .ok (.iastore, 1) := by decide +kernel
theorem d_Rel_build_59 : dec m_Rel_build 59 = .ok (.aload_n 0, 1) := by decide +kernel
theorem d_Rel_build_60 : dec m_Rel_build 60 = .ok (.getfield 15, 3) := by decide +kernel
theorem d_Rel_build_63 : dec m_Rel_build 63 = .ok (.iload_n 3, 1) := by decide +kernel
theorem d_Rel_build_64 : dec m_Rel_build 64 = .ok (.aload_n 0, 1) := by decide +kernel
theorem d_Rel_build_65 : dec m_Rel_build 65 = .ok (.getfield 28, 3) := by decide +kernel
theorem d_Rel_build_68 : dec m_Rel_build 68 = .ok (.iload 7, 2) := by decide +kernel
theorem d_Rel_build_70 : dec m_Rel_build 70 = .ok (.iaload, 1) := by decide +kernel
theorem d_Rel_build_71 : dec m_Rel_build 71 = .ok (.iastore, 1) := by decide +kernel
theorem d_Rel_build_72 : dec m_Rel_build 72 = .ok (.iinc 3 1, 3) := by decide +kernel
theorem d_Rel_build_75 : dec m_Rel_build 75 = .ok (.iinc 7 1, 3) := by decide +kernel
theorem d_Rel_build_78 : dec m_Rel_build 78 = .ok (.goto (-45), 3) := by decide +kernel
theorem d_Rel_build_81 : dec m_Rel_build 81 = .ok (.aload_n 0, 1) := by decide +kernel
theorem d_Rel_build_82 : dec m_Rel_build 82 = .ok (.getfield 20, 3) := by decide +kernel
theorem d_Rel_build_85 : dec m_Rel_build 85 = .ok (.getstatic 40, 3) := by decide +kernel
theorem d_Rel_build_88 : dec m_Rel_build 88 = .ok (.iload 5, 2) := by decide +kernel
theorem d_Rel_build_90 : dec m_Rel_build 90 = .ok (.iaload, 1) := by decide +kernel
theorem d_Rel_build_91 : dec m_Rel_build 91 = .ok (.iload_n 3, 1) := by decide +kernel
theorem d_Rel_build_92 : dec m_Rel_build 92 = .ok (.iastore, 1) := by decide +kernel
theorem d_Rel_build_93 : dec m_Rel_build 93 = .ok (.iinc 4 1, 3) := by decide +kernel
theorem d_Rel_build_96 : dec m_Rel_build 96 = .ok (.goto (-91), 3) := by decide +kernel
theorem d_Rel_build_99 : dec m_Rel_build 99 = .ok (.return_, 1) := by decide +kernel
theorem d_Rel_findGroups_0 : dec m_Rel_findGroups 0 = .ok (.iconst 0, 1) := by decide +kernel
theorem d_Rel_findGroups_1 : dec m_Rel_findGroups 1 = .ok (.istore_n 3, 1) := by decide +kernel
theorem d_Rel_findGroups_2 : dec m_Rel_findGroups 2 = .ok (.aload_n 1, 1) := by decide +kernel
theorem d_Rel_findGroups_3 : dec m_Rel_findGroups 3 = .ok (.iload_n 2, 1) := by decide +kernel
theorem d_Rel_findGroups_4 : dec m_Rel_findGroups 4 = .ok (.invokevirtual 43, 3) := by decide +kernel
theorem d_Rel_findGroups_7 : dec m_Rel_findGroups 7 = .ok (.istore 4, 2) := by decide +kernel
theorem d_Rel_findGroups_9 : dec m_Rel_findGroups 9 = .ok (.iconst 0, 1) := by decide +kernel
theorem d_Rel_findGroups_10 : dec m_Rel_findGroups 10 = .ok (.istore 5, 2) := by decide +kernel
theorem d_Rel_findGroups_12 : dec m_Rel_findGroups 12 = .ok (.iload 5, 2) := by decide +kernel
theorem d_Rel_findGroups_14 : dec m_Rel_findGroups 14 = .ok (.iload 4, 2) := by decide +kernel
theorem d_Rel_findGroups_16 : dec m_Rel_findGroups 16 = .ok (.if_icmp .ge 22, 3) := by decide +kernel
theorem d_Rel_findGroups_19 : dec m_Rel_findGroups 19 = .ok (.aload_n 0, 1) := by decide +kernel
theorem d_Rel_findGroups_20 : dec m_Rel_findGroups 20 = .ok (.aload_n 1, 1) := by decide +kernel
theorem d_Rel_findGroups_21 : dec m_Rel_findGroups 21 = .ok (.iload_n 2, 1) := by decide +kernel
theorem d_Rel_findGroups_22 : dec m_Rel_findGroups 22 = .ok (.iload 5, 2) := by decide +kernel
theorem d_Rel_findGroups_24 : dec m_Rel_findGroups 24 = .ok (.invokevirtual 47, 3) := by decide +kernel
theorem d_Rel_findGroups_27 : dec m_Rel_findGroups 27 = .ok (.iload_n 3, 1) := by decide +kernel
theorem d_Rel_findGroups_28 : dec m_Rel_findGroups 28 = .ok (.invokevirtual 51, 3) := by decide +kernel
theorem d_Rel_findGroups_31 : dec m_Rel_findGroups 31 = .ok (.istore_n 3, 1) := by decide +kernel
theorem d_Rel_findGroups_32 : dec m_Rel_findGroups 32 = .ok (.iinc 5 1, 3) := by decide +kernel
theorem d_Rel_findGroups_35 : dec m_Rel_findGroups 35 = .ok (.goto (-23), 3) := by decide +kernel
theorem d_Rel_findGroups_38 : dec m_Rel_findGroups 38 = .ok (.iload_n 3, 1) := by decide +kernel
theorem d_Rel_findGroups_39 : dec m_Rel_findGroups 39 = .ok (.ireturn, 1) := by decide +kernel
theorem d_Rel_join_0 : dec m_Rel_join 0 = .ok (.iload_n 1, 1) := by decide +kernel
theorem d_Rel_join_1 : dec m_Rel_join 1 = .ok (.invokestatic 54, 3) := by decide +kernel
theorem d_Rel_join_4 : dec m_Rel_join 4 = .ok (.istore_n 3, 1) := by decide +kernel
theorem d_Rel_join_5 : dec m_Rel_join 5 = .ok (.iconst (-1), 1) := by decide +kernel
theorem d_Rel_join_6 : dec m_Rel_join 6 = .ok (.istore 4, 2) := by decide +kernel
theorem d_Rel_join_8 : dec m_Rel_join 8 = .ok (.iconst 0, 1) := by decide +kernel
theorem d_Rel_join_9 : dec m_Rel_join 9 = .ok (.istore 5, 2) := by decide +kernel
theorem d_Rel_join_11 : dec m_Rel_join 11 = .ok (.iconst 0, 1) := by decide +kernel
theorem d_Rel_join_12 : dec m_Rel_join 12 = .ok (.istore 6, 2) := by decide +kernel
theorem d_Rel_join_14 : dec m_Rel_join 14 = .ok (.iload 6, 2) := by decide +kernel
theorem d_Rel_join_16 : dec m_Rel_join 16 = .ok (.iload_n 2, 1) := by decide +kernel
theorem d_Rel_join_17 : dec m_Rel_join 17 = .ok (.if_icmp .ge 120, 3) := by decide +kernel
theorem d_Rel_join_20 : dec m_Rel_join 20 = .ok (.aload_n 0, 1) := by decide +kernel
theorem d_Rel_join_21 : dec m_Rel_join 21 = .ok (.getfield 25, 3) := by decide +kernel
theorem d_Rel_join_24 : dec m_Rel_join 24 = .ok (.iload 6, 2) := by decide +kernel
theorem d_Rel_join_26 : dec m_Rel_join 26 = .ok (.iaload, 1) := by decide +kernel
theorem d_Rel_join_27 : dec m_Rel_join 27 = .ok (.iload_n 3, 1) := by decide +kernel
theorem d_Rel_join_28 : dec m_Rel_join 28 = .ok (.iand, 1) := by decide +kernel
theorem d_Rel_join_29 : dec m_Rel_join 29 = .ok (.ifCond .eq 7, 3) := by decide +kernel
theorem d_Rel_join_32 : dec m_Rel_join 32 = .ok (.iconst 1, 1) := by decide +kernel
theorem d_Rel_join_33 : dec m_Rel_join 33 = .ok (.goto 4, 3) := by decide +kernel
theorem d_Rel_join_36 : dec m_Rel_join 36 = .ok (.iconst 0, 1) := by decide +kernel
theorem d_Rel_join_37 : dec m_Rel_join 37 = .ok (.istore 7, 2) := by decide +kernel
theorem d_Rel_join_39 : dec m_Rel_join 39 = .ok (.iload 7, 2) := by decide +kernel
theorem d_Rel_join_41 : dec m_Rel_join 41 = .ok (.ifCond .eq 28, 3) := by decide +kernel
theorem d_Rel_join_44 : dec m_Rel_join 44 = .ok (.iload 4, 2) := by decide +kernel
theorem d_Rel_join_46 : dec m_Rel_join 46 = .ok (.ifCond .lt 23, 3) := by decide +kernel
theorem d_Rel_join_49 : dec m_Rel_join 49 = .ok (.aload_n 0, 1) := by decide +kernel
theorem d_Rel_join_50 : dec m_Rel_join 50 = .ok (.getfield 25, 3) := by decide +kernel
theorem d_Rel_join_53 : dec m_Rel_join 53 = .ok (.iload 4, 2) := by decide +kernel
theorem d_Rel_join_55 : dec m_Rel_join 55 = .ok (.dup2, 1) := by decide +kernel
theorem d_Rel_join_56 : dec m_Rel_join 56 = .ok (.iaload, 1) := by decide +kernel
theorem d_Rel_join_57 : dec m_Rel_join 57 = .ok (.aload_n 0, 1) := by decide +kernel
theorem d_Rel_join_58 : dec m_Rel_join 58 = .ok (.getfield 25, 3) := by decide +kernel
theorem d_Rel_join_61 : dec m_Rel_join 61 = .ok (.iload 6, 2) := by decide +kernel
theorem d_Rel_join_63 : dec m_Rel_join 63 = .ok (.iaload, 1) := by decide +kernel
theorem d_Rel_join_64 : dec m_Rel_join 64 = .ok (.ior, 1) := by decide +kernel
theorem d_Rel_join_65 : dec m_Rel_join 65 = .ok (.iastore, 1) := by decide +kernel
theorem d_Rel_join_66 : dec m_Rel_join 66 = .ok (.goto 65, 3) := by decide +kernel
theorem d_Rel_join_69 : dec m_Rel_join 69 = .ok (.aload_n 0, 1) := by decide +kernel
theorem d_Rel_join_70 : dec m_Rel_join 70 = .ok (.getfield 25, 3) := by decide +kernel
theorem d_Rel_join_73 : dec m_Rel_join 73 = .ok (.iload 5, 2) := by decide +kernel
theorem d_Rel_join_75 : dec m_Rel_join 75 = .ok (.iload 7, 2) := by decide +kernel
theorem d_Rel_join_77 : dec m_Rel_join 77 = .ok (.ifCond .eq 15, 3) := by decide +kernel
theorem d_Rel_join_80 : dec m_Rel_join 80 = .ok (.aload_n 0, 1) := by decide +kernel
theorem d_Rel_join_81 : dec m_Rel_join 81 = .ok (.getfield 25, 3) := by decide +kernel
theorem d_Rel_join_84 : dec m_Rel_join 84 = .ok (.iload 6, 2) := by decide +kernel
theorem d_Rel_join_86 : dec m_Rel_join 86 = .ok (.iaload, 1) := by decide +kernel
theorem d_Rel_join_87 : dec m_Rel_join 87 = .ok (.iload_n 3, 1) := by decide +kernel
theorem d_Rel_join_88 : dec m_Rel_join 88 = .ok (.ior, 1) := by decide +kernel
theorem d_Rel_join_89 : dec m_Rel_join 89 = .ok (.goto 10, 3) := by decide +kernel
theorem d_Rel_join_92 : dec m_Rel_join 92 = .ok (.aload_n 0, 1) := by decide +kernel
theorem d_Rel_join_93 : dec m_Rel_join 93 = .ok (.getfield 25, 3) := by decide +kernel
theorem d_Rel_join_96 : dec m_Rel_join 96 = .ok (.iload 6, 2) := by decide +kernel
theorem d_Rel_join_98 : dec m_Rel_join 98 = .ok (.iaload, 1) := by decide +kernel
theorem d_Rel_join_99 : dec m_Rel_join 99 = .ok (.iastore, 1) := by decide +kernel
theorem d_Rel_join_100 : dec m_Rel_join 100 = .ok (.aload_n 0, 1) := by decide +kernel
theorem d_Rel_join_101 : dec m_Rel_join 101 = .ok (.getfield 28, 3) := by decide +kernel
theorem d_Rel_join_104 : dec m_Rel_join 104 = .ok (.iload 5, 2) := by decide +kernel
theorem d_Rel_join_106 : dec m_Rel_join 106 = .ok (.aload_n 0, 1) := by decide +kernel
theorem d_Rel_join_107 : dec m_Rel_join 107 = .ok (.getfield 28, 3) := by decide +kernel
theorem d_Rel_join_110 : dec m_Rel_join 110 = .ok (.iload 6, 2) := by decide +kernel
theorem d_Rel_join_112 : dec m_Rel_join 112 = .ok (.iaload, 1) := by decide +kernel
theorem d_Rel_join_113 : dec m_Rel_join 113 = .ok (.iastore, 1) := by decide +kernel
theorem d_Rel_join_114 : dec m_Rel_join 114 = .ok (.iload 7, 2) := by decide +kernel
theorem d_Rel_join_116 : dec m_Rel_join 116 = .ok (.ifCond .eq 8, 3) := by decide +kernel
theorem d_Rel_join_119 : dec m_Rel_join 119 = .ok (.iload 5, 2) := by decide +kernel
theorem d_Rel_join_121 : dec m_Rel_join 121 = .ok (.goto 5, 3) := by decide +kernel
theorem d_Rel_join_124 : dec m_Rel_join 124 = .ok (.iload 4, 2) := by decide +kernel
theorem d_Rel_join_126 : dec m_Rel_join 126 = .ok (.istore 4, 2) := by decide +kernel
theorem d_Rel_join_128 : dec m_Rel_join 128 = .ok (.iinc 5 1, 3) := by decide +kernel
theorem d_Rel_join_131 : dec m_Rel_join 131 = .ok (.iinc 6 1, 3) := by decide +kernel
theorem d_Rel_join_134 : dec m_Rel_join 134 = .ok (.goto (-120), 3) := by decide +kernel
theorem d_Rel_join_137 : dec m_Rel_join 137 = .ok (.iload 4, 2) := by decide +kernel
theorem d_Rel_join_139 : dec m_Rel_join 139 = .ok (.ifCond .ge 29, 3) := by decide +kernel
theorem d_Rel_join_142 : dec m_Rel_join 142 = .ok (.iload 5, 2) := by decide +kernel
theorem d_Rel_join_144 : dec m_Rel_join 144 = .ok (.bipush 7, 2) := by decide +kernel
theorem d_Rel_join_146 : dec m_Rel_join 146 = .ok (.if_icmp .ge 22, 3) := by decide +kernel
theorem d_Rel_join_149 : dec m_Rel_join 149 = .ok (.aload_n 0, 1) := by decide +kernel
theorem d_Rel_join_150 : dec m_Rel_join 150 = .ok (.getfield 25, 3) := by decide +kernel
theorem d_Rel_join_153 : dec m_Rel_join 153 = .ok (.iload 5, 2) := by decide +kernel
theorem d_Rel_join_155 : dec m_Rel_join 155 = .ok (.iload_n 3, 1) := by decide +kernel
theorem d_Rel_join_156 : dec m_Rel_join 156 = .ok (.iastore, 1) := by decide +kernel
theorem d_Rel_join_157 : dec m_Rel_join 157 = .ok (.aload_n 0, 1) := by decide +kernel
theorem d_Rel_join_158 : dec m_Rel_join 158 = .ok (.getfield 28, 3) := by decide +kernel
theorem d_Rel_join_161 : dec m_Rel_join 161 = .ok (.iload 5, 2) := by decide +kernel
theorem d_Rel_join_163 : dec m_Rel_join 163 = .ok (.iload_n 1, 1) := by decide +kernel
theorem d_Rel_join_164 : dec m_Rel_join 164 = .ok (.iastore, 1) := by decide +kernel
theorem d_Rel_join_165 : dec m_Rel_join 165 = .ok (.iinc 5 1, 3) := by decide +kernel
theorem d_Rel_join_168 : dec m_Rel_join 168 = .ok (.iload 5, 2) := by decide +kernel
theorem d_Rel_join_170 : dec m_Rel_join 170 = .ok (.ireturn, 1) := by decide +kernel
theorem d_Tab_init_0 : dec m_Tab_init 0 = .ok (.aload_n 0, 1) := by decide +kernel
theorem d_Tab_init_1 : dec m_Tab_init 1 = .ok (.invokespecial 1, 3) := by decide +kernel
theorem d_Tab_init_4 : dec m_Tab_init 4 = .ok (.aload_n 0, 1) := by decide +kernel
theorem d_Tab_init_5 : dec m_Tab_init 5 = .ok (.sipush 344, 3) := by decide +kernel
theorem d_Tab_init_8 : dec m_Tab_init 8 = .ok (.newarray .int, 2) := by decide +kernel
theorem d_Tab_init_10 : dec m_Tab_init 10 = .ok (.putfield 9, 3) := by decide +kernel
theorem d_Tab_init_13 : dec m_Tab_init 13 = .ok (.aload_n 0, 1) := by decide +kernel
theorem d_Tab_init_14 : dec m_Tab_init 14 = .ok (.bipush 85, 2) := by decide +kernel
theorem d_Tab_init_16 : dec m_Tab_init 16 = .ok (.newarray .int, 2) := by decide +kernel
theorem d_Tab_init_18 : dec m_Tab_init 18 = .ok (.putfield 15, 3) := by decide +kernel
theorem d_Tab_init_21 : dec m_Tab_init 21 = .ok (.aload_n 0, 1) := by decide +kernel
theorem d_Tab_init_22 : dec m_Tab_init 22 = .ok (.sipush 344, 3) := by decide +kernel
theorem d_Tab_init_25 : dec m_Tab_init 25 = .ok (.newarray .int, 2) := by decide +kernel
theorem d_Tab_init_27 : dec m_Tab_init 27 = .ok (.putfield 18, 3) := by decide +kernel
theorem d_Tab_init_30 : dec m_Tab_init 30 = .ok (.aload_n 0, 1) := by decide +kernel
theorem d_Tab_init_31 : dec m_Tab_init 31 = .ok (.sipush 344, 3) := by decide +kernel
theorem d_Tab_init_34 : dec m_Tab_init 34 = .ok (.newarray .int, 2) := by decide +kernel
theorem d_Tab_init_36 : dec m_Tab_init 36 = .ok (.putfield 21, 3) := by decide +kernel
theorem d_Tab_init_39 : dec m_Tab_init 39 = .ok (.aload_n 0, 1) := by decide +kernel
theorem d_Tab_init_40 : dec m_Tab_init 40 = .ok (.bipush 7, 2) := by decide +kernel
theorem d_Tab_init_42 : dec m_Tab_init 42 = .ok (.newarray .int, 2) := by decide +kernel
theorem d_Tab_init_44 : dec m_Tab_init 44 = .ok (.putfield 26, 3) := by decide +kernel
theorem d_Tab_init_47 : dec m_Tab_init 47 = .ok (.aload_n 0, 1) := by decide +kernel
theorem d_Tab_init_48 : dec m_Tab_init 48 = .ok (.bipush 84, 2) := by decide +kernel
theorem d_Tab_init_50 : dec m_Tab_init 50 = .ok (.anewarray 29, 3) := by decide +kernel
theorem d_Tab_init_53 : dec m_Tab_init 53 = .ok (.putfield 31, 3) := by decide +kernel
theorem d_Tab_init_56 : dec m_Tab_init 56 = .ok (.aload_n 0, 1) := by decide +kernel
theorem d_Tab_init_57 : dec m_Tab_init 57 = .ok (.bipush 84, 2) := by decide +kernel
theorem d_Tab_init_59 : dec m_Tab_init 59 = .ok (.newarray .boolean, 2) := by decide +kernel
theorem d_Tab_init_61 : dec m_Tab_init 61 = .ok (.putfield 35, 3) := by decide +kernel
theorem d_Tab_init_64 : dec m_Tab_init 64 = .ok (.return_, 1) := by decide +kernel
theorem d_Tab_countAt_0 : dec m_Tab_countAt 0 = .ok (.aload_n 0, 1) := by decide +kernel
theorem d_Tab_countAt_1 : dec m_Tab_countAt 1 = .ok (.getfield 15, 3) := by decide +kernel
theorem d_Tab_countAt_4 : dec m_Tab_countAt 4 = .ok (.iload_n 1, 1) := by decide +kernel
theorem d_Tab_countAt_5 : dec m_Tab_countAt 5 = .ok (.iconst 1, 1) := by decide +kernel
theorem d_Tab_countAt_6 : dec m_Tab_countAt 6 = .ok (.iadd, 1) := by decide +kernel
theorem d_Tab_countAt_7 : dec m_Tab_countAt 7 = .ok (.iaload, 1) := by decide +kernel
theorem d_Tab_countAt_8 : dec m_Tab_countAt 8 = .ok (.aload_n 0, 1) := by decide +kernel
theorem d_Tab_countAt_9 : dec m_Tab_countAt 9 = .ok (.getfield 15, 3) := by decide +kernel
theorem d_Tab_countAt_12 : dec m_Tab_countAt 12 = .ok (.iload_n 1, 1) := by decide +kernel
theorem d_Tab_countAt_13 : dec m_Tab_countAt 13 = .ok (.iaload, 1) := by decide +kernel
theorem d_Tab_countAt_14 : dec m_Tab_countAt 14 = .ok (.isub, 1) := by decide +kernel
theorem d_Tab_countAt_15 : dec m_Tab_countAt 15 = .ok (.ireturn, 1) := by decide +kernel
theorem d_Tab_rowAt_0 : dec m_Tab_rowAt 0 = .ok (.aload_n 0, 1) := by decide +kernel
theorem d_Tab_rowAt_1 : dec m_Tab_rowAt 1 = .ok (.getfield 9, 3) := by decide +kernel
theorem d_Tab_rowAt_4 : dec m_Tab_rowAt 4 = .ok (.aload_n 0, 1) := by decide +kernel
theorem d_Tab_rowAt_5 : dec m_Tab_rowAt 5 = .ok (.getfield 15, 3) := by decide +kernel
theorem d_Tab_rowAt_8 : dec m_Tab_rowAt 8 = .ok (.iload_n 1, 1) := by decide +kernel
theorem d_Tab_rowAt_9 : dec m_Tab_rowAt 9 = .ok (.iaload, 1) := by decide +kernel
theorem d_Tab_rowAt_10 : dec m_Tab_rowAt 10 = .ok (.iload_n 2, 1) := by decide +kernel
theorem d_Tab_rowAt_11 : dec m_Tab_rowAt 11 = .ok (.iadd, 1) := by decide +kernel
theorem d_Tab_rowAt_12 : dec m_Tab_rowAt 12 = .ok (.iaload, 1) := by decide +kernel
theorem d_Tab_rowAt_13 : dec m_Tab_rowAt 13 = .ok (.ireturn, 1) := by decide +kernel
theorem d_Tab_firstProduct_0 : dec m_Tab_firstProduct 0 = .ok (.aload_n 0, 1) := by decide +kernel
theorem d_Tab_firstProduct_1 : dec m_Tab_firstProduct 1 = .ok (.getfield 31, 3) := by decide +kernel
theorem d_Tab_firstProduct_4 : dec m_Tab_firstProduct 4 = .ok (.iload_n 1, 1) := by decide +kernel
theorem d_Tab_firstProduct_5 : dec m_Tab_firstProduct 5 = .ok (.aaload, 1) := by decide +kernel
theorem d_Tab_firstProduct_6 : dec m_Tab_firstProduct 6 = .ok (.ifnonnull 16, 3) := by decide +kernel
theorem d_Tab_firstProduct_9 : dec m_Tab_firstProduct 9 = .ok (.aload_n 0, 1) := by decide +kernel
theorem d_Tab_firstProduct_10 : dec m_Tab_firstProduct 10 = .ok (.getfield 31, 3) := by decide +kernel
theorem d_Tab_firstProduct_13 : dec m_Tab_firstProduct 13 = .ok (.iload_n 1, 1) := by decide +kernel
theorem d_Tab_firstProduct_14 : dec m_Tab_firstProduct 14 = .ok (.new 29, 3) := by decide +kernel
theorem d_Tab_firstProduct_17 : dec m_Tab_firstProduct 17 = .ok (.dup, 1) := by decide +kernel
theorem d_Tab_firstProduct_18 : dec m_Tab_firstProduct 18 = .ok (.invokespecial 39, 3) := by decide +kernel
theorem d_Tab_firstProduct_21 : dec m_Tab_firstProduct 21 = .ok (.aastore, 1) := by decide +kernel
theorem d_Tab_firstProduct_22 : dec m_Tab_firstProduct 22 = .ok (.aload_n 0, 1) := by decide +kernel
theorem d_Tab_firstProduct_23 : dec m_Tab_firstProduct 23 = .ok (.getfield 35, 3) := by decide +kernel
theorem d_Tab_firstProduct_26 : dec m_Tab_firstProduct 26 = .ok (.iload_n 1, 1) := by decide +kernel
theorem d_Tab_firstProduct_27 : dec m_Tab_firstProduct 27 = .ok (.baload, 1) := by decide +kernel
theorem d_Tab_firstProduct_28 : dec m_Tab_firstProduct 28 = .ok (.ifCond .ne 26, 3) := by decide +kernel
theorem d_Tab_firstProduct_31 : dec m_Tab_firstProduct 31 = .ok (.aload_n 2, 1) := by decide +kernel
theorem d_Tab_firstProduct_32 : dec m_Tab_firstProduct 32 = .ok (.aload_n 0, 1) := by decide +kernel
theorem d_Tab_firstProduct_33 : dec m_Tab_firstProduct 33 = .ok (.iload_n 1, 1) := by decide +kernel
theorem d_Tab_firstProduct_34 : dec m_Tab_firstProduct 34 = .ok (.iconst 0, 1) := by decide +kernel
theorem d_Tab_firstProduct_35 : dec m_Tab_firstProduct 35 = .ok (.invokevirtual 40, 3) := by decide +kernel
theorem d_Tab_firstProduct_38 : dec m_Tab_firstProduct 38 = .ok (.aload_n 0, 1) := by decide +kernel
theorem d_Tab_firstProduct_39 : dec m_Tab_firstProduct 39 = .ok (.getfield 31, 3) := by decide +kernel
theorem d_Tab_firstProduct_42 : dec m_Tab_firstProduct 42 = .ok (.iload_n 1, 1) := by decide +kernel
theorem d_Tab_firstProduct_43 : dec m_Tab_firstProduct 43 = .ok (.aaload, 1) := by decide +kernel
theorem d_Tab_firstProduct_44 : dec m_Tab_firstProduct 44 = .ok (.invokevirtual 44, 3) := by decide +kernel
theorem d_Tab_firstProduct_47 : dec m_Tab_firstProduct 47 = .ok (.aload_n 0, 1) := by decide +kernel
theorem d_Tab_firstProduct_48 : dec m_Tab_firstProduct 48 = .ok (.getfield 35, 3) := by decide +kernel
theorem d_Tab_firstProduct_51 : dec m_Tab_firstProduct 51 = .ok (.iload_n 1, 1) := by decide +kernel
theorem d_Tab_firstProduct_52 : dec m_Tab_firstProduct 52 = .ok (.iconst 1, 1) := by decide +kernel
theorem d_Tab_firstProduct_53 : dec m_Tab_firstProduct 53 = .ok (.bastore, 1) := by decide +kernel
theorem d_Tab_firstProduct_54 : dec m_Tab_firstProduct 54 = .ok (.aload_n 0, 1) := by decide +kernel
theorem d_Tab_firstProduct_55 : dec m_Tab_firstProduct 55 = .ok (.getfield 31, 3) := by decide +kernel
theorem d_Tab_firstProduct_58 : dec m_Tab_firstProduct 58 = .ok (.iload_n 1, 1) := by decide +kernel
theorem d_Tab_firstProduct_59 : dec m_Tab_firstProduct 59 = .ok (.aaload, 1) := by decide +kernel
theorem d_Tab_firstProduct_60 : dec m_Tab_firstProduct 60 = .ok (.areturn, 1) := by decide +kernel
theorem d_Tab_build_0 : dec m_Tab_build 0 = .ok (.iconst 0, 1) := by decide +kernel
theorem d_Tab_build_1 : dec m_Tab_build 1 = .ok (.istore_n 2, 1) := by decide +kernel
theorem d_Tab_build_2 : dec m_Tab_build 2 = .ok (.iload_n 2, 1) := by decide +kernel
theorem d_Tab_build_3 : dec m_Tab_build 3 = .ok (.bipush 84, 2) := by decide +kernel
theorem d_Tab_build_5 : dec m_Tab_build 5 = .ok (.if_icmp .ge 16, 3) := by decide +kernel
theorem d_Tab_build_8 : dec m_Tab_build 8 = .ok (.aload_n 0, 1) := by decide +kernel
theorem d_Tab_build_9 : dec m_Tab_build 9 = .ok (.getfield 35, 3) := by decide +kernel
theorem d_Tab_build_12 : dec m_Tab_build 12 = .ok (.iload_n 2, 1) := by decide +kernel
theorem d_Tab_build_13 : dec m_Tab_build 13 = .ok (.iconst 0, 1) := by decide +kernel
theorem d_Tab_build_14 : dec m_Tab_build 14 = .ok (.bastore, 1) := by decide +kernel
theorem d_Tab_build_15 : dec m_Tab_build 15 = .ok (.iinc 2 1, 3) := by decide +kernel
theorem d_Tab_build_18 : dec m_Tab_build 18 = .ok (.goto (-16), 3) := by decide +kernel
theorem d_Tab_build_21 : dec m_Tab_build 21 = .ok (.aload_n 0, 1) := by decide +kernel
theorem d_Tab_build_22 : dec m_Tab_build 22 = .ok (.aload_n 0, 1) := by decide +kernel
theorem d_Tab_build_23 : dec m_Tab_build 23 = .ok (.aload_n 1, 1) := by decide +kernel
theorem d_Tab_build_24 : dec m_Tab_build 24 = .ok (.invokevirtual 48, 3) := by decide +kernel
theorem d_Tab_build_27 : dec m_Tab_build 27 = .ok (.invokevirtual 52, 3) := by decide +kernel
theorem d_Tab_build_30 : dec m_Tab_build 30 = .ok (.return_, 1) := by decide +kernel
theorem d_Tab_find_0 : dec m_Tab_find 0 = .ok (.aload_n 0, 1) := by decide +kernel
theorem d_Tab_find_1 : dec m_Tab_find 1 = .ok (.aload_n 1, 1) := by decide +kernel
theorem d_Tab_find_2 : dec m_Tab_find 2 = .ok (.iconst 0, 1) := by decide +kernel
theorem d_Tab_find_3 : dec m_Tab_find 3 = .ok (.bipush 6, 2) := by decide +kernel
theorem d_Tab_find_5 : dec m_Tab_find 5 = .ok (.invokevirtual 56, 3) := by decide +kernel
theorem d_Tab_find_8 : dec m_Tab_find 8 = .ok (.istore_n 2, 1) := by decide +kernel
theorem d_Tab_find_9 : dec m_Tab_find 9 = .ok (.iconst 0, 1) := by decide +kernel
theorem d_Tab_find_10 : dec m_Tab_find 10 = .ok (.istore_n 3, 1) := by decide +kernel
theorem d_Tab_find_11 : dec m_Tab_find 11 = .ok (.iconst 1, 1) := by decide +kernel
theorem d_Tab_find_12 : dec m_Tab_find 12 = .ok (.istore 4, 2) := by decide +kernel
theorem d_Tab_find_14 : dec m_Tab_find 14 = .ok (.iload 4, 2) := by decide +kernel
theorem d_Tab_find_16 : dec m_Tab_find 16 = .ok (.ifCond .eq 96, 3) := by decide +kernel
theorem d_Tab_find_19 : dec m_Tab_find 19 = .ok (.iload_n 3, 1) := by decide +kernel
theorem d_Tab_find_20 : dec m_Tab_find 20 = .ok (.sipush 344, 3) := by decide +kernel
theorem d_Tab_find_23 : dec m_Tab_find 23 = .ok (.if_icmp .ge 89, 3) := by decide +kernel
theorem d_Tab_find_26 : dec m_Tab_find 26 = .ok (.aload_n 0, 1) := by decide +kernel
theorem d_Tab_find_27 : dec m_Tab_find 27 = .ok (.aload_n 1, 1) := by decide +kernel
theorem d_Tab_find_28 : dec m_Tab_find 28 = .ok (.iload_n 3, 1) := by decide +kernel
theorem d_Tab_find_29 : dec m_Tab_find 29 = .ok (.invokevirtual 60, 3) := by decide +kernel
theorem d_Tab_find_32 : dec m_Tab_find 32 = .ok (.iinc 3 1, 3) := by decide +kernel
theorem d_Tab_find_35 : dec m_Tab_find 35 = .ok (.iconst 0, 1) := by decide +kernel
theorem d_Tab_find_36 : dec m_Tab_find 36 = .ok (.istore 4, 2) := by decide +kernel
theorem d_Tab_find_38 : dec m_Tab_find 38 = .ok (.aload_n 1, 1) := by decide +kernel
theorem d_Tab_find_39 : dec m_Tab_find 39 = .ok (.getfield 64, 3) := by decide +kernel
theorem d_Tab_find_42 : dec m_Tab_find 42 = .ok (.iconst 1, 1) := by decide +kernel
theorem d_Tab_find_43 : dec m_Tab_find 43 = .ok (.isub, 1) := by decide +kernel
theorem d_Tab_find_44 : dec m_Tab_find 44 = .ok (.istore 5, 2) := by decide +kernel
theorem d_Tab_find_46 : dec m_Tab_find 46 = .ok (.iload 5, 2) := by decide +kernel
theorem d_Tab_find_48 : dec m_Tab_find 48 = .ok (.ifCond .lt 61, 3) := by decide +kernel
theorem d_Tab_find_51 : dec m_Tab_find 51 = .ok (.iload 4, 2) := by decide +kernel
theorem d_Tab_find_53 : dec m_Tab_find 53 = .ok (.ifCond .ne 56, 3) := by decide +kernel
theorem d_Tab_find_56 : dec m_Tab_find 56 = .ok (.aload_n 0, 1) := by decide +kernel
theorem d_Tab_find_57 : dec m_Tab_find 57 = .ok (.getfield 26, 3) := by decide +kernel
theorem d_Tab_find_60 : dec m_Tab_find 60 = .ok (.iload 5, 2) := by decide +kernel
theorem d_Tab_find_62 : dec m_Tab_find 62 = .ok (.iaload, 1) := by decide +kernel
theorem d_Tab_find_63 : dec m_Tab_find 63 = .ok (.ifCond .le 40, 3) := by decide +kernel
theorem d_Tab_find_66 : dec m_Tab_find 66 = .ok (.aload_n 0, 1) := by decide +kernel
theorem d_Tab_find_67 : dec m_Tab_find 67 = .ok (.getfield 26, 3) := by decide +kernel
theorem d_Tab_find_70 : dec m_Tab_find 70 = .ok (.iload 5, 2) := by decide +kernel
theorem d_Tab_find_72 : dec m_Tab_find 72 = .ok (.dup2, 1) := by decide +kernel
theorem d_Tab_find_73 : dec m_Tab_find 73 = .ok (.iaload, 1) := by decide +kernel
theorem d_Tab_find_74 : dec m_Tab_find 74 = .ok (.iconst 1, 1) := by decide +kernel
theorem d_Tab_find_75 : dec m_Tab_find 75 = .ok (.isub, 1) := by decide +kernel
theorem d_Tab_find_76 : dec m_Tab_find 76 = .ok (.iastore, 1) := by decide +kernel
theorem d_Tab_find_77 : dec m_Tab_find 77 = .ok (.aload_n 0, 1) := by decide +kernel
theorem d_Tab_find_78 : dec m_Tab_find 78 = .ok (.aload_n 1, 1) := by decide +kernel
theorem d_Tab_find_79 : dec m_Tab_find 79 = .ok (.iload 5, 2) := by decide +kernel
theorem d_Tab_find_81 : dec m_Tab_find 81 = .ok (.iconst 1, 1) := by decide +kernel
theorem d_Tab_find_82 : dec m_Tab_find 82 = .ok (.iadd, 1) := by decide +kernel
theorem d_Tab_find_83 : dec m_Tab_find 83 = .ok (.iload_n 2, 1) := by decide +kernel
theorem d_Tab_find_84 : dec m_Tab_find 84 = .ok (.getstatic 68, 3) := by decide +kernel
theorem d_Tab_find_87 : dec m_Tab_find 87 = .ok (.aload_n 1, 1) := by decide +kernel
theorem d_Tab_find_88 : dec m_Tab_find 88 = .ok (.getfield 71, 3) := by decide +kernel
theorem d_Tab_find_91 : dec m_Tab_find 91 = .ok (.iload 5, 2) := by decide +kernel
theorem d_Tab_find_93 : dec m_Tab_find 93 = .ok (.iaload, 1) := by decide +kernel
theorem d_Tab_find_94 : dec m_Tab_find 94 = .ok (.iaload, 1) := by decide +kernel
theorem d_Tab_find_95 : dec m_Tab_find 95 = .ok (.iadd, 1) := by decide +kernel
theorem d_Tab_find_96 : dec m_Tab_find 96 = .ok (.invokevirtual 56, 3) := by decide +kernel
theorem d_Tab_find_99 : dec m_Tab_find 99 = .ok (.istore_n 2, 1) := by decide +kernel
theorem d_Tab_find_100 : dec m_Tab_find 100 = .ok (.iconst 1, 1) := by decide +kernel
theorem d_Tab_find_101 : dec m_Tab_find 101 = .ok (.istore 4, 2) := by decide +kernel
theorem d_Tab_find_103 : dec m_Tab_find 103 = .ok (.iinc 5 (-1), 3) := by decide +kernel
theorem d_Tab_find_106 : dec m_Tab_find 106 = .ok (.goto (-60), 3) := by decide +kernel
theorem d_Tab_find_109 : dec m_Tab_find 109 = .ok (.goto (-95), 3) := by decide +kernel
theorem d_Tab_find_112 : dec m_Tab_find 112 = .ok (.iload_n 3, 1) := by decide +kernel
theorem d_Tab_find_113 : dec m_Tab_find 113 = .ok (.ireturn, 1) := by decide +kernel
theorem d_Tab_fill_0 : dec m_Tab_fill 0 = .ok (.iload_n 3, 1) := by decide +kernel
theorem d_Tab_fill_1 : dec m_Tab_fill 1 = .ok (.istore 4, 2) := by decide +kernel
theorem d_Tab_fill_3 : dec m_Tab_fill 3 = .ok (.iload_n 2, 1) := by decide +kernel
theorem d_Tab_fill_4 : dec m_Tab_fill 4 = .ok (.istore 5, 2) := by decide +kernel
theorem d_Tab_fill_6 : dec m_Tab_fill 6 = .ok (.iload 5, 2) := by decide +kernel
theorem d_Tab_fill_8 : dec m_Tab_fill 8 = .ok (.aload_n 1, 1) := by decide +kernel
theorem d_Tab_fill_9 : dec m_Tab_fill 9 = .ok (.getfield 64, 3) := by decide +kernel
theorem d_Tab_fill_12 : dec m_Tab_fill 12 = .ok (.if_icmp .ge 58, 3) := by decide +kernel
theorem d_Tab_fill_15 : dec m_Tab_fill 15 = .ok (.getstatic 68, 3) := by decide +kernel
theorem d_Tab_fill_18 : dec m_Tab_fill 18 = .ok (.aload_n 1, 1) := by decide +kernel
theorem d_Tab_fill_19 : dec m_Tab_fill 19 = .ok (.getfield 71, 3) := by decide +kernel
theorem d_Tab_fill_22 : dec m_Tab_fill 22 = .ok (.iload 5, 2) := by decide +kernel
theorem d_Tab_fill_24 : dec m_Tab_fill 24 = .ok (.iaload, 1) := by decide +kernel
theorem d_Tab_fill_25 : dec m_Tab_fill 25 = .ok (.iaload, 1) := by decide +kernel
theorem d_Tab_fill_26 : dec m_Tab_fill 26 = .ok (.istore 6, 2) := by decide +kernel
theorem d_Tab_fill_28 : dec m_Tab_fill 28 = .ok (.aload_n 0, 1) := by decide +kernel
theorem d_Tab_fill_29 : dec m_Tab_fill 29 = .ok (.getfield 26, 3) := by decide +kernel
theorem d_Tab_fill_32 : dec m_Tab_fill 32 = .ok (.iload 5, 2) := by decide +kernel
theorem d_Tab_fill_34 : dec m_Tab_fill 34 = .ok (.iload 6, 2) := by decide +kernel
theorem d_Tab_fill_36 : dec m_Tab_fill 36 = .ok (.ifCond .le 11, 3) := by decide +kernel
theorem d_Tab_fill_39 : dec m_Tab_fill 39 = .ok (.iload 4, 2) := by decide +kernel
theorem d_Tab_fill_41 : dec m_Tab_fill 41 = .ok (.iload 6, 2) := by decide +kernel
theorem d_Tab_fill_43 : dec m_Tab_fill 43 = .ok (.idiv, 1) := by decide +kernel
theorem d_Tab_fill_44 : dec m_Tab_fill 44 = .ok (.goto 4, 3) := by decide +kernel
theorem d_Tab_fill_47 : dec m_Tab_fill 47 = .ok (.iconst 0, 1) := by decide +kernel
theorem d_Tab_fill_48 : dec m_Tab_fill 48 = .ok (.iastore, 1) := by decide +kernel
theorem d_Tab_fill_49 : dec m_Tab_fill 49 = .ok (.iload 4, 2) := by decide +kernel
theorem d_Tab_fill_51 : dec m_Tab_fill 51 = .ok (.aload_n 0, 1) := by decide +kernel
theorem d_Tab_fill_52 : dec m_Tab_fill 52 = .ok (.getfield 26, 3) := by decide +kernel
theorem d_Tab_fill_55 : dec m_Tab_fill 55 = .ok (.iload 5, 2) := by decide +kernel
theorem d_Tab_fill_57 : dec m_Tab_fill 57 = .ok (.iaload, 1) := by decide +kernel
theorem d_Tab_fill_58 : dec m_Tab_fill 58 = .ok (.iload 6, 2) := by decide +kernel
theorem d_Tab_fill_60 : dec m_Tab_fill 60 = .ok (.imul, 1) := by decide +kernel
theorem d_Tab_fill_61 : dec m_Tab_fill 61 = .ok (.isub, 1) := by decide +kernel
theorem d_Tab_fill_62 : dec m_Tab_fill 62 = .ok (.istore 4, 2) := by decide +kernel
theorem d_Tab_fill_64 : dec m_Tab_fill 64 = .ok (.iinc 5 1, 3) := by decide +kernel
theorem d_Tab_fill_67 : dec m_Tab_fill 67 = .ok (.goto (-61), 3) := by decide +kernel
theorem d_Tab_fill_70 : dec m_Tab_fill 70 = .ok (.iload 4, 2) := by decide +kernel
theorem d_Tab_fill_72 : dec m_Tab_fill 72 = .ok (.ireturn, 1) := by decide +kernel
theorem d_Tab_note_0 : dec m_Tab_note 0 = .ok (.iconst 0, 1) := by decide +kernel
theorem d_Tab_note_1 : dec m_Tab_note 1 = .ok (.istore_n 3, 1) := by decide +kernel
theorem d_Tab_note_2 : dec m_Tab_note 2 = .ok (.iconst 0, 1) := by decide +kernel
theorem d_Tab_note_3 : dec m_Tab_note 3 = .ok (.istore 4, 2) := by decide +kernel
theorem d_Tab_note_5 : dec m_Tab_note 5 = .ok (.iconst 0, 1) := by decide +kernel
theorem d_Tab_note_6 : dec m_Tab_note 6 = .ok (.istore 5, 2) := by decide +kernel
theorem d_Tab_note_8 : dec m_Tab_note 8 = .ok (.iconst 0, 1) := by decide +kernel
theorem d_Tab_note_9 : dec m_Tab_note 9 = .ok (.istore 6, 2) := by decide +kernel
theorem d_Tab_note_11 : dec m_Tab_note 11 = .ok (.iconst 0, 1) := by decide +kernel
theorem d_Tab_note_12 : dec m_Tab_note 12 = .ok (.istore 7, 2) := by decide +kernel
theorem d_Tab_note_14 : dec m_Tab_note 14 = .ok (.iload 7, 2) := by decide +kernel
theorem d_Tab_note_16 : dec m_Tab_note 16 = .ok (.aload_n 1, 1) := by decide +kernel
theorem d_Tab_note_17 : dec m_Tab_note 17 = .ok (.getfield 64, 3) := by decide +kernel
theorem d_Tab_note_20 : dec m_Tab_note 20 = .ok (.if_icmp .ge 97, 3) := by decide +kernel
theorem d_Tab_note_23 : dec m_Tab_note 23 = .ok (.iload_n 3, 1) := by decide +kernel
theorem d_Tab_note_24 : dec m_Tab_note 24 = .ok (.aload_n 0, 1) := by decide +kernel
theorem d_Tab_note_25 : dec m_Tab_note 25 = .ok (.getfield 26, 3) := by decide +kernel
theorem d_Tab_note_28 : dec m_Tab_note 28 = .ok (.iload 7, 2) := by decide +kernel
theorem d_Tab_note_30 : dec m_Tab_note 30 = .ok (.iaload, 1) := by decide +kernel
theorem d_Tab_note_31 : dec m_Tab_note 31 = .ok (.iload 7, 2) := by decide +kernel
theorem d_Tab_note_33 : dec m_Tab_note 33 = .ok (.invokestatic 74, 3) := by decide +kernel
theorem d_Tab_note_36 : dec m_Tab_note 36 = .ok (.imul, 1) := by decide +kernel
theorem d_Tab_note_37 : dec m_Tab_note 37 = .ok (.iadd, 1) := by decide +kernel
theorem d_Tab_note_38 : dec m_Tab_note 38 = .ok (.istore_n 3, 1) := by decide +kernel
theorem d_Tab_note_39 : dec m_Tab_note 39 = .ok (.iload 4, 2) := by decide +kernel
theorem d_Tab_note_41 : dec m_Tab_note 41 = .ok (.aload_n 0, 1) := by decide +kernel
theorem d_Tab_note_42 : dec m_Tab_note 42 = .ok (.getfield 26, 3) := by decide +kernel
theorem d_Tab_note_45 : dec m_Tab_note 45 = .ok (.iload 7, 2) := by decide +kernel
theorem d_Tab_note_47 : dec m_Tab_note 47 = .ok (.iaload, 1) := by decide +kernel
theorem d_Tab_note_48 : dec m_Tab_note 48 = .ok (.getstatic 78, 3) := by decide +kernel
theorem d_Tab_note_51 : dec m_Tab_note 51 = .ok (.aload_n 1, 1) := by decide +kernel
theorem d_Tab_note_52 : dec m_Tab_note 52 = .ok (.getfield 71, 3) := by decide +kernel
theorem d_Tab_note_55 : dec m_Tab_note 55 = .ok (.iload 7, 2) := by decide +kernel
theorem d_Tab_note_57 : dec m_Tab_note 57 = .ok (.iaload, 1) := by decide +kernel
theorem d_Tab_note_58 : dec m_Tab_note 58 = .ok (.iaload, 1) := by decide +kernel
theorem d_Tab_note_59 : dec m_Tab_note 59 = .ok (.imul, 1) := by decide +kernel
theorem d_Tab_note_60 : dec m_Tab_note 60 = .ok (.iadd, 1) := by decide +kernel
theorem d_Tab_note_61 : dec m_Tab_note 61 = .ok (.istore 4, 2) := by decide +kernel
theorem d_Tab_note_63 : dec m_Tab_note 63 = .ok (.iload 5, 2) := by decide +kernel
theorem d_Tab_note_65 : dec m_Tab_note 65 = .ok (.aload_n 0, 1) := by decide +kernel
theorem d_Tab_note_66 : dec m_Tab_note 66 = .ok (.getfield 26, 3) := by decide +kernel
theorem d_Tab_note_69 : dec m_Tab_note 69 = .ok (.iload 7, 2) := by decide +kernel
theorem d_Tab_note_71 : dec m_Tab_note 71 = .ok (.iaload, 1) := by decide +kernel
theorem d_Tab_note_72 : dec m_Tab_note 72 = .ok (.getstatic 81, 3) := by decide +kernel
theorem d_Tab_note_75 : dec m_Tab_note 75 = .ok (.aload_n 1, 1) := by decide +kernel
theorem d_Tab_note_76 : dec m_Tab_note 76 = .ok (.getfield 71, 3) := by decide +kernel
theorem d_Tab_note_79 : dec m_Tab_note 79 = .ok (.iload 7, 2) := by decide +kernel
theorem d_Tab_note_81 : dec m_Tab_note 81 = .ok (.iaload, 1) := by decide +kernel
theorem d_Tab_note_82 : dec m_Tab_note 82 = .ok (.iaload, 1) := by decide +kernel
theorem d_Tab_note_83 : dec m_Tab_note 83 = .ok (.imul, 1) := by decide +kernel
theorem d_Tab_note_84 : dec m_Tab_note 84 = .ok (.iadd, 1) := by decide +kernel
theorem d_Tab_note_85 : dec m_Tab_note 85 = .ok (.istore 5, 2) := by decide +kernel
theorem d_Tab_note_87 : dec m_Tab_note 87 = .ok (.iload 6, 2) := by decide +kernel
theorem d_Tab_note_89 : dec m_Tab_note 89 = .ok (.aload_n 0, 1) := by decide +kernel
theorem d_Tab_note_90 : dec m_Tab_note 90 = .ok (.getfield 26, 3) := by decide +kernel
theorem d_Tab_note_93 : dec m_Tab_note 93 = .ok (.iload 7, 2) := by decide +kernel
theorem d_Tab_note_95 : dec m_Tab_note 95 = .ok (.iaload, 1) := by decide +kernel
theorem d_Tab_note_96 : dec m_Tab_note 96 = .ok (.getstatic 84, 3) := by decide +kernel
theorem d_Tab_note_99 : dec m_Tab_note 99 = .ok (.aload_n 1, 1) := by decide +kernel
theorem d_Tab_note_100 : dec m_Tab_note 100 = .ok (.getfield 71, 3) := by decide +kernel
theorem d_Tab_note_103 : dec m_Tab_note 103 = .ok (.iload 7, 2) := by decide +kernel
theorem d_Tab_note_105 : dec m_Tab_note 105 = .ok (.iaload, 1) := by decide +kernel
theorem d_Tab_note_106 : dec m_Tab_note 106 = .ok (.iaload, 1) := by decide +kernel
theorem d_Tab_note_107 : dec m_Tab_note 107 = .ok (.imul, 1) := by decide +kernel
theorem d_Tab_note_108 : dec m_Tab_note 108 = .ok (.iadd, 1) := by decide +kernel
theorem d_Tab_note_109 : dec m_Tab_note 109 = .ok (.istore 6, 2) := by decide +kernel
theorem d_Tab_note_111 : dec m_Tab_note 111 = .ok (.iinc 7 1, 3) := by decide +kernel
theorem d_Tab_note_114 : dec m_Tab_note 114 = .ok (.goto (-100), 3) := by decide +kernel
theorem d_Tab_note_117 : dec m_Tab_note 117 = .ok (.aload_n 0, 1) := by decide +kernel
theorem d_Tab_note_118 : dec m_Tab_note 118 = .ok (.getfield 18, 3) := by decide +kernel
theorem d_Tab_note_121 : dec m_Tab_note 121 = .ok (.iload_n 2, 1) := by decide +kernel
theorem d_Tab_note_122 : dec m_Tab_note 122 = .ok (.iload_n 3, 1) := by decide +kernel
theorem d_Tab_note_123 : dec m_Tab_note 123 = .ok (.iastore, 1) := by decide +kernel
theorem d_Tab_note_124 : dec m_Tab_note 124 = .ok (.aload_n 0, 1) := by decide +kernel
theorem d_Tab_note_125 : dec m_Tab_note 125 = .ok (.getfield 21, 3) := by decide +kernel
theorem d_Tab_note_128 : dec m_Tab_note 128 = .ok (.iload_n 2, 1) := by decide +kernel
theorem d_Tab_note_129 : dec m_Tab_note 129 = .ok (.iload 4, 2) := by decide +kernel
theorem d_Tab_note_131 : dec m_Tab_note 131 = .ok (.iload 5, 2) := by decide +kernel
theorem d_Tab_note_133 : dec m_Tab_note 133 = .ok (.iload 6, 2) := by decide +kernel
theorem d_Tab_note_135 : dec m_Tab_note 135 = .ok (.invokestatic 87, 3) := by decide +kernel
theorem d_Tab_note_138 : dec m_Tab_note 138 = .ok (.iastore, 1) := by decide +kernel
theorem d_Tab_note_139 : dec m_Tab_note 139 = .ok (.return_, 1) := by decide +kernel
theorem d_Tab_sortByPlace_0 : dec m_Tab_sortByPlace 0 = .ok (.aload_n 0, 1) := by decide +kernel
theorem d_Tab_sortByPlace_1 : dec m_Tab_sortByPlace 1 = .ok (.getfield 15, 3) := by decide +kernel
theorem d_Tab_sortByPlace_4 : dec m_Tab_sortByPlace 4 = .ok (.iconst 0, 1) := by decide +kernel
theorem d_Tab_sortByPlace_5 : dec m_Tab_sortByPlace 5 = .ok (.invokestatic 91, 3) := by decide +kernel
theorem d_Tab_sortByPlace_8 : dec m_Tab_sortByPlace 8 = .ok (.iconst 0, 1) := by decide +kernel
theorem d_Tab_sortByPlace_9 : dec m_Tab_sortByPlace 9 = .ok (.istore_n 2, 1) := by decide +kernel
theorem d_Tab_sortByPlace_10 : dec m_Tab_sortByPlace 10 = .ok (.iload_n 2, 1) := by decide +kernel
theorem d_Tab_sortByPlace_11 : dec m_Tab_sortByPlace 11 = .ok (.iload_n 1, 1) := by decide +kernel
theorem d_Tab_sortByPlace_12 : dec m_Tab_sortByPlace 12 = .ok (.if_icmp .ge 24, 3) := by decide +kernel
theorem d_Tab_sortByPlace_15 : dec m_Tab_sortByPlace 15 = .ok (.aload_n 0, 1) := by decide +kernel
theorem d_Tab_sortByPlace_16 : dec m_Tab_sortByPlace 16 = .ok (.getfield 15, 3) := by decide +kernel
theorem d_Tab_sortByPlace_19 : dec m_Tab_sortByPlace 19 = .ok (.aload_n 0, 1) := by decide +kernel
theorem d_Tab_sortByPlace_20 : dec m_Tab_sortByPlace 20 = .ok (.getfield 21, 3) := by decide +kernel
theorem d_Tab_sortByPlace_23 : dec m_Tab_sortByPlace 23 = .ok (.iload_n 2, 1) := by decide +kernel
theorem d_Tab_sortByPlace_24 : dec m_Tab_sortByPlace 24 = .ok (.iaload, 1) := by decide +kernel
theorem d_Tab_sortByPlace_25 : dec m_Tab_sortByPlace 25 = .ok (.dup2, 1) := by decide +kernel
theorem d_Tab_sortByPlace_26 : dec m_Tab_sortByPlace 26 = .ok (.iaload, 1) := by decide +kernel
theorem d_Tab_sortByPlace_27 : dec m_Tab_sortByPlace 27 = .ok (.iconst 1, 1) := by decide +kernel
theorem d_Tab_sortByPlace_28 : dec m_Tab_sortByPlace 28 = .ok (.iadd, 1) := by decide +kernel
theorem d_Tab_sortByPlace_29 : dec m_Tab_sortByPlace 29 = .ok (.iastore, 1) := by decide +kernel
theorem d_Tab_sortByPlace_30 : dec m_Tab_sortByPlace 30 = .ok (.iinc 2 1, 3) := by decide +kernel
theorem d_Tab_sortByPlace_33 : dec m_Tab_sortByPlace 33 = .ok (.goto (-23), 3) := by decide +kernel
theorem d_Tab_sortByPlace_36 : dec m_Tab_sortByPlace 36 = .ok (.iconst 1, 1) := by decide +kernel
theorem d_Tab_sortByPlace_37 : dec m_Tab_sortByPlace 37 = .ok (.istore_n 2, 1) := by decide +kernel
theorem d_Tab_sortByPlace_38 : dec m_Tab_sortByPlace 38 = .ok (.iload_n 2, 1) := by decide +kernel
theorem d_Tab_sortByPlace_39 : dec m_Tab_sortByPlace 39 = .ok (.bipush 84, 2) := by decide +kernel
theorem d_Tab_sortByPlace_41 : dec m_Tab_sortByPlace 41 = .ok (.if_icmp .gt 26, 3) := by decide +kernel
theorem d_Tab_sortByPlace_44 : dec m_Tab_sortByPlace 44 = .ok (.aload_n 0, 1) := by decide +kernel
theorem d_Tab_sortByPlace_45 : dec m_Tab_sortByPlace 45 = .ok (.getfield 15, 3) := by decide +kernel
theorem d_Tab_sortByPlace_48 : dec m_Tab_sortByPlace 48 = .ok (.iload_n 2, 1) := by decide +kernel
theorem d_Tab_sortByPlace_49 : dec m_Tab_sortByPlace 49 = .ok (.dup2, 1) := by decide +kernel
theorem d_Tab_sortByPlace_50 : dec m_Tab_sortByPlace 50 = .ok (.iaload, 1) := by decide +kernel
theorem d_Tab_sortByPlace_51 : dec m_Tab_sortByPlace 51 = .ok (.aload_n 0, 1) := by decide +kernel
theorem d_Tab_sortByPlace_52 : dec m_Tab_sortByPlace 52 = .ok (.getfield 15, 3) := by decide +kernel
theorem d_Tab_sortByPlace_55 : dec m_Tab_sortByPlace 55 = .ok (.iload_n 2, 1) := by decide +kernel
theorem d_Tab_sortByPlace_56 : dec m_Tab_sortByPlace 56 = .ok (.iconst 1, 1) := by decide +kernel
theorem d_Tab_sortByPlace_57 : dec m_Tab_sortByPlace 57 = .ok (.isub, 1) := by decide +kernel
theorem d_Tab_sortByPlace_58 : dec m_Tab_sortByPlace 58 = .ok (.iaload, 1) := by decide +kernel
theorem d_Tab_sortByPlace_59 : dec m_Tab_sortByPlace 59 = .ok (.iadd, 1) := by decide +kernel
theorem d_Tab_sortByPlace_60 : dec m_Tab_sortByPlace 60 = .ok (.iastore, 1) := by decide +kernel
theorem d_Tab_sortByPlace_61 : dec m_Tab_sortByPlace 61 = .ok (.iinc 2 1, 3) := by decide +kernel
theorem d_Tab_sortByPlace_64 : dec m_Tab_sortByPlace 64 = .ok (.goto (-26), 3) := by decide +kernel
theorem d_Tab_sortByPlace_67 : dec m_Tab_sortByPlace 67 = .ok (.iload_n 1, 1) := by decide +kernel
theorem d_Tab_sortByPlace_68 : dec m_Tab_sortByPlace 68 = .ok (.iconst 1, 1) := by decide +kernel
theorem d_Tab_sortByPlace_69 : dec m_Tab_sortByPlace 69 = .ok (.isub, 1) := by decide +kernel
theorem d_Tab_sortByPlace_70 : dec m_Tab_sortByPlace 70 = .ok (.istore_n 2, 1) := by decide +kernel
theorem d_Tab_sortByPlace_71 : dec m_Tab_sortByPlace 71 = .ok (.iload_n 2, 1) := by decide +kernel
theorem d_Tab_sortByPlace_72 : dec m_Tab_sortByPlace 72 = .ok (.ifCond .lt 43, 3) := by decide +kernel
theorem d_Tab_sortByPlace_75 : dec m_Tab_sortByPlace 75 = .ok (.aload_n 0, 1) := by decide +kernel
theorem d_Tab_sortByPlace_76 : dec m_Tab_sortByPlace 76 = .ok (.getfield 21, 3) := by decide +kernel
theorem d_Tab_sortByPlace_79 : dec m_Tab_sortByPlace 79 = .ok (.iload_n 2, 1) := by decide +kernel
theorem d_Tab_sortByPlace_80 : dec m_Tab_sortByPlace 80 = .ok (.iaload, 1) := by decide +kernel
theorem d_Tab_sortByPlace_81 : dec m_Tab_sortByPlace 81 = .ok (.istore_n 3, 1) := by decide +kernel
theorem d_Tab_sortByPlace_82 : dec m_Tab_sortByPlace 82 = .ok (.aload_n 0, 1) := by decide +kernel
theorem d_Tab_sortByPlace_83 : dec m_Tab_sortByPlace 83 = .ok (.getfield 15, 3) := by decide +kernel
theorem d_Tab_sortByPlace_86 : dec m_Tab_sortByPlace 86 = .ok (.iload_n 3, 1) := by decide +kernel
theorem d_Tab_sortByPlace_87 : dec m_Tab_sortByPlace 87 = .ok (.dup2, 1) := by decide +kernel
theorem d_Tab_sortByPlace_88 : dec m_Tab_sortByPlace 88 = .ok (.iaload, 1) := by decide +kernel
theorem d_Tab_sortByPlace_89 : dec m_Tab_sortByPlace 89 = .ok (.iconst 1, 1) := by decide +kernel
theorem d_Tab_sortByPlace_90 : dec m_Tab_sortByPlace 90 = .ok (.isub, 1) := by decide +kernel
theorem d_Tab_sortByPlace_91 : dec m_Tab_sortByPlace 91 = .ok (.iastore, 1) := by decide +kernel
theorem d_Tab_sortByPlace_92 : dec m_Tab_sortByPlace 92 = .ok (.aload_n 0, 1) := by decide +kernel
theorem d_Tab_sortByPlace_93 : dec m_Tab_sortByPlace 93 = .ok (.getfield 9, 3) := by decide +kernel
theorem d_Tab_sortByPlace_96 : dec m_Tab_sortByPlace 96 = .ok (.aload_n 0, 1) := by decide +kernel
theorem d_Tab_sortByPlace_97 : dec m_Tab_sortByPlace 97 = .ok (.getfield 15, 3) := by decide +kernel
theorem d_Tab_sortByPlace_100 : dec m_Tab_sortByPlace 100 = .ok (.iload_n 3, 1) := by decide +kernel
theorem d_Tab_sortByPlace_101 : dec m_Tab_sortByPlace 101 = .ok (.iaload, 1) := by decide +kernel
theorem d_Tab_sortByPlace_102 : dec m_Tab_sortByPlace 102 = .ok (.aload_n 0, 1) := by decide +kernel
theorem d_Tab_sortByPlace_103 : dec m_Tab_sortByPlace 103 = .ok (.getfield 18, 3) := by decide +kernel
theorem d_Tab_sortByPlace_106 : dec m_Tab_sortByPlace 106 = .ok (.iload_n 2, 1) := by decide +kernel
theorem d_Tab_sortByPlace_107 : dec m_Tab_sortByPlace 107 = .ok (.iaload, 1) := by decide +kernel
theorem d_Tab_sortByPlace_108 : dec m_Tab_sortByPlace 108 = .ok (.iastore, 1) := by decide +kernel
theorem d_Tab_sortByPlace_109 : dec m_Tab_sortByPlace 109 = .ok (.iinc 2 (-1), 3) := by decide +kernel
theorem d_Tab_sortByPlace_112 : dec m_Tab_sortByPlace 112 = .ok (.goto (-41), 3) := by decide +kernel
theorem d_Tab_sortByPlace_115 : dec m_Tab_sortByPlace 115 = .ok (.return_, 1) := by decide +kernel
theorem d_Sheet_init_0 : dec m_Sheet_init 0 = .ok (.aload_n 0, 1) := by decide +kernel
theorem d_Sheet_init_1 : dec m_Sheet_init 1 = .ok (.invokespecial 1, 3) := by decide +kernel
theorem d_Sheet_init_4 : dec m_Sheet_init 4 = .ok (.aload_n 0, 1) := by decide +kernel
theorem d_Sheet_init_5 : dec m_Sheet_init 5 = .ok (.iconst (-1), 1) := by decide +kernel
theorem d_Sheet_init_6 : dec m_Sheet_init 6 = .ok (.putfield 9, 3) := by decide +kernel
theorem d_Sheet_init_9 : dec m_Sheet_init 9 = .ok (.aload_n 0, 1) := by decide +kernel
theorem d_Sheet_init_10 : dec m_Sheet_init 10 = .ok (.iconst 0, 1) := by decide +kernel
theorem d_Sheet_init_11 : dec m_Sheet_init 11 = .ok (.putfield 13, 3) := by decide +kernel
theorem d_Sheet_init_14 : dec m_Sheet_init 14 = .ok (.aload_n 0, 1) := by decide +kernel
theorem d_Sheet_init_15 : dec m_Sheet_init 15 = .ok (.bipush 40, 2) := by decide +kernel
theorem d_Sheet_init_17 : dec m_Sheet_init 17 = .ok (.newarray .int, 2) := by decide +kernel
theorem d_Sheet_init_19 : dec m_Sheet_init 19 = .ok (.putfield 16, 3) := by decide +kernel
theorem d_Sheet_init_22 : dec m_Sheet_init 22 = .ok (.return_, 1) := by decide +kernel
theorem d_Sheet_become_0 : dec m_Sheet_become 0 = .ok (.aload_n 0, 1) := by decide +kernel
theorem d_Sheet_become_1 : dec m_Sheet_become 1 = .ok (.iload_n 1, 1) := by decide +kernel
theorem d_Sheet_become_2 : dec m_Sheet_become 2 = .ok (.putfield 9, 3) := by decide +kernel
theorem d_Sheet_become_5 : dec m_Sheet_become 5 = .ok (.aload_n 0, 1) := by decide +kernel
theorem d_Sheet_become_6 : dec m_Sheet_become 6 = .ok (.iload_n 2, 1) := by decide +kernel
theorem d_Sheet_become_7 : dec m_Sheet_become 7 = .ok (.putfield 13, 3) := by decide +kernel
theorem d_Sheet_become_10 : dec m_Sheet_become 10 = .ok (.aload_n 0, 1) := by decide +kernel
theorem d_Sheet_become_11 : dec m_Sheet_become 11 = .ok (.getfield 16, 3) := by decide +kernel
theorem d_Sheet_become_14 : dec m_Sheet_become 14 = .ok (.iconst 0, 1) := by decide +kernel
theorem d_Sheet_become_15 : dec m_Sheet_become 15 = .ok (.invokestatic 20, 3) := by decide +kernel
theorem d_Sheet_become_18 : dec m_Sheet_become 18 = .ok (.return_, 1) := by decide +kernel
theorem d_Sheet_isMissing_0 : dec m_Sheet_isMissing 0 = .ok (.aload_n 0, 1) := by decide +kernel
theorem d_Sheet_isMissing_1 : dec m_Sheet_isMissing 1 = .ok (.getfield 9, 3) := by decide +kernel
theorem d_Sheet_isMissing_4 : dec m_Sheet_isMissing 4 = .ok (.iconst (-1), 1) := by decide +kernel
theorem d_Sheet_isMissing_5 : dec m_Sheet_isMissing 5 = .ok (.if_icmp .ne 7, 3) := by decide +kernel
theorem d_Sheet_isMissing_8 : dec m_Sheet_isMissing 8 = .ok (.iconst 1, 1) := by decide +kernel
theorem d_Sheet_isMissing_9 : dec m_Sheet_isMissing 9 = .ok (.goto 4, 3) := by decide +kernel
theorem d_Sheet_isMissing_12 : dec m_Sheet_isMissing 12 = .ok (.iconst 0, 1) := by decide +kernel
theorem d_Sheet_isMissing_13 : dec m_Sheet_isMissing 13 = .ok (.ireturn, 1) := by decide +kernel
theorem d_Sheet_put_0 : dec m_Sheet_put 0 = .ok (.aload_n 0, 1) := by decide +kernel
theorem d_Sheet_put_1 : dec m_Sheet_put 1 = .ok (.getfield 16, 3) := by decide +kernel
theorem d_Sheet_put_4 : dec m_Sheet_put 4 = .ok (.iload_n 1, 1) := by decide +kernel
theorem d_Sheet_put_5 : dec m_Sheet_put 5 = .ok (.aload_n 0, 1) := by decide +kernel
theorem d_Sheet_put_6 : dec m_Sheet_put 6 = .ok (.getfield 9, 3) := by decide +kernel
theorem d_Sheet_put_9 : dec m_Sheet_put 9 = .ok (.ifCond .ne 9, 3) := by decide +kernel
theorem d_Sheet_put_12 : dec m_Sheet_put 12 = .ok (.lload_n 2, 1) := by decide +kernel
theorem d_Sheet_put_13 : dec m_Sheet_put 13 = .ok (.l2i, 1) := by decide +kernel
theorem d_Sheet_put_14 : dec m_Sheet_put 14 = .ok (.i2b, 1) := by decide +kernel
theorem d_Sheet_put_15 : dec m_Sheet_put 15 = .ok (.goto 5, 3) := by decide +kernel
theorem d_Sheet_put_18 : dec m_Sheet_put 18 = .ok (.lload_n 2, 1) := by decide +kernel
theorem d_Sheet_put_19 : dec m_Sheet_put 19 = .ok (.l2i, 1) := by decide +kernel
theorem d_Sheet_put_20 : dec m_Sheet_put 20 = .ok (.iastore, 1) := by decide +kernel
theorem d_Sheet_put_21 : dec m_Sheet_put 21 = .ok (.return_, 1) := by decide +kernel
theorem d_Sheet_holds_0 : dec m_Sheet_holds 0 = .ok (.iload_n 2, 1) := by decide +kernel
theorem d_Sheet_holds_1 : dec m_Sheet_holds 1 = .ok (.ifCond .lt 29, 3) := by decide +kernel
theorem d_Sheet_holds_4 : dec m_Sheet_holds 4 = .ok (.iload_n 1, 1) := by decide +kernel
theorem d_Sheet_holds_5 : dec m_Sheet_holds 5 = .ok (.ifCond .lt 25, 3) := by decide +kernel
theorem d_Sheet_holds_8 : dec m_Sheet_holds 8 = .ok (.iload_n 1, 1) := by decide +kernel
theorem d_Sheet_holds_9 : dec m_Sheet_holds 9 = .ok (.aload_n 0, 1) := by decide +kernel
theorem d_Sheet_holds_10 : dec m_Sheet_holds 10 = .ok (.getfield 13, 3) := by decide +kernel
theorem d_Sheet_holds_13 : dec m_Sheet_holds 13 = .ok (.if_icmp .gt 17, 3) := by decide +kernel
theorem d_Sheet_holds_16 : dec m_Sheet_holds 16 = .ok (.iload_n 2, 1) := by decide +kernel
theorem d_Sheet_holds_17 : dec m_Sheet_holds 17 = .ok (.aload_n 0, 1) := by decide +kernel
theorem d_Sheet_holds_18 : dec m_Sheet_holds 18 = .ok (.getfield 13, 3) := by decide +kernel
theorem d_Sheet_holds_21 : dec m_Sheet_holds 21 = .ok (.iload_n 1, 1) := by decide +kernel
theorem d_Sheet_holds_22 : dec m_Sheet_holds 22 = .ok (.isub, 1) := by decide +kernel
theorem d_Sheet_holds_23 : dec m_Sheet_holds 23 = .ok (.if_icmp .gt 7, 3) := by decide +kernel
theorem d_Sheet_holds_26 : dec m_Sheet_holds 26 = .ok (.iconst 1, 1) := by decide +kernel
theorem d_Sheet_holds_27 : dec m_Sheet_holds 27 = .ok (.goto 4, 3) := by decide +kernel
theorem d_Sheet_holds_30 : dec m_Sheet_holds 30 = .ok (.iconst 0, 1) := by decide +kernel
theorem d_Sheet_holds_31 : dec m_Sheet_holds 31 = .ok (.ireturn, 1) := by decide +kernel
theorem d_Steps_init_0 : dec m_Steps_init 0 = .ok (.aload_n 0, 1) := by decide +kernel
theorem d_Steps_init_1 : dec m_Steps_init 1 = .ok (.invokespecial 1, 3) := by decide +kernel
theorem d_Steps_init_4 : dec m_Steps_init 4 = .ok (.aload_n 0, 1) := by decide +kernel
theorem d_Steps_init_5 : dec m_Steps_init 5 = .ok (.iconst 0, 1) := by decide +kernel
theorem d_Steps_init_6 : dec m_Steps_init 6 = .ok (.putfield 7, 3) := by decide +kernel
theorem d_Steps_init_9 : dec m_Steps_init 9 = .ok (.aload_n 0, 1) := by decide +kernel
theorem d_Steps_init_10 : dec m_Steps_init 10 = .ok (.bipush 84, 2) := by decide +kernel
theorem d_Steps_init_12 : dec m_Steps_init 12 = .ok (.newarray .long, 2) := by decide +kernel
theorem d_Steps_init_14 : dec m_Steps_init 14 = .ok (.putfield 15, 3) := by decide +kernel
theorem d_Steps_init_17 : dec m_Steps_init 17 = .ok (.aload_n 0, 1) := by decide +kernel
theorem d_Steps_init_18 : dec m_Steps_init 18 = .ok (.bipush 84, 2) := by decide +kernel
theorem d_Steps_init_20 : dec m_Steps_init 20 = .ok (.newarray .int, 2) := by decide +kernel
theorem d_Steps_init_22 : dec m_Steps_init 22 = .ok (.putfield 19, 3) := by decide +kernel
theorem d_Steps_init_25 : dec m_Steps_init 25 = .ok (.return_, 1) := by decide +kernel
theorem d_Steps_append_0 : dec m_Steps_append 0 = .ok (.aload_n 0, 1) := by decide +kernel
theorem d_Steps_append_1 : dec m_Steps_append 1 = .ok (.getfield 7, 3) := by decide +kernel
theorem d_Steps_append_4 : dec m_Steps_append 4 = .ok (.bipush 84, 2) := by decide +kernel
theorem d_Steps_append_6 : dec m_Steps_append 6 = .ok (.if_icmp .ge 33, 3) := by decide +kernel
theorem d_Steps_append_9 : dec m_Steps_append 9 = .ok (.aload_n 0, 1) := by decide +kernel
theorem d_Steps_append_10 : dec m_Steps_append 10 = .ok (.getfield 15, 3) := by decide +kernel
theorem d_Steps_append_13 : dec m_Steps_append 13 = .ok (.aload_n 0, 1) := by decide +kernel
theorem d_Steps_append_14 : dec m_Steps_append 14 = .ok (.getfield 7, 3) := by decide +kernel
theorem d_Steps_append_17 : dec m_Steps_append 17 = .ok (.lload_n 1, 1) := by decide +kernel
