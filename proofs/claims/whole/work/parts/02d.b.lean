theorem d_Mo_init_0 : decode prog_8_method_1_code 0 = .ok (.aload_n 0, 1) := by decide +kernel
theorem d_Mo_init_1 : decode prog_8_method_1_code 1 = .ok (.invokespecial 1, 3) := by decide +kernel
theorem d_Mo_init_4 : decode prog_8_method_1_code 4 = .ok (.aload_n 0, 1) := by decide +kernel
theorem d_Mo_init_5 : decode prog_8_method_1_code 5 = .ok (.iconst 0, 1) := by decide +kernel
theorem d_Mo_init_6 : decode prog_8_method_1_code 6 = .ok (.putfield 7, 3) := by decide +kernel
theorem d_Mo_init_9 : decode prog_8_method_1_code 9 = .ok (.aload_n 0, 1) := by decide +kernel
theorem d_Mo_init_10 : decode prog_8_method_1_code 10 = .ok (.iconst 0, 1) := by decide +kernel
theorem d_Mo_init_11 : decode prog_8_method_1_code 11 = .ok (.putfield 13, 3) := by decide +kernel
theorem d_Mo_init_14 : decode prog_8_method_1_code 14 = .ok (.aload_n 0, 1) := by decide +kernel
theorem d_Mo_init_15 : decode prog_8_method_1_code 15 = .ok (.iconst 0, 1) := by decide +kernel
theorem d_Mo_init_16 : decode prog_8_method_1_code 16 = .ok (.putfield 16, 3) := by decide +kernel
theorem d_Mo_init_19 : decode prog_8_method_1_code 19 = .ok (.aload_n 0, 1) := by decide +kernel
theorem d_Mo_init_20 : decode prog_8_method_1_code 20 = .ok (.bipush 6, 2) := by decide +kernel
theorem d_Mo_init_22 : decode prog_8_method_1_code 22 = .ok (.newarray .boolean, 2) := by decide +kernel
theorem d_Mo_init_24 : decode prog_8_method_1_code 24 = .ok (.putfield 19, 3) := by decide +kernel
theorem d_Mo_init_27 : decode prog_8_method_1_code 27 = .ok (.aload_n 0, 1) := by decide +kernel
theorem d_Mo_init_28 : decode prog_8_method_1_code 28 = .ok (.bipush 72, 2) := by decide +kernel
theorem d_Mo_init_30 : decode prog_8_method_1_code 30 = .ok (.newarray .boolean, 2) := by decide +kernel
theorem d_Mo_init_32 : decode prog_8_method_1_code 32 = .ok (.putfield 23, 3) := by decide +kernel
theorem d_Mo_init_35 : decode prog_8_method_1_code 35 = .ok (.aload_n 0, 1) := by decide +kernel
theorem d_Mo_init_36 : decode prog_8_method_1_code 36 = .ok (.sipush 216, 3) := by decide +kernel
theorem d_Mo_init_39 : decode prog_8_method_1_code 39 = .ok (.newarray .int, 2) := by decide +kernel
theorem d_Mo_init_41 : decode prog_8_method_1_code 41 = .ok (.putfield 26, 3) := by decide +kernel
theorem d_Mo_init_44 : decode prog_8_method_1_code 44 = .ok (.aload_n 0, 1) := by decide +kernel
theorem d_Mo_init_45 : decode prog_8_method_1_code 45 = .ok (.sipush 216, 3) := by decide +kernel
theorem d_Mo_init_48 : decode prog_8_method_1_code 48 = .ok (.newarray .int, 2) := by decide +kernel
theorem d_Mo_init_50 : decode prog_8_method_1_code 50 = .ok (.putfield 30, 3) := by decide +kernel
theorem d_Mo_init_53 : decode prog_8_method_1_code 53 = .ok (.aload_n 0, 1) := by decide +kernel
theorem d_Mo_init_54 : decode prog_8_method_1_code 54 = .ok (.bipush 48, 2) := by decide +kernel
theorem d_Mo_init_56 : decode prog_8_method_1_code 56 = .ok (.newarray .int, 2) := by decide +kernel
theorem d_Mo_init_58 : decode prog_8_method_1_code 58 = .ok (.putfield 33, 3) := by decide +kernel
theorem d_Mo_init_61 : decode prog_8_method_1_code 61 = .ok (.aload_n 0, 1) := by decide +kernel
theorem d_Mo_init_62 : decode prog_8_method_1_code 62 = .ok (.bipush 40, 2) := by decide +kernel
theorem d_Mo_init_64 : decode prog_8_method_1_code 64 = .ok (.newarray .int, 2) := by decide +kernel
theorem d_Mo_init_66 : decode prog_8_method_1_code 66 = .ok (.putfield 36, 3) := by decide +kernel
theorem d_Mo_init_69 : decode prog_8_method_1_code 69 = .ok (.aload_n 0, 1) := by decide +kernel
theorem d_Mo_init_70 : decode prog_8_method_1_code 70 = .ok (.bipush 40, 2) := by decide +kernel
theorem d_Mo_init_72 : decode prog_8_method_1_code 72 = .ok (.newarray .int, 2) := by decide +kernel
theorem d_Mo_init_74 : decode prog_8_method_1_code 74 = .ok (.putfield 39, 3) := by decide +kernel
theorem d_Mo_init_77 : decode prog_8_method_1_code 77 = .ok (.aload_n 0, 1) := by decide +kernel
theorem d_Mo_init_78 : decode prog_8_method_1_code 78 = .ok (.bipush 40, 2) := by decide +kernel
theorem d_Mo_init_80 : decode prog_8_method_1_code 80 = .ok (.newarray .int, 2) := by decide +kernel
theorem d_Mo_init_82 : decode prog_8_method_1_code 82 = .ok (.putfield 42, 3) := by decide +kernel
theorem d_Mo_init_85 : decode prog_8_method_1_code 85 = .ok (.aload_n 0, 1) := by decide +kernel
theorem d_Mo_init_86 : decode prog_8_method_1_code 86 = .ok (.bipush 40, 2) := by decide +kernel
theorem d_Mo_init_88 : decode prog_8_method_1_code 88 = .ok (.newarray .int, 2) := by decide +kernel
theorem d_Mo_init_90 : decode prog_8_method_1_code 90 = .ok (.putfield 45, 3) := by decide +kernel
theorem d_Mo_init_93 : decode prog_8_method_1_code 93 = .ok (.aload_n 0, 1) := by decide +kernel
theorem d_Mo_init_94 : decode prog_8_method_1_code 94 = .ok (.bipush 40, 2) := by decide +kernel
theorem d_Mo_init_96 : decode prog_8_method_1_code 96 = .ok (.newarray .boolean, 2) := by decide +kernel
theorem d_Mo_init_98 : decode prog_8_method_1_code 98 = .ok (.putfield 48, 3) := by decide +kernel
theorem d_Mo_init_101 : decode prog_8_method_1_code 101 = .ok (.aload_n 0, 1) := by decide +kernel
theorem d_Mo_init_102 : decode prog_8_method_1_code 102 = .ok (.bipush 12, 2) := by decide +kernel
theorem d_Mo_init_104 : decode prog_8_method_1_code 104 = .ok (.newarray .int, 2) := by decide +kernel
theorem d_Mo_init_106 : decode prog_8_method_1_code 106 = .ok (.putfield 51, 3) := by decide +kernel
theorem d_Mo_init_109 : decode prog_8_method_1_code 109 = .ok (.aload_n 0, 1) := by decide +kernel
theorem d_Mo_init_110 : decode prog_8_method_1_code 110 = .ok (.bipush 12, 2) := by decide +kernel
theorem d_Mo_init_112 : decode prog_8_method_1_code 112 = .ok (.newarray .int, 2) := by decide +kernel
theorem d_Mo_init_114 : decode prog_8_method_1_code 114 = .ok (.putfield 54, 3) := by decide +kernel
theorem d_Mo_init_117 : decode prog_8_method_1_code 117 = .ok (.aload_n 0, 1) := by decide +kernel
theorem d_Mo_init_118 : decode prog_8_method_1_code 118 = .ok (.bipush 12, 2) := by decide +kernel
theorem d_Mo_init_120 : decode prog_8_method_1_code 120 = .ok (.newarray .int, 2) := by decide +kernel
theorem d_Mo_init_122 : decode prog_8_method_1_code 122 = .ok (.putfield 57, 3) := by decide +kernel
theorem d_Mo_init_125 : decode prog_8_method_1_code 125 = .ok (.aload_n 0, 1) := by decide +kernel
theorem d_Mo_init_126 : decode prog_8_method_1_code 126 = .ok (.bipush 12, 2) := by decide +kernel
theorem d_Mo_init_128 : decode prog_8_method_1_code 128 = .ok (.newarray .int, 2) := by decide +kernel
theorem d_Mo_init_130 : decode prog_8_method_1_code 130 = .ok (.putfield 60, 3) := by decide +kernel
theorem d_Mo_init_133 : decode prog_8_method_1_code 133 = .ok (.aload_n 0, 1) := by decide +kernel
theorem d_Mo_init_134 : decode prog_8_method_1_code 134 = .ok (.iconst 0, 1) := by decide +kernel
theorem d_Mo_init_135 : decode prog_8_method_1_code 135 = .ok (.putfield 63, 3) := by decide +kernel
theorem d_Mo_init_138 : decode prog_8_method_1_code 138 = .ok (.iconst 0, 1) := by decide +kernel
theorem d_Mo_init_139 : decode prog_8_method_1_code 139 = .ok (.istore_n 1, 1) := by decide +kernel
theorem d_Mo_init_140 : decode prog_8_method_1_code 140 = .ok (.iload_n 1, 1) := by decide +kernel
theorem d_Mo_init_141 : decode prog_8_method_1_code 141 = .ok (.bipush 48, 2) := by decide +kernel
theorem d_Mo_init_143 : decode prog_8_method_1_code 143 = .ok (.if_icmp .ge 16, 3) := by decide +kernel
theorem d_Mo_init_146 : decode prog_8_method_1_code 146 = .ok (.aload_n 0, 1) := by decide +kernel
theorem d_Mo_init_147 : decode prog_8_method_1_code 147 = .ok (.getfield 33, 3) := by decide +kernel
theorem d_Mo_init_150 : decode prog_8_method_1_code 150 = .ok (.iload_n 1, 1) := by decide +kernel
theorem d_Mo_init_151 : decode prog_8_method_1_code 151 = .ok (.iconst (-1), 1) := by decide +kernel
theorem d_Mo_init_152 : decode prog_8_method_1_code 152 = .ok (.iastore, 1) := by decide +kernel
theorem d_Mo_init_153 : decode prog_8_method_1_code 153 = .ok (.iinc 1 1, 3) := by decide +kernel
theorem d_Mo_init_156 : decode prog_8_method_1_code 156 = .ok (.goto (-16), 3) := by decide +kernel
theorem d_Mo_init_159 : decode prog_8_method_1_code 159 = .ok (.return_, 1) := by decide +kernel
theorem d_Mo_thrown_0 : decode prog_8_method_2_code 0 = .ok (.aload_n 0, 1) := by decide +kernel
theorem d_Mo_thrown_1 : decode prog_8_method_2_code 1 = .ok (.getfield 16, 3) := by decide +kernel
theorem d_Mo_thrown_4 : decode prog_8_method_2_code 4 = .ok (.ireturn, 1) := by decide +kernel
theorem d_Mo_fail_0 : decode prog_8_method_3_code 0 = .ok (.aload_n 0, 1) := by decide +kernel
theorem d_Mo_fail_1 : decode prog_8_method_3_code 1 = .ok (.iload_n 1, 1) := by decide +kernel
theorem d_Mo_fail_2 : decode prog_8_method_3_code 2 = .ok (.putfield 16, 3) := by decide +kernel
theorem d_Mo_fail_5 : decode prog_8_method_3_code 5 = .ok (.iconst 0, 1) := by decide +kernel
theorem d_Mo_fail_6 : decode prog_8_method_3_code 6 = .ok (.ireturn, 1) := by decide +kernel
theorem d_Mo_fine_0 : decode prog_8_method_4_code 0 = .ok (.aload_n 0, 1) := by decide +kernel
theorem d_Mo_fine_1 : decode prog_8_method_4_code 1 = .ok (.iconst 0, 1) := by decide +kernel
theorem d_Mo_fine_2 : decode prog_8_method_4_code 2 = .ok (.putfield 16, 3) := by decide +kernel
theorem d_Mo_fine_5 : decode prog_8_method_4_code 5 = .ok (.iload_n 1, 1) := by decide +kernel
theorem d_Mo_fine_6 : decode prog_8_method_4_code 6 = .ok (.ireturn, 1) := by decide +kernel
theorem d_Mo_noDomain_0 : decode prog_8_method_5_code 0 = .ok (.iload_n 1, 1) := by decide +kernel
theorem d_Mo_noDomain_1 : decode prog_8_method_5_code 1 = .ok (.ifCond .lt 11, 3) := by decide +kernel
theorem d_Mo_noDomain_4 : decode prog_8_method_5_code 4 = .ok (.iload_n 1, 1) := by decide +kernel
theorem d_Mo_noDomain_5 : decode prog_8_method_5_code 5 = .ok (.aload_n 0, 1) := by decide +kernel
theorem d_Mo_noDomain_6 : decode prog_8_method_5_code 6 = .ok (.getfield 7, 3) := by decide +kernel
theorem d_Mo_noDomain_9 : decode prog_8_method_5_code 9 = .ok (.if_icmp .lt 7, 3) := by decide +kernel
theorem d_Mo_noDomain_12 : decode prog_8_method_5_code 12 = .ok (.iconst 1, 1) := by decide +kernel
theorem d_Mo_noDomain_13 : decode prog_8_method_5_code 13 = .ok (.goto 4, 3) := by decide +kernel
theorem d_Mo_noDomain_16 : decode prog_8_method_5_code 16 = .ok (.iconst 0, 1) := by decide +kernel
theorem d_Mo_noDomain_17 : decode prog_8_method_5_code 17 = .ok (.ireturn, 1) := by decide +kernel
theorem d_Mo_out_0 : decode prog_8_method_6_code 0 = .ok (.iload_n 1, 1) := by decide +kernel
theorem d_Mo_out_1 : decode prog_8_method_6_code 1 = .ok (.ifCond .lt 8, 3) := by decide +kernel
theorem d_Mo_out_4 : decode prog_8_method_6_code 4 = .ok (.iload_n 1, 1) := by decide +kernel
theorem d_Mo_out_5 : decode prog_8_method_6_code 5 = .ok (.iload_n 2, 1) := by decide +kernel
theorem d_Mo_out_6 : decode prog_8_method_6_code 6 = .ok (.if_icmp .lt 7, 3) := by decide +kernel
theorem d_Mo_out_9 : decode prog_8_method_6_code 9 = .ok (.iconst 1, 1) := by decide +kernel
theorem d_Mo_out_10 : decode prog_8_method_6_code 10 = .ok (.goto 4, 3) := by decide +kernel
theorem d_Mo_out_13 : decode prog_8_method_6_code 13 = .ok (.iconst 0, 1) := by decide +kernel
theorem d_Mo_out_14 : decode prog_8_method_6_code 14 = .ok (.ireturn, 1) := by decide +kernel
theorem d_Mo_none_0 : decode prog_8_method_7_code 0 = .ok (.aload_n 0, 1) := by decide +kernel
theorem d_Mo_none_1 : decode prog_8_method_7_code 1 = .ok (.iload_n 2, 1) := by decide +kernel
theorem d_Mo_none_2 : decode prog_8_method_7_code 2 = .ok (.bipush 12, 2) := by decide +kernel
theorem d_Mo_none_4 : decode prog_8_method_7_code 4 = .ok (.invokevirtual 66, 3) := by decide +kernel
theorem d_Mo_none_7 : decode prog_8_method_7_code 7 = .ok (.ifCond .ne 17, 3) := by decide +kernel
theorem d_Mo_none_10 : decode prog_8_method_7_code 10 = .ok (.aload_n 0, 1) := by decide +kernel
theorem d_Mo_none_11 : decode prog_8_method_7_code 11 = .ok (.getfield 23, 3) := by decide +kernel
theorem d_Mo_none_14 : decode prog_8_method_7_code 14 = .ok (.iload_n 1, 1) := by decide +kernel
theorem d_Mo_none_15 : decode prog_8_method_7_code 15 = .ok (.bipush 12, 2) := by decide +kernel
theorem d_Mo_none_17 : decode prog_8_method_7_code 17 = .ok (.imul, 1) := by decide +kernel
theorem d_Mo_none_18 : decode prog_8_method_7_code 18 = .ok (.iload_n 2, 1) := by decide +kernel
theorem d_Mo_none_19 : decode prog_8_method_7_code 19 = .ok (.iadd, 1) := by decide +kernel
theorem d_Mo_none_20 : decode prog_8_method_7_code 20 = .ok (.baload, 1) := by decide +kernel
theorem d_Mo_none_21 : decode prog_8_method_7_code 21 = .ok (.ifCond .ne 7, 3) := by decide +kernel
theorem d_Mo_none_24 : decode prog_8_method_7_code 24 = .ok (.iconst 1, 1) := by decide +kernel
theorem d_Mo_none_25 : decode prog_8_method_7_code 25 = .ok (.goto 4, 3) := by decide +kernel
theorem d_Mo_none_28 : decode prog_8_method_7_code 28 = .ok (.iconst 0, 1) := by decide +kernel
theorem d_Mo_none_29 : decode prog_8_method_7_code 29 = .ok (.ireturn, 1) := by decide +kernel
theorem d_Mo_home_0 : decode prog_8_method_8_code 0 = .ok (.aload_n 0, 1) := by decide +kernel
theorem d_Mo_home_1 : decode prog_8_method_8_code 1 = .ok (.getfield 36, 3) := by decide +kernel
theorem d_Mo_home_4 : decode prog_8_method_8_code 4 = .ok (.iload_n 1, 1) := by decide +kernel
theorem d_Mo_home_5 : decode prog_8_method_8_code 5 = .ok (.iaload, 1) := by decide +kernel
theorem d_Mo_home_6 : decode prog_8_method_8_code 6 = .ok (.bipush 12, 2) := by decide +kernel
theorem d_Mo_home_8 : decode prog_8_method_8_code 8 = .ok (.idiv, 1) := by decide +kernel
theorem d_Mo_home_9 : decode prog_8_method_8_code 9 = .ok (.ireturn, 1) := by decide +kernel
theorem d_Mo_dead_0 : decode prog_8_method_9_code 0 = .ok (.iload_n 1, 1) := by decide +kernel
theorem d_Mo_dead_1 : decode prog_8_method_9_code 1 = .ok (.istore_n 2, 1) := by decide +kernel
theorem d_Mo_dead_2 : decode prog_8_method_9_code 2 = .ok (.iconst 0, 1) := by decide +kernel
theorem d_Mo_dead_3 : decode prog_8_method_9_code 3 = .ok (.istore_n 3, 1) := by decide +kernel
theorem d_Mo_dead_4 : decode prog_8_method_9_code 4 = .ok (.iload_n 3, 1) := by decide +kernel
theorem d_Mo_dead_5 : decode prog_8_method_9_code 5 = .ok (.bipush 41, 2) := by decide +kernel
theorem d_Mo_dead_7 : decode prog_8_method_9_code 7 = .ok (.if_icmp .ge 44, 3) := by decide +kernel
theorem d_Mo_dead_10 : decode prog_8_method_9_code 10 = .ok (.iload_n 2, 1) := by decide +kernel
theorem d_Mo_dead_11 : decode prog_8_method_9_code 11 = .ok (.ifCond .lt 40, 3) := by decide +kernel
theorem d_Mo_dead_14 : decode prog_8_method_9_code 14 = .ok (.aload_n 0, 1) := by decide +kernel
theorem d_Mo_dead_15 : decode prog_8_method_9_code 15 = .ok (.getfield 48, 3) := by decide +kernel
theorem d_Mo_dead_18 : decode prog_8_method_9_code 18 = .ok (.iload_n 2, 1) := by decide +kernel
theorem d_Mo_dead_19 : decode prog_8_method_9_code 19 = .ok (.baload, 1) := by decide +kernel
theorem d_Mo_dead_20 : decode prog_8_method_9_code 20 = .ok (.ifCond .ne 16, 3) := by decide +kernel
theorem d_Mo_dead_23 : decode prog_8_method_9_code 23 = .ok (.aload_n 0, 1) := by decide +kernel
theorem d_Mo_dead_24 : decode prog_8_method_9_code 24 = .ok (.getfield 19, 3) := by decide +kernel
theorem d_Mo_dead_27 : decode prog_8_method_9_code 27 = .ok (.aload_n 0, 1) := by decide +kernel
theorem d_Mo_dead_28 : decode prog_8_method_9_code 28 = .ok (.iload_n 2, 1) := by decide +kernel
theorem d_Mo_dead_29 : decode prog_8_method_9_code 29 = .ok (.invokevirtual 70, 3) := by decide +kernel
theorem d_Mo_dead_32 : decode prog_8_method_9_code 32 = .ok (.baload, 1) := by decide +kernel
theorem d_Mo_dead_33 : decode prog_8_method_9_code 33 = .ok (.ifCond .eq 5, 3) := by decide +kernel
theorem d_Mo_dead_36 : decode prog_8_method_9_code 36 = .ok (.iconst 1, 1) := by decide +kernel
theorem d_Mo_dead_37 : decode prog_8_method_9_code 37 = .ok (.ireturn, 1) := by decide +kernel
theorem d_Mo_dead_38 : decode prog_8_method_9_code 38 = .ok (.aload_n 0, 1) := by decide +kernel
theorem d_Mo_dead_39 : decode prog_8_method_9_code 39 = .ok (.getfield 45, 3) := by decide +kernel
theorem d_Mo_dead_42 : decode prog_8_method_9_code 42 = .ok (.iload_n 2, 1) := by decide +kernel
theorem d_Mo_dead_43 : decode prog_8_method_9_code 43 = .ok (.iaload, 1) := by decide +kernel
theorem d_Mo_dead_44 : decode prog_8_method_9_code 44 = .ok (.istore_n 2, 1) := by decide +kernel
theorem d_Mo_dead_45 : decode prog_8_method_9_code 45 = .ok (.iinc 3 1, 3) := by decide +kernel
theorem d_Mo_dead_48 : decode prog_8_method_9_code 48 = .ok (.goto (-44), 3) := by decide +kernel
theorem d_Mo_dead_51 : decode prog_8_method_9_code 51 = .ok (.iconst 0, 1) := by decide +kernel
theorem d_Mo_dead_52 : decode prog_8_method_9_code 52 = .ok (.ireturn, 1) := by decide +kernel
theorem d_Mo_usedUp_0 : decode prog_8_method_10_code 0 = .ok (.iload_n 1, 1) := by decide +kernel
theorem d_Mo_usedUp_1 : decode prog_8_method_10_code 1 = .ok (.istore_n 2, 1) := by decide +kernel
theorem d_Mo_usedUp_2 : decode prog_8_method_10_code 2 = .ok (.iconst 0, 1) := by decide +kernel
theorem d_Mo_usedUp_3 : decode prog_8_method_10_code 3 = .ok (.istore_n 3, 1) := by decide +kernel
theorem d_Mo_usedUp_4 : decode prog_8_method_10_code 4 = .ok (.iload_n 3, 1) := by decide +kernel
theorem d_Mo_usedUp_5 : decode prog_8_method_10_code 5 = .ok (.bipush 41, 2) := by decide +kernel
theorem d_Mo_usedUp_7 : decode prog_8_method_10_code 7 = .ok (.if_icmp .ge 31, 3) := by decide +kernel
theorem d_Mo_usedUp_10 : decode prog_8_method_10_code 10 = .ok (.iload_n 2, 1) := by decide +kernel
theorem d_Mo_usedUp_11 : decode prog_8_method_10_code 11 = .ok (.ifCond .lt 27, 3) := by decide +kernel
theorem d_Mo_usedUp_14 : decode prog_8_method_10_code 14 = .ok (.aload_n 0, 1) := by decide +kernel
theorem d_Mo_usedUp_15 : decode prog_8_method_10_code 15 = .ok (.getfield 42, 3) := by decide +kernel
theorem d_Mo_usedUp_18 : decode prog_8_method_10_code 18 = .ok (.iload_n 2, 1) := by decide +kernel
theorem d_Mo_usedUp_19 : decode prog_8_method_10_code 19 = .ok (.iaload, 1) := by decide +kernel
theorem d_Mo_usedUp_20 : decode prog_8_method_10_code 20 = .ok (.ifCond .ne 5, 3) := by decide +kernel
theorem d_Mo_usedUp_23 : decode prog_8_method_10_code 23 = .ok (.iconst 1, 1) := by decide +kernel
theorem d_Mo_usedUp_24 : decode prog_8_method_10_code 24 = .ok (.ireturn, 1) := by decide +kernel
theorem d_Mo_usedUp_25 : decode prog_8_method_10_code 25 = .ok (.aload_n 0, 1) := by decide +kernel
theorem d_Mo_usedUp_26 : decode prog_8_method_10_code 26 = .ok (.getfield 45, 3) := by decide +kernel
theorem d_Mo_usedUp_29 : decode prog_8_method_10_code 29 = .ok (.iload_n 2, 1) := by decide +kernel
theorem d_Mo_usedUp_30 : decode prog_8_method_10_code 30 = .ok (.iaload, 1) := by decide +kernel
theorem d_Mo_usedUp_31 : decode prog_8_method_10_code 31 = .ok (.istore_n 2, 1) := by decide +kernel
theorem d_Mo_usedUp_32 : decode prog_8_method_10_code 32 = .ok (.iinc 3 1, 3) := by decide +kernel
theorem d_Mo_usedUp_35 : decode prog_8_method_10_code 35 = .ok (.goto (-31), 3) := by decide +kernel
theorem d_Mo_usedUp_38 : decode prog_8_method_10_code 38 = .ok (.iconst 0, 1) := by decide +kernel
theorem d_Mo_usedUp_39 : decode prog_8_method_10_code 39 = .ok (.ireturn, 1) := by decide +kernel
theorem d_Mo_alive_0 : decode prog_8_method_11_code 0 = .ok (.iconst 0, 1) := by decide +kernel
theorem d_Mo_alive_1 : decode prog_8_method_11_code 1 = .ok (.istore_n 1, 1) := by decide +kernel
theorem d_Mo_alive_2 : decode prog_8_method_11_code 2 = .ok (.iconst 0, 1) := by decide +kernel
theorem d_Mo_alive_3 : decode prog_8_method_11_code 3 = .ok (.istore_n 2, 1) := by decide +kernel
theorem d_Mo_alive_4 : decode prog_8_method_11_code 4 = .ok (.iload_n 2, 1) := by decide +kernel
theorem d_Mo_alive_5 : decode prog_8_method_11_code 5 = .ok (.aload_n 0, 1) := by decide +kernel
theorem d_Mo_alive_6 : decode prog_8_method_11_code 6 = .ok (.getfield 13, 3) := by decide +kernel
theorem d_Mo_alive_9 : decode prog_8_method_11_code 9 = .ok (.if_icmp .ge 20, 3) := by decide +kernel
theorem d_Mo_alive_12 : decode prog_8_method_11_code 12 = .ok (.aload_n 0, 1) := by decide +kernel
theorem d_Mo_alive_13 : decode prog_8_method_11_code 13 = .ok (.iload_n 2, 1) := by decide +kernel
theorem d_Mo_alive_14 : decode prog_8_method_11_code 14 = .ok (.invokevirtual 74, 3) := by decide +kernel
theorem d_Mo_alive_17 : decode prog_8_method_11_code 17 = .ok (.ifCond .ne 6, 3) := by decide +kernel
theorem d_Mo_alive_20 : decode prog_8_method_11_code 20 = .ok (.iinc 1 1, 3) := by decide +kernel
theorem d_Mo_alive_23 : decode prog_8_method_11_code 23 = .ok (.iinc 2 1, 3) := by decide +kernel
theorem d_Mo_alive_26 : decode prog_8_method_11_code 26 = .ok (.goto (-22), 3) := by decide +kernel
theorem d_Mo_alive_29 : decode prog_8_method_11_code 29 = .ok (.iload_n 1, 1) := by decide +kernel
theorem d_Mo_alive_30 : decode prog_8_method_11_code 30 = .ok (.ireturn, 1) := by decide +kernel
theorem d_Mo_useFails_0 : decode prog_8_method_12_code 0 = .ok (.aload_n 0, 1) := by decide +kernel
theorem d_Mo_useFails_1 : decode prog_8_method_12_code 1 = .ok (.iload_n 1, 1) := by decide +kernel
theorem d_Mo_useFails_2 : decode prog_8_method_12_code 2 = .ok (.invokevirtual 78, 3) := by decide +kernel
theorem d_Mo_useFails_5 : decode prog_8_method_12_code 5 = .ok (.ifCond .ne 13, 3) := by decide +kernel
theorem d_Mo_useFails_8 : decode prog_8_method_12_code 8 = .ok (.aload_n 0, 1) := by decide +kernel
theorem d_Mo_useFails_9 : decode prog_8_method_12_code 9 = .ok (.iload_n 2, 1) := by decide +kernel
theorem d_Mo_useFails_10 : decode prog_8_method_12_code 10 = .ok (.bipush 8, 2) := by decide +kernel
theorem d_Mo_useFails_12 : decode prog_8_method_12_code 12 = .ok (.invokevirtual 66, 3) := by decide +kernel
theorem d_Mo_useFails_15 : decode prog_8_method_12_code 15 = .ok (.ifCond .eq 5, 3) := by decide +kernel
theorem d_Mo_useFails_18 : decode prog_8_method_12_code 18 = .ok (.iconst 1, 1) := by decide +kernel
theorem d_Mo_useFails_19 : decode prog_8_method_12_code 19 = .ok (.ireturn, 1) := by decide +kernel
theorem d_Mo_useFails_20 : decode prog_8_method_12_code 20 = .ok (.aload_n 0, 1) := by decide +kernel
theorem d_Mo_useFails_21 : decode prog_8_method_12_code 21 = .ok (.getfield 19, 3) := by decide +kernel
theorem d_Mo_useFails_24 : decode prog_8_method_12_code 24 = .ok (.iload_n 1, 1) := by decide +kernel
theorem d_Mo_useFails_25 : decode prog_8_method_12_code 25 = .ok (.baload, 1) := by decide +kernel
theorem d_Mo_useFails_26 : decode prog_8_method_12_code 26 = .ok (.ifCond .eq 5, 3) := by decide +kernel
theorem d_Mo_useFails_29 : decode prog_8_method_12_code 29 = .ok (.iconst 2, 1) := by decide +kernel
theorem d_Mo_useFails_30 : decode prog_8_method_12_code 30 = .ok (.ireturn, 1) := by decide +kernel
theorem d_Mo_useFails_31 : decode prog_8_method_12_code 31 = .ok (.aload_n 0, 1) := by decide +kernel
theorem d_Mo_useFails_32 : decode prog_8_method_12_code 32 = .ok (.getfield 33, 3) := by decide +kernel
theorem d_Mo_useFails_35 : decode prog_8_method_12_code 35 = .ok (.iload_n 1, 1) := by decide +kernel
theorem d_Mo_useFails_36 : decode prog_8_method_12_code 36 = .ok (.bipush 8, 2) := by decide +kernel
theorem d_Mo_useFails_38 : decode prog_8_method_12_code 38 = .ok (.imul, 1) := by decide +kernel
theorem d_Mo_useFails_39 : decode prog_8_method_12_code 39 = .ok (.iload_n 2, 1) := by decide +kernel
theorem d_Mo_useFails_40 : decode prog_8_method_12_code 40 = .ok (.iadd, 1) := by decide +kernel
theorem d_Mo_useFails_41 : decode prog_8_method_12_code 41 = .ok (.iaload, 1) := by decide +kernel
theorem d_Mo_useFails_42 : decode prog_8_method_12_code 42 = .ok (.istore 4, 2) := by decide +kernel
theorem d_Mo_useFails_44 : decode prog_8_method_12_code 44 = .ok (.iload 4, 2) := by decide +kernel
theorem d_Mo_useFails_46 : decode prog_8_method_12_code 46 = .ok (.ifCond .ge 5, 3) := by decide +kernel
theorem d_Mo_useFails_49 : decode prog_8_method_12_code 49 = .ok (.iconst 3, 1) := by decide +kernel
theorem d_Mo_useFails_50 : decode prog_8_method_12_code 50 = .ok (.ireturn, 1) := by decide +kernel
theorem d_Mo_useFails_51 : decode prog_8_method_12_code 51 = .ok (.aload_n 0, 1) := by decide +kernel
theorem d_Mo_useFails_52 : decode prog_8_method_12_code 52 = .ok (.iload 4, 2) := by decide +kernel
theorem d_Mo_useFails_54 : decode prog_8_method_12_code 54 = .ok (.invokevirtual 74, 3) := by decide +kernel
theorem d_Mo_useFails_57 : decode prog_8_method_12_code 57 = .ok (.ifCond .ne 12, 3) := by decide +kernel
theorem d_Mo_useFails_60 : decode prog_8_method_12_code 60 = .ok (.aload_n 0, 1) := by decide +kernel
theorem d_Mo_useFails_61 : decode prog_8_method_12_code 61 = .ok (.iload 4, 2) := by decide +kernel
theorem d_Mo_useFails_63 : decode prog_8_method_12_code 63 = .ok (.invokevirtual 81, 3) := by decide +kernel
theorem d_Mo_useFails_66 : decode prog_8_method_12_code 66 = .ok (.ifCond .eq 5, 3) := by decide +kernel
theorem d_Mo_useFails_69 : decode prog_8_method_12_code 69 = .ok (.iconst 2, 1) := by decide +kernel
theorem d_Mo_useFails_70 : decode prog_8_method_12_code 70 = .ok (.ireturn, 1) := by decide +kernel
theorem d_Mo_useFails_71 : decode prog_8_method_12_code 71 = .ok (.aload_n 0, 1) := by decide +kernel
theorem d_Mo_useFails_72 : decode prog_8_method_12_code 72 = .ok (.getfield 39, 3) := by decide +kernel
theorem d_Mo_useFails_75 : decode prog_8_method_12_code 75 = .ok (.iload 4, 2) := by decide +kernel
theorem d_Mo_useFails_77 : decode prog_8_method_12_code 77 = .ok (.iaload, 1) := by decide +kernel
theorem d_Mo_useFails_78 : decode prog_8_method_12_code 78 = .ok (.iload_n 3, 1) := by decide +kernel
theorem d_Mo_useFails_79 : decode prog_8_method_12_code 79 = .ok (.iand, 1) := by decide +kernel
theorem d_Mo_useFails_80 : decode prog_8_method_12_code 80 = .ok (.ifCond .ne 7, 3) := by decide +kernel
theorem d_Mo_useFails_83 : decode prog_8_method_12_code 83 = .ok (.iconst 4, 1) := by decide +kernel
theorem d_Mo_useFails_84 : decode prog_8_method_12_code 84 = .ok (.goto 4, 3) := by decide +kernel
theorem d_Mo_useFails_87 : decode prog_8_method_12_code 87 = .ok (.iconst 0, 1) := by decide +kernel
theorem d_Mo_useFails_88 : decode prog_8_method_12_code 88 = .ok (.ireturn, 1) := by decide +kernel
theorem d_Mo_use_0 : decode prog_8_method_13_code 0 = .ok (.iload_n 1, 1) := by decide +kernel
theorem d_Mo_use_1 : decode prog_8_method_13_code 1 = .ok (.istore_n 2, 1) := by decide +kernel
theorem d_Mo_use_2 : decode prog_8_method_13_code 2 = .ok (.iconst 0, 1) := by decide +kernel
theorem d_Mo_use_3 : decode prog_8_method_13_code 3 = .ok (.istore_n 3, 1) := by decide +kernel
theorem d_Mo_use_4 : decode prog_8_method_13_code 4 = .ok (.iload_n 3, 1) := by decide +kernel
theorem d_Mo_use_5 : decode prog_8_method_13_code 5 = .ok (.bipush 41, 2) := by decide +kernel
theorem d_Mo_use_7 : decode prog_8_method_13_code 7 = .ok (.if_icmp .ge 39, 3) := by decide +kernel
theorem d_Mo_use_10 : decode prog_8_method_13_code 10 = .ok (.iload_n 2, 1) := by decide +kernel
theorem d_Mo_use_11 : decode prog_8_method_13_code 11 = .ok (.ifCond .lt 35, 3) := by decide +kernel
theorem d_Mo_use_14 : decode prog_8_method_13_code 14 = .ok (.aload_n 0, 1) := by decide +kernel
theorem d_Mo_use_15 : decode prog_8_method_13_code 15 = .ok (.getfield 42, 3) := by decide +kernel
theorem d_Mo_use_18 : decode prog_8_method_13_code 18 = .ok (.iload_n 2, 1) := by decide +kernel
theorem d_Mo_use_19 : decode prog_8_method_13_code 19 = .ok (.iaload, 1) := by decide +kernel
theorem d_Mo_use_20 : decode prog_8_method_13_code 20 = .ok (.ifCond .le 13, 3) := by decide +kernel
theorem d_Mo_use_23 : decode prog_8_method_13_code 23 = .ok (.aload_n 0, 1) := by decide +kernel
theorem d_Mo_use_24 : decode prog_8_method_13_code 24 = .ok (.getfield 42, 3) := by decide +kernel
theorem d_Mo_use_27 : decode prog_8_method_13_code 27 = .ok (.iload_n 2, 1) := by decide +kernel
theorem d_Mo_use_28 : decode prog_8_method_13_code 28 = .ok (.dup2, 1) := by decide +kernel
theorem d_Mo_use_29 : decode prog_8_method_13_code 29 = .ok (.iaload, 1) := by decide +kernel
theorem d_Mo_use_30 : decode prog_8_method_13_code 30 = .ok (.iconst 1, 1) := by decide +kernel
theorem d_Mo_use_31 : decode prog_8_method_13_code 31 = .ok (.isub, 1) := by decide +kernel
theorem d_Mo_use_32 : decode prog_8_method_13_code 32 = .ok (.iastore, 1) := by decide +kernel
theorem d_Mo_use_33 : decode prog_8_method_13_code 33 = .ok (.aload_n 0, 1) := by decide +kernel
theorem d_Mo_use_34 : decode prog_8_method_13_code 34 = .ok (.getfield 45, 3) := by decide +kernel
theorem d_Mo_use_37 : decode prog_8_method_13_code 37 = .ok (.iload_n 2, 1) := by decide +kernel
theorem d_Mo_use_38 : decode prog_8_method_13_code 38 = .ok (.iaload, 1) := by decide +kernel
theorem d_Mo_use_39 : decode prog_8_method_13_code 39 = .ok (.istore_n 2, 1) := by decide +kernel
theorem d_Mo_use_40 : decode prog_8_method_13_code 40 = .ok (.iinc 3 1, 3) := by decide +kernel
theorem d_Mo_use_43 : decode prog_8_method_13_code 43 = .ok (.goto (-39), 3) := by decide +kernel
theorem d_Mo_use_46 : decode prog_8_method_13_code 46 = .ok (.return_, 1) := by decide +kernel
theorem d_Mo_put_0 : decode prog_8_method_14_code 0 = .ok (.aload_n 0, 1) := by decide +kernel
theorem d_Mo_put_1 : decode prog_8_method_14_code 1 = .ok (.getfield 26, 3) := by decide +kernel
theorem d_Mo_put_4 : decode prog_8_method_14_code 4 = .ok (.iload_n 1, 1) := by decide +kernel
theorem d_Mo_put_5 : decode prog_8_method_14_code 5 = .ok (.iload_n 2, 1) := by decide +kernel
theorem d_Mo_put_6 : decode prog_8_method_14_code 6 = .ok (.iastore, 1) := by decide +kernel
theorem d_Mo_put_7 : decode prog_8_method_14_code 7 = .ok (.aload_n 0, 1) := by decide +kernel
theorem d_Mo_put_8 : decode prog_8_method_14_code 8 = .ok (.getfield 30, 3) := by decide +kernel
theorem d_Mo_put_11 : decode prog_8_method_14_code 11 = .ok (.iload_n 1, 1) := by decide +kernel
theorem d_Mo_put_12 : decode prog_8_method_14_code 12 = .ok (.iload_n 3, 1) := by decide +kernel
theorem d_Mo_put_13 : decode prog_8_method_14_code 13 = .ok (.iastore, 1) := by decide +kernel
theorem d_Mo_put_14 : decode prog_8_method_14_code 14 = .ok (.return_, 1) := by decide +kernel
theorem d_Mo_domain_0 : decode prog_8_method_15_code 0 = .ok (.aload_n 0, 1) := by decide +kernel
theorem d_Mo_domain_1 : decode prog_8_method_15_code 1 = .ok (.getfield 7, 3) := by decide +kernel
theorem d_Mo_domain_4 : decode prog_8_method_15_code 4 = .ok (.bipush 6, 2) := by decide +kernel
theorem d_Mo_domain_6 : decode prog_8_method_15_code 6 = .ok (.if_icmp .ne 9, 3) := by decide +kernel
theorem d_Mo_domain_9 : decode prog_8_method_15_code 9 = .ok (.aload_n 0, 1) := by decide +kernel
theorem d_Mo_domain_10 : decode prog_8_method_15_code 10 = .ok (.iconst 1, 1) := by decide +kernel
theorem d_Mo_domain_11 : decode prog_8_method_15_code 11 = .ok (.invokevirtual 84, 3) := by decide +kernel
theorem d_Mo_domain_14 : decode prog_8_method_15_code 14 = .ok (.ireturn, 1) := by decide +kernel
theorem d_Mo_domain_15 : decode prog_8_method_15_code 15 = .ok (.aload_n 0, 1) := by decide +kernel
theorem d_Mo_domain_16 : decode prog_8_method_15_code 16 = .ok (.dup, 1) := by decide +kernel
theorem d_Mo_domain_17 : decode prog_8_method_15_code 17 = .ok (.getfield 7, 3) := by decide +kernel
theorem d_Mo_domain_20 : decode prog_8_method_15_code 20 = .ok (.iconst 1, 1) := by decide +kernel
theorem d_Mo_domain_21 : decode prog_8_method_15_code 21 = .ok (.iadd, 1) := by decide +kernel
theorem d_Mo_domain_22 : decode prog_8_method_15_code 22 = .ok (.putfield 7, 3) := by decide +kernel
theorem d_Mo_domain_25 : decode prog_8_method_15_code 25 = .ok (.aload_n 0, 1) := by decide +kernel
theorem d_Mo_domain_26 : decode prog_8_method_15_code 26 = .ok (.aload_n 0, 1) := by decide +kernel
theorem d_Mo_domain_27 : decode prog_8_method_15_code 27 = .ok (.getfield 7, 3) := by decide +kernel
theorem d_Mo_domain_30 : decode prog_8_method_15_code 30 = .ok (.iconst 1, 1) := by decide +kernel
theorem d_Mo_domain_31 : decode prog_8_method_15_code 31 = .ok (.isub, 1) := by decide +kernel
theorem d_Mo_domain_32 : decode prog_8_method_15_code 32 = .ok (.invokevirtual 87, 3) := by decide +kernel
theorem d_Mo_domain_35 : decode prog_8_method_15_code 35 = .ok (.ireturn, 1) := by decide +kernel
theorem d_Mo_objects_0 : decode prog_8_method_16_code 0 = .ok (.iconst 0, 1) := by decide +kernel
theorem d_Mo_objects_1 : decode prog_8_method_16_code 1 = .ok (.istore_n 2, 1) := by decide +kernel
theorem d_Mo_objects_2 : decode prog_8_method_16_code 2 = .ok (.iconst 0, 1) := by decide +kernel
theorem d_Mo_objects_3 : decode prog_8_method_16_code 3 = .ok (.istore_n 3, 1) := by decide +kernel
theorem d_Mo_objects_4 : decode prog_8_method_16_code 4 = .ok (.iload_n 3, 1) := by decide +kernel
theorem d_Mo_objects_5 : decode prog_8_method_16_code 5 = .ok (.bipush 12, 2) := by decide +kernel
theorem d_Mo_objects_7 : decode prog_8_method_16_code 7 = .ok (.if_icmp .ge 26, 3) := by decide +kernel
theorem d_Mo_objects_10 : decode prog_8_method_16_code 10 = .ok (.aload_n 0, 1) := by decide +kernel
theorem d_Mo_objects_11 : decode prog_8_method_16_code 11 = .ok (.getfield 23, 3) := by decide +kernel
theorem d_Mo_objects_14 : decode prog_8_method_16_code 14 = .ok (.iload_n 1, 1) := by decide +kernel
theorem d_Mo_objects_15 : decode prog_8_method_16_code 15 = .ok (.bipush 12, 2) := by decide +kernel
theorem d_Mo_objects_17 : decode prog_8_method_16_code 17 = .ok (.imul, 1) := by decide +kernel
theorem d_Mo_objects_18 : decode prog_8_method_16_code 18 = .ok (.iload_n 3, 1) := by decide +kernel
theorem d_Mo_objects_19 : decode prog_8_method_16_code 19 = .ok (.iadd, 1) := by decide +kernel
theorem d_Mo_objects_20 : decode prog_8_method_16_code 20 = .ok (.baload, 1) := by decide +kernel
theorem d_Mo_objects_21 : decode prog_8_method_16_code 21 = .ok (.ifCond .eq 6, 3) := by decide +kernel
theorem d_Mo_objects_24 : decode prog_8_method_16_code 24 = .ok (.iinc 2 1, 3) := by decide +kernel
theorem d_Mo_objects_27 : decode prog_8_method_16_code 27 = .ok (.iinc 3 1, 3) := by decide +kernel
theorem d_Mo_objects_30 : decode prog_8_method_16_code 30 = .ok (.goto (-26), 3) := by decide +kernel
theorem d_Mo_objects_33 : decode prog_8_method_16_code 33 = .ok (.iload_n 2, 1) := by decide +kernel
theorem d_Mo_objects_34 : decode prog_8_method_16_code 34 = .ok (.ireturn, 1) := by decide +kernel
theorem d_Mo_newObject_0 : decode prog_8_method_17_code 0 = .ok (.iconst 0, 1) := by decide +kernel
theorem d_Mo_newObject_1 : decode prog_8_method_17_code 1 = .ok (.istore_n 2, 1) := by decide +kernel
theorem d_Mo_newObject_2 : decode prog_8_method_17_code 2 = .ok (.aload_n 0, 1) := by decide +kernel
theorem d_Mo_newObject_3 : decode prog_8_method_17_code 3 = .ok (.getfield 23, 3) := by decide +kernel
theorem d_Mo_newObject_6 : decode prog_8_method_17_code 6 = .ok (.iload_n 1, 1) := by decide +kernel
theorem d_Mo_newObject_7 : decode prog_8_method_17_code 7 = .ok (.bipush 12, 2) := by decide +kernel
theorem d_Mo_newObject_9 : decode prog_8_method_17_code 9 = .ok (.imul, 1) := by decide +kernel
theorem d_Mo_newObject_10 : decode prog_8_method_17_code 10 = .ok (.iload_n 2, 1) := by decide +kernel
theorem d_Mo_newObject_11 : decode prog_8_method_17_code 11 = .ok (.iadd, 1) := by decide +kernel
theorem d_Mo_newObject_12 : decode prog_8_method_17_code 12 = .ok (.baload, 1) := by decide +kernel
theorem d_Mo_newObject_13 : decode prog_8_method_17_code 13 = .ok (.ifCond .eq 9, 3) := by decide +kernel
theorem d_Mo_newObject_16 : decode prog_8_method_17_code 16 = .ok (.iinc 2 1, 3) := by decide +kernel
theorem d_Mo_newObject_19 : decode prog_8_method_17_code 19 = .ok (.goto (-17), 3) := by decide +kernel
theorem d_Mo_newObject_22 : decode prog_8_method_17_code 22 = .ok (.aload_n 0, 1) := by decide +kernel
theorem d_Mo_newObject_23 : decode prog_8_method_17_code 23 = .ok (.getfield 23, 3) := by decide +kernel
theorem d_Mo_newObject_26 : decode prog_8_method_17_code 26 = .ok (.iload_n 1, 1) := by decide +kernel
theorem d_Mo_newObject_27 : decode prog_8_method_17_code 27 = .ok (.bipush 12, 2) := by decide +kernel
theorem d_Mo_newObject_29 : decode prog_8_method_17_code 29 = .ok (.imul, 1) := by decide +kernel
theorem d_Mo_newObject_30 : decode prog_8_method_17_code 30 = .ok (.iload_n 2, 1) := by decide +kernel
theorem d_Mo_newObject_31 : decode prog_8_method_17_code 31 = .ok (.iadd, 1) := by decide +kernel
theorem d_Mo_newObject_32 : decode prog_8_method_17_code 32 = .ok (.iconst 1, 1) := by decide +kernel
theorem d_Mo_newObject_33 : decode prog_8_method_17_code 33 = .ok (.bastore, 1) := by decide +kernel
theorem d_Mo_newObject_34 : decode prog_8_method_17_code 34 = .ok (.iconst 0, 1) := by decide +kernel
theorem d_Mo_newObject_35 : decode prog_8_method_17_code 35 = .ok (.istore_n 3, 1) := by decide +kernel
theorem d_Mo_newObject_36 : decode prog_8_method_17_code 36 = .ok (.iload_n 3, 1) := by decide +kernel
theorem d_Mo_newObject_37 : decode prog_8_method_17_code 37 = .ok (.iconst 3, 1) := by decide +kernel
theorem d_Mo_newObject_38 : decode prog_8_method_17_code 38 = .ok (.if_icmp .ge 25, 3) := by decide +kernel
theorem d_Mo_newObject_41 : decode prog_8_method_17_code 41 = .ok (.aload_n 0, 1) := by decide +kernel
theorem d_Mo_newObject_42 : decode prog_8_method_17_code 42 = .ok (.iload_n 1, 1) := by decide +kernel
theorem d_Mo_newObject_43 : decode prog_8_method_17_code 43 = .ok (.bipush 12, 2) := by decide +kernel
theorem d_Mo_newObject_45 : decode prog_8_method_17_code 45 = .ok (.imul, 1) := by decide +kernel
theorem d_Mo_newObject_46 : decode prog_8_method_17_code 46 = .ok (.iload_n 2, 1) := by decide +kernel
theorem d_Mo_newObject_47 : decode prog_8_method_17_code 47 = .ok (.iadd, 1) := by decide +kernel
theorem d_Mo_newObject_48 : decode prog_8_method_17_code 48 = .ok (.iconst 3, 1) := by decide +kernel
theorem d_Mo_newObject_49 : decode prog_8_method_17_code 49 = .ok (.imul, 1) := by decide +kernel
theorem d_Mo_newObject_50 : decode prog_8_method_17_code 50 = .ok (.iload_n 3, 1) := by decide +kernel
theorem d_Mo_newObject_51 : decode prog_8_method_17_code 51 = .ok (.iadd, 1) := by decide +kernel
theorem d_Mo_newObject_52 : decode prog_8_method_17_code 52 = .ok (.iconst 0, 1) := by decide +kernel
theorem d_Mo_newObject_53 : decode prog_8_method_17_code 53 = .ok (.iconst 0, 1) := by decide +kernel
theorem d_Mo_newObject_54 : decode prog_8_method_17_code 54 = .ok (.invokevirtual 90, 3) := by decide +kernel
theorem d_Mo_newObject_57 : decode prog_8_method_17_code 57 = .ok (.iinc 3 1, 3) := by decide +kernel
theorem d_Mo_newObject_60 : decode prog_8_method_17_code 60 = .ok (.goto (-24), 3) := by decide +kernel
theorem d_Mo_newObject_63 : decode prog_8_method_17_code 63 = .ok (.iload_n 2, 1) := by decide +kernel
theorem d_Mo_newObject_64 : decode prog_8_method_17_code 64 = .ok (.ireturn, 1) := by decide +kernel
theorem d_Mo_object_0 : decode prog_8_method_18_code 0 = .ok (.aload_n 0, 1) := by decide +kernel
theorem d_Mo_object_1 : decode prog_8_method_18_code 1 = .ok (.iload_n 1, 1) := by decide +kernel
theorem d_Mo_object_2 : decode prog_8_method_18_code 2 = .ok (.invokevirtual 78, 3) := by decide +kernel
theorem d_Mo_object_5 : decode prog_8_method_18_code 5 = .ok (.ifCond .eq 9, 3) := by decide +kernel
theorem d_Mo_object_8 : decode prog_8_method_18_code 8 = .ok (.aload_n 0, 1) := by decide +kernel
theorem d_Mo_object_9 : decode prog_8_method_18_code 9 = .ok (.iconst 1, 1) := by decide +kernel
theorem d_Mo_object_10 : decode prog_8_method_18_code 10 = .ok (.invokevirtual 84, 3) := by decide +kernel
theorem d_Mo_object_13 : decode prog_8_method_18_code 13 = .ok (.ireturn, 1) := by decide +kernel
theorem d_Mo_object_14 : decode prog_8_method_18_code 14 = .ok (.aload_n 0, 1) := by decide +kernel
theorem d_Mo_object_15 : decode prog_8_method_18_code 15 = .ok (.getfield 19, 3) := by decide +kernel
theorem d_Mo_object_18 : decode prog_8_method_18_code 18 = .ok (.iload_n 1, 1) := by decide +kernel
theorem d_Mo_object_19 : decode prog_8_method_18_code 19 = .ok (.baload, 1) := by decide +kernel
theorem d_Mo_object_20 : decode prog_8_method_18_code 20 = .ok (.ifCond .eq 9, 3) := by decide +kernel
theorem d_Mo_object_23 : decode prog_8_method_18_code 23 = .ok (.aload_n 0, 1) := by decide +kernel
theorem d_Mo_object_24 : decode prog_8_method_18_code 24 = .ok (.iconst 2, 1) := by decide +kernel
theorem d_Mo_object_25 : decode prog_8_method_18_code 25 = .ok (.invokevirtual 84, 3) := by decide +kernel
theorem d_Mo_object_28 : decode prog_8_method_18_code 28 = .ok (.ireturn, 1) := by decide +kernel
theorem d_Mo_object_29 : decode prog_8_method_18_code 29 = .ok (.aload_n 0, 1) := by decide +kernel
theorem d_Mo_object_30 : decode prog_8_method_18_code 30 = .ok (.iload_n 1, 1) := by decide +kernel
theorem d_Mo_object_31 : decode prog_8_method_18_code 31 = .ok (.invokevirtual 94, 3) := by decide +kernel
theorem d_Mo_object_34 : decode prog_8_method_18_code 34 = .ok (.bipush 12, 2) := by decide +kernel
theorem d_Mo_object_36 : decode prog_8_method_18_code 36 = .ok (.if_icmp .ne 11, 3) := by decide +kernel
theorem d_Mo_object_39 : decode prog_8_method_18_code 39 = .ok (.aload_n 0, 1) := by decide +kernel
theorem d_Mo_object_40 : decode prog_8_method_18_code 40 = .ok (.iconst 3, 1) := by decide +kernel
theorem d_Mo_object_41 : decode prog_8_method_18_code 41 = .ok (.invokevirtual 84, 3) := by decide +kernel
theorem d_Mo_object_44 : decode prog_8_method_18_code 44 = .ok (.goto 12, 3) := by decide +kernel
theorem d_Mo_object_47 : decode prog_8_method_18_code 47 = .ok (.aload_n 0, 1) := by decide +kernel
theorem d_Mo_object_48 : decode prog_8_method_18_code 48 = .ok (.aload_n 0, 1) := by decide +kernel
theorem d_Mo_object_49 : decode prog_8_method_18_code 49 = .ok (.iload_n 1, 1) := by decide +kernel
theorem d_Mo_object_50 : decode prog_8_method_18_code 50 = .ok (.invokevirtual 97, 3) := by decide +kernel
theorem d_Mo_object_53 : decode prog_8_method_18_code 53 = .ok (.invokevirtual 87, 3) := by decide +kernel
theorem d_Mo_object_56 : decode prog_8_method_18_code 56 = .ok (.ireturn, 1) := by decide +kernel
theorem d_Mo_set_0 : decode prog_8_method_19_code 0 = .ok (.aload_n 0, 1) := by decide +kernel
theorem d_Mo_set_1 : decode prog_8_method_19_code 1 = .ok (.iload_n 1, 1) := by decide +kernel
theorem d_Mo_set_2 : decode prog_8_method_19_code 2 = .ok (.invokevirtual 78, 3) := by decide +kernel
theorem d_Mo_set_5 : decode prog_8_method_19_code 5 = .ok (.ifCond .eq 9, 3) := by decide +kernel
theorem d_Mo_set_8 : decode prog_8_method_19_code 8 = .ok (.aload_n 0, 1) := by decide +kernel
theorem d_Mo_set_9 : decode prog_8_method_19_code 9 = .ok (.iconst 1, 1) := by decide +kernel
theorem d_Mo_set_10 : decode prog_8_method_19_code 10 = .ok (.invokevirtual 84, 3) := by decide +kernel
theorem d_Mo_set_13 : decode prog_8_method_19_code 13 = .ok (.ireturn, 1) := by decide +kernel
theorem d_Mo_set_14 : decode prog_8_method_19_code 14 = .ok (.aload_n 0, 1) := by decide +kernel
theorem d_Mo_set_15 : decode prog_8_method_19_code 15 = .ok (.getfield 19, 3) := by decide +kernel
theorem d_Mo_set_18 : decode prog_8_method_19_code 18 = .ok (.iload_n 1, 1) := by decide +kernel
theorem d_Mo_set_19 : decode prog_8_method_19_code 19 = .ok (.baload, 1) := by decide +kernel
theorem d_Mo_set_20 : decode prog_8_method_19_code 20 = .ok (.ifCond .eq 9, 3) := by decide +kernel
theorem d_Mo_set_23 : decode prog_8_method_19_code 23 = .ok (.aload_n 0, 1) := by decide +kernel
theorem d_Mo_set_24 : decode prog_8_method_19_code 24 = .ok (.iconst 2, 1) := by decide +kernel
theorem d_Mo_set_25 : decode prog_8_method_19_code 25 = .ok (.invokevirtual 84, 3) := by decide +kernel
theorem d_Mo_set_28 : decode prog_8_method_19_code 28 = .ok (.ireturn, 1) := by decide +kernel
theorem d_Mo_set_29 : decode prog_8_method_19_code 29 = .ok (.aload_n 0, 1) := by decide +kernel
theorem d_Mo_set_30 : decode prog_8_method_19_code 30 = .ok (.iload_n 1, 1) := by decide +kernel
theorem d_Mo_set_31 : decode prog_8_method_19_code 31 = .ok (.iload_n 2, 1) := by decide +kernel
theorem d_Mo_set_32 : decode prog_8_method_19_code 32 = .ok (.invokevirtual 100, 3) := by decide +kernel
theorem d_Mo_set_35 : decode prog_8_method_19_code 35 = .ok (.ifCond .eq 9, 3) := by decide +kernel
theorem d_Mo_set_38 : decode prog_8_method_19_code 38 = .ok (.aload_n 0, 1) := by decide +kernel
theorem d_Mo_set_39 : decode prog_8_method_19_code 39 = .ok (.iconst 3, 1) := by decide +kernel
theorem d_Mo_set_40 : decode prog_8_method_19_code 40 = .ok (.invokevirtual 84, 3) := by decide +kernel
theorem d_Mo_set_43 : decode prog_8_method_19_code 43 = .ok (.ireturn, 1) := by decide +kernel
theorem d_Mo_set_44 : decode prog_8_method_19_code 44 = .ok (.aload_n 0, 1) := by decide +kernel
theorem d_Mo_set_45 : decode prog_8_method_19_code 45 = .ok (.iload_n 3, 1) := by decide +kernel
theorem d_Mo_set_46 : decode prog_8_method_19_code 46 = .ok (.iconst 3, 1) := by decide +kernel
theorem d_Mo_set_47 : decode prog_8_method_19_code 47 = .ok (.invokevirtual 66, 3) := by decide +kernel
theorem d_Mo_set_50 : decode prog_8_method_19_code 50 = .ok (.ifCond .eq 9, 3) := by decide +kernel
theorem d_Mo_set_53 : decode prog_8_method_19_code 53 = .ok (.aload_n 0, 1) := by decide +kernel
theorem d_Mo_set_54 : decode prog_8_method_19_code 54 = .ok (.iconst 4, 1) := by decide +kernel
theorem d_Mo_set_55 : decode prog_8_method_19_code 55 = .ok (.invokevirtual 84, 3) := by decide +kernel
theorem d_Mo_set_58 : decode prog_8_method_19_code 58 = .ok (.ireturn, 1) := by decide +kernel
theorem d_Mo_set_59 : decode prog_8_method_19_code 59 = .ok (.iload_n 1, 1) := by decide +kernel
theorem d_Mo_set_60 : decode prog_8_method_19_code 60 = .ok (.bipush 12, 2) := by decide +kernel
theorem d_Mo_set_62 : decode prog_8_method_19_code 62 = .ok (.imul, 1) := by decide +kernel
theorem d_Mo_set_63 : decode prog_8_method_19_code 63 = .ok (.iload_n 2, 1) := by decide +kernel
theorem d_Mo_set_64 : decode prog_8_method_19_code 64 = .ok (.iadd, 1) := by decide +kernel
theorem d_Mo_set_65 : decode prog_8_method_19_code 65 = .ok (.iconst 3, 1) := by decide +kernel
theorem d_Mo_set_66 : decode prog_8_method_19_code 66 = .ok (.imul, 1) := by decide +kernel
theorem d_Mo_set_67 : decode prog_8_method_19_code 67 = .ok (.iload_n 3, 1) := by decide +kernel
theorem d_Mo_set_68 : decode prog_8_method_19_code 68 = .ok (.iadd, 1) := by decide +kernel
theorem d_Mo_set_69 : decode prog_8_method_19_code 69 = .ok (.istore 5, 2) := by decide +kernel
theorem d_Mo_set_71 : decode prog_8_method_19_code 71 = .ok (.aload_n 0, 1) := by decide +kernel
theorem d_Mo_set_72 : decode prog_8_method_19_code 72 = .ok (.getfield 26, 3) := by decide +kernel
theorem d_Mo_set_75 : decode prog_8_method_19_code 75 = .ok (.iload 5, 2) := by decide +kernel
theorem d_Mo_set_77 : decode prog_8_method_19_code 77 = .ok (.iaload, 1) := by decide +kernel
theorem d_Mo_set_78 : decode prog_8_method_19_code 78 = .ok (.ifCond .ne 13, 3) := by decide +kernel
theorem d_Mo_set_81 : decode prog_8_method_19_code 81 = .ok (.aload_n 0, 1) := by decide +kernel
theorem d_Mo_set_82 : decode prog_8_method_19_code 82 = .ok (.getfield 30, 3) := by decide +kernel
theorem d_Mo_set_85 : decode prog_8_method_19_code 85 = .ok (.iload 5, 2) := by decide +kernel
theorem d_Mo_set_87 : decode prog_8_method_19_code 87 = .ok (.iaload, 1) := by decide +kernel
theorem d_Mo_set_88 : decode prog_8_method_19_code 88 = .ok (.goto 4, 3) := by decide +kernel
theorem d_Mo_set_91 : decode prog_8_method_19_code 91 = .ok (.iconst 0, 1) := by decide +kernel
theorem d_Mo_set_92 : decode prog_8_method_19_code 92 = .ok (.istore 6, 2) := by decide +kernel
theorem d_Mo_set_94 : decode prog_8_method_19_code 94 = .ok (.aload_n 0, 1) := by decide +kernel
theorem d_Mo_set_95 : decode prog_8_method_19_code 95 = .ok (.iload 5, 2) := by decide +kernel
theorem d_Mo_set_97 : decode prog_8_method_19_code 97 = .ok (.iconst 0, 1) := by decide +kernel
theorem d_Mo_set_98 : decode prog_8_method_19_code 98 = .ok (.iload 4, 2) := by decide +kernel
theorem d_Mo_set_100 : decode prog_8_method_19_code 100 = .ok (.invokevirtual 90, 3) := by decide +kernel
theorem d_Mo_set_103 : decode prog_8_method_19_code 103 = .ok (.aload_n 0, 1) := by decide +kernel
theorem d_Mo_set_104 : decode prog_8_method_19_code 104 = .ok (.iload 6, 2) := by decide +kernel
theorem d_Mo_set_106 : decode prog_8_method_19_code 106 = .ok (.invokevirtual 87, 3) := by decide +kernel
theorem d_Mo_set_109 : decode prog_8_method_19_code 109 = .ok (.ireturn, 1) := by decide +kernel
theorem d_Mo_link_0 : decode prog_8_method_20_code 0 = .ok (.aload_n 0, 1) := by decide +kernel
theorem d_Mo_link_1 : decode prog_8_method_20_code 1 = .ok (.iload_n 1, 1) := by decide +kernel
theorem d_Mo_link_2 : decode prog_8_method_20_code 2 = .ok (.invokevirtual 78, 3) := by decide +kernel
theorem d_Mo_link_5 : decode prog_8_method_20_code 5 = .ok (.ifCond .eq 9, 3) := by decide +kernel
theorem d_Mo_link_8 : decode prog_8_method_20_code 8 = .ok (.aload_n 0, 1) := by decide +kernel
theorem d_Mo_link_9 : decode prog_8_method_20_code 9 = .ok (.iconst 1, 1) := by decide +kernel
theorem d_Mo_link_10 : decode prog_8_method_20_code 10 = .ok (.invokevirtual 84, 3) := by decide +kernel
theorem d_Mo_link_13 : decode prog_8_method_20_code 13 = .ok (.ireturn, 1) := by decide +kernel
theorem d_Mo_link_14 : decode prog_8_method_20_code 14 = .ok (.aload_n 0, 1) := by decide +kernel
theorem d_Mo_link_15 : decode prog_8_method_20_code 15 = .ok (.getfield 19, 3) := by decide +kernel
theorem d_Mo_link_18 : decode prog_8_method_20_code 18 = .ok (.iload_n 1, 1) := by decide +kernel
theorem d_Mo_link_19 : decode prog_8_method_20_code 19 = .ok (.baload, 1) := by decide +kernel
theorem d_Mo_link_20 : decode prog_8_method_20_code 20 = .ok (.ifCond .eq 9, 3) := by decide +kernel
theorem d_Mo_link_23 : decode prog_8_method_20_code 23 = .ok (.aload_n 0, 1) := by decide +kernel
theorem d_Mo_link_24 : decode prog_8_method_20_code 24 = .ok (.iconst 2, 1) := by decide +kernel
theorem d_Mo_link_25 : decode prog_8_method_20_code 25 = .ok (.invokevirtual 84, 3) := by decide +kernel
theorem d_Mo_link_28 : decode prog_8_method_20_code 28 = .ok (.ireturn, 1) := by decide +kernel
theorem d_Mo_link_29 : decode prog_8_method_20_code 29 = .ok (.aload_n 0, 1) := by decide +kernel
theorem d_Mo_link_30 : decode prog_8_method_20_code 30 = .ok (.iload_n 1, 1) := by decide +kernel
theorem d_Mo_link_31 : decode prog_8_method_20_code 31 = .ok (.iload_n 2, 1) := by decide +kernel
theorem d_Mo_link_32 : decode prog_8_method_20_code 32 = .ok (.invokevirtual 100, 3) := by decide +kernel
theorem d_Mo_link_35 : decode prog_8_method_20_code 35 = .ok (.ifCond .eq 9, 3) := by decide +kernel
theorem d_Mo_link_38 : decode prog_8_method_20_code 38 = .ok (.aload_n 0, 1) := by decide +kernel
theorem d_Mo_link_39 : decode prog_8_method_20_code 39 = .ok (.iconst 3, 1) := by decide +kernel
theorem d_Mo_link_40 : decode prog_8_method_20_code 40 = .ok (.invokevirtual 84, 3) := by decide +kernel
theorem d_Mo_link_43 : decode prog_8_method_20_code 43 = .ok (.ireturn, 1) := by decide +kernel
theorem d_Mo_link_44 : decode prog_8_method_20_code 44 = .ok (.aload_n 0, 1) := by decide +kernel
theorem d_Mo_link_45 : decode prog_8_method_20_code 45 = .ok (.iload_n 3, 1) := by decide +kernel
theorem d_Mo_link_46 : decode prog_8_method_20_code 46 = .ok (.iconst 3, 1) := by decide +kernel
theorem d_Mo_link_47 : decode prog_8_method_20_code 47 = .ok (.invokevirtual 66, 3) := by decide +kernel
theorem d_Mo_link_50 : decode prog_8_method_20_code 50 = .ok (.ifCond .eq 9, 3) := by decide +kernel
theorem d_Mo_link_53 : decode prog_8_method_20_code 53 = .ok (.aload_n 0, 1) := by decide +kernel
theorem d_Mo_link_54 : decode prog_8_method_20_code 54 = .ok (.iconst 4, 1) := by decide +kernel
theorem d_Mo_link_55 : decode prog_8_method_20_code 55 = .ok (.invokevirtual 84, 3) := by decide +kernel
theorem d_Mo_link_58 : decode prog_8_method_20_code 58 = .ok (.ireturn, 1) := by decide +kernel
theorem d_Mo_link_59 : decode prog_8_method_20_code 59 = .ok (.aload_n 0, 1) := by decide +kernel
theorem d_Mo_link_60 : decode prog_8_method_20_code 60 = .ok (.iload_n 1, 1) := by decide +kernel
theorem d_Mo_link_61 : decode prog_8_method_20_code 61 = .ok (.iload 4, 2) := by decide +kernel
theorem d_Mo_link_63 : decode prog_8_method_20_code 63 = .ok (.invokevirtual 100, 3) := by decide +kernel
theorem d_Mo_link_66 : decode prog_8_method_20_code 66 = .ok (.ifCond .eq 9, 3) := by decide +kernel
theorem d_Mo_link_69 : decode prog_8_method_20_code 69 = .ok (.aload_n 0, 1) := by decide +kernel
theorem d_Mo_link_70 : decode prog_8_method_20_code 70 = .ok (.iconst 3, 1) := by decide +kernel
theorem d_Mo_link_71 : decode prog_8_method_20_code 71 = .ok (.invokevirtual 84, 3) := by decide +kernel
theorem d_Mo_link_74 : decode prog_8_method_20_code 74 = .ok (.ireturn, 1) := by decide +kernel
theorem d_Mo_link_75 : decode prog_8_method_20_code 75 = .ok (.aload_n 0, 1) := by decide +kernel
theorem d_Mo_link_76 : decode prog_8_method_20_code 76 = .ok (.iload_n 1, 1) := by decide +kernel
theorem d_Mo_link_77 : decode prog_8_method_20_code 77 = .ok (.bipush 12, 2) := by decide +kernel
theorem d_Mo_link_79 : decode prog_8_method_20_code 79 = .ok (.imul, 1) := by decide +kernel
theorem d_Mo_link_80 : decode prog_8_method_20_code 80 = .ok (.iload_n 2, 1) := by decide +kernel
theorem d_Mo_link_81 : decode prog_8_method_20_code 81 = .ok (.iadd, 1) := by decide +kernel
theorem d_Mo_link_82 : decode prog_8_method_20_code 82 = .ok (.iconst 3, 1) := by decide +kernel
theorem d_Mo_link_83 : decode prog_8_method_20_code 83 = .ok (.imul, 1) := by decide +kernel
theorem d_Mo_link_84 : decode prog_8_method_20_code 84 = .ok (.iload_n 3, 1) := by decide +kernel
theorem d_Mo_link_85 : decode prog_8_method_20_code 85 = .ok (.iadd, 1) := by decide +kernel
theorem d_Mo_link_86 : decode prog_8_method_20_code 86 = .ok (.iconst 1, 1) := by decide +kernel
theorem d_Mo_link_87 : decode prog_8_method_20_code 87 = .ok (.iload 4, 2) := by decide +kernel
theorem d_Mo_link_89 : decode prog_8_method_20_code 89 = .ok (.invokevirtual 90, 3) := by decide +kernel
theorem d_Mo_link_92 : decode prog_8_method_20_code 92 = .ok (.aload_n 0, 1) := by decide +kernel
theorem d_Mo_link_93 : decode prog_8_method_20_code 93 = .ok (.iconst 0, 1) := by decide +kernel
theorem d_Mo_link_94 : decode prog_8_method_20_code 94 = .ok (.invokevirtual 87, 3) := by decide +kernel
theorem d_Mo_link_97 : decode prog_8_method_20_code 97 = .ok (.ireturn, 1) := by decide +kernel
theorem d_Mo_hold_0 : decode prog_8_method_21_code 0 = .ok (.aload_n 0, 1) := by decide +kernel
theorem d_Mo_hold_1 : decode prog_8_method_21_code 1 = .ok (.iload_n 1, 1) := by decide +kernel
theorem d_Mo_hold_2 : decode prog_8_method_21_code 2 = .ok (.invokevirtual 78, 3) := by decide +kernel
theorem d_Mo_hold_5 : decode prog_8_method_21_code 5 = .ok (.ifCond .eq 9, 3) := by decide +kernel
theorem d_Mo_hold_8 : decode prog_8_method_21_code 8 = .ok (.aload_n 0, 1) := by decide +kernel
theorem d_Mo_hold_9 : decode prog_8_method_21_code 9 = .ok (.iconst 1, 1) := by decide +kernel
theorem d_Mo_hold_10 : decode prog_8_method_21_code 10 = .ok (.invokevirtual 84, 3) := by decide +kernel
theorem d_Mo_hold_13 : decode prog_8_method_21_code 13 = .ok (.ireturn, 1) := by decide +kernel
theorem d_Mo_hold_14 : decode prog_8_method_21_code 14 = .ok (.aload_n 0, 1) := by decide +kernel
theorem d_Mo_hold_15 : decode prog_8_method_21_code 15 = .ok (.getfield 19, 3) := by decide +kernel
theorem d_Mo_hold_18 : decode prog_8_method_21_code 18 = .ok (.iload_n 1, 1) := by decide +kernel
theorem d_Mo_hold_19 : decode prog_8_method_21_code 19 = .ok (.baload, 1) := by decide +kernel
theorem d_Mo_hold_20 : decode prog_8_method_21_code 20 = .ok (.ifCond .eq 9, 3) := by decide +kernel
theorem d_Mo_hold_23 : decode prog_8_method_21_code 23 = .ok (.aload_n 0, 1) := by decide +kernel
theorem d_Mo_hold_24 : decode prog_8_method_21_code 24 = .ok (.iconst 2, 1) := by decide +kernel
theorem d_Mo_hold_25 : decode prog_8_method_21_code 25 = .ok (.invokevirtual 84, 3) := by decide +kernel
theorem d_Mo_hold_28 : decode prog_8_method_21_code 28 = .ok (.ireturn, 1) := by decide +kernel
theorem d_Mo_hold_29 : decode prog_8_method_21_code 29 = .ok (.aload_n 0, 1) := by decide +kernel
theorem d_Mo_hold_30 : decode prog_8_method_21_code 30 = .ok (.iload_n 1, 1) := by decide +kernel
theorem d_Mo_hold_31 : decode prog_8_method_21_code 31 = .ok (.iload_n 2, 1) := by decide +kernel
theorem d_Mo_hold_32 : decode prog_8_method_21_code 32 = .ok (.invokevirtual 100, 3) := by decide +kernel
theorem d_Mo_hold_35 : decode prog_8_method_21_code 35 = .ok (.ifCond .eq 9, 3) := by decide +kernel
theorem d_Mo_hold_38 : decode prog_8_method_21_code 38 = .ok (.aload_n 0, 1) := by decide +kernel
theorem d_Mo_hold_39 : decode prog_8_method_21_code 39 = .ok (.iconst 3, 1) := by decide +kernel
theorem d_Mo_hold_40 : decode prog_8_method_21_code 40 = .ok (.invokevirtual 84, 3) := by decide +kernel
theorem d_Mo_hold_43 : decode prog_8_method_21_code 43 = .ok (.ireturn, 1) := by decide +kernel
theorem d_Mo_hold_44 : decode prog_8_method_21_code 44 = .ok (.aload_n 0, 1) := by decide +kernel
theorem d_Mo_hold_45 : decode prog_8_method_21_code 45 = .ok (.iload_n 3, 1) := by decide +kernel
theorem d_Mo_hold_46 : decode prog_8_method_21_code 46 = .ok (.iconst 3, 1) := by decide +kernel
theorem d_Mo_hold_47 : decode prog_8_method_21_code 47 = .ok (.invokevirtual 66, 3) := by decide +kernel
theorem d_Mo_hold_50 : decode prog_8_method_21_code 50 = .ok (.ifCond .ne 14, 3) := by decide +kernel
theorem d_Mo_hold_53 : decode prog_8_method_21_code 53 = .ok (.aload_n 0, 1) := by decide +kernel
theorem d_Mo_hold_54 : decode prog_8_method_21_code 54 = .ok (.iload 4, 2) := by decide +kernel
theorem d_Mo_hold_56 : decode prog_8_method_21_code 56 = .ok (.bipush 8, 2) := by decide +kernel
theorem d_Mo_hold_58 : decode prog_8_method_21_code 58 = .ok (.invokevirtual 66, 3) := by decide +kernel
theorem d_Mo_hold_61 : decode prog_8_method_21_code 61 = .ok (.ifCond .eq 9, 3) := by decide +kernel
theorem d_Mo_hold_64 : decode prog_8_method_21_code 64 = .ok (.aload_n 0, 1) := by decide +kernel
theorem d_Mo_hold_65 : decode prog_8_method_21_code 65 = .ok (.iconst 4, 1) := by decide +kernel
theorem d_Mo_hold_66 : decode prog_8_method_21_code 66 = .ok (.invokevirtual 84, 3) := by decide +kernel
theorem d_Mo_hold_69 : decode prog_8_method_21_code 69 = .ok (.ireturn, 1) := by decide +kernel
theorem d_Mo_hold_70 : decode prog_8_method_21_code 70 = .ok (.aload_n 0, 1) := by decide +kernel
theorem d_Mo_hold_71 : decode prog_8_method_21_code 71 = .ok (.getfield 33, 3) := by decide +kernel
theorem d_Mo_hold_74 : decode prog_8_method_21_code 74 = .ok (.iload_n 1, 1) := by decide +kernel
theorem d_Mo_hold_75 : decode prog_8_method_21_code 75 = .ok (.bipush 8, 2) := by decide +kernel
theorem d_Mo_hold_77 : decode prog_8_method_21_code 77 = .ok (.imul, 1) := by decide +kernel
theorem d_Mo_hold_78 : decode prog_8_method_21_code 78 = .ok (.iload 4, 2) := by decide +kernel
theorem d_Mo_hold_80 : decode prog_8_method_21_code 80 = .ok (.iadd, 1) := by decide +kernel
theorem d_Mo_hold_81 : decode prog_8_method_21_code 81 = .ok (.iaload, 1) := by decide +kernel
theorem d_Mo_hold_82 : decode prog_8_method_21_code 82 = .ok (.ifCond .ge 9, 3) := by decide +kernel
theorem d_Mo_hold_85 : decode prog_8_method_21_code 85 = .ok (.aload_n 0, 1) := by decide +kernel
theorem d_Mo_hold_86 : decode prog_8_method_21_code 86 = .ok (.iconst 3, 1) := by decide +kernel
theorem d_Mo_hold_87 : decode prog_8_method_21_code 87 = .ok (.invokevirtual 84, 3) := by decide +kernel
theorem d_Mo_hold_90 : decode prog_8_method_21_code 90 = .ok (.ireturn, 1) := by decide +kernel
theorem d_Mo_hold_91 : decode prog_8_method_21_code 91 = .ok (.aload_n 0, 1) := by decide +kernel
theorem d_Mo_hold_92 : decode prog_8_method_21_code 92 = .ok (.iload_n 1, 1) := by decide +kernel
theorem d_Mo_hold_93 : decode prog_8_method_21_code 93 = .ok (.bipush 12, 2) := by decide +kernel
theorem d_Mo_hold_95 : decode prog_8_method_21_code 95 = .ok (.imul, 1) := by decide +kernel
theorem d_Mo_hold_96 : decode prog_8_method_21_code 96 = .ok (.iload_n 2, 1) := by decide +kernel
theorem d_Mo_hold_97 : decode prog_8_method_21_code 97 = .ok (.iadd, 1) := by decide +kernel
theorem d_Mo_hold_98 : decode prog_8_method_21_code 98 = .ok (.iconst 3, 1) := by decide +kernel
theorem d_Mo_hold_99 : decode prog_8_method_21_code 99 = .ok (.imul, 1) := by decide +kernel
theorem d_Mo_hold_100 : decode prog_8_method_21_code 100 = .ok (.iload_n 3, 1) := by decide +kernel
theorem d_Mo_hold_101 : decode prog_8_method_21_code 101 = .ok (.iadd, 1) := by decide +kernel
theorem d_Mo_hold_102 : decode prog_8_method_21_code 102 = .ok (.iconst 2, 1) := by decide +kernel
theorem d_Mo_hold_103 : decode prog_8_method_21_code 103 = .ok (.aload_n 0, 1) := by decide +kernel
theorem d_Mo_hold_104 : decode prog_8_method_21_code 104 = .ok (.getfield 33, 3) := by decide +kernel
theorem d_Mo_hold_107 : decode prog_8_method_21_code 107 = .ok (.iload_n 1, 1) := by decide +kernel
theorem d_Mo_hold_108 : decode prog_8_method_21_code 108 = .ok (.bipush 8, 2) := by decide +kernel
theorem d_Mo_hold_110 : decode prog_8_method_21_code 110 = .ok (.imul, 1) := by decide +kernel
theorem d_Mo_hold_111 : decode prog_8_method_21_code 111 = .ok (.iload 4, 2) := by decide +kernel
theorem d_Mo_hold_113 : decode prog_8_method_21_code 113 = .ok (.iadd, 1) := by decide +kernel
theorem d_Mo_hold_114 : decode prog_8_method_21_code 114 = .ok (.iaload, 1) := by decide +kernel
theorem d_Mo_hold_115 : decode prog_8_method_21_code 115 = .ok (.invokevirtual 90, 3) := by decide +kernel
theorem d_Mo_hold_118 : decode prog_8_method_21_code 118 = .ok (.aload_n 0, 1) := by decide +kernel
theorem d_Mo_hold_119 : decode prog_8_method_21_code 119 = .ok (.iconst 0, 1) := by decide +kernel
theorem d_Mo_hold_120 : decode prog_8_method_21_code 120 = .ok (.invokevirtual 87, 3) := by decide +kernel
theorem d_Mo_hold_123 : decode prog_8_method_21_code 123 = .ok (.ireturn, 1) := by decide +kernel
theorem d_Mo_capability_0 : decode prog_8_method_22_code 0 = .ok (.aload_n 0, 1) := by decide +kernel
theorem d_Mo_capability_1 : decode prog_8_method_22_code 1 = .ok (.getfield 36, 3) := by decide +kernel
theorem d_Mo_capability_4 : decode prog_8_method_22_code 4 = .ok (.aload_n 0, 1) := by decide +kernel
theorem d_Mo_capability_5 : decode prog_8_method_22_code 5 = .ok (.getfield 13, 3) := by decide +kernel
theorem d_Mo_capability_8 : decode prog_8_method_22_code 8 = .ok (.iload_n 1, 1) := by decide +kernel
theorem d_Mo_capability_9 : decode prog_8_method_22_code 9 = .ok (.iastore, 1) := by decide +kernel
theorem d_Mo_capability_10 : decode prog_8_method_22_code 10 = .ok (.aload_n 0, 1) := by decide +kernel
theorem d_Mo_capability_11 : decode prog_8_method_22_code 11 = .ok (.getfield 39, 3) := by decide +kernel
theorem d_Mo_capability_14 : decode prog_8_method_22_code 14 = .ok (.aload_n 0, 1) := by decide +kernel
theorem d_Mo_capability_15 : decode prog_8_method_22_code 15 = .ok (.getfield 13, 3) := by decide +kernel
theorem d_Mo_capability_18 : decode prog_8_method_22_code 18 = .ok (.iload_n 2, 1) := by decide +kernel
theorem d_Mo_capability_19 : decode prog_8_method_22_code 19 = .ok (.iastore, 1) := by decide +kernel
theorem d_Mo_capability_20 : decode prog_8_method_22_code 20 = .ok (.aload_n 0, 1) := by decide +kernel
theorem d_Mo_capability_21 : decode prog_8_method_22_code 21 = .ok (.getfield 42, 3) := by decide +kernel
theorem d_Mo_capability_24 : decode prog_8_method_22_code 24 = .ok (.aload_n 0, 1) := by decide +kernel
theorem d_Mo_capability_25 : decode prog_8_method_22_code 25 = .ok (.getfield 13, 3) := by decide +kernel
theorem d_Mo_capability_28 : decode prog_8_method_22_code 28 = .ok (.iload_n 3, 1) := by decide +kernel
theorem d_Mo_capability_29 : decode prog_8_method_22_code 29 = .ok (.iastore, 1) := by decide +kernel
theorem d_Mo_capability_30 : decode prog_8_method_22_code 30 = .ok (.aload_n 0, 1) := by decide +kernel
theorem d_Mo_capability_31 : decode prog_8_method_22_code 31 = .ok (.getfield 45, 3) := by decide +kernel
theorem d_Mo_capability_34 : decode prog_8_method_22_code 34 = .ok (.aload_n 0, 1) := by decide +kernel
theorem d_Mo_capability_35 : decode prog_8_method_22_code 35 = .ok (.getfield 13, 3) := by decide +kernel
theorem d_Mo_capability_38 : decode prog_8_method_22_code 38 = .ok (.iload 4, 2) := by decide +kernel
theorem d_Mo_capability_40 : decode prog_8_method_22_code 40 = .ok (.iastore, 1) := by decide +kernel
theorem d_Mo_capability_41 : decode prog_8_method_22_code 41 = .ok (.aload_n 0, 1) := by decide +kernel
theorem d_Mo_capability_42 : decode prog_8_method_22_code 42 = .ok (.dup, 1) := by decide +kernel
theorem d_Mo_capability_43 : decode prog_8_method_22_code 43 = .ok (.getfield 13, 3) := by decide +kernel
theorem d_Mo_capability_46 : decode prog_8_method_22_code 46 = .ok (.iconst 1, 1) := by decide +kernel
theorem d_Mo_capability_47 : decode prog_8_method_22_code 47 = .ok (.iadd, 1) := by decide +kernel
theorem d_Mo_capability_48 : decode prog_8_method_22_code 48 = .ok (.putfield 13, 3) := by decide +kernel
theorem d_Mo_capability_51 : decode prog_8_method_22_code 51 = .ok (.aload_n 0, 1) := by decide +kernel
theorem d_Mo_capability_52 : decode prog_8_method_22_code 52 = .ok (.getfield 13, 3) := by decide +kernel
theorem d_Mo_capability_55 : decode prog_8_method_22_code 55 = .ok (.iconst 1, 1) := by decide +kernel
theorem d_Mo_capability_56 : decode prog_8_method_22_code 56 = .ok (.isub, 1) := by decide +kernel
theorem d_Mo_capability_57 : decode prog_8_method_22_code 57 = .ok (.ireturn, 1) := by decide +kernel
theorem d_Mo_export_0 : decode prog_8_method_23_code 0 = .ok (.aload_n 0, 1) := by decide +kernel
theorem d_Mo_export_1 : decode prog_8_method_23_code 1 = .ok (.iload_n 1, 1) := by decide +kernel
theorem d_Mo_export_2 : decode prog_8_method_23_code 2 = .ok (.invokevirtual 78, 3) := by decide +kernel
theorem d_Mo_export_5 : decode prog_8_method_23_code 5 = .ok (.ifCond .ne 30, 3) := by decide +kernel
theorem d_Mo_export_8 : decode prog_8_method_23_code 8 = .ok (.aload_n 0, 1) := by decide +kernel
theorem d_Mo_export_9 : decode prog_8_method_23_code 9 = .ok (.iload_n 3, 1) := by decide +kernel
theorem d_Mo_export_10 : decode prog_8_method_23_code 10 = .ok (.bipush 8, 2) := by decide +kernel
theorem d_Mo_export_12 : decode prog_8_method_23_code 12 = .ok (.invokevirtual 66, 3) := by decide +kernel
theorem d_Mo_export_15 : decode prog_8_method_23_code 15 = .ok (.ifCond .ne 20, 3) := by decide +kernel
theorem d_Mo_export_18 : decode prog_8_method_23_code 18 = .ok (.aload_n 0, 1) := by decide +kernel
theorem d_Mo_export_19 : decode prog_8_method_23_code 19 = .ok (.iload 4, 2) := by decide +kernel
theorem d_Mo_export_21 : decode prog_8_method_23_code 21 = .ok (.bipush 32, 2) := by decide +kernel
theorem d_Mo_export_23 : decode prog_8_method_23_code 23 = .ok (.invokevirtual 66, 3) := by decide +kernel
theorem d_Mo_export_26 : decode prog_8_method_23_code 26 = .ok (.ifCond .ne 9, 3) := by decide +kernel
theorem d_Mo_export_29 : decode prog_8_method_23_code 29 = .ok (.iload 5, 2) := by decide +kernel
theorem d_Mo_export_31 : decode prog_8_method_23_code 31 = .ok (.iconst (-1), 1) := by decide +kernel
theorem d_Mo_export_32 : decode prog_8_method_23_code 32 = .ok (.if_icmp .ge 9, 3) := by decide +kernel
theorem d_Mo_export_35 : decode prog_8_method_23_code 35 = .ok (.aload_n 0, 1) := by decide +kernel
theorem d_Mo_export_36 : decode prog_8_method_23_code 36 = .ok (.iconst 1, 1) := by decide +kernel
theorem d_Mo_export_37 : decode prog_8_method_23_code 37 = .ok (.invokevirtual 84, 3) := by decide +kernel
theorem d_Mo_export_40 : decode prog_8_method_23_code 40 = .ok (.ireturn, 1) := by decide +kernel
theorem d_Mo_export_41 : decode prog_8_method_23_code 41 = .ok (.aload_n 0, 1) := by decide +kernel
theorem d_Mo_export_42 : decode prog_8_method_23_code 42 = .ok (.getfield 19, 3) := by decide +kernel
theorem d_Mo_export_45 : decode prog_8_method_23_code 45 = .ok (.iload_n 1, 1) := by decide +kernel
theorem d_Mo_export_46 : decode prog_8_method_23_code 46 = .ok (.baload, 1) := by decide +kernel
theorem d_Mo_export_47 : decode prog_8_method_23_code 47 = .ok (.ifCond .eq 9, 3) := by decide +kernel
theorem d_Mo_export_50 : decode prog_8_method_23_code 50 = .ok (.aload_n 0, 1) := by decide +kernel
theorem d_Mo_export_51 : decode prog_8_method_23_code 51 = .ok (.iconst 2, 1) := by decide +kernel
theorem d_Mo_export_52 : decode prog_8_method_23_code 52 = .ok (.invokevirtual 84, 3) := by decide +kernel
theorem d_Mo_export_55 : decode prog_8_method_23_code 55 = .ok (.ireturn, 1) := by decide +kernel
theorem d_Mo_export_56 : decode prog_8_method_23_code 56 = .ok (.aload_n 0, 1) := by decide +kernel
theorem d_Mo_export_57 : decode prog_8_method_23_code 57 = .ok (.iload_n 1, 1) := by decide +kernel
theorem d_Mo_export_58 : decode prog_8_method_23_code 58 = .ok (.iload_n 2, 1) := by decide +kernel
theorem d_Mo_export_59 : decode prog_8_method_23_code 59 = .ok (.invokevirtual 100, 3) := by decide +kernel
theorem d_Mo_export_62 : decode prog_8_method_23_code 62 = .ok (.ifCond .eq 9, 3) := by decide +kernel
theorem d_Mo_export_65 : decode prog_8_method_23_code 65 = .ok (.aload_n 0, 1) := by decide +kernel
theorem d_Mo_export_66 : decode prog_8_method_23_code 66 = .ok (.iconst 3, 1) := by decide +kernel
theorem d_Mo_export_67 : decode prog_8_method_23_code 67 = .ok (.invokevirtual 84, 3) := by decide +kernel
theorem d_Mo_export_70 : decode prog_8_method_23_code 70 = .ok (.ireturn, 1) := by decide +kernel
theorem d_Mo_export_71 : decode prog_8_method_23_code 71 = .ok (.aload_n 0, 1) := by decide +kernel
theorem d_Mo_export_72 : decode prog_8_method_23_code 72 = .ok (.getfield 13, 3) := by decide +kernel
theorem d_Mo_export_75 : decode prog_8_method_23_code 75 = .ok (.bipush 40, 2) := by decide +kernel
theorem d_Mo_export_77 : decode prog_8_method_23_code 77 = .ok (.if_icmp .ne 9, 3) := by decide +kernel
theorem d_Mo_export_80 : decode prog_8_method_23_code 80 = .ok (.aload_n 0, 1) := by decide +kernel
theorem d_Mo_export_81 : decode prog_8_method_23_code 81 = .ok (.iconst 4, 1) := by decide +kernel
theorem d_Mo_export_82 : decode prog_8_method_23_code 82 = .ok (.invokevirtual 84, 3) := by decide +kernel
theorem d_Mo_export_85 : decode prog_8_method_23_code 85 = .ok (.ireturn, 1) := by decide +kernel
theorem d_Mo_export_86 : decode prog_8_method_23_code 86 = .ok (.aload_n 0, 1) := by decide +kernel
theorem d_Mo_export_87 : decode prog_8_method_23_code 87 = .ok (.getfield 33, 3) := by decide +kernel
theorem d_Mo_export_90 : decode prog_8_method_23_code 90 = .ok (.iload_n 1, 1) := by decide +kernel
theorem d_Mo_export_91 : decode prog_8_method_23_code 91 = .ok (.bipush 8, 2) := by decide +kernel
theorem d_Mo_export_93 : decode prog_8_method_23_code 93 = .ok (.imul, 1) := by decide +kernel
theorem d_Mo_export_94 : decode prog_8_method_23_code 94 = .ok (.iload_n 3, 1) := by decide +kernel
theorem d_Mo_export_95 : decode prog_8_method_23_code 95 = .ok (.iadd, 1) := by decide +kernel
theorem d_Mo_export_96 : decode prog_8_method_23_code 96 = .ok (.aload_n 0, 1) := by decide +kernel
theorem d_Mo_export_97 : decode prog_8_method_23_code 97 = .ok (.iload_n 1, 1) := by decide +kernel
theorem d_Mo_export_98 : decode prog_8_method_23_code 98 = .ok (.bipush 12, 2) := by decide +kernel
theorem d_Mo_export_100 : decode prog_8_method_23_code 100 = .ok (.imul, 1) := by decide +kernel
theorem d_Mo_export_101 : decode prog_8_method_23_code 101 = .ok (.iload_n 2, 1) := by decide +kernel
theorem d_Mo_export_102 : decode prog_8_method_23_code 102 = .ok (.iadd, 1) := by decide +kernel
theorem d_Mo_export_103 : decode prog_8_method_23_code 103 = .ok (.iload 4, 2) := by decide +kernel
theorem d_Mo_export_105 : decode prog_8_method_23_code 105 = .ok (.iload 5, 2) := by decide +kernel
theorem d_Mo_export_107 : decode prog_8_method_23_code 107 = .ok (.iconst (-1), 1) := by decide +kernel
theorem d_Mo_export_108 : decode prog_8_method_23_code 108 = .ok (.invokevirtual 103, 3) := by decide +kernel
theorem d_Mo_export_111 : decode prog_8_method_23_code 111 = .ok (.iastore, 1) := by decide +kernel
theorem d_Mo_export_112 : decode prog_8_method_23_code 112 = .ok (.aload_n 0, 1) := by decide +kernel
theorem d_Mo_export_113 : decode prog_8_method_23_code 113 = .ok (.aload_n 0, 1) := by decide +kernel
theorem d_Mo_export_114 : decode prog_8_method_23_code 114 = .ok (.getfield 13, 3) := by decide +kernel
theorem d_Mo_export_117 : decode prog_8_method_23_code 117 = .ok (.invokevirtual 87, 3) := by decide +kernel
theorem d_Mo_export_120 : decode prog_8_method_23_code 120 = .ok (.ireturn, 1) := by decide +kernel
theorem d_Mo_narrow_0 : decode prog_8_method_24_code 0 = .ok (.aload_n 0, 1) := by decide +kernel
theorem d_Mo_narrow_1 : decode prog_8_method_24_code 1 = .ok (.iload_n 1, 1) := by decide +kernel
theorem d_Mo_narrow_2 : decode prog_8_method_24_code 2 = .ok (.invokevirtual 78, 3) := by decide +kernel
theorem d_Mo_narrow_5 : decode prog_8_method_24_code 5 = .ok (.ifCond .ne 29, 3) := by decide +kernel
theorem d_Mo_narrow_8 : decode prog_8_method_24_code 8 = .ok (.aload_n 0, 1) := by decide +kernel
theorem d_Mo_narrow_9 : decode prog_8_method_24_code 9 = .ok (.iload_n 2, 1) := by decide +kernel
theorem d_Mo_narrow_10 : decode prog_8_method_24_code 10 = .ok (.bipush 8, 2) := by decide +kernel
theorem d_Mo_narrow_12 : decode prog_8_method_24_code 12 = .ok (.invokevirtual 66, 3) := by decide +kernel
theorem d_Mo_narrow_15 : decode prog_8_method_24_code 15 = .ok (.ifCond .ne 19, 3) := by decide +kernel
theorem d_Mo_narrow_18 : decode prog_8_method_24_code 18 = .ok (.aload_n 0, 1) := by decide +kernel
theorem d_Mo_narrow_19 : decode prog_8_method_24_code 19 = .ok (.iload_n 3, 1) := by decide +kernel
theorem d_Mo_narrow_20 : decode prog_8_method_24_code 20 = .ok (.bipush 32, 2) := by decide +kernel
theorem d_Mo_narrow_22 : decode prog_8_method_24_code 22 = .ok (.invokevirtual 66, 3) := by decide +kernel
theorem d_Mo_narrow_25 : decode prog_8_method_24_code 25 = .ok (.ifCond .ne 9, 3) := by decide +kernel
theorem d_Mo_narrow_28 : decode prog_8_method_24_code 28 = .ok (.iload 4, 2) := by decide +kernel
theorem d_Mo_narrow_30 : decode prog_8_method_24_code 30 = .ok (.iconst (-1), 1) := by decide +kernel
theorem d_Mo_narrow_31 : decode prog_8_method_24_code 31 = .ok (.if_icmp .ge 9, 3) := by decide +kernel
theorem d_Mo_narrow_34 : decode prog_8_method_24_code 34 = .ok (.aload_n 0, 1) := by decide +kernel
theorem d_Mo_narrow_35 : decode prog_8_method_24_code 35 = .ok (.iconst 1, 1) := by decide +kernel
theorem d_Mo_narrow_36 : decode prog_8_method_24_code 36 = .ok (.invokevirtual 84, 3) := by decide +kernel
theorem d_Mo_narrow_39 : decode prog_8_method_24_code 39 = .ok (.ireturn, 1) := by decide +kernel
theorem d_Mo_narrow_40 : decode prog_8_method_24_code 40 = .ok (.aload_n 0, 1) := by decide +kernel
theorem d_Mo_narrow_41 : decode prog_8_method_24_code 41 = .ok (.getfield 19, 3) := by decide +kernel
theorem d_Mo_narrow_44 : decode prog_8_method_24_code 44 = .ok (.iload_n 1, 1) := by decide +kernel
theorem d_Mo_narrow_45 : decode prog_8_method_24_code 45 = .ok (.baload, 1) := by decide +kernel
theorem d_Mo_narrow_46 : decode prog_8_method_24_code 46 = .ok (.ifCond .eq 9, 3) := by decide +kernel
theorem d_Mo_narrow_49 : decode prog_8_method_24_code 49 = .ok (.aload_n 0, 1) := by decide +kernel
theorem d_Mo_narrow_50 : decode prog_8_method_24_code 50 = .ok (.iconst 2, 1) := by decide +kernel
theorem d_Mo_narrow_51 : decode prog_8_method_24_code 51 = .ok (.invokevirtual 84, 3) := by decide +kernel
theorem d_Mo_narrow_54 : decode prog_8_method_24_code 54 = .ok (.ireturn, 1) := by decide +kernel
theorem d_Mo_narrow_55 : decode prog_8_method_24_code 55 = .ok (.aload_n 0, 1) := by decide +kernel
theorem d_Mo_narrow_56 : decode prog_8_method_24_code 56 = .ok (.getfield 33, 3) := by decide +kernel
theorem d_Mo_narrow_59 : decode prog_8_method_24_code 59 = .ok (.iload_n 1, 1) := by decide +kernel
theorem d_Mo_narrow_60 : decode prog_8_method_24_code 60 = .ok (.bipush 8, 2) := by decide +kernel
theorem d_Mo_narrow_62 : decode prog_8_method_24_code 62 = .ok (.imul, 1) := by decide +kernel
theorem d_Mo_narrow_63 : decode prog_8_method_24_code 63 = .ok (.iload_n 2, 1) := by decide +kernel
theorem d_Mo_narrow_64 : decode prog_8_method_24_code 64 = .ok (.iadd, 1) := by decide +kernel
theorem d_Mo_narrow_65 : decode prog_8_method_24_code 65 = .ok (.iaload, 1) := by decide +kernel
theorem d_Mo_narrow_66 : decode prog_8_method_24_code 66 = .ok (.istore 5, 2) := by decide +kernel
theorem d_Mo_narrow_68 : decode prog_8_method_24_code 68 = .ok (.iload 5, 2) := by decide +kernel
theorem d_Mo_narrow_70 : decode prog_8_method_24_code 70 = .ok (.ifCond .ge 9, 3) := by decide +kernel
theorem d_Mo_narrow_73 : decode prog_8_method_24_code 73 = .ok (.aload_n 0, 1) := by decide +kernel
theorem d_Mo_narrow_74 : decode prog_8_method_24_code 74 = .ok (.iconst 3, 1) := by decide +kernel
theorem d_Mo_narrow_75 : decode prog_8_method_24_code 75 = .ok (.invokevirtual 84, 3) := by decide +kernel
theorem d_Mo_narrow_78 : decode prog_8_method_24_code 78 = .ok (.ireturn, 1) := by decide +kernel
theorem d_Mo_narrow_79 : decode prog_8_method_24_code 79 = .ok (.aload_n 0, 1) := by decide +kernel
theorem d_Mo_narrow_80 : decode prog_8_method_24_code 80 = .ok (.iload 5, 2) := by decide +kernel
theorem d_Mo_narrow_82 : decode prog_8_method_24_code 82 = .ok (.invokevirtual 74, 3) := by decide +kernel
theorem d_Mo_narrow_85 : decode prog_8_method_24_code 85 = .ok (.ifCond .eq 9, 3) := by decide +kernel
theorem d_Mo_narrow_88 : decode prog_8_method_24_code 88 = .ok (.aload_n 0, 1) := by decide +kernel
theorem d_Mo_narrow_89 : decode prog_8_method_24_code 89 = .ok (.iconst 2, 1) := by decide +kernel
theorem d_Mo_narrow_90 : decode prog_8_method_24_code 90 = .ok (.invokevirtual 84, 3) := by decide +kernel
theorem d_Mo_narrow_93 : decode prog_8_method_24_code 93 = .ok (.ireturn, 1) := by decide +kernel
theorem d_Mo_narrow_94 : decode prog_8_method_24_code 94 = .ok (.iload_n 3, 1) := by decide +kernel
theorem d_Mo_narrow_95 : decode prog_8_method_24_code 95 = .ok (.aload_n 0, 1) := by decide +kernel
theorem d_Mo_narrow_96 : decode prog_8_method_24_code 96 = .ok (.getfield 39, 3) := by decide +kernel
theorem d_Mo_narrow_99 : decode prog_8_method_24_code 99 = .ok (.iload 5, 2) := by decide +kernel
theorem d_Mo_narrow_101 : decode prog_8_method_24_code 101 = .ok (.iaload, 1) := by decide +kernel
theorem d_Mo_narrow_102 : decode prog_8_method_24_code 102 = .ok (.iconst (-1), 1) := by decide +kernel
theorem d_Mo_narrow_103 : decode prog_8_method_24_code 103 = .ok (.ixor, 1) := by decide +kernel
theorem d_Mo_narrow_104 : decode prog_8_method_24_code 104 = .ok (.iand, 1) := by decide +kernel
theorem d_Mo_narrow_105 : decode prog_8_method_24_code 105 = .ok (.ifCond .eq 9, 3) := by decide +kernel
theorem d_Mo_narrow_108 : decode prog_8_method_24_code 108 = .ok (.aload_n 0, 1) := by decide +kernel
theorem d_Mo_narrow_109 : decode prog_8_method_24_code 109 = .ok (.iconst 4, 1) := by decide +kernel
theorem d_Mo_narrow_110 : decode prog_8_method_24_code 110 = .ok (.invokevirtual 84, 3) := by decide +kernel
theorem d_Mo_narrow_113 : decode prog_8_method_24_code 113 = .ok (.ireturn, 1) := by decide +kernel
theorem d_Mo_narrow_114 : decode prog_8_method_24_code 114 = .ok (.aload_n 0, 1) := by decide +kernel
theorem d_Mo_narrow_115 : decode prog_8_method_24_code 115 = .ok (.getfield 13, 3) := by decide +kernel
theorem d_Mo_narrow_118 : decode prog_8_method_24_code 118 = .ok (.bipush 40, 2) := by decide +kernel
theorem d_Mo_narrow_120 : decode prog_8_method_24_code 120 = .ok (.if_icmp .ne 9, 3) := by decide +kernel
theorem d_Mo_narrow_123 : decode prog_8_method_24_code 123 = .ok (.aload_n 0, 1) := by decide +kernel
theorem d_Mo_narrow_124 : decode prog_8_method_24_code 124 = .ok (.iconst 5, 1) := by decide +kernel
theorem d_Mo_narrow_125 : decode prog_8_method_24_code 125 = .ok (.invokevirtual 84, 3) := by decide +kernel
theorem d_Mo_narrow_128 : decode prog_8_method_24_code 128 = .ok (.ireturn, 1) := by decide +kernel
theorem d_Mo_narrow_129 : decode prog_8_method_24_code 129 = .ok (.aload_n 0, 1) := by decide +kernel
theorem d_Mo_narrow_130 : decode prog_8_method_24_code 130 = .ok (.getfield 33, 3) := by decide +kernel
theorem d_Mo_narrow_133 : decode prog_8_method_24_code 133 = .ok (.iload_n 1, 1) := by decide +kernel
theorem d_Mo_narrow_134 : decode prog_8_method_24_code 134 = .ok (.bipush 8, 2) := by decide +kernel
theorem d_Mo_narrow_136 : decode prog_8_method_24_code 136 = .ok (.imul, 1) := by decide +kernel
theorem d_Mo_narrow_137 : decode prog_8_method_24_code 137 = .ok (.iload_n 2, 1) := by decide +kernel
theorem d_Mo_narrow_138 : decode prog_8_method_24_code 138 = .ok (.iadd, 1) := by decide +kernel
theorem d_Mo_narrow_139 : decode prog_8_method_24_code 139 = .ok (.aload_n 0, 1) := by decide +kernel
theorem d_Mo_narrow_140 : decode prog_8_method_24_code 140 = .ok (.aload_n 0, 1) := by decide +kernel
theorem d_Mo_narrow_141 : decode prog_8_method_24_code 141 = .ok (.getfield 36, 3) := by decide +kernel
theorem d_Mo_narrow_144 : decode prog_8_method_24_code 144 = .ok (.iload 5, 2) := by decide +kernel
theorem d_Mo_narrow_146 : decode prog_8_method_24_code 146 = .ok (.iaload, 1) := by decide +kernel
theorem d_Mo_narrow_147 : decode prog_8_method_24_code 147 = .ok (.iload_n 3, 1) := by decide +kernel
theorem d_Mo_narrow_148 : decode prog_8_method_24_code 148 = .ok (.iload 4, 2) := by decide +kernel
theorem d_Mo_narrow_150 : decode prog_8_method_24_code 150 = .ok (.iload 5, 2) := by decide +kernel
theorem d_Mo_narrow_152 : decode prog_8_method_24_code 152 = .ok (.invokevirtual 103, 3) := by decide +kernel
theorem d_Mo_narrow_155 : decode prog_8_method_24_code 155 = .ok (.iastore, 1) := by decide +kernel
theorem d_Mo_narrow_156 : decode prog_8_method_24_code 156 = .ok (.aload_n 0, 1) := by decide +kernel
theorem d_Mo_narrow_157 : decode prog_8_method_24_code 157 = .ok (.aload_n 0, 1) := by decide +kernel
theorem d_Mo_narrow_158 : decode prog_8_method_24_code 158 = .ok (.getfield 13, 3) := by decide +kernel
theorem d_Mo_narrow_161 : decode prog_8_method_24_code 161 = .ok (.invokevirtual 87, 3) := by decide +kernel
theorem d_Mo_narrow_164 : decode prog_8_method_24_code 164 = .ok (.ireturn, 1) := by decide +kernel
theorem d_Mo_give_0 : decode prog_8_method_25_code 0 = .ok (.aload_n 0, 1) := by decide +kernel
theorem d_Mo_give_1 : decode prog_8_method_25_code 1 = .ok (.iload_n 1, 1) := by decide +kernel
theorem d_Mo_give_2 : decode prog_8_method_25_code 2 = .ok (.invokevirtual 78, 3) := by decide +kernel
theorem d_Mo_give_5 : decode prog_8_method_25_code 5 = .ok (.ifCond .ne 32, 3) := by decide +kernel
theorem d_Mo_give_8 : decode prog_8_method_25_code 8 = .ok (.aload_n 0, 1) := by decide +kernel
theorem d_Mo_give_9 : decode prog_8_method_25_code 9 = .ok (.iload_n 3, 1) := by decide +kernel
theorem d_Mo_give_10 : decode prog_8_method_25_code 10 = .ok (.invokevirtual 78, 3) := by decide +kernel
theorem d_Mo_give_13 : decode prog_8_method_25_code 13 = .ok (.ifCond .ne 24, 3) := by decide +kernel
theorem d_Mo_give_16 : decode prog_8_method_25_code 16 = .ok (.aload_n 0, 1) := by decide +kernel
theorem d_Mo_give_17 : decode prog_8_method_25_code 17 = .ok (.iload_n 2, 1) := by decide +kernel
theorem d_Mo_give_18 : decode prog_8_method_25_code 18 = .ok (.bipush 8, 2) := by decide +kernel
theorem d_Mo_give_20 : decode prog_8_method_25_code 20 = .ok (.invokevirtual 66, 3) := by decide +kernel
theorem d_Mo_give_23 : decode prog_8_method_25_code 23 = .ok (.ifCond .ne 14, 3) := by decide +kernel
theorem d_Mo_give_26 : decode prog_8_method_25_code 26 = .ok (.aload_n 0, 1) := by decide +kernel
theorem d_Mo_give_27 : decode prog_8_method_25_code 27 = .ok (.iload 4, 2) := by decide +kernel
theorem d_Mo_give_29 : decode prog_8_method_25_code 29 = .ok (.bipush 8, 2) := by decide +kernel
theorem d_Mo_give_31 : decode prog_8_method_25_code 31 = .ok (.invokevirtual 66, 3) := by decide +kernel
theorem d_Mo_give_34 : decode prog_8_method_25_code 34 = .ok (.ifCond .eq 9, 3) := by decide +kernel
theorem d_Mo_give_37 : decode prog_8_method_25_code 37 = .ok (.aload_n 0, 1) := by decide +kernel
theorem d_Mo_give_38 : decode prog_8_method_25_code 38 = .ok (.iconst 1, 1) := by decide +kernel
theorem d_Mo_give_39 : decode prog_8_method_25_code 39 = .ok (.invokevirtual 84, 3) := by decide +kernel
theorem d_Mo_give_42 : decode prog_8_method_25_code 42 = .ok (.ireturn, 1) := by decide +kernel
theorem d_Mo_give_43 : decode prog_8_method_25_code 43 = .ok (.aload_n 0, 1) := by decide +kernel
theorem d_Mo_give_44 : decode prog_8_method_25_code 44 = .ok (.getfield 19, 3) := by decide +kernel
theorem d_Mo_give_47 : decode prog_8_method_25_code 47 = .ok (.iload_n 1, 1) := by decide +kernel
theorem d_Mo_give_48 : decode prog_8_method_25_code 48 = .ok (.baload, 1) := by decide +kernel
theorem d_Mo_give_49 : decode prog_8_method_25_code 49 = .ok (.ifCond .ne 12, 3) := by decide +kernel
theorem d_Mo_give_52 : decode prog_8_method_25_code 52 = .ok (.aload_n 0, 1) := by decide +kernel
theorem d_Mo_give_53 : decode prog_8_method_25_code 53 = .ok (.getfield 19, 3) := by decide +kernel
theorem d_Mo_give_56 : decode prog_8_method_25_code 56 = .ok (.iload_n 3, 1) := by decide +kernel
theorem d_Mo_give_57 : decode prog_8_method_25_code 57 = .ok (.baload, 1) := by decide +kernel
theorem d_Mo_give_58 : decode prog_8_method_25_code 58 = .ok (.ifCond .eq 9, 3) := by decide +kernel
theorem d_Mo_give_61 : decode prog_8_method_25_code 61 = .ok (.aload_n 0, 1) := by decide +kernel
theorem d_Mo_give_62 : decode prog_8_method_25_code 62 = .ok (.iconst 2, 1) := by decide +kernel
theorem d_Mo_give_63 : decode prog_8_method_25_code 63 = .ok (.invokevirtual 84, 3) := by decide +kernel
theorem d_Mo_give_66 : decode prog_8_method_25_code 66 = .ok (.ireturn, 1) := by decide +kernel
theorem d_Mo_give_67 : decode prog_8_method_25_code 67 = .ok (.aload_n 0, 1) := by decide +kernel
theorem d_Mo_give_68 : decode prog_8_method_25_code 68 = .ok (.getfield 33, 3) := by decide +kernel
theorem d_Mo_give_71 : decode prog_8_method_25_code 71 = .ok (.iload_n 1, 1) := by decide +kernel
theorem d_Mo_give_72 : decode prog_8_method_25_code 72 = .ok (.bipush 8, 2) := by decide +kernel
theorem d_Mo_give_74 : decode prog_8_method_25_code 74 = .ok (.imul, 1) := by decide +kernel
theorem d_Mo_give_75 : decode prog_8_method_25_code 75 = .ok (.iload_n 2, 1) := by decide +kernel
theorem d_Mo_give_76 : decode prog_8_method_25_code 76 = .ok (.iadd, 1) := by decide +kernel
theorem d_Mo_give_77 : decode prog_8_method_25_code 77 = .ok (.iaload, 1) := by decide +kernel
theorem d_Mo_give_78 : decode prog_8_method_25_code 78 = .ok (.ifCond .ge 9, 3) := by decide +kernel
theorem d_Mo_give_81 : decode prog_8_method_25_code 81 = .ok (.aload_n 0, 1) := by decide +kernel
theorem d_Mo_give_82 : decode prog_8_method_25_code 82 = .ok (.iconst 3, 1) := by decide +kernel
theorem d_Mo_give_83 : decode prog_8_method_25_code 83 = .ok (.invokevirtual 84, 3) := by decide +kernel
theorem d_Mo_give_86 : decode prog_8_method_25_code 86 = .ok (.ireturn, 1) := by decide +kernel
theorem d_Mo_give_87 : decode prog_8_method_25_code 87 = .ok (.aload_n 0, 1) := by decide +kernel
theorem d_Mo_give_88 : decode prog_8_method_25_code 88 = .ok (.getfield 33, 3) := by decide +kernel
theorem d_Mo_give_91 : decode prog_8_method_25_code 91 = .ok (.iload_n 3, 1) := by decide +kernel
theorem d_Mo_give_92 : decode prog_8_method_25_code 92 = .ok (.bipush 8, 2) := by decide +kernel
theorem d_Mo_give_94 : decode prog_8_method_25_code 94 = .ok (.imul, 1) := by decide +kernel
theorem d_Mo_give_95 : decode prog_8_method_25_code 95 = .ok (.iload 4, 2) := by decide +kernel
theorem d_Mo_give_97 : decode prog_8_method_25_code 97 = .ok (.iadd, 1) := by decide +kernel
theorem d_Mo_give_98 : decode prog_8_method_25_code 98 = .ok (.iaload, 1) := by decide +kernel
theorem d_Mo_give_99 : decode prog_8_method_25_code 99 = .ok (.ifCond .lt 7, 3) := by decide +kernel
theorem d_Mo_give_102 : decode prog_8_method_25_code 102 = .ok (.iconst 1, 1) := by decide +kernel
theorem d_Mo_give_103 : decode prog_8_method_25_code 103 = .ok (.goto 4, 3) := by decide +kernel
theorem d_Mo_give_106 : decode prog_8_method_25_code 106 = .ok (.iconst 0, 1) := by decide +kernel
theorem d_Mo_give_107 : decode prog_8_method_25_code 107 = .ok (.istore 5, 2) := by decide +kernel
theorem d_Mo_give_109 : decode prog_8_method_25_code 109 = .ok (.aload_n 0, 1) := by decide +kernel
theorem d_Mo_give_110 : decode prog_8_method_25_code 110 = .ok (.getfield 33, 3) := by decide +kernel
theorem d_Mo_give_113 : decode prog_8_method_25_code 113 = .ok (.iload_n 3, 1) := by decide +kernel
theorem d_Mo_give_114 : decode prog_8_method_25_code 114 = .ok (.bipush 8, 2) := by decide +kernel
theorem d_Mo_give_116 : decode prog_8_method_25_code 116 = .ok (.imul, 1) := by decide +kernel
theorem d_Mo_give_117 : decode prog_8_method_25_code 117 = .ok (.iload 4, 2) := by decide +kernel
theorem d_Mo_give_119 : decode prog_8_method_25_code 119 = .ok (.iadd, 1) := by decide +kernel
theorem d_Mo_give_120 : decode prog_8_method_25_code 120 = .ok (.aload_n 0, 1) := by decide +kernel
theorem d_Mo_give_121 : decode prog_8_method_25_code 121 = .ok (.getfield 33, 3) := by decide +kernel
theorem d_Mo_give_124 : decode prog_8_method_25_code 124 = .ok (.iload_n 1, 1) := by decide +kernel
theorem d_Mo_give_125 : decode prog_8_method_25_code 125 = .ok (.bipush 8, 2) := by decide +kernel
theorem d_Mo_give_127 : decode prog_8_method_25_code 127 = .ok (.imul, 1) := by decide +kernel
theorem d_Mo_give_128 : decode prog_8_method_25_code 128 = .ok (.iload_n 2, 1) := by decide +kernel
theorem d_Mo_give_129 : decode prog_8_method_25_code 129 = .ok (.iadd, 1) := by decide +kernel
theorem d_Mo_give_130 : decode prog_8_method_25_code 130 = .ok (.iaload, 1) := by decide +kernel
theorem d_Mo_give_131 : decode prog_8_method_25_code 131 = .ok (.iastore, 1) := by decide +kernel
theorem d_Mo_give_132 : decode prog_8_method_25_code 132 = .ok (.aload_n 0, 1) := by decide +kernel
theorem d_Mo_give_133 : decode prog_8_method_25_code 133 = .ok (.iload 5, 2) := by decide +kernel
theorem d_Mo_give_135 : decode prog_8_method_25_code 135 = .ok (.invokevirtual 87, 3) := by decide +kernel
theorem d_Mo_give_138 : decode prog_8_method_25_code 138 = .ok (.ireturn, 1) := by decide +kernel
theorem d_Mo_revoke_0 : decode prog_8_method_26_code 0 = .ok (.aload_n 0, 1) := by decide +kernel
theorem d_Mo_revoke_1 : decode prog_8_method_26_code 1 = .ok (.iload_n 1, 1) := by decide +kernel
theorem d_Mo_revoke_2 : decode prog_8_method_26_code 2 = .ok (.invokevirtual 78, 3) := by decide +kernel
theorem d_Mo_revoke_5 : decode prog_8_method_26_code 5 = .ok (.ifCond .ne 13, 3) := by decide +kernel
theorem d_Mo_revoke_8 : decode prog_8_method_26_code 8 = .ok (.aload_n 0, 1) := by decide +kernel
theorem d_Mo_revoke_9 : decode prog_8_method_26_code 9 = .ok (.iload_n 2, 1) := by decide +kernel
theorem d_Mo_revoke_10 : decode prog_8_method_26_code 10 = .ok (.bipush 8, 2) := by decide +kernel
theorem d_Mo_revoke_12 : decode prog_8_method_26_code 12 = .ok (.invokevirtual 66, 3) := by decide +kernel
theorem d_Mo_revoke_15 : decode prog_8_method_26_code 15 = .ok (.ifCond .eq 9, 3) := by decide +kernel
theorem d_Mo_revoke_18 : decode prog_8_method_26_code 18 = .ok (.aload_n 0, 1) := by decide +kernel
theorem d_Mo_revoke_19 : decode prog_8_method_26_code 19 = .ok (.iconst 1, 1) := by decide +kernel
theorem d_Mo_revoke_20 : decode prog_8_method_26_code 20 = .ok (.invokevirtual 84, 3) := by decide +kernel
theorem d_Mo_revoke_23 : decode prog_8_method_26_code 23 = .ok (.ireturn, 1) := by decide +kernel
theorem d_Mo_revoke_24 : decode prog_8_method_26_code 24 = .ok (.aload_n 0, 1) := by decide +kernel
theorem d_Mo_revoke_25 : decode prog_8_method_26_code 25 = .ok (.getfield 19, 3) := by decide +kernel
theorem d_Mo_revoke_28 : decode prog_8_method_26_code 28 = .ok (.iload_n 1, 1) := by decide +kernel
theorem d_Mo_revoke_29 : decode prog_8_method_26_code 29 = .ok (.baload, 1) := by decide +kernel
theorem d_Mo_revoke_30 : decode prog_8_method_26_code 30 = .ok (.ifCond .eq 9, 3) := by decide +kernel
theorem d_Mo_revoke_33 : decode prog_8_method_26_code 33 = .ok (.aload_n 0, 1) := by decide +kernel
theorem d_Mo_revoke_34 : decode prog_8_method_26_code 34 = .ok (.iconst 2, 1) := by decide +kernel
theorem d_Mo_revoke_35 : decode prog_8_method_26_code 35 = .ok (.invokevirtual 84, 3) := by decide +kernel
theorem d_Mo_revoke_38 : decode prog_8_method_26_code 38 = .ok (.ireturn, 1) := by decide +kernel
theorem d_Mo_revoke_39 : decode prog_8_method_26_code 39 = .ok (.aload_n 0, 1) := by decide +kernel
theorem d_Mo_revoke_40 : decode prog_8_method_26_code 40 = .ok (.getfield 33, 3) := by decide +kernel
theorem d_Mo_revoke_43 : decode prog_8_method_26_code 43 = .ok (.iload_n 1, 1) := by decide +kernel
theorem d_Mo_revoke_44 : decode prog_8_method_26_code 44 = .ok (.bipush 8, 2) := by decide +kernel
theorem d_Mo_revoke_46 : decode prog_8_method_26_code 46 = .ok (.imul, 1) := by decide +kernel
theorem d_Mo_revoke_47 : decode prog_8_method_26_code 47 = .ok (.iload_n 2, 1) := by decide +kernel
theorem d_Mo_revoke_48 : decode prog_8_method_26_code 48 = .ok (.iadd, 1) := by decide +kernel
theorem d_Mo_revoke_49 : decode prog_8_method_26_code 49 = .ok (.iaload, 1) := by decide +kernel
theorem d_Mo_revoke_50 : decode prog_8_method_26_code 50 = .ok (.istore_n 3, 1) := by decide +kernel
theorem d_Mo_revoke_51 : decode prog_8_method_26_code 51 = .ok (.iload_n 3, 1) := by decide +kernel
theorem d_Mo_revoke_52 : decode prog_8_method_26_code 52 = .ok (.ifCond .ge 9, 3) := by decide +kernel
theorem d_Mo_revoke_55 : decode prog_8_method_26_code 55 = .ok (.aload_n 0, 1) := by decide +kernel
theorem d_Mo_revoke_56 : decode prog_8_method_26_code 56 = .ok (.iconst 3, 1) := by decide +kernel
theorem d_Mo_revoke_57 : decode prog_8_method_26_code 57 = .ok (.invokevirtual 84, 3) := by decide +kernel
theorem d_Mo_revoke_60 : decode prog_8_method_26_code 60 = .ok (.ireturn, 1) := by decide +kernel
theorem d_Mo_revoke_61 : decode prog_8_method_26_code 61 = .ok (.aload_n 0, 1) := by decide +kernel
theorem d_Mo_revoke_62 : decode prog_8_method_26_code 62 = .ok (.iload_n 3, 1) := by decide +kernel
theorem d_Mo_revoke_63 : decode prog_8_method_26_code 63 = .ok (.invokevirtual 70, 3) := by decide +kernel
theorem d_Mo_revoke_66 : decode prog_8_method_26_code 66 = .ok (.iload_n 1, 1) := by decide +kernel
theorem d_Mo_revoke_67 : decode prog_8_method_26_code 67 = .ok (.if_icmp .eq 9, 3) := by decide +kernel
theorem d_Mo_revoke_70 : decode prog_8_method_26_code 70 = .ok (.aload_n 0, 1) := by decide +kernel
theorem d_Mo_revoke_71 : decode prog_8_method_26_code 71 = .ok (.iconst 4, 1) := by decide +kernel
theorem d_Mo_revoke_72 : decode prog_8_method_26_code 72 = .ok (.invokevirtual 84, 3) := by decide +kernel
theorem d_Mo_revoke_75 : decode prog_8_method_26_code 75 = .ok (.ireturn, 1) := by decide +kernel
theorem d_Mo_revoke_76 : decode prog_8_method_26_code 76 = .ok (.aload_n 0, 1) := by decide +kernel
theorem d_Mo_revoke_77 : decode prog_8_method_26_code 77 = .ok (.invokevirtual 107, 3) := by decide +kernel
theorem d_Mo_revoke_80 : decode prog_8_method_26_code 80 = .ok (.istore 4, 2) := by decide +kernel
theorem d_Mo_revoke_82 : decode prog_8_method_26_code 82 = .ok (.aload_n 0, 1) := by decide +kernel
theorem d_Mo_revoke_83 : decode prog_8_method_26_code 83 = .ok (.getfield 48, 3) := by decide +kernel
theorem d_Mo_revoke_86 : decode prog_8_method_26_code 86 = .ok (.iload_n 3, 1) := by decide +kernel
theorem d_Mo_revoke_87 : decode prog_8_method_26_code 87 = .ok (.iconst 1, 1) := by decide +kernel
theorem d_Mo_revoke_88 : decode prog_8_method_26_code 88 = .ok (.bastore, 1) := by decide +kernel
theorem d_Mo_revoke_89 : decode prog_8_method_26_code 89 = .ok (.aload_n 0, 1) := by decide +kernel
theorem d_Mo_revoke_90 : decode prog_8_method_26_code 90 = .ok (.iload 4, 2) := by decide +kernel
theorem d_Mo_revoke_92 : decode prog_8_method_26_code 92 = .ok (.aload_n 0, 1) := by decide +kernel
theorem d_Mo_revoke_93 : decode prog_8_method_26_code 93 = .ok (.invokevirtual 107, 3) := by decide +kernel
theorem d_Mo_revoke_96 : decode prog_8_method_26_code 96 = .ok (.isub, 1) := by decide +kernel
theorem d_Mo_revoke_97 : decode prog_8_method_26_code 97 = .ok (.invokevirtual 87, 3) := by decide +kernel
theorem d_Mo_revoke_100 : decode prog_8_method_26_code 100 = .ok (.ireturn, 1) := by decide +kernel
theorem d_Mo_read_0 : decode prog_8_method_27_code 0 = .ok (.aload_n 0, 1) := by decide +kernel
theorem d_Mo_read_1 : decode prog_8_method_27_code 1 = .ok (.iload_n 1, 1) := by decide +kernel
theorem d_Mo_read_2 : decode prog_8_method_27_code 2 = .ok (.iload_n 2, 1) := by decide +kernel
theorem d_Mo_read_3 : decode prog_8_method_27_code 3 = .ok (.iconst 1, 1) := by decide +kernel
theorem d_Mo_read_4 : decode prog_8_method_27_code 4 = .ok (.invokevirtual 111, 3) := by decide +kernel
theorem d_Mo_read_7 : decode prog_8_method_27_code 7 = .ok (.istore 4, 2) := by decide +kernel
theorem d_Mo_read_9 : decode prog_8_method_27_code 9 = .ok (.iload 4, 2) := by decide +kernel
theorem d_Mo_read_11 : decode prog_8_method_27_code 11 = .ok (.ifCond .eq 10, 3) := by decide +kernel
theorem d_Mo_read_14 : decode prog_8_method_27_code 14 = .ok (.aload_n 0, 1) := by decide +kernel
theorem d_Mo_read_15 : decode prog_8_method_27_code 15 = .ok (.iload 4, 2) := by decide +kernel
theorem d_Mo_read_17 : decode prog_8_method_27_code 17 = .ok (.invokevirtual 84, 3) := by decide +kernel
theorem d_Mo_read_20 : decode prog_8_method_27_code 20 = .ok (.ireturn, 1) := by decide +kernel
theorem d_Mo_read_21 : decode prog_8_method_27_code 21 = .ok (.aload_n 0, 1) := by decide +kernel
theorem d_Mo_read_22 : decode prog_8_method_27_code 22 = .ok (.iload_n 3, 1) := by decide +kernel
theorem d_Mo_read_23 : decode prog_8_method_27_code 23 = .ok (.iconst 3, 1) := by decide +kernel
theorem d_Mo_read_24 : decode prog_8_method_27_code 24 = .ok (.invokevirtual 66, 3) := by decide +kernel
theorem d_Mo_read_27 : decode prog_8_method_27_code 27 = .ok (.ifCond .eq 9, 3) := by decide +kernel
theorem d_Mo_read_30 : decode prog_8_method_27_code 30 = .ok (.aload_n 0, 1) := by decide +kernel
theorem d_Mo_read_31 : decode prog_8_method_27_code 31 = .ok (.iconst 5, 1) := by decide +kernel
theorem d_Mo_read_32 : decode prog_8_method_27_code 32 = .ok (.invokevirtual 84, 3) := by decide +kernel
theorem d_Mo_read_35 : decode prog_8_method_27_code 35 = .ok (.ireturn, 1) := by decide +kernel
theorem d_Mo_read_36 : decode prog_8_method_27_code 36 = .ok (.aload_n 0, 1) := by decide +kernel
theorem d_Mo_read_37 : decode prog_8_method_27_code 37 = .ok (.getfield 33, 3) := by decide +kernel
theorem d_Mo_read_40 : decode prog_8_method_27_code 40 = .ok (.iload_n 1, 1) := by decide +kernel
theorem d_Mo_read_41 : decode prog_8_method_27_code 41 = .ok (.bipush 8, 2) := by decide +kernel
theorem d_Mo_read_43 : decode prog_8_method_27_code 43 = .ok (.imul, 1) := by decide +kernel
theorem d_Mo_read_44 : decode prog_8_method_27_code 44 = .ok (.iload_n 2, 1) := by decide +kernel
theorem d_Mo_read_45 : decode prog_8_method_27_code 45 = .ok (.iadd, 1) := by decide +kernel
theorem d_Mo_read_46 : decode prog_8_method_27_code 46 = .ok (.iaload, 1) := by decide +kernel
theorem d_Mo_read_47 : decode prog_8_method_27_code 47 = .ok (.istore 5, 2) := by decide +kernel
theorem d_Mo_read_49 : decode prog_8_method_27_code 49 = .ok (.aload_n 0, 1) := by decide +kernel
theorem d_Mo_read_50 : decode prog_8_method_27_code 50 = .ok (.getfield 36, 3) := by decide +kernel
theorem d_Mo_read_53 : decode prog_8_method_27_code 53 = .ok (.iload 5, 2) := by decide +kernel
theorem d_Mo_read_55 : decode prog_8_method_27_code 55 = .ok (.iaload, 1) := by decide +kernel
theorem d_Mo_read_56 : decode prog_8_method_27_code 56 = .ok (.iconst 3, 1) := by decide +kernel
theorem d_Mo_read_57 : decode prog_8_method_27_code 57 = .ok (.imul, 1) := by decide +kernel
theorem d_Mo_read_58 : decode prog_8_method_27_code 58 = .ok (.iload_n 3, 1) := by decide +kernel
theorem d_Mo_read_59 : decode prog_8_method_27_code 59 = .ok (.iadd, 1) := by decide +kernel
theorem d_Mo_read_60 : decode prog_8_method_27_code 60 = .ok (.istore 6, 2) := by decide +kernel
theorem d_Mo_read_62 : decode prog_8_method_27_code 62 = .ok (.aload_n 0, 1) := by decide +kernel
theorem d_Mo_read_63 : decode prog_8_method_27_code 63 = .ok (.getfield 26, 3) := by decide +kernel
theorem d_Mo_read_66 : decode prog_8_method_27_code 66 = .ok (.iload 6, 2) := by decide +kernel
theorem d_Mo_read_68 : decode prog_8_method_27_code 68 = .ok (.iaload, 1) := by decide +kernel
theorem d_Mo_read_69 : decode prog_8_method_27_code 69 = .ok (.ifCond .eq 10, 3) := by decide +kernel
theorem d_Mo_read_72 : decode prog_8_method_27_code 72 = .ok (.aload_n 0, 1) := by decide +kernel
theorem d_Mo_read_73 : decode prog_8_method_27_code 73 = .ok (.bipush 6, 2) := by decide +kernel
theorem d_Mo_read_75 : decode prog_8_method_27_code 75 = .ok (.invokevirtual 84, 3) := by decide +kernel
theorem d_Mo_read_78 : decode prog_8_method_27_code 78 = .ok (.ireturn, 1) := by decide +kernel
theorem d_Mo_read_79 : decode prog_8_method_27_code 79 = .ok (.aload_n 0, 1) := by decide +kernel
theorem d_Mo_read_80 : decode prog_8_method_27_code 80 = .ok (.iload 5, 2) := by decide +kernel
theorem d_Mo_read_82 : decode prog_8_method_27_code 82 = .ok (.invokevirtual 115, 3) := by decide +kernel
theorem d_Mo_read_85 : decode prog_8_method_27_code 85 = .ok (.aload_n 0, 1) := by decide +kernel
theorem d_Mo_read_86 : decode prog_8_method_27_code 86 = .ok (.aload_n 0, 1) := by decide +kernel
theorem d_Mo_read_87 : decode prog_8_method_27_code 87 = .ok (.getfield 30, 3) := by decide +kernel
theorem d_Mo_read_90 : decode prog_8_method_27_code 90 = .ok (.iload 6, 2) := by decide +kernel
theorem d_Mo_read_92 : decode prog_8_method_27_code 92 = .ok (.iaload, 1) := by decide +kernel
theorem d_Mo_read_93 : decode prog_8_method_27_code 93 = .ok (.invokevirtual 87, 3) := by decide +kernel
theorem d_Mo_read_96 : decode prog_8_method_27_code 96 = .ok (.ireturn, 1) := by decide +kernel
theorem d_Mo_write_0 : decode prog_8_method_28_code 0 = .ok (.aload_n 0, 1) := by decide +kernel
theorem d_Mo_write_1 : decode prog_8_method_28_code 1 = .ok (.iload_n 1, 1) := by decide +kernel
theorem d_Mo_write_2 : decode prog_8_method_28_code 2 = .ok (.iload_n 2, 1) := by decide +kernel
theorem d_Mo_write_3 : decode prog_8_method_28_code 3 = .ok (.iconst 2, 1) := by decide +kernel
theorem d_Mo_write_4 : decode prog_8_method_28_code 4 = .ok (.invokevirtual 111, 3) := by decide +kernel
theorem d_Mo_write_7 : decode prog_8_method_28_code 7 = .ok (.istore 5, 2) := by decide +kernel
theorem d_Mo_write_9 : decode prog_8_method_28_code 9 = .ok (.iload 5, 2) := by decide +kernel
theorem d_Mo_write_11 : decode prog_8_method_28_code 11 = .ok (.ifCond .eq 10, 3) := by decide +kernel
theorem d_Mo_write_14 : decode prog_8_method_28_code 14 = .ok (.aload_n 0, 1) := by decide +kernel
theorem d_Mo_write_15 : decode prog_8_method_28_code 15 = .ok (.iload 5, 2) := by decide +kernel
theorem d_Mo_write_17 : decode prog_8_method_28_code 17 = .ok (.invokevirtual 84, 3) := by decide +kernel
theorem d_Mo_write_20 : decode prog_8_method_28_code 20 = .ok (.ireturn, 1) := by decide +kernel
theorem d_Mo_write_21 : decode prog_8_method_28_code 21 = .ok (.aload_n 0, 1) := by decide +kernel
theorem d_Mo_write_22 : decode prog_8_method_28_code 22 = .ok (.iload_n 3, 1) := by decide +kernel
theorem d_Mo_write_23 : decode prog_8_method_28_code 23 = .ok (.iconst 3, 1) := by decide +kernel
theorem d_Mo_write_24 : decode prog_8_method_28_code 24 = .ok (.invokevirtual 66, 3) := by decide +kernel
theorem d_Mo_write_27 : decode prog_8_method_28_code 27 = .ok (.ifCond .eq 9, 3) := by decide +kernel
theorem d_Mo_write_30 : decode prog_8_method_28_code 30 = .ok (.aload_n 0, 1) := by decide +kernel
theorem d_Mo_write_31 : decode prog_8_method_28_code 31 = .ok (.iconst 5, 1) := by decide +kernel
theorem d_Mo_write_32 : decode prog_8_method_28_code 32 = .ok (.invokevirtual 84, 3) := by decide +kernel
theorem d_Mo_write_35 : decode prog_8_method_28_code 35 = .ok (.ireturn, 1) := by decide +kernel
theorem d_Mo_write_36 : decode prog_8_method_28_code 36 = .ok (.aload_n 0, 1) := by decide +kernel
theorem d_Mo_write_37 : decode prog_8_method_28_code 37 = .ok (.getfield 33, 3) := by decide +kernel
theorem d_Mo_write_40 : decode prog_8_method_28_code 40 = .ok (.iload_n 1, 1) := by decide +kernel
theorem d_Mo_write_41 : decode prog_8_method_28_code 41 = .ok (.bipush 8, 2) := by decide +kernel
theorem d_Mo_write_43 : decode prog_8_method_28_code 43 = .ok (.imul, 1) := by decide +kernel
theorem d_Mo_write_44 : decode prog_8_method_28_code 44 = .ok (.iload_n 2, 1) := by decide +kernel
theorem d_Mo_write_45 : decode prog_8_method_28_code 45 = .ok (.iadd, 1) := by decide +kernel
theorem d_Mo_write_46 : decode prog_8_method_28_code 46 = .ok (.iaload, 1) := by decide +kernel
theorem d_Mo_write_47 : decode prog_8_method_28_code 47 = .ok (.istore 6, 2) := by decide +kernel
theorem d_Mo_write_49 : decode prog_8_method_28_code 49 = .ok (.aload_n 0, 1) := by decide +kernel
theorem d_Mo_write_50 : decode prog_8_method_28_code 50 = .ok (.aload_n 0, 1) := by decide +kernel
theorem d_Mo_write_51 : decode prog_8_method_28_code 51 = .ok (.getfield 36, 3) := by decide +kernel
theorem d_Mo_write_54 : decode prog_8_method_28_code 54 = .ok (.iload 6, 2) := by decide +kernel
theorem d_Mo_write_56 : decode prog_8_method_28_code 56 = .ok (.iaload, 1) := by decide +kernel
theorem d_Mo_write_57 : decode prog_8_method_28_code 57 = .ok (.iconst 3, 1) := by decide +kernel
theorem d_Mo_write_58 : decode prog_8_method_28_code 58 = .ok (.imul, 1) := by decide +kernel
theorem d_Mo_write_59 : decode prog_8_method_28_code 59 = .ok (.iload_n 3, 1) := by decide +kernel
theorem d_Mo_write_60 : decode prog_8_method_28_code 60 = .ok (.iadd, 1) := by decide +kernel
theorem d_Mo_write_61 : decode prog_8_method_28_code 61 = .ok (.iconst 0, 1) := by decide +kernel
theorem d_Mo_write_62 : decode prog_8_method_28_code 62 = .ok (.iload 4, 2) := by decide +kernel
theorem d_Mo_write_64 : decode prog_8_method_28_code 64 = .ok (.invokevirtual 90, 3) := by decide +kernel
theorem d_Mo_write_67 : decode prog_8_method_28_code 67 = .ok (.aload_n 0, 1) := by decide +kernel
theorem d_Mo_write_68 : decode prog_8_method_28_code 68 = .ok (.iload 6, 2) := by decide +kernel
theorem d_Mo_write_70 : decode prog_8_method_28_code 70 = .ok (.invokevirtual 115, 3) := by decide +kernel
theorem d_Mo_write_73 : decode prog_8_method_28_code 73 = .ok (.aload_n 0, 1) := by decide +kernel
theorem d_Mo_write_74 : decode prog_8_method_28_code 74 = .ok (.aload_n 0, 1) := by decide +kernel
theorem d_Mo_write_75 : decode prog_8_method_28_code 75 = .ok (.getfield 42, 3) := by decide +kernel
theorem d_Mo_write_78 : decode prog_8_method_28_code 78 = .ok (.iload 6, 2) := by decide +kernel
theorem d_Mo_write_80 : decode prog_8_method_28_code 80 = .ok (.iaload, 1) := by decide +kernel
theorem d_Mo_write_81 : decode prog_8_method_28_code 81 = .ok (.invokevirtual 87, 3) := by decide +kernel
theorem d_Mo_write_84 : decode prog_8_method_28_code 84 = .ok (.ireturn, 1) := by decide +kernel
theorem d_Mo_gather_0 : decode prog_8_method_29_code 0 = .ok (.iconst 0, 1) := by decide +kernel
theorem d_Mo_gather_1 : decode prog_8_method_29_code 1 = .ok (.istore_n 3, 1) := by decide +kernel
theorem d_Mo_gather_2 : decode prog_8_method_29_code 2 = .ok (.iload_n 3, 1) := by decide +kernel
theorem d_Mo_gather_3 : decode prog_8_method_29_code 3 = .ok (.bipush 12, 2) := by decide +kernel
theorem d_Mo_gather_5 : decode prog_8_method_29_code 5 = .ok (.if_icmp .ge 16, 3) := by decide +kernel
theorem d_Mo_gather_8 : decode prog_8_method_29_code 8 = .ok (.aload_n 0, 1) := by decide +kernel
theorem d_Mo_gather_9 : decode prog_8_method_29_code 9 = .ok (.getfield 54, 3) := by decide +kernel
theorem d_Mo_gather_12 : decode prog_8_method_29_code 12 = .ok (.iload_n 3, 1) := by decide +kernel
theorem d_Mo_gather_13 : decode prog_8_method_29_code 13 = .ok (.iconst (-1), 1) := by decide +kernel
theorem d_Mo_gather_14 : decode prog_8_method_29_code 14 = .ok (.iastore, 1) := by decide +kernel
theorem d_Mo_gather_15 : decode prog_8_method_29_code 15 = .ok (.iinc 3 1, 3) := by decide +kernel
theorem d_Mo_gather_18 : decode prog_8_method_29_code 18 = .ok (.goto (-16), 3) := by decide +kernel
theorem d_Mo_gather_21 : decode prog_8_method_29_code 21 = .ok (.aload_n 0, 1) := by decide +kernel
theorem d_Mo_gather_22 : decode prog_8_method_29_code 22 = .ok (.iconst 1, 1) := by decide +kernel
theorem d_Mo_gather_23 : decode prog_8_method_29_code 23 = .ok (.putfield 63, 3) := by decide +kernel
theorem d_Mo_gather_26 : decode prog_8_method_29_code 26 = .ok (.aload_n 0, 1) := by decide +kernel
theorem d_Mo_gather_27 : decode prog_8_method_29_code 27 = .ok (.getfield 51, 3) := by decide +kernel
theorem d_Mo_gather_30 : decode prog_8_method_29_code 30 = .ok (.iconst 0, 1) := by decide +kernel
theorem d_Mo_gather_31 : decode prog_8_method_29_code 31 = .ok (.iload_n 2, 1) := by decide +kernel
theorem d_Mo_gather_32 : decode prog_8_method_29_code 32 = .ok (.iastore, 1) := by decide +kernel
theorem d_Mo_gather_33 : decode prog_8_method_29_code 33 = .ok (.aload_n 0, 1) := by decide +kernel
theorem d_Mo_gather_34 : decode prog_8_method_29_code 34 = .ok (.getfield 54, 3) := by decide +kernel
theorem d_Mo_gather_37 : decode prog_8_method_29_code 37 = .ok (.iload_n 2, 1) := by decide +kernel
theorem d_Mo_gather_38 : decode prog_8_method_29_code 38 = .ok (.iconst 0, 1) := by decide +kernel
theorem d_Mo_gather_39 : decode prog_8_method_29_code 39 = .ok (.iastore, 1) := by decide +kernel
theorem d_Mo_gather_40 : decode prog_8_method_29_code 40 = .ok (.aload_n 0, 1) := by decide +kernel
theorem d_Mo_gather_41 : decode prog_8_method_29_code 41 = .ok (.getfield 57, 3) := by decide +kernel
theorem d_Mo_gather_44 : decode prog_8_method_29_code 44 = .ok (.iconst 0, 1) := by decide +kernel
theorem d_Mo_gather_45 : decode prog_8_method_29_code 45 = .ok (.iload_n 2, 1) := by decide +kernel
theorem d_Mo_gather_46 : decode prog_8_method_29_code 46 = .ok (.iastore, 1) := by decide +kernel
theorem d_Mo_gather_47 : decode prog_8_method_29_code 47 = .ok (.aload_n 0, 1) := by decide +kernel
theorem d_Mo_gather_48 : decode prog_8_method_29_code 48 = .ok (.getfield 60, 3) := by decide +kernel
theorem d_Mo_gather_51 : decode prog_8_method_29_code 51 = .ok (.iconst 0, 1) := by decide +kernel
theorem d_Mo_gather_52 : decode prog_8_method_29_code 52 = .ok (.iconst 0, 1) := by decide +kernel
theorem d_Mo_gather_53 : decode prog_8_method_29_code 53 = .ok (.iastore, 1) := by decide +kernel
theorem d_Mo_gather_54 : decode prog_8_method_29_code 54 = .ok (.iconst 1, 1) := by decide +kernel
theorem d_Mo_gather_55 : decode prog_8_method_29_code 55 = .ok (.istore_n 3, 1) := by decide +kernel
theorem d_Mo_gather_56 : decode prog_8_method_29_code 56 = .ok (.iload_n 3, 1) := by decide +kernel
theorem d_Mo_gather_57 : decode prog_8_method_29_code 57 = .ok (.ifCond .le 157, 3) := by decide +kernel
theorem d_Mo_gather_60 : decode prog_8_method_29_code 60 = .ok (.iload_n 3, 1) := by decide +kernel
theorem d_Mo_gather_61 : decode prog_8_method_29_code 61 = .ok (.iconst 1, 1) := by decide +kernel
theorem d_Mo_gather_62 : decode prog_8_method_29_code 62 = .ok (.isub, 1) := by decide +kernel
theorem d_Mo_gather_63 : decode prog_8_method_29_code 63 = .ok (.istore 4, 2) := by decide +kernel
theorem d_Mo_gather_65 : decode prog_8_method_29_code 65 = .ok (.aload_n 0, 1) := by decide +kernel
theorem d_Mo_gather_66 : decode prog_8_method_29_code 66 = .ok (.getfield 60, 3) := by decide +kernel
theorem d_Mo_gather_69 : decode prog_8_method_29_code 69 = .ok (.iload 4, 2) := by decide +kernel
theorem d_Mo_gather_71 : decode prog_8_method_29_code 71 = .ok (.iaload, 1) := by decide +kernel
theorem d_Mo_gather_72 : decode prog_8_method_29_code 72 = .ok (.iconst 3, 1) := by decide +kernel
theorem d_Mo_gather_73 : decode prog_8_method_29_code 73 = .ok (.if_icmp .ne 9, 3) := by decide +kernel
theorem d_Mo_gather_76 : decode prog_8_method_29_code 76 = .ok (.iinc 3 (-1), 3) := by decide +kernel
theorem d_Mo_gather_79 : decode prog_8_method_29_code 79 = .ok (.goto (-23), 3) := by decide +kernel
theorem d_Mo_gather_82 : decode prog_8_method_29_code 82 = .ok (.iload_n 1, 1) := by decide +kernel
theorem d_Mo_gather_83 : decode prog_8_method_29_code 83 = .ok (.bipush 12, 2) := by decide +kernel
theorem d_Mo_gather_85 : decode prog_8_method_29_code 85 = .ok (.imul, 1) := by decide +kernel
theorem d_Mo_gather_86 : decode prog_8_method_29_code 86 = .ok (.aload_n 0, 1) := by decide +kernel
theorem d_Mo_gather_87 : decode prog_8_method_29_code 87 = .ok (.getfield 57, 3) := by decide +kernel
theorem d_Mo_gather_90 : decode prog_8_method_29_code 90 = .ok (.iload 4, 2) := by decide +kernel
theorem d_Mo_gather_92 : decode prog_8_method_29_code 92 = .ok (.iaload, 1) := by decide +kernel
theorem d_Mo_gather_93 : decode prog_8_method_29_code 93 = .ok (.iadd, 1) := by decide +kernel
theorem d_Mo_gather_94 : decode prog_8_method_29_code 94 = .ok (.iconst 3, 1) := by decide +kernel
theorem d_Mo_gather_95 : decode prog_8_method_29_code 95 = .ok (.imul, 1) := by decide +kernel
theorem d_Mo_gather_96 : decode prog_8_method_29_code 96 = .ok (.aload_n 0, 1) := by decide +kernel
theorem d_Mo_gather_97 : decode prog_8_method_29_code 97 = .ok (.getfield 60, 3) := by decide +kernel
theorem d_Mo_gather_100 : decode prog_8_method_29_code 100 = .ok (.iload 4, 2) := by decide +kernel
theorem d_Mo_gather_102 : decode prog_8_method_29_code 102 = .ok (.iaload, 1) := by decide +kernel
theorem d_Mo_gather_103 : decode prog_8_method_29_code 103 = .ok (.iadd, 1) := by decide +kernel
theorem d_Mo_gather_104 : decode prog_8_method_29_code 104 = .ok (.istore 5, 2) := by decide +kernel
theorem d_Mo_gather_106 : decode prog_8_method_29_code 106 = .ok (.aload_n 0, 1) := by decide +kernel
theorem d_Mo_gather_107 : decode prog_8_method_29_code 107 = .ok (.getfield 60, 3) := by decide +kernel
theorem d_Mo_gather_110 : decode prog_8_method_29_code 110 = .ok (.iload 4, 2) := by decide +kernel
theorem d_Mo_gather_112 : decode prog_8_method_29_code 112 = .ok (.dup2, 1) := by decide +kernel
theorem d_Mo_gather_113 : decode prog_8_method_29_code 113 = .ok (.iaload, 1) := by decide +kernel
theorem d_Mo_gather_114 : decode prog_8_method_29_code 114 = .ok (.iconst 1, 1) := by decide +kernel
theorem d_Mo_gather_115 : decode prog_8_method_29_code 115 = .ok (.iadd, 1) := by decide +kernel
theorem d_Mo_gather_116 : decode prog_8_method_29_code 116 = .ok (.iastore, 1) := by decide +kernel
theorem d_Mo_gather_117 : decode prog_8_method_29_code 117 = .ok (.aload_n 0, 1) := by decide +kernel
theorem d_Mo_gather_118 : decode prog_8_method_29_code 118 = .ok (.getfield 26, 3) := by decide +kernel
theorem d_Mo_gather_121 : decode prog_8_method_29_code 121 = .ok (.iload 5, 2) := by decide +kernel
theorem d_Mo_gather_123 : decode prog_8_method_29_code 123 = .ok (.iaload, 1) := by decide +kernel
theorem d_Mo_gather_124 : decode prog_8_method_29_code 124 = .ok (.iconst 1, 1) := by decide +kernel
theorem d_Mo_gather_125 : decode prog_8_method_29_code 125 = .ok (.if_icmp .ne (-69), 3) := by decide +kernel
theorem d_Mo_gather_128 : decode prog_8_method_29_code 128 = .ok (.aload_n 0, 1) := by decide +kernel
theorem d_Mo_gather_129 : decode prog_8_method_29_code 129 = .ok (.getfield 54, 3) := by decide +kernel
theorem d_Mo_gather_132 : decode prog_8_method_29_code 132 = .ok (.aload_n 0, 1) := by decide +kernel
theorem d_Mo_gather_133 : decode prog_8_method_29_code 133 = .ok (.getfield 30, 3) := by decide +kernel
theorem d_Mo_gather_136 : decode prog_8_method_29_code 136 = .ok (.iload 5, 2) := by decide +kernel
theorem d_Mo_gather_138 : decode prog_8_method_29_code 138 = .ok (.iaload, 1) := by decide +kernel
theorem d_Mo_gather_139 : decode prog_8_method_29_code 139 = .ok (.iaload, 1) := by decide +kernel
theorem d_Mo_gather_140 : decode prog_8_method_29_code 140 = .ok (.ifCond .lt 6, 3) := by decide +kernel
theorem d_Mo_gather_143 : decode prog_8_method_29_code 143 = .ok (.goto (-87), 3) := by decide +kernel
theorem d_Mo_gather_146 : decode prog_8_method_29_code 146 = .ok (.aload_n 0, 1) := by decide +kernel
theorem d_Mo_gather_147 : decode prog_8_method_29_code 147 = .ok (.getfield 54, 3) := by decide +kernel
theorem d_Mo_gather_150 : decode prog_8_method_29_code 150 = .ok (.aload_n 0, 1) := by decide +kernel
theorem d_Mo_gather_151 : decode prog_8_method_29_code 151 = .ok (.getfield 30, 3) := by decide +kernel
theorem d_Mo_gather_154 : decode prog_8_method_29_code 154 = .ok (.iload 5, 2) := by decide +kernel
theorem d_Mo_gather_156 : decode prog_8_method_29_code 156 = .ok (.iaload, 1) := by decide +kernel
theorem d_Mo_gather_157 : decode prog_8_method_29_code 157 = .ok (.aload_n 0, 1) := by decide +kernel
theorem d_Mo_gather_158 : decode prog_8_method_29_code 158 = .ok (.getfield 63, 3) := by decide +kernel
theorem d_Mo_gather_161 : decode prog_8_method_29_code 161 = .ok (.iastore, 1) := by decide +kernel
theorem d_Mo_gather_162 : decode prog_8_method_29_code 162 = .ok (.aload_n 0, 1) := by decide +kernel
theorem d_Mo_gather_163 : decode prog_8_method_29_code 163 = .ok (.getfield 51, 3) := by decide +kernel
theorem d_Mo_gather_166 : decode prog_8_method_29_code 166 = .ok (.aload_n 0, 1) := by decide +kernel
theorem d_Mo_gather_167 : decode prog_8_method_29_code 167 = .ok (.getfield 63, 3) := by decide +kernel
theorem d_Mo_gather_170 : decode prog_8_method_29_code 170 = .ok (.aload_n 0, 1) := by decide +kernel
theorem d_Mo_gather_171 : decode prog_8_method_29_code 171 = .ok (.getfield 30, 3) := by decide +kernel
theorem d_Mo_gather_174 : decode prog_8_method_29_code 174 = .ok (.iload 5, 2) := by decide +kernel
theorem d_Mo_gather_176 : decode prog_8_method_29_code 176 = .ok (.iaload, 1) := by decide +kernel
theorem d_Mo_gather_177 : decode prog_8_method_29_code 177 = .ok (.iastore, 1) := by decide +kernel
theorem d_Mo_gather_178 : decode prog_8_method_29_code 178 = .ok (.aload_n 0, 1) := by decide +kernel
theorem d_Mo_gather_179 : decode prog_8_method_29_code 179 = .ok (.dup, 1) := by decide +kernel
theorem d_Mo_gather_180 : decode prog_8_method_29_code 180 = .ok (.getfield 63, 3) := by decide +kernel
theorem d_Mo_gather_183 : decode prog_8_method_29_code 183 = .ok (.iconst 1, 1) := by decide +kernel
theorem d_Mo_gather_184 : decode prog_8_method_29_code 184 = .ok (.iadd, 1) := by decide +kernel
theorem d_Mo_gather_185 : decode prog_8_method_29_code 185 = .ok (.putfield 63, 3) := by decide +kernel
theorem d_Mo_gather_188 : decode prog_8_method_29_code 188 = .ok (.aload_n 0, 1) := by decide +kernel
theorem d_Mo_gather_189 : decode prog_8_method_29_code 189 = .ok (.getfield 57, 3) := by decide +kernel
theorem d_Mo_gather_192 : decode prog_8_method_29_code 192 = .ok (.iload_n 3, 1) := by decide +kernel
theorem d_Mo_gather_193 : decode prog_8_method_29_code 193 = .ok (.aload_n 0, 1) := by decide +kernel
theorem d_Mo_gather_194 : decode prog_8_method_29_code 194 = .ok (.getfield 30, 3) := by decide +kernel
theorem d_Mo_gather_197 : decode prog_8_method_29_code 197 = .ok (.iload 5, 2) := by decide +kernel
theorem d_Mo_gather_199 : decode prog_8_method_29_code 199 = .ok (.iaload, 1) := by decide +kernel
theorem d_Mo_gather_200 : decode prog_8_method_29_code 200 = .ok (.iastore, 1) := by decide +kernel
theorem d_Mo_gather_201 : decode prog_8_method_29_code 201 = .ok (.aload_n 0, 1) := by decide +kernel
theorem d_Mo_gather_202 : decode prog_8_method_29_code 202 = .ok (.getfield 60, 3) := by decide +kernel
theorem d_Mo_gather_205 : decode prog_8_method_29_code 205 = .ok (.iload_n 3, 1) := by decide +kernel
theorem d_Mo_gather_206 : decode prog_8_method_29_code 206 = .ok (.iconst 0, 1) := by decide +kernel
theorem d_Mo_gather_207 : decode prog_8_method_29_code 207 = .ok (.iastore, 1) := by decide +kernel
theorem d_Mo_gather_208 : decode prog_8_method_29_code 208 = .ok (.iinc 3 1, 3) := by decide +kernel
theorem d_Mo_gather_211 : decode prog_8_method_29_code 211 = .ok (.goto (-155), 3) := by decide +kernel
theorem d_Mo_gather_214 : decode prog_8_method_29_code 214 = .ok (.return_, 1) := by decide +kernel
theorem d_Mo_pass_0 : decode prog_8_method_30_code 0 = .ok (.aload_n 0, 1) := by decide +kernel
theorem d_Mo_pass_1 : decode prog_8_method_30_code 1 = .ok (.iload_n 1, 1) := by decide +kernel
theorem d_Mo_pass_2 : decode prog_8_method_30_code 2 = .ok (.iload_n 2, 1) := by decide +kernel
theorem d_Mo_pass_3 : decode prog_8_method_30_code 3 = .ok (.iconst 4, 1) := by decide +kernel
theorem d_Mo_pass_4 : decode prog_8_method_30_code 4 = .ok (.invokevirtual 111, 3) := by decide +kernel
theorem d_Mo_pass_7 : decode prog_8_method_30_code 7 = .ok (.istore 5, 2) := by decide +kernel
theorem d_Mo_pass_9 : decode prog_8_method_30_code 9 = .ok (.iload 5, 2) := by decide +kernel
theorem d_Mo_pass_11 : decode prog_8_method_30_code 11 = .ok (.ifCond .eq 10, 3) := by decide +kernel
theorem d_Mo_pass_14 : decode prog_8_method_30_code 14 = .ok (.aload_n 0, 1) := by decide +kernel
theorem d_Mo_pass_15 : decode prog_8_method_30_code 15 = .ok (.iload 5, 2) := by decide +kernel
theorem d_Mo_pass_17 : decode prog_8_method_30_code 17 = .ok (.invokevirtual 84, 3) := by decide +kernel
theorem d_Mo_pass_20 : decode prog_8_method_30_code 20 = .ok (.ireturn, 1) := by decide +kernel
theorem d_Mo_pass_21 : decode prog_8_method_30_code 21 = .ok (.aload_n 0, 1) := by decide +kernel
theorem d_Mo_pass_22 : decode prog_8_method_30_code 22 = .ok (.iload_n 3, 1) := by decide +kernel
theorem d_Mo_pass_23 : decode prog_8_method_30_code 23 = .ok (.iconst 3, 1) := by decide +kernel
theorem d_Mo_pass_24 : decode prog_8_method_30_code 24 = .ok (.invokevirtual 66, 3) := by decide +kernel
theorem d_Mo_pass_27 : decode prog_8_method_30_code 27 = .ok (.ifCond .eq 9, 3) := by decide +kernel
theorem d_Mo_pass_30 : decode prog_8_method_30_code 30 = .ok (.aload_n 0, 1) := by decide +kernel
theorem d_Mo_pass_31 : decode prog_8_method_30_code 31 = .ok (.iconst 5, 1) := by decide +kernel
theorem d_Mo_pass_32 : decode prog_8_method_30_code 32 = .ok (.invokevirtual 84, 3) := by decide +kernel
theorem d_Mo_pass_35 : decode prog_8_method_30_code 35 = .ok (.ireturn, 1) := by decide +kernel
theorem d_Mo_pass_36 : decode prog_8_method_30_code 36 = .ok (.aload_n 0, 1) := by decide +kernel
theorem d_Mo_pass_37 : decode prog_8_method_30_code 37 = .ok (.iload_n 1, 1) := by decide +kernel
theorem d_Mo_pass_38 : decode prog_8_method_30_code 38 = .ok (.iload 4, 2) := by decide +kernel
theorem d_Mo_pass_40 : decode prog_8_method_30_code 40 = .ok (.invokevirtual 100, 3) := by decide +kernel
theorem d_Mo_pass_43 : decode prog_8_method_30_code 43 = .ok (.ifCond .eq 9, 3) := by decide +kernel
theorem d_Mo_pass_46 : decode prog_8_method_30_code 46 = .ok (.aload_n 0, 1) := by decide +kernel
theorem d_Mo_pass_47 : decode prog_8_method_30_code 47 = .ok (.iconst 3, 1) := by decide +kernel
theorem d_Mo_pass_48 : decode prog_8_method_30_code 48 = .ok (.invokevirtual 84, 3) := by decide +kernel
theorem d_Mo_pass_51 : decode prog_8_method_30_code 51 = .ok (.ireturn, 1) := by decide +kernel
theorem d_Mo_pass_52 : decode prog_8_method_30_code 52 = .ok (.aload_n 0, 1) := by decide +kernel
theorem d_Mo_pass_53 : decode prog_8_method_30_code 53 = .ok (.getfield 33, 3) := by decide +kernel
theorem d_Mo_pass_56 : decode prog_8_method_30_code 56 = .ok (.iload_n 1, 1) := by decide +kernel
theorem d_Mo_pass_57 : decode prog_8_method_30_code 57 = .ok (.bipush 8, 2) := by decide +kernel
theorem d_Mo_pass_59 : decode prog_8_method_30_code 59 = .ok (.imul, 1) := by decide +kernel
theorem d_Mo_pass_60 : decode prog_8_method_30_code 60 = .ok (.iload_n 2, 1) := by decide +kernel
theorem d_Mo_pass_61 : decode prog_8_method_30_code 61 = .ok (.iadd, 1) := by decide +kernel
theorem d_Mo_pass_62 : decode prog_8_method_30_code 62 = .ok (.iaload, 1) := by decide +kernel
theorem d_Mo_pass_63 : decode prog_8_method_30_code 63 = .ok (.istore 6, 2) := by decide +kernel
theorem d_Mo_pass_65 : decode prog_8_method_30_code 65 = .ok (.aload_n 0, 1) := by decide +kernel
theorem d_Mo_pass_66 : decode prog_8_method_30_code 66 = .ok (.iload 6, 2) := by decide +kernel
theorem d_Mo_pass_68 : decode prog_8_method_30_code 68 = .ok (.invokevirtual 70, 3) := by decide +kernel
theorem d_Mo_pass_71 : decode prog_8_method_30_code 71 = .ok (.istore 7, 2) := by decide +kernel
theorem d_Mo_pass_73 : decode prog_8_method_30_code 73 = .ok (.aload_n 0, 1) := by decide +kernel
theorem d_Mo_pass_74 : decode prog_8_method_30_code 74 = .ok (.iload_n 1, 1) := by decide +kernel
theorem d_Mo_pass_75 : decode prog_8_method_30_code 75 = .ok (.iload 4, 2) := by decide +kernel
theorem d_Mo_pass_77 : decode prog_8_method_30_code 77 = .ok (.invokevirtual 119, 3) := by decide +kernel
theorem d_Mo_pass_80 : decode prog_8_method_30_code 80 = .ok (.aload_n 0, 1) := by decide +kernel
theorem d_Mo_pass_81 : decode prog_8_method_30_code 81 = .ok (.iload 7, 2) := by decide +kernel
theorem d_Mo_pass_83 : decode prog_8_method_30_code 83 = .ok (.invokevirtual 94, 3) := by decide +kernel
theorem d_Mo_pass_86 : decode prog_8_method_30_code 86 = .ok (.aload_n 0, 1) := by decide +kernel
theorem d_Mo_pass_87 : decode prog_8_method_30_code 87 = .ok (.getfield 63, 3) := by decide +kernel
theorem d_Mo_pass_90 : decode prog_8_method_30_code 90 = .ok (.iadd, 1) := by decide +kernel
theorem d_Mo_pass_91 : decode prog_8_method_30_code 91 = .ok (.bipush 12, 2) := by decide +kernel
theorem d_Mo_pass_93 : decode prog_8_method_30_code 93 = .ok (.if_icmp .le 10, 3) := by decide +kernel
theorem d_Mo_pass_96 : decode prog_8_method_30_code 96 = .ok (.aload_n 0, 1) := by decide +kernel
theorem d_Mo_pass_97 : decode prog_8_method_30_code 97 = .ok (.bipush 6, 2) := by decide +kernel
theorem d_Mo_pass_99 : decode prog_8_method_30_code 99 = .ok (.invokevirtual 84, 3) := by decide +kernel
theorem d_Mo_pass_102 : decode prog_8_method_30_code 102 = .ok (.ireturn, 1) := by decide +kernel
theorem d_Mo_pass_103 : decode prog_8_method_30_code 103 = .ok (.iconst 0, 1) := by decide +kernel
theorem d_Mo_pass_104 : decode prog_8_method_30_code 104 = .ok (.istore 8, 2) := by decide +kernel
theorem d_Mo_pass_106 : decode prog_8_method_30_code 106 = .ok (.iload 8, 2) := by decide +kernel
theorem d_Mo_pass_108 : decode prog_8_method_30_code 108 = .ok (.aload_n 0, 1) := by decide +kernel
theorem d_Mo_pass_109 : decode prog_8_method_30_code 109 = .ok (.getfield 63, 3) := by decide +kernel
theorem d_Mo_pass_112 : decode prog_8_method_30_code 112 = .ok (.if_icmp .ge 27, 3) := by decide +kernel
theorem d_Mo_pass_115 : decode prog_8_method_30_code 115 = .ok (.aload_n 0, 1) := by decide +kernel
theorem d_Mo_pass_116 : decode prog_8_method_30_code 116 = .ok (.getfield 54, 3) := by decide +kernel
theorem d_Mo_pass_119 : decode prog_8_method_30_code 119 = .ok (.aload_n 0, 1) := by decide +kernel
theorem d_Mo_pass_120 : decode prog_8_method_30_code 120 = .ok (.getfield 51, 3) := by decide +kernel
theorem d_Mo_pass_123 : decode prog_8_method_30_code 123 = .ok (.iload 8, 2) := by decide +kernel
theorem d_Mo_pass_125 : decode prog_8_method_30_code 125 = .ok (.iaload, 1) := by decide +kernel
theorem d_Mo_pass_126 : decode prog_8_method_30_code 126 = .ok (.aload_n 0, 1) := by decide +kernel
theorem d_Mo_pass_127 : decode prog_8_method_30_code 127 = .ok (.iload 7, 2) := by decide +kernel
theorem d_Mo_pass_129 : decode prog_8_method_30_code 129 = .ok (.invokevirtual 97, 3) := by decide +kernel
theorem d_Mo_pass_132 : decode prog_8_method_30_code 132 = .ok (.iastore, 1) := by decide +kernel
theorem d_Mo_pass_133 : decode prog_8_method_30_code 133 = .ok (.iinc 8 1, 3) := by decide +kernel
theorem d_Mo_pass_136 : decode prog_8_method_30_code 136 = .ok (.goto (-30), 3) := by decide +kernel
theorem d_Mo_pass_139 : decode prog_8_method_30_code 139 = .ok (.iconst 0, 1) := by decide +kernel
theorem d_Mo_pass_140 : decode prog_8_method_30_code 140 = .ok (.istore 8, 2) := by decide +kernel
theorem d_Mo_pass_142 : decode prog_8_method_30_code 142 = .ok (.iload 8, 2) := by decide +kernel
theorem d_Mo_pass_144 : decode prog_8_method_30_code 144 = .ok (.aload_n 0, 1) := by decide +kernel
theorem d_Mo_pass_145 : decode prog_8_method_30_code 145 = .ok (.getfield 63, 3) := by decide +kernel
theorem d_Mo_pass_148 : decode prog_8_method_30_code 148 = .ok (.if_icmp .ge 114, 3) := by decide +kernel
theorem d_Mo_pass_151 : decode prog_8_method_30_code 151 = .ok (.iconst 0, 1) := by decide +kernel
theorem d_Mo_pass_152 : decode prog_8_method_30_code 152 = .ok (.istore 9, 2) := by decide +kernel
theorem d_Mo_pass_154 : decode prog_8_method_30_code 154 = .ok (.iload 9, 2) := by decide +kernel
theorem d_Mo_pass_156 : decode prog_8_method_30_code 156 = .ok (.iconst 3, 1) := by decide +kernel
theorem d_Mo_pass_157 : decode prog_8_method_30_code 157 = .ok (.if_icmp .ge 99, 3) := by decide +kernel
theorem d_Mo_pass_160 : decode prog_8_method_30_code 160 = .ok (.iload_n 1, 1) := by decide +kernel
theorem d_Mo_pass_161 : decode prog_8_method_30_code 161 = .ok (.bipush 12, 2) := by decide +kernel
theorem d_Mo_pass_163 : decode prog_8_method_30_code 163 = .ok (.imul, 1) := by decide +kernel
theorem d_Mo_pass_164 : decode prog_8_method_30_code 164 = .ok (.aload_n 0, 1) := by decide +kernel
theorem d_Mo_pass_165 : decode prog_8_method_30_code 165 = .ok (.getfield 51, 3) := by decide +kernel
theorem d_Mo_pass_168 : decode prog_8_method_30_code 168 = .ok (.iload 8, 2) := by decide +kernel
theorem d_Mo_pass_170 : decode prog_8_method_30_code 170 = .ok (.iaload, 1) := by decide +kernel
theorem d_Mo_pass_171 : decode prog_8_method_30_code 171 = .ok (.iadd, 1) := by decide +kernel
theorem d_Mo_pass_172 : decode prog_8_method_30_code 172 = .ok (.iconst 3, 1) := by decide +kernel
theorem d_Mo_pass_173 : decode prog_8_method_30_code 173 = .ok (.imul, 1) := by decide +kernel
theorem d_Mo_pass_174 : decode prog_8_method_30_code 174 = .ok (.iload 9, 2) := by decide +kernel
theorem d_Mo_pass_176 : decode prog_8_method_30_code 176 = .ok (.iadd, 1) := by decide +kernel
theorem d_Mo_pass_177 : decode prog_8_method_30_code 177 = .ok (.istore 10, 2) := by decide +kernel
theorem d_Mo_pass_179 : decode prog_8_method_30_code 179 = .ok (.iload 7, 2) := by decide +kernel
theorem d_Mo_pass_181 : decode prog_8_method_30_code 181 = .ok (.bipush 12, 2) := by decide +kernel
theorem d_Mo_pass_183 : decode prog_8_method_30_code 183 = .ok (.imul, 1) := by decide +kernel
theorem d_Mo_pass_184 : decode prog_8_method_30_code 184 = .ok (.aload_n 0, 1) := by decide +kernel
theorem d_Mo_pass_185 : decode prog_8_method_30_code 185 = .ok (.getfield 54, 3) := by decide +kernel
theorem d_Mo_pass_188 : decode prog_8_method_30_code 188 = .ok (.aload_n 0, 1) := by decide +kernel
theorem d_Mo_pass_189 : decode prog_8_method_30_code 189 = .ok (.getfield 51, 3) := by decide +kernel
theorem d_Mo_pass_192 : decode prog_8_method_30_code 192 = .ok (.iload 8, 2) := by decide +kernel
theorem d_Mo_pass_194 : decode prog_8_method_30_code 194 = .ok (.iaload, 1) := by decide +kernel
theorem d_Mo_pass_195 : decode prog_8_method_30_code 195 = .ok (.iaload, 1) := by decide +kernel
theorem d_Mo_pass_196 : decode prog_8_method_30_code 196 = .ok (.iadd, 1) := by decide +kernel
theorem d_Mo_pass_197 : decode prog_8_method_30_code 197 = .ok (.iconst 3, 1) := by decide +kernel
theorem d_Mo_pass_198 : decode prog_8_method_30_code 198 = .ok (.imul, 1) := by decide +kernel
theorem d_Mo_pass_199 : decode prog_8_method_30_code 199 = .ok (.iload 9, 2) := by decide +kernel
theorem d_Mo_pass_201 : decode prog_8_method_30_code 201 = .ok (.iadd, 1) := by decide +kernel
theorem d_Mo_pass_202 : decode prog_8_method_30_code 202 = .ok (.istore 11, 2) := by decide +kernel
theorem d_Mo_pass_204 : decode prog_8_method_30_code 204 = .ok (.aload_n 0, 1) := by decide +kernel
theorem d_Mo_pass_205 : decode prog_8_method_30_code 205 = .ok (.iload 11, 2) := by decide +kernel
theorem d_Mo_pass_207 : decode prog_8_method_30_code 207 = .ok (.aload_n 0, 1) := by decide +kernel
theorem d_Mo_pass_208 : decode prog_8_method_30_code 208 = .ok (.getfield 26, 3) := by decide +kernel
theorem d_Mo_pass_211 : decode prog_8_method_30_code 211 = .ok (.iload 10, 2) := by decide +kernel
theorem d_Mo_pass_213 : decode prog_8_method_30_code 213 = .ok (.iaload, 1) := by decide +kernel
theorem d_Mo_pass_214 : decode prog_8_method_30_code 214 = .ok (.aload_n 0, 1) := by decide +kernel
theorem d_Mo_pass_215 : decode prog_8_method_30_code 215 = .ok (.getfield 26, 3) := by decide +kernel
theorem d_Mo_pass_218 : decode prog_8_method_30_code 218 = .ok (.iload 10, 2) := by decide +kernel
theorem d_Mo_pass_220 : decode prog_8_method_30_code 220 = .ok (.iaload, 1) := by decide +kernel
theorem d_Mo_pass_221 : decode prog_8_method_30_code 221 = .ok (.iconst 1, 1) := by decide +kernel
theorem d_Mo_pass_222 : decode prog_8_method_30_code 222 = .ok (.if_icmp .ne 18, 3) := by decide +kernel
theorem d_Mo_pass_225 : decode prog_8_method_30_code 225 = .ok (.aload_n 0, 1) := by decide +kernel
theorem d_Mo_pass_226 : decode prog_8_method_30_code 226 = .ok (.getfield 54, 3) := by decide +kernel
theorem d_Mo_pass_229 : decode prog_8_method_30_code 229 = .ok (.aload_n 0, 1) := by decide +kernel
theorem d_Mo_pass_230 : decode prog_8_method_30_code 230 = .ok (.getfield 30, 3) := by decide +kernel
theorem d_Mo_pass_233 : decode prog_8_method_30_code 233 = .ok (.iload 10, 2) := by decide +kernel
theorem d_Mo_pass_235 : decode prog_8_method_30_code 235 = .ok (.iaload, 1) := by decide +kernel
theorem d_Mo_pass_236 : decode prog_8_method_30_code 236 = .ok (.iaload, 1) := by decide +kernel
theorem d_Mo_pass_237 : decode prog_8_method_30_code 237 = .ok (.goto 10, 3) := by decide +kernel
theorem d_Mo_pass_240 : decode prog_8_method_30_code 240 = .ok (.aload_n 0, 1) := by decide +kernel
theorem d_Mo_pass_241 : decode prog_8_method_30_code 241 = .ok (.getfield 30, 3) := by decide +kernel
theorem d_Mo_pass_244 : decode prog_8_method_30_code 244 = .ok (.iload 10, 2) := by decide +kernel
theorem d_Mo_pass_246 : decode prog_8_method_30_code 246 = .ok (.iaload, 1) := by decide +kernel
theorem d_Mo_pass_247 : decode prog_8_method_30_code 247 = .ok (.invokevirtual 90, 3) := by decide +kernel
theorem d_Mo_pass_250 : decode prog_8_method_30_code 250 = .ok (.iinc 9 1, 3) := by decide +kernel
theorem d_Mo_pass_253 : decode prog_8_method_30_code 253 = .ok (.goto (-99), 3) := by decide +kernel
theorem d_Mo_pass_256 : decode prog_8_method_30_code 256 = .ok (.iinc 8 1, 3) := by decide +kernel
theorem d_Mo_pass_259 : decode prog_8_method_30_code 259 = .ok (.goto (-117), 3) := by decide +kernel
theorem d_Mo_pass_262 : decode prog_8_method_30_code 262 = .ok (.aload_n 0, 1) := by decide +kernel
theorem d_Mo_pass_263 : decode prog_8_method_30_code 263 = .ok (.aload_n 0, 1) := by decide +kernel
theorem d_Mo_pass_264 : decode prog_8_method_30_code 264 = .ok (.getfield 36, 3) := by decide +kernel
theorem d_Mo_pass_267 : decode prog_8_method_30_code 267 = .ok (.iload 6, 2) := by decide +kernel
theorem d_Mo_pass_269 : decode prog_8_method_30_code 269 = .ok (.iaload, 1) := by decide +kernel
theorem d_Mo_pass_270 : decode prog_8_method_30_code 270 = .ok (.iconst 3, 1) := by decide +kernel
theorem d_Mo_pass_271 : decode prog_8_method_30_code 271 = .ok (.imul, 1) := by decide +kernel
theorem d_Mo_pass_272 : decode prog_8_method_30_code 272 = .ok (.iload_n 3, 1) := by decide +kernel
theorem d_Mo_pass_273 : decode prog_8_method_30_code 273 = .ok (.iadd, 1) := by decide +kernel
theorem d_Mo_pass_274 : decode prog_8_method_30_code 274 = .ok (.iconst 1, 1) := by decide +kernel
theorem d_Mo_pass_275 : decode prog_8_method_30_code 275 = .ok (.aload_n 0, 1) := by decide +kernel
theorem d_Mo_pass_276 : decode prog_8_method_30_code 276 = .ok (.getfield 54, 3) := by decide +kernel
theorem d_Mo_pass_279 : decode prog_8_method_30_code 279 = .ok (.iload 4, 2) := by decide +kernel
theorem d_Mo_pass_281 : decode prog_8_method_30_code 281 = .ok (.iaload, 1) := by decide +kernel
theorem d_Mo_pass_282 : decode prog_8_method_30_code 282 = .ok (.invokevirtual 90, 3) := by decide +kernel
theorem d_Mo_pass_285 : decode prog_8_method_30_code 285 = .ok (.aload_n 0, 1) := by decide +kernel
theorem d_Mo_pass_286 : decode prog_8_method_30_code 286 = .ok (.iload 6, 2) := by decide +kernel
theorem d_Mo_pass_288 : decode prog_8_method_30_code 288 = .ok (.invokevirtual 115, 3) := by decide +kernel
theorem d_Mo_pass_291 : decode prog_8_method_30_code 291 = .ok (.aload_n 0, 1) := by decide +kernel
theorem d_Mo_pass_292 : decode prog_8_method_30_code 292 = .ok (.aload_n 0, 1) := by decide +kernel
theorem d_Mo_pass_293 : decode prog_8_method_30_code 293 = .ok (.getfield 63, 3) := by decide +kernel
theorem d_Mo_pass_296 : decode prog_8_method_30_code 296 = .ok (.invokevirtual 87, 3) := by decide +kernel
theorem d_Mo_pass_299 : decode prog_8_method_30_code 299 = .ok (.ireturn, 1) := by decide +kernel
theorem d_Mo_take_0 : decode prog_8_method_31_code 0 = .ok (.aload_n 0, 1) := by decide +kernel
theorem d_Mo_take_1 : decode prog_8_method_31_code 1 = .ok (.iload_n 1, 1) := by decide +kernel
theorem d_Mo_take_2 : decode prog_8_method_31_code 2 = .ok (.iload_n 2, 1) := by decide +kernel
theorem d_Mo_take_3 : decode prog_8_method_31_code 3 = .ok (.bipush 8, 2) := by decide +kernel
theorem d_Mo_take_5 : decode prog_8_method_31_code 5 = .ok (.invokevirtual 111, 3) := by decide +kernel
theorem d_Mo_take_8 : decode prog_8_method_31_code 8 = .ok (.istore 5, 2) := by decide +kernel
theorem d_Mo_take_10 : decode prog_8_method_31_code 10 = .ok (.iload 5, 2) := by decide +kernel
theorem d_Mo_take_12 : decode prog_8_method_31_code 12 = .ok (.ifCond .eq 10, 3) := by decide +kernel
theorem d_Mo_take_15 : decode prog_8_method_31_code 15 = .ok (.aload_n 0, 1) := by decide +kernel
theorem d_Mo_take_16 : decode prog_8_method_31_code 16 = .ok (.iload 5, 2) := by decide +kernel
theorem d_Mo_take_18 : decode prog_8_method_31_code 18 = .ok (.invokevirtual 84, 3) := by decide +kernel
theorem d_Mo_take_21 : decode prog_8_method_31_code 21 = .ok (.ireturn, 1) := by decide +kernel
theorem d_Mo_take_22 : decode prog_8_method_31_code 22 = .ok (.aload_n 0, 1) := by decide +kernel
theorem d_Mo_take_23 : decode prog_8_method_31_code 23 = .ok (.iload_n 3, 1) := by decide +kernel
theorem d_Mo_take_24 : decode prog_8_method_31_code 24 = .ok (.iconst 3, 1) := by decide +kernel
theorem d_Mo_take_25 : decode prog_8_method_31_code 25 = .ok (.invokevirtual 66, 3) := by decide +kernel
theorem d_Mo_take_28 : decode prog_8_method_31_code 28 = .ok (.ifCond .ne 14, 3) := by decide +kernel
theorem d_Mo_take_31 : decode prog_8_method_31_code 31 = .ok (.aload_n 0, 1) := by decide +kernel
theorem d_Mo_take_32 : decode prog_8_method_31_code 32 = .ok (.iload 4, 2) := by decide +kernel
theorem d_Mo_take_34 : decode prog_8_method_31_code 34 = .ok (.bipush 8, 2) := by decide +kernel
theorem d_Mo_take_36 : decode prog_8_method_31_code 36 = .ok (.invokevirtual 66, 3) := by decide +kernel
theorem d_Mo_take_39 : decode prog_8_method_31_code 39 = .ok (.ifCond .eq 9, 3) := by decide +kernel
theorem d_Mo_take_42 : decode prog_8_method_31_code 42 = .ok (.aload_n 0, 1) := by decide +kernel
theorem d_Mo_take_43 : decode prog_8_method_31_code 43 = .ok (.iconst 5, 1) := by decide +kernel
theorem d_Mo_take_44 : decode prog_8_method_31_code 44 = .ok (.invokevirtual 84, 3) := by decide +kernel
theorem d_Mo_take_47 : decode prog_8_method_31_code 47 = .ok (.ireturn, 1) := by decide +kernel
theorem d_Mo_take_48 : decode prog_8_method_31_code 48 = .ok (.aload_n 0, 1) := by decide +kernel
theorem d_Mo_take_49 : decode prog_8_method_31_code 49 = .ok (.getfield 33, 3) := by decide +kernel
theorem d_Mo_take_52 : decode prog_8_method_31_code 52 = .ok (.iload_n 1, 1) := by decide +kernel
theorem d_Mo_take_53 : decode prog_8_method_31_code 53 = .ok (.bipush 8, 2) := by decide +kernel
theorem d_Mo_take_55 : decode prog_8_method_31_code 55 = .ok (.imul, 1) := by decide +kernel
theorem d_Mo_take_56 : decode prog_8_method_31_code 56 = .ok (.iload_n 2, 1) := by decide +kernel
theorem d_Mo_take_57 : decode prog_8_method_31_code 57 = .ok (.iadd, 1) := by decide +kernel
theorem d_Mo_take_58 : decode prog_8_method_31_code 58 = .ok (.iaload, 1) := by decide +kernel
theorem d_Mo_take_59 : decode prog_8_method_31_code 59 = .ok (.istore 6, 2) := by decide +kernel
theorem d_Mo_take_61 : decode prog_8_method_31_code 61 = .ok (.aload_n 0, 1) := by decide +kernel
theorem d_Mo_take_62 : decode prog_8_method_31_code 62 = .ok (.getfield 36, 3) := by decide +kernel
theorem d_Mo_take_65 : decode prog_8_method_31_code 65 = .ok (.iload 6, 2) := by decide +kernel
theorem d_Mo_take_67 : decode prog_8_method_31_code 67 = .ok (.iaload, 1) := by decide +kernel
theorem d_Mo_take_68 : decode prog_8_method_31_code 68 = .ok (.iconst 3, 1) := by decide +kernel
theorem d_Mo_take_69 : decode prog_8_method_31_code 69 = .ok (.imul, 1) := by decide +kernel
theorem d_Mo_take_70 : decode prog_8_method_31_code 70 = .ok (.iload_n 3, 1) := by decide +kernel
theorem d_Mo_take_71 : decode prog_8_method_31_code 71 = .ok (.iadd, 1) := by decide +kernel
theorem d_Mo_take_72 : decode prog_8_method_31_code 72 = .ok (.istore 7, 2) := by decide +kernel
theorem d_Mo_take_74 : decode prog_8_method_31_code 74 = .ok (.aload_n 0, 1) := by decide +kernel
theorem d_Mo_take_75 : decode prog_8_method_31_code 75 = .ok (.getfield 26, 3) := by decide +kernel
theorem d_Mo_take_78 : decode prog_8_method_31_code 78 = .ok (.iload 7, 2) := by decide +kernel
theorem d_Mo_take_80 : decode prog_8_method_31_code 80 = .ok (.iaload, 1) := by decide +kernel
theorem d_Mo_take_81 : decode prog_8_method_31_code 81 = .ok (.iconst 2, 1) := by decide +kernel
theorem d_Mo_take_82 : decode prog_8_method_31_code 82 = .ok (.if_icmp .eq 10, 3) := by decide +kernel
theorem d_Mo_take_85 : decode prog_8_method_31_code 85 = .ok (.aload_n 0, 1) := by decide +kernel
theorem d_Mo_take_86 : decode prog_8_method_31_code 86 = .ok (.bipush 6, 2) := by decide +kernel
theorem d_Mo_take_88 : decode prog_8_method_31_code 88 = .ok (.invokevirtual 84, 3) := by decide +kernel
theorem d_Mo_take_91 : decode prog_8_method_31_code 91 = .ok (.ireturn, 1) := by decide +kernel
theorem d_Mo_take_92 : decode prog_8_method_31_code 92 = .ok (.aload_n 0, 1) := by decide +kernel
theorem d_Mo_take_93 : decode prog_8_method_31_code 93 = .ok (.getfield 33, 3) := by decide +kernel
theorem d_Mo_take_96 : decode prog_8_method_31_code 96 = .ok (.iload_n 1, 1) := by decide +kernel
theorem d_Mo_take_97 : decode prog_8_method_31_code 97 = .ok (.bipush 8, 2) := by decide +kernel
theorem d_Mo_take_99 : decode prog_8_method_31_code 99 = .ok (.imul, 1) := by decide +kernel
theorem d_Mo_take_100 : decode prog_8_method_31_code 100 = .ok (.iload 4, 2) := by decide +kernel
theorem d_Mo_take_102 : decode prog_8_method_31_code 102 = .ok (.iadd, 1) := by decide +kernel
theorem d_Mo_take_103 : decode prog_8_method_31_code 103 = .ok (.iaload, 1) := by decide +kernel
theorem d_Mo_take_104 : decode prog_8_method_31_code 104 = .ok (.ifCond .lt 7, 3) := by decide +kernel
theorem d_Mo_take_107 : decode prog_8_method_31_code 107 = .ok (.iconst 1, 1) := by decide +kernel
theorem d_Mo_take_108 : decode prog_8_method_31_code 108 = .ok (.goto 4, 3) := by decide +kernel
theorem d_Mo_take_111 : decode prog_8_method_31_code 111 = .ok (.iconst 0, 1) := by decide +kernel
theorem d_Mo_take_112 : decode prog_8_method_31_code 112 = .ok (.istore 8, 2) := by decide +kernel
theorem d_Mo_take_114 : decode prog_8_method_31_code 114 = .ok (.aload_n 0, 1) := by decide +kernel
theorem d_Mo_take_115 : decode prog_8_method_31_code 115 = .ok (.iload 6, 2) := by decide +kernel
theorem d_Mo_take_117 : decode prog_8_method_31_code 117 = .ok (.invokevirtual 115, 3) := by decide +kernel
theorem d_Mo_take_120 : decode prog_8_method_31_code 120 = .ok (.aload_n 0, 1) := by decide +kernel
theorem d_Mo_take_121 : decode prog_8_method_31_code 121 = .ok (.getfield 33, 3) := by decide +kernel
theorem d_Mo_take_124 : decode prog_8_method_31_code 124 = .ok (.iload_n 1, 1) := by decide +kernel
theorem d_Mo_take_125 : decode prog_8_method_31_code 125 = .ok (.bipush 8, 2) := by decide +kernel
theorem d_Mo_take_127 : decode prog_8_method_31_code 127 = .ok (.imul, 1) := by decide +kernel
theorem d_Mo_take_128 : decode prog_8_method_31_code 128 = .ok (.iload 4, 2) := by decide +kernel
theorem d_Mo_take_130 : decode prog_8_method_31_code 130 = .ok (.iadd, 1) := by decide +kernel
theorem d_Mo_take_131 : decode prog_8_method_31_code 131 = .ok (.aload_n 0, 1) := by decide +kernel
theorem d_Mo_take_132 : decode prog_8_method_31_code 132 = .ok (.getfield 30, 3) := by decide +kernel
theorem d_Mo_take_135 : decode prog_8_method_31_code 135 = .ok (.iload 7, 2) := by decide +kernel
theorem d_Mo_take_137 : decode prog_8_method_31_code 137 = .ok (.iaload, 1) := by decide +kernel
theorem d_Mo_take_138 : decode prog_8_method_31_code 138 = .ok (.iastore, 1) := by decide +kernel
theorem d_Mo_take_139 : decode prog_8_method_31_code 139 = .ok (.aload_n 0, 1) := by decide +kernel
theorem d_Mo_take_140 : decode prog_8_method_31_code 140 = .ok (.iload 8, 2) := by decide +kernel
theorem d_Mo_take_142 : decode prog_8_method_31_code 142 = .ok (.invokevirtual 87, 3) := by decide +kernel
theorem d_Mo_take_145 : decode prog_8_method_31_code 145 = .ok (.ireturn, 1) := by decide +kernel
theorem d_Mo_free_0 : decode prog_8_method_32_code 0 = .ok (.aload_n 0, 1) := by decide +kernel
theorem d_Mo_free_1 : decode prog_8_method_32_code 1 = .ok (.iload_n 1, 1) := by decide +kernel
theorem d_Mo_free_2 : decode prog_8_method_32_code 2 = .ok (.iload_n 2, 1) := by decide +kernel
theorem d_Mo_free_3 : decode prog_8_method_32_code 3 = .ok (.bipush 16, 2) := by decide +kernel
theorem d_Mo_free_5 : decode prog_8_method_32_code 5 = .ok (.invokevirtual 111, 3) := by decide +kernel
theorem d_Mo_free_8 : decode prog_8_method_32_code 8 = .ok (.istore_n 3, 1) := by decide +kernel
theorem d_Mo_free_9 : decode prog_8_method_32_code 9 = .ok (.iload_n 3, 1) := by decide +kernel
theorem d_Mo_free_10 : decode prog_8_method_32_code 10 = .ok (.ifCond .eq 9, 3) := by decide +kernel
theorem d_Mo_free_13 : decode prog_8_method_32_code 13 = .ok (.aload_n 0, 1) := by decide +kernel
theorem d_Mo_free_14 : decode prog_8_method_32_code 14 = .ok (.iload_n 3, 1) := by decide +kernel
theorem d_Mo_free_15 : decode prog_8_method_32_code 15 = .ok (.invokevirtual 84, 3) := by decide +kernel
theorem d_Mo_free_18 : decode prog_8_method_32_code 18 = .ok (.ireturn, 1) := by decide +kernel
theorem d_Mo_free_19 : decode prog_8_method_32_code 19 = .ok (.aload_n 0, 1) := by decide +kernel
theorem d_Mo_free_20 : decode prog_8_method_32_code 20 = .ok (.getfield 33, 3) := by decide +kernel
theorem d_Mo_free_23 : decode prog_8_method_32_code 23 = .ok (.iload_n 1, 1) := by decide +kernel
theorem d_Mo_free_24 : decode prog_8_method_32_code 24 = .ok (.bipush 8, 2) := by decide +kernel
theorem d_Mo_free_26 : decode prog_8_method_32_code 26 = .ok (.imul, 1) := by decide +kernel
theorem d_Mo_free_27 : decode prog_8_method_32_code 27 = .ok (.iload_n 2, 1) := by decide +kernel
theorem d_Mo_free_28 : decode prog_8_method_32_code 28 = .ok (.iadd, 1) := by decide +kernel
theorem d_Mo_free_29 : decode prog_8_method_32_code 29 = .ok (.iaload, 1) := by decide +kernel
theorem d_Mo_free_30 : decode prog_8_method_32_code 30 = .ok (.istore 4, 2) := by decide +kernel
theorem d_Mo_free_32 : decode prog_8_method_32_code 32 = .ok (.aload_n 0, 1) := by decide +kernel
theorem d_Mo_free_33 : decode prog_8_method_32_code 33 = .ok (.getfield 36, 3) := by decide +kernel
theorem d_Mo_free_36 : decode prog_8_method_32_code 36 = .ok (.iload 4, 2) := by decide +kernel
theorem d_Mo_free_38 : decode prog_8_method_32_code 38 = .ok (.iaload, 1) := by decide +kernel
theorem d_Mo_free_39 : decode prog_8_method_32_code 39 = .ok (.istore 5, 2) := by decide +kernel
theorem d_Mo_free_41 : decode prog_8_method_32_code 41 = .ok (.iconst 0, 1) := by decide +kernel
theorem d_Mo_free_42 : decode prog_8_method_32_code 42 = .ok (.istore 6, 2) := by decide +kernel
theorem d_Mo_free_44 : decode prog_8_method_32_code 44 = .ok (.aload_n 0, 1) := by decide +kernel
theorem d_Mo_free_45 : decode prog_8_method_32_code 45 = .ok (.iload 4, 2) := by decide +kernel
theorem d_Mo_free_47 : decode prog_8_method_32_code 47 = .ok (.invokevirtual 115, 3) := by decide +kernel
theorem d_Mo_free_50 : decode prog_8_method_32_code 50 = .ok (.aload_n 0, 1) := by decide +kernel
theorem d_Mo_free_51 : decode prog_8_method_32_code 51 = .ok (.getfield 23, 3) := by decide +kernel
theorem d_Mo_free_54 : decode prog_8_method_32_code 54 = .ok (.iload 5, 2) := by decide +kernel
theorem d_Mo_free_56 : decode prog_8_method_32_code 56 = .ok (.iconst 0, 1) := by decide +kernel
theorem d_Mo_free_57 : decode prog_8_method_32_code 57 = .ok (.bastore, 1) := by decide +kernel
theorem d_Mo_free_58 : decode prog_8_method_32_code 58 = .ok (.iconst 0, 1) := by decide +kernel
theorem d_Mo_free_59 : decode prog_8_method_32_code 59 = .ok (.istore 7, 2) := by decide +kernel
theorem d_Mo_free_61 : decode prog_8_method_32_code 61 = .ok (.iload 7, 2) := by decide +kernel
theorem d_Mo_free_63 : decode prog_8_method_32_code 63 = .ok (.aload_n 0, 1) := by decide +kernel
theorem d_Mo_free_64 : decode prog_8_method_32_code 64 = .ok (.getfield 13, 3) := by decide +kernel
theorem d_Mo_free_67 : decode prog_8_method_32_code 67 = .ok (.if_icmp .ge 29, 3) := by decide +kernel
theorem d_Mo_free_70 : decode prog_8_method_32_code 70 = .ok (.aload_n 0, 1) := by decide +kernel
theorem d_Mo_free_71 : decode prog_8_method_32_code 71 = .ok (.getfield 36, 3) := by decide +kernel
theorem d_Mo_free_74 : decode prog_8_method_32_code 74 = .ok (.iload 7, 2) := by decide +kernel
theorem d_Mo_free_76 : decode prog_8_method_32_code 76 = .ok (.iaload, 1) := by decide +kernel
theorem d_Mo_free_77 : decode prog_8_method_32_code 77 = .ok (.iload 5, 2) := by decide +kernel
theorem d_Mo_free_79 : decode prog_8_method_32_code 79 = .ok (.if_icmp .ne 11, 3) := by decide +kernel
theorem d_Mo_free_82 : decode prog_8_method_32_code 82 = .ok (.aload_n 0, 1) := by decide +kernel
theorem d_Mo_free_83 : decode prog_8_method_32_code 83 = .ok (.getfield 48, 3) := by decide +kernel
theorem d_Mo_free_86 : decode prog_8_method_32_code 86 = .ok (.iload 7, 2) := by decide +kernel
theorem d_Mo_free_88 : decode prog_8_method_32_code 88 = .ok (.iconst 1, 1) := by decide +kernel
theorem d_Mo_free_89 : decode prog_8_method_32_code 89 = .ok (.bastore, 1) := by decide +kernel
theorem d_Mo_free_90 : decode prog_8_method_32_code 90 = .ok (.iinc 7 1, 3) := by decide +kernel
theorem d_Mo_free_93 : decode prog_8_method_32_code 93 = .ok (.goto (-32), 3) := by decide +kernel
theorem d_Mo_free_96 : decode prog_8_method_32_code 96 = .ok (.aload_n 0, 1) := by decide +kernel
theorem d_Mo_free_97 : decode prog_8_method_32_code 97 = .ok (.iload 4, 2) := by decide +kernel
theorem d_Mo_free_99 : decode prog_8_method_32_code 99 = .ok (.invokevirtual 70, 3) := by decide +kernel
theorem d_Mo_free_102 : decode prog_8_method_32_code 102 = .ok (.bipush 36, 2) := by decide +kernel
theorem d_Mo_free_104 : decode prog_8_method_32_code 104 = .ok (.imul, 1) := by decide +kernel
theorem d_Mo_free_105 : decode prog_8_method_32_code 105 = .ok (.istore 7, 2) := by decide +kernel
theorem d_Mo_free_107 : decode prog_8_method_32_code 107 = .ok (.iload 7, 2) := by decide +kernel
theorem d_Mo_free_109 : decode prog_8_method_32_code 109 = .ok (.aload_n 0, 1) := by decide +kernel
theorem d_Mo_free_110 : decode prog_8_method_32_code 110 = .ok (.iload 4, 2) := by decide +kernel
theorem d_Mo_free_112 : decode prog_8_method_32_code 112 = .ok (.invokevirtual 70, 3) := by decide +kernel
theorem d_Mo_free_115 : decode prog_8_method_32_code 115 = .ok (.bipush 36, 2) := by decide +kernel
theorem d_Mo_free_117 : decode prog_8_method_32_code 117 = .ok (.imul, 1) := by decide +kernel
theorem d_Mo_free_118 : decode prog_8_method_32_code 118 = .ok (.bipush 36, 2) := by decide +kernel
theorem d_Mo_free_120 : decode prog_8_method_32_code 120 = .ok (.iadd, 1) := by decide +kernel
theorem d_Mo_free_121 : decode prog_8_method_32_code 121 = .ok (.if_icmp .ge 61, 3) := by decide +kernel
theorem d_Mo_free_124 : decode prog_8_method_32_code 124 = .ok (.aload_n 0, 1) := by decide +kernel
theorem d_Mo_free_125 : decode prog_8_method_32_code 125 = .ok (.getfield 23, 3) := by decide +kernel
theorem d_Mo_free_128 : decode prog_8_method_32_code 128 = .ok (.iload 7, 2) := by decide +kernel
theorem d_Mo_free_130 : decode prog_8_method_32_code 130 = .ok (.iconst 3, 1) := by decide +kernel
theorem d_Mo_free_131 : decode prog_8_method_32_code 131 = .ok (.idiv, 1) := by decide +kernel
theorem d_Mo_free_132 : decode prog_8_method_32_code 132 = .ok (.baload, 1) := by decide +kernel
theorem d_Mo_free_133 : decode prog_8_method_32_code 133 = .ok (.ifCond .eq 43, 3) := by decide +kernel
theorem d_Mo_free_136 : decode prog_8_method_32_code 136 = .ok (.aload_n 0, 1) := by decide +kernel
theorem d_Mo_free_137 : decode prog_8_method_32_code 137 = .ok (.getfield 26, 3) := by decide +kernel
theorem d_Mo_free_140 : decode prog_8_method_32_code 140 = .ok (.iload 7, 2) := by decide +kernel
theorem d_Mo_free_142 : decode prog_8_method_32_code 142 = .ok (.iaload, 1) := by decide +kernel
theorem d_Mo_free_143 : decode prog_8_method_32_code 143 = .ok (.iconst 1, 1) := by decide +kernel
theorem d_Mo_free_144 : decode prog_8_method_32_code 144 = .ok (.if_icmp .ne 32, 3) := by decide +kernel
theorem d_Mo_free_147 : decode prog_8_method_32_code 147 = .ok (.aload_n 0, 1) := by decide +kernel
theorem d_Mo_free_148 : decode prog_8_method_32_code 148 = .ok (.getfield 30, 3) := by decide +kernel
theorem d_Mo_free_151 : decode prog_8_method_32_code 151 = .ok (.iload 7, 2) := by decide +kernel
theorem d_Mo_free_153 : decode prog_8_method_32_code 153 = .ok (.iaload, 1) := by decide +kernel
theorem d_Mo_free_154 : decode prog_8_method_32_code 154 = .ok (.iload 5, 2) := by decide +kernel
theorem d_Mo_free_156 : decode prog_8_method_32_code 156 = .ok (.bipush 12, 2) := by decide +kernel
theorem d_Mo_free_158 : decode prog_8_method_32_code 158 = .ok (.irem, 1) := by decide +kernel
theorem d_Mo_free_159 : decode prog_8_method_32_code 159 = .ok (.if_icmp .eq 6, 3) := by decide +kernel
theorem d_Mo_free_162 : decode prog_8_method_32_code 162 = .ok (.goto 14, 3) := by decide +kernel
theorem d_Mo_free_165 : decode prog_8_method_32_code 165 = .ok (.aload_n 0, 1) := by decide +kernel
theorem d_Mo_free_166 : decode prog_8_method_32_code 166 = .ok (.iload 7, 2) := by decide +kernel
theorem d_Mo_free_168 : decode prog_8_method_32_code 168 = .ok (.iconst 0, 1) := by decide +kernel
theorem d_Mo_free_169 : decode prog_8_method_32_code 169 = .ok (.iconst 0, 1) := by decide +kernel
theorem d_Mo_free_170 : decode prog_8_method_32_code 170 = .ok (.invokevirtual 90, 3) := by decide +kernel
theorem d_Mo_free_173 : decode prog_8_method_32_code 173 = .ok (.iinc 6 1, 3) := by decide +kernel
theorem d_Mo_free_176 : decode prog_8_method_32_code 176 = .ok (.iinc 7 1, 3) := by decide +kernel
theorem d_Mo_free_179 : decode prog_8_method_32_code 179 = .ok (.goto (-72), 3) := by decide +kernel
theorem d_Mo_free_182 : decode prog_8_method_32_code 182 = .ok (.aload_n 0, 1) := by decide +kernel
theorem d_Mo_free_183 : decode prog_8_method_32_code 183 = .ok (.iload 6, 2) := by decide +kernel
theorem d_Mo_free_185 : decode prog_8_method_32_code 185 = .ok (.invokevirtual 87, 3) := by decide +kernel
theorem d_Mo_free_188 : decode prog_8_method_32_code 188 = .ok (.ireturn, 1) := by decide +kernel
theorem d_Mo_end_0 : decode prog_8_method_33_code 0 = .ok (.aload_n 0, 1) := by decide +kernel
theorem d_Mo_end_1 : decode prog_8_method_33_code 1 = .ok (.iload_n 1, 1) := by decide +kernel
theorem d_Mo_end_2 : decode prog_8_method_33_code 2 = .ok (.invokevirtual 78, 3) := by decide +kernel
theorem d_Mo_end_5 : decode prog_8_method_33_code 5 = .ok (.ifCond .eq 9, 3) := by decide +kernel
theorem d_Mo_end_8 : decode prog_8_method_33_code 8 = .ok (.aload_n 0, 1) := by decide +kernel
theorem d_Mo_end_9 : decode prog_8_method_33_code 9 = .ok (.iconst 1, 1) := by decide +kernel
theorem d_Mo_end_10 : decode prog_8_method_33_code 10 = .ok (.invokevirtual 84, 3) := by decide +kernel
theorem d_Mo_end_13 : decode prog_8_method_33_code 13 = .ok (.ireturn, 1) := by decide +kernel
theorem d_Mo_end_14 : decode prog_8_method_33_code 14 = .ok (.aload_n 0, 1) := by decide +kernel
theorem d_Mo_end_15 : decode prog_8_method_33_code 15 = .ok (.getfield 19, 3) := by decide +kernel
theorem d_Mo_end_18 : decode prog_8_method_33_code 18 = .ok (.iload_n 1, 1) := by decide +kernel
theorem d_Mo_end_19 : decode prog_8_method_33_code 19 = .ok (.baload, 1) := by decide +kernel
theorem d_Mo_end_20 : decode prog_8_method_33_code 20 = .ok (.ifCond .eq 9, 3) := by decide +kernel
theorem d_Mo_end_23 : decode prog_8_method_33_code 23 = .ok (.aload_n 0, 1) := by decide +kernel
theorem d_Mo_end_24 : decode prog_8_method_33_code 24 = .ok (.iconst 2, 1) := by decide +kernel
theorem d_Mo_end_25 : decode prog_8_method_33_code 25 = .ok (.invokevirtual 84, 3) := by decide +kernel
theorem d_Mo_end_28 : decode prog_8_method_33_code 28 = .ok (.ireturn, 1) := by decide +kernel
theorem d_Mo_end_29 : decode prog_8_method_33_code 29 = .ok (.aload_n 0, 1) := by decide +kernel
theorem d_Mo_end_30 : decode prog_8_method_33_code 30 = .ok (.invokevirtual 107, 3) := by decide +kernel
theorem d_Mo_end_33 : decode prog_8_method_33_code 33 = .ok (.istore_n 2, 1) := by decide +kernel
theorem d_Mo_end_34 : decode prog_8_method_33_code 34 = .ok (.aload_n 0, 1) := by decide +kernel
theorem d_Mo_end_35 : decode prog_8_method_33_code 35 = .ok (.getfield 19, 3) := by decide +kernel
theorem d_Mo_end_38 : decode prog_8_method_33_code 38 = .ok (.iload_n 1, 1) := by decide +kernel
theorem d_Mo_end_39 : decode prog_8_method_33_code 39 = .ok (.iconst 1, 1) := by decide +kernel
theorem d_Mo_end_40 : decode prog_8_method_33_code 40 = .ok (.bastore, 1) := by decide +kernel
theorem d_Mo_end_41 : decode prog_8_method_33_code 41 = .ok (.iconst 0, 1) := by decide +kernel
theorem d_Mo_end_42 : decode prog_8_method_33_code 42 = .ok (.istore_n 3, 1) := by decide +kernel
theorem d_Mo_end_43 : decode prog_8_method_33_code 43 = .ok (.iload_n 3, 1) := by decide +kernel
theorem d_Mo_end_44 : decode prog_8_method_33_code 44 = .ok (.bipush 12, 2) := by decide +kernel
theorem d_Mo_end_46 : decode prog_8_method_33_code 46 = .ok (.if_icmp .ge 21, 3) := by decide +kernel
theorem d_Mo_end_49 : decode prog_8_method_33_code 49 = .ok (.aload_n 0, 1) := by decide +kernel
theorem d_Mo_end_50 : decode prog_8_method_33_code 50 = .ok (.getfield 23, 3) := by decide +kernel
theorem d_Mo_end_53 : decode prog_8_method_33_code 53 = .ok (.iload_n 1, 1) := by decide +kernel
theorem d_Mo_end_54 : decode prog_8_method_33_code 54 = .ok (.bipush 12, 2) := by decide +kernel
theorem d_Mo_end_56 : decode prog_8_method_33_code 56 = .ok (.imul, 1) := by decide +kernel
theorem d_Mo_end_57 : decode prog_8_method_33_code 57 = .ok (.iload_n 3, 1) := by decide +kernel
theorem d_Mo_end_58 : decode prog_8_method_33_code 58 = .ok (.iadd, 1) := by decide +kernel
theorem d_Mo_end_59 : decode prog_8_method_33_code 59 = .ok (.iconst 0, 1) := by decide +kernel
theorem d_Mo_end_60 : decode prog_8_method_33_code 60 = .ok (.bastore, 1) := by decide +kernel
theorem d_Mo_end_61 : decode prog_8_method_33_code 61 = .ok (.iinc 3 1, 3) := by decide +kernel
theorem d_Mo_end_64 : decode prog_8_method_33_code 64 = .ok (.goto (-21), 3) := by decide +kernel
theorem d_Mo_end_67 : decode prog_8_method_33_code 67 = .ok (.iconst 0, 1) := by decide +kernel
theorem d_Mo_end_68 : decode prog_8_method_33_code 68 = .ok (.istore_n 3, 1) := by decide +kernel
theorem d_Mo_end_69 : decode prog_8_method_33_code 69 = .ok (.iload_n 3, 1) := by decide +kernel
theorem d_Mo_end_70 : decode prog_8_method_33_code 70 = .ok (.bipush 8, 2) := by decide +kernel
theorem d_Mo_end_72 : decode prog_8_method_33_code 72 = .ok (.if_icmp .ge 21, 3) := by decide +kernel
theorem d_Mo_end_75 : decode prog_8_method_33_code 75 = .ok (.aload_n 0, 1) := by decide +kernel
theorem d_Mo_end_76 : decode prog_8_method_33_code 76 = .ok (.getfield 33, 3) := by decide +kernel
theorem d_Mo_end_79 : decode prog_8_method_33_code 79 = .ok (.iload_n 1, 1) := by decide +kernel
theorem d_Mo_end_80 : decode prog_8_method_33_code 80 = .ok (.bipush 8, 2) := by decide +kernel
theorem d_Mo_end_82 : decode prog_8_method_33_code 82 = .ok (.imul, 1) := by decide +kernel
theorem d_Mo_end_83 : decode prog_8_method_33_code 83 = .ok (.iload_n 3, 1) := by decide +kernel
theorem d_Mo_end_84 : decode prog_8_method_33_code 84 = .ok (.iadd, 1) := by decide +kernel
theorem d_Mo_end_85 : decode prog_8_method_33_code 85 = .ok (.iconst (-1), 1) := by decide +kernel
theorem d_Mo_end_86 : decode prog_8_method_33_code 86 = .ok (.iastore, 1) := by decide +kernel
theorem d_Mo_end_87 : decode prog_8_method_33_code 87 = .ok (.iinc 3 1, 3) := by decide +kernel
theorem d_Mo_end_90 : decode prog_8_method_33_code 90 = .ok (.goto (-21), 3) := by decide +kernel
theorem d_Mo_end_93 : decode prog_8_method_33_code 93 = .ok (.aload_n 0, 1) := by decide +kernel
theorem d_Mo_end_94 : decode prog_8_method_33_code 94 = .ok (.iload_n 2, 1) := by decide +kernel
theorem d_Mo_end_95 : decode prog_8_method_33_code 95 = .ok (.aload_n 0, 1) := by decide +kernel
theorem d_Mo_end_96 : decode prog_8_method_33_code 96 = .ok (.invokevirtual 107, 3) := by decide +kernel
theorem d_Mo_end_99 : decode prog_8_method_33_code 99 = .ok (.isub, 1) := by decide +kernel
theorem d_Mo_end_100 : decode prog_8_method_33_code 100 = .ok (.invokevirtual 87, 3) := by decide +kernel
theorem d_Mo_end_103 : decode prog_8_method_33_code 103 = .ok (.ireturn, 1) := by decide +kernel
theorem d_Mo_holds_0 : decode prog_8_method_34_code 0 = .ok (.aload_n 0, 1) := by decide +kernel
theorem d_Mo_holds_1 : decode prog_8_method_34_code 1 = .ok (.iconst 0, 1) := by decide +kernel
theorem d_Mo_holds_2 : decode prog_8_method_34_code 2 = .ok (.putfield 16, 3) := by decide +kernel
theorem d_Mo_holds_5 : decode prog_8_method_34_code 5 = .ok (.aload_n 0, 1) := by decide +kernel
theorem d_Mo_holds_6 : decode prog_8_method_34_code 6 = .ok (.iload_n 1, 1) := by decide +kernel
theorem d_Mo_holds_7 : decode prog_8_method_34_code 7 = .ok (.invokevirtual 78, 3) := by decide +kernel
theorem d_Mo_holds_10 : decode prog_8_method_34_code 10 = .ok (.ifCond .ne 21, 3) := by decide +kernel
theorem d_Mo_holds_13 : decode prog_8_method_34_code 13 = .ok (.aload_n 0, 1) := by decide +kernel
theorem d_Mo_holds_14 : decode prog_8_method_34_code 14 = .ok (.iload_n 1, 1) := by decide +kernel
theorem d_Mo_holds_15 : decode prog_8_method_34_code 15 = .ok (.iload_n 2, 1) := by decide +kernel
theorem d_Mo_holds_16 : decode prog_8_method_34_code 16 = .ok (.invokevirtual 100, 3) := by decide +kernel
theorem d_Mo_holds_19 : decode prog_8_method_34_code 19 = .ok (.ifCond .ne 12, 3) := by decide +kernel
theorem d_Mo_holds_22 : decode prog_8_method_34_code 22 = .ok (.aload_n 0, 1) := by decide +kernel
theorem d_Mo_holds_23 : decode prog_8_method_34_code 23 = .ok (.iload_n 3, 1) := by decide +kernel
theorem d_Mo_holds_24 : decode prog_8_method_34_code 24 = .ok (.iconst 3, 1) := by decide +kernel
theorem d_Mo_holds_25 : decode prog_8_method_34_code 25 = .ok (.invokevirtual 66, 3) := by decide +kernel
theorem d_Mo_holds_28 : decode prog_8_method_34_code 28 = .ok (.ifCond .eq 5, 3) := by decide +kernel
theorem d_Mo_holds_31 : decode prog_8_method_34_code 31 = .ok (.iconst (-1), 1) := by decide +kernel
theorem d_Mo_holds_32 : decode prog_8_method_34_code 32 = .ok (.ireturn, 1) := by decide +kernel
theorem d_Mo_holds_33 : decode prog_8_method_34_code 33 = .ok (.iload_n 1, 1) := by decide +kernel
theorem d_Mo_holds_34 : decode prog_8_method_34_code 34 = .ok (.bipush 12, 2) := by decide +kernel
theorem d_Mo_holds_36 : decode prog_8_method_34_code 36 = .ok (.imul, 1) := by decide +kernel
theorem d_Mo_holds_37 : decode prog_8_method_34_code 37 = .ok (.iload_n 2, 1) := by decide +kernel
theorem d_Mo_holds_38 : decode prog_8_method_34_code 38 = .ok (.iadd, 1) := by decide +kernel
theorem d_Mo_holds_39 : decode prog_8_method_34_code 39 = .ok (.iconst 3, 1) := by decide +kernel
theorem d_Mo_holds_40 : decode prog_8_method_34_code 40 = .ok (.imul, 1) := by decide +kernel
theorem d_Mo_holds_41 : decode prog_8_method_34_code 41 = .ok (.iload_n 3, 1) := by decide +kernel
theorem d_Mo_holds_42 : decode prog_8_method_34_code 42 = .ok (.iadd, 1) := by decide +kernel
theorem d_Mo_holds_43 : decode prog_8_method_34_code 43 = .ok (.istore 4, 2) := by decide +kernel
theorem d_Mo_holds_45 : decode prog_8_method_34_code 45 = .ok (.aload_n 0, 1) := by decide +kernel
theorem d_Mo_holds_46 : decode prog_8_method_34_code 46 = .ok (.getfield 26, 3) := by decide +kernel
theorem d_Mo_holds_49 : decode prog_8_method_34_code 49 = .ok (.iload 4, 2) := by decide +kernel
theorem d_Mo_holds_51 : decode prog_8_method_34_code 51 = .ok (.iaload, 1) := by decide +kernel
theorem d_Mo_holds_52 : decode prog_8_method_34_code 52 = .ok (.iconst 2, 1) := by decide +kernel
theorem d_Mo_holds_53 : decode prog_8_method_34_code 53 = .ok (.if_icmp .ge 13, 3) := by decide +kernel
theorem d_Mo_holds_56 : decode prog_8_method_34_code 56 = .ok (.aload_n 0, 1) := by decide +kernel
theorem d_Mo_holds_57 : decode prog_8_method_34_code 57 = .ok (.getfield 26, 3) := by decide +kernel
theorem d_Mo_holds_60 : decode prog_8_method_34_code 60 = .ok (.iload 4, 2) := by decide +kernel
theorem d_Mo_holds_62 : decode prog_8_method_34_code 62 = .ok (.iaload, 1) := by decide +kernel
theorem d_Mo_holds_63 : decode prog_8_method_34_code 63 = .ok (.goto 22, 3) := by decide +kernel
theorem d_Mo_holds_66 : decode prog_8_method_34_code 66 = .ok (.aload_n 0, 1) := by decide +kernel
theorem d_Mo_holds_67 : decode prog_8_method_34_code 67 = .ok (.aload_n 0, 1) := by decide +kernel
theorem d_Mo_holds_68 : decode prog_8_method_34_code 68 = .ok (.getfield 30, 3) := by decide +kernel
theorem d_Mo_holds_71 : decode prog_8_method_34_code 71 = .ok (.iload 4, 2) := by decide +kernel
theorem d_Mo_holds_73 : decode prog_8_method_34_code 73 = .ok (.iaload, 1) := by decide +kernel
theorem d_Mo_holds_74 : decode prog_8_method_34_code 74 = .ok (.invokevirtual 74, 3) := by decide +kernel
theorem d_Mo_holds_77 : decode prog_8_method_34_code 77 = .ok (.ifCond .eq 7, 3) := by decide +kernel
theorem d_Mo_holds_80 : decode prog_8_method_34_code 80 = .ok (.iconst 3, 1) := by decide +kernel
theorem d_Mo_holds_81 : decode prog_8_method_34_code 81 = .ok (.goto 4, 3) := by decide +kernel
theorem d_Mo_holds_84 : decode prog_8_method_34_code 84 = .ok (.iconst 2, 1) := by decide +kernel
theorem d_Mo_holds_85 : decode prog_8_method_34_code 85 = .ok (.ireturn, 1) := by decide +kernel
theorem d_Mo_linked_0 : decode prog_8_method_35_code 0 = .ok (.aload_n 0, 1) := by decide +kernel
theorem d_Mo_linked_1 : decode prog_8_method_35_code 1 = .ok (.iconst 0, 1) := by decide +kernel
theorem d_Mo_linked_2 : decode prog_8_method_35_code 2 = .ok (.putfield 16, 3) := by decide +kernel
theorem d_Mo_linked_5 : decode prog_8_method_35_code 5 = .ok (.aload_n 0, 1) := by decide +kernel
theorem d_Mo_linked_6 : decode prog_8_method_35_code 6 = .ok (.iload_n 1, 1) := by decide +kernel
theorem d_Mo_linked_7 : decode prog_8_method_35_code 7 = .ok (.invokevirtual 78, 3) := by decide +kernel
theorem d_Mo_linked_10 : decode prog_8_method_35_code 10 = .ok (.ifCond .ne 21, 3) := by decide +kernel
theorem d_Mo_linked_13 : decode prog_8_method_35_code 13 = .ok (.aload_n 0, 1) := by decide +kernel
theorem d_Mo_linked_14 : decode prog_8_method_35_code 14 = .ok (.iload_n 1, 1) := by decide +kernel
theorem d_Mo_linked_15 : decode prog_8_method_35_code 15 = .ok (.iload_n 2, 1) := by decide +kernel
theorem d_Mo_linked_16 : decode prog_8_method_35_code 16 = .ok (.invokevirtual 100, 3) := by decide +kernel
theorem d_Mo_linked_19 : decode prog_8_method_35_code 19 = .ok (.ifCond .ne 12, 3) := by decide +kernel
theorem d_Mo_linked_22 : decode prog_8_method_35_code 22 = .ok (.aload_n 0, 1) := by decide +kernel
theorem d_Mo_linked_23 : decode prog_8_method_35_code 23 = .ok (.iload_n 3, 1) := by decide +kernel
theorem d_Mo_linked_24 : decode prog_8_method_35_code 24 = .ok (.iconst 3, 1) := by decide +kernel
theorem d_Mo_linked_25 : decode prog_8_method_35_code 25 = .ok (.invokevirtual 66, 3) := by decide +kernel
theorem d_Mo_linked_28 : decode prog_8_method_35_code 28 = .ok (.ifCond .eq 5, 3) := by decide +kernel
theorem d_Mo_linked_31 : decode prog_8_method_35_code 31 = .ok (.iconst (-1), 1) := by decide +kernel
theorem d_Mo_linked_32 : decode prog_8_method_35_code 32 = .ok (.ireturn, 1) := by decide +kernel
theorem d_Mo_linked_33 : decode prog_8_method_35_code 33 = .ok (.iload_n 1, 1) := by decide +kernel
theorem d_Mo_linked_34 : decode prog_8_method_35_code 34 = .ok (.bipush 12, 2) := by decide +kernel
theorem d_Mo_linked_36 : decode prog_8_method_35_code 36 = .ok (.imul, 1) := by decide +kernel
theorem d_Mo_linked_37 : decode prog_8_method_35_code 37 = .ok (.iload_n 2, 1) := by decide +kernel
theorem d_Mo_linked_38 : decode prog_8_method_35_code 38 = .ok (.iadd, 1) := by decide +kernel
theorem d_Mo_linked_39 : decode prog_8_method_35_code 39 = .ok (.iconst 3, 1) := by decide +kernel
theorem d_Mo_linked_40 : decode prog_8_method_35_code 40 = .ok (.imul, 1) := by decide +kernel
theorem d_Mo_linked_41 : decode prog_8_method_35_code 41 = .ok (.iload_n 3, 1) := by decide +kernel
theorem d_Mo_linked_42 : decode prog_8_method_35_code 42 = .ok (.iadd, 1) := by decide +kernel
theorem d_Mo_linked_43 : decode prog_8_method_35_code 43 = .ok (.istore 4, 2) := by decide +kernel
theorem d_Mo_linked_45 : decode prog_8_method_35_code 45 = .ok (.aload_n 0, 1) := by decide +kernel
theorem d_Mo_linked_46 : decode prog_8_method_35_code 46 = .ok (.getfield 26, 3) := by decide +kernel
theorem d_Mo_linked_49 : decode prog_8_method_35_code 49 = .ok (.iload 4, 2) := by decide +kernel
theorem d_Mo_linked_51 : decode prog_8_method_35_code 51 = .ok (.iaload, 1) := by decide +kernel
theorem d_Mo_linked_52 : decode prog_8_method_35_code 52 = .ok (.iconst 1, 1) := by decide +kernel
theorem d_Mo_linked_53 : decode prog_8_method_35_code 53 = .ok (.if_icmp .ne 13, 3) := by decide +kernel
theorem d_Mo_linked_56 : decode prog_8_method_35_code 56 = .ok (.aload_n 0, 1) := by decide +kernel
theorem d_Mo_linked_57 : decode prog_8_method_35_code 57 = .ok (.getfield 30, 3) := by decide +kernel
theorem d_Mo_linked_60 : decode prog_8_method_35_code 60 = .ok (.iload 4, 2) := by decide +kernel
theorem d_Mo_linked_62 : decode prog_8_method_35_code 62 = .ok (.iaload, 1) := by decide +kernel
theorem d_Mo_linked_63 : decode prog_8_method_35_code 63 = .ok (.goto 4, 3) := by decide +kernel
theorem d_Mo_linked_66 : decode prog_8_method_35_code 66 = .ok (.iconst (-1), 1) := by decide +kernel
theorem d_Mo_linked_67 : decode prog_8_method_35_code 67 = .ok (.ireturn, 1) := by decide +kernel
theorem d_Mo_slot_0 : decode prog_8_method_36_code 0 = .ok (.aload_n 0, 1) := by decide +kernel
theorem d_Mo_slot_1 : decode prog_8_method_36_code 1 = .ok (.iconst 0, 1) := by decide +kernel
theorem d_Mo_slot_2 : decode prog_8_method_36_code 2 = .ok (.putfield 16, 3) := by decide +kernel
theorem d_Mo_slot_5 : decode prog_8_method_36_code 5 = .ok (.aload_n 0, 1) := by decide +kernel
theorem d_Mo_slot_6 : decode prog_8_method_36_code 6 = .ok (.iload_n 1, 1) := by decide +kernel
theorem d_Mo_slot_7 : decode prog_8_method_36_code 7 = .ok (.invokevirtual 78, 3) := by decide +kernel
theorem d_Mo_slot_10 : decode prog_8_method_36_code 10 = .ok (.ifCond .ne 22, 3) := by decide +kernel
theorem d_Mo_slot_13 : decode prog_8_method_36_code 13 = .ok (.aload_n 0, 1) := by decide +kernel
theorem d_Mo_slot_14 : decode prog_8_method_36_code 14 = .ok (.getfield 19, 3) := by decide +kernel
theorem d_Mo_slot_17 : decode prog_8_method_36_code 17 = .ok (.iload_n 1, 1) := by decide +kernel
theorem d_Mo_slot_18 : decode prog_8_method_36_code 18 = .ok (.baload, 1) := by decide +kernel
theorem d_Mo_slot_19 : decode prog_8_method_36_code 19 = .ok (.ifCond .ne 13, 3) := by decide +kernel
theorem d_Mo_slot_22 : decode prog_8_method_36_code 22 = .ok (.aload_n 0, 1) := by decide +kernel
theorem d_Mo_slot_23 : decode prog_8_method_36_code 23 = .ok (.iload_n 2, 1) := by decide +kernel
theorem d_Mo_slot_24 : decode prog_8_method_36_code 24 = .ok (.bipush 8, 2) := by decide +kernel
theorem d_Mo_slot_26 : decode prog_8_method_36_code 26 = .ok (.invokevirtual 66, 3) := by decide +kernel
theorem d_Mo_slot_29 : decode prog_8_method_36_code 29 = .ok (.ifCond .eq 5, 3) := by decide +kernel
theorem d_Mo_slot_32 : decode prog_8_method_36_code 32 = .ok (.iconst (-1), 1) := by decide +kernel
theorem d_Mo_slot_33 : decode prog_8_method_36_code 33 = .ok (.ireturn, 1) := by decide +kernel
theorem d_Mo_slot_34 : decode prog_8_method_36_code 34 = .ok (.aload_n 0, 1) := by decide +kernel
theorem d_Mo_slot_35 : decode prog_8_method_36_code 35 = .ok (.getfield 33, 3) := by decide +kernel
theorem d_Mo_slot_38 : decode prog_8_method_36_code 38 = .ok (.iload_n 1, 1) := by decide +kernel
theorem d_Mo_slot_39 : decode prog_8_method_36_code 39 = .ok (.bipush 8, 2) := by decide +kernel
theorem d_Mo_slot_41 : decode prog_8_method_36_code 41 = .ok (.imul, 1) := by decide +kernel
theorem d_Mo_slot_42 : decode prog_8_method_36_code 42 = .ok (.iload_n 2, 1) := by decide +kernel
theorem d_Mo_slot_43 : decode prog_8_method_36_code 43 = .ok (.iadd, 1) := by decide +kernel
theorem d_Mo_slot_44 : decode prog_8_method_36_code 44 = .ok (.iaload, 1) := by decide +kernel
theorem d_Mo_slot_45 : decode prog_8_method_36_code 45 = .ok (.istore_n 3, 1) := by decide +kernel
theorem d_Mo_slot_46 : decode prog_8_method_36_code 46 = .ok (.iload_n 3, 1) := by decide +kernel
theorem d_Mo_slot_47 : decode prog_8_method_36_code 47 = .ok (.ifCond .ge 7, 3) := by decide +kernel
theorem d_Mo_slot_50 : decode prog_8_method_36_code 50 = .ok (.iconst 0, 1) := by decide +kernel
theorem d_Mo_slot_51 : decode prog_8_method_36_code 51 = .ok (.goto 16, 3) := by decide +kernel
theorem d_Mo_slot_54 : decode prog_8_method_36_code 54 = .ok (.aload_n 0, 1) := by decide +kernel
theorem d_Mo_slot_55 : decode prog_8_method_36_code 55 = .ok (.iload_n 3, 1) := by decide +kernel
theorem d_Mo_slot_56 : decode prog_8_method_36_code 56 = .ok (.invokevirtual 74, 3) := by decide +kernel
theorem d_Mo_slot_59 : decode prog_8_method_36_code 59 = .ok (.ifCond .eq 7, 3) := by decide +kernel
theorem d_Mo_slot_62 : decode prog_8_method_36_code 62 = .ok (.iconst 2, 1) := by decide +kernel
theorem d_Mo_slot_63 : decode prog_8_method_36_code 63 = .ok (.goto 4, 3) := by decide +kernel
theorem d_Mo_slot_66 : decode prog_8_method_36_code 66 = .ok (.iconst 1, 1) := by decide +kernel
theorem d_Mo_slot_67 : decode prog_8_method_36_code 67 = .ok (.ireturn, 1) := by decide +kernel
theorem d_Mo_count_0 : decode prog_8_method_37_code 0 = .ok (.aload_n 0, 1) := by decide +kernel
theorem d_Mo_count_1 : decode prog_8_method_37_code 1 = .ok (.iconst 0, 1) := by decide +kernel
theorem d_Mo_count_2 : decode prog_8_method_37_code 2 = .ok (.putfield 16, 3) := by decide +kernel
theorem d_Mo_count_5 : decode prog_8_method_37_code 5 = .ok (.iconst 0, 1) := by decide +kernel
theorem d_Mo_count_6 : decode prog_8_method_37_code 6 = .ok (.istore_n 2, 1) := by decide +kernel
theorem d_Mo_count_7 : decode prog_8_method_37_code 7 = .ok (.iconst 0, 1) := by decide +kernel
theorem d_Mo_count_8 : decode prog_8_method_37_code 8 = .ok (.istore_n 3, 1) := by decide +kernel
theorem d_Mo_count_9 : decode prog_8_method_37_code 9 = .ok (.iload_n 3, 1) := by decide +kernel
theorem d_Mo_count_10 : decode prog_8_method_37_code 10 = .ok (.aload_n 0, 1) := by decide +kernel
theorem d_Mo_count_11 : decode prog_8_method_37_code 11 = .ok (.getfield 7, 3) := by decide +kernel
theorem d_Mo_count_14 : decode prog_8_method_37_code 14 = .ok (.if_icmp .ge 21, 3) := by decide +kernel
theorem d_Mo_count_17 : decode prog_8_method_37_code 17 = .ok (.aload_n 0, 1) := by decide +kernel
theorem d_Mo_count_18 : decode prog_8_method_37_code 18 = .ok (.getfield 19, 3) := by decide +kernel
theorem d_Mo_count_21 : decode prog_8_method_37_code 21 = .ok (.iload_n 3, 1) := by decide +kernel
theorem d_Mo_count_22 : decode prog_8_method_37_code 22 = .ok (.baload, 1) := by decide +kernel
theorem d_Mo_count_23 : decode prog_8_method_37_code 23 = .ok (.ifCond .ne 6, 3) := by decide +kernel
theorem d_Mo_count_26 : decode prog_8_method_37_code 26 = .ok (.iinc 2 1, 3) := by decide +kernel
theorem d_Mo_count_29 : decode prog_8_method_37_code 29 = .ok (.iinc 3 1, 3) := by decide +kernel
theorem d_Mo_count_32 : decode prog_8_method_37_code 32 = .ok (.goto (-23), 3) := by decide +kernel
theorem d_Mo_count_35 : decode prog_8_method_37_code 35 = .ok (.iload_n 1, 1) := by decide +kernel
theorem d_Mo_count_36 : decode prog_8_method_37_code 36 = .ok (.ifCond .ne 8, 3) := by decide +kernel
theorem d_Mo_count_39 : decode prog_8_method_37_code 39 = .ok (.aload_n 0, 1) := by decide +kernel
theorem d_Mo_count_40 : decode prog_8_method_37_code 40 = .ok (.getfield 7, 3) := by decide +kernel
theorem d_Mo_count_43 : decode prog_8_method_37_code 43 = .ok (.ireturn, 1) := by decide +kernel
theorem d_Mo_count_44 : decode prog_8_method_37_code 44 = .ok (.iload_n 1, 1) := by decide +kernel
theorem d_Mo_count_45 : decode prog_8_method_37_code 45 = .ok (.iconst 1, 1) := by decide +kernel
theorem d_Mo_count_46 : decode prog_8_method_37_code 46 = .ok (.if_icmp .ne 5, 3) := by decide +kernel
theorem d_Mo_count_49 : decode prog_8_method_37_code 49 = .ok (.iload_n 2, 1) := by decide +kernel
theorem d_Mo_count_50 : decode prog_8_method_37_code 50 = .ok (.ireturn, 1) := by decide +kernel
theorem d_Mo_count_51 : decode prog_8_method_37_code 51 = .ok (.iload_n 1, 1) := by decide +kernel
theorem d_Mo_count_52 : decode prog_8_method_37_code 52 = .ok (.iconst 2, 1) := by decide +kernel
theorem d_Mo_count_53 : decode prog_8_method_37_code 53 = .ok (.if_icmp .ne 8, 3) := by decide +kernel
theorem d_Mo_count_56 : decode prog_8_method_37_code 56 = .ok (.aload_n 0, 1) := by decide +kernel
theorem d_Mo_count_57 : decode prog_8_method_37_code 57 = .ok (.getfield 13, 3) := by decide +kernel
theorem d_Mo_count_60 : decode prog_8_method_37_code 60 = .ok (.ireturn, 1) := by decide +kernel
theorem d_Mo_count_61 : decode prog_8_method_37_code 61 = .ok (.iload_n 1, 1) := by decide +kernel
theorem d_Mo_count_62 : decode prog_8_method_37_code 62 = .ok (.iconst 3, 1) := by decide +kernel
theorem d_Mo_count_63 : decode prog_8_method_37_code 63 = .ok (.if_icmp .ne 8, 3) := by decide +kernel
theorem d_Mo_count_66 : decode prog_8_method_37_code 66 = .ok (.aload_n 0, 1) := by decide +kernel
theorem d_Mo_count_67 : decode prog_8_method_37_code 67 = .ok (.invokevirtual 107, 3) := by decide +kernel
theorem d_Mo_count_70 : decode prog_8_method_37_code 70 = .ok (.ireturn, 1) := by decide +kernel
theorem d_Mo_count_71 : decode prog_8_method_37_code 71 = .ok (.iload_n 1, 1) := by decide +kernel
theorem d_Mo_count_72 : decode prog_8_method_37_code 72 = .ok (.iconst 3, 1) := by decide +kernel
theorem d_Mo_count_73 : decode prog_8_method_37_code 73 = .ok (.if_icmp .le 33, 3) := by decide +kernel
theorem d_Mo_count_76 : decode prog_8_method_37_code 76 = .ok (.iload_n 1, 1) := by decide +kernel
theorem d_Mo_count_77 : decode prog_8_method_37_code 77 = .ok (.bipush 10, 2) := by decide +kernel
theorem d_Mo_count_79 : decode prog_8_method_37_code 79 = .ok (.if_icmp .ge 27, 3) := by decide +kernel
theorem d_Mo_count_82 : decode prog_8_method_37_code 82 = .ok (.iload_n 1, 1) := by decide +kernel
theorem d_Mo_count_83 : decode prog_8_method_37_code 83 = .ok (.iconst 4, 1) := by decide +kernel
theorem d_Mo_count_84 : decode prog_8_method_37_code 84 = .ok (.isub, 1) := by decide +kernel
theorem d_Mo_count_85 : decode prog_8_method_37_code 85 = .ok (.aload_n 0, 1) := by decide +kernel
theorem d_Mo_count_86 : decode prog_8_method_37_code 86 = .ok (.getfield 7, 3) := by decide +kernel
theorem d_Mo_count_89 : decode prog_8_method_37_code 89 = .ok (.if_icmp .ge 13, 3) := by decide +kernel
theorem d_Mo_count_92 : decode prog_8_method_37_code 92 = .ok (.aload_n 0, 1) := by decide +kernel
theorem d_Mo_count_93 : decode prog_8_method_37_code 93 = .ok (.iload_n 1, 1) := by decide +kernel
theorem d_Mo_count_94 : decode prog_8_method_37_code 94 = .ok (.iconst 4, 1) := by decide +kernel
theorem d_Mo_count_95 : decode prog_8_method_37_code 95 = .ok (.isub, 1) := by decide +kernel
theorem d_Mo_count_96 : decode prog_8_method_37_code 96 = .ok (.invokevirtual 94, 3) := by decide +kernel
theorem d_Mo_count_99 : decode prog_8_method_37_code 99 = .ok (.goto 8, 3) := by decide +kernel
theorem d_Mo_count_102 : decode prog_8_method_37_code 102 = .ok (.iconst 0, 1) := by decide +kernel
theorem d_Mo_count_103 : decode prog_8_method_37_code 103 = .ok (.goto 4, 3) := by decide +kernel
theorem d_Mo_count_106 : decode prog_8_method_37_code 106 = .ok (.iconst (-1), 1) := by decide +kernel
theorem d_Mo_count_107 : decode prog_8_method_37_code 107 = .ok (.ireturn, 1) := by decide +kernel
