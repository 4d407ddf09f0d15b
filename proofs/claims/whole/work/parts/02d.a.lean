theorem d_Cd_init_0 : decode prog_1_method_1_code 0 = .ok (.aload_n 0, 1) := by decide +kernel
theorem d_Cd_init_1 : decode prog_1_method_1_code 1 = .ok (.invokespecial 1, 3) := by decide +kernel
theorem d_Cd_init_4 : decode prog_1_method_1_code 4 = .ok (.aload_n 0, 1) := by decide +kernel
theorem d_Cd_init_5 : decode prog_1_method_1_code 5 = .ok (.bipush 6, 2) := by decide +kernel
theorem d_Cd_init_7 : decode prog_1_method_1_code 7 = .ok (.anewarray 9, 3) := by decide +kernel
theorem d_Cd_init_10 : decode prog_1_method_1_code 10 = .ok (.putfield 11, 3) := by decide +kernel
theorem d_Cd_init_13 : decode prog_1_method_1_code 13 = .ok (.aload_n 0, 1) := by decide +kernel
theorem d_Cd_init_14 : decode prog_1_method_1_code 14 = .ok (.bipush 40, 2) := by decide +kernel
theorem d_Cd_init_16 : decode prog_1_method_1_code 16 = .ok (.anewarray 15, 3) := by decide +kernel
theorem d_Cd_init_19 : decode prog_1_method_1_code 19 = .ok (.putfield 17, 3) := by decide +kernel
theorem d_Cd_init_22 : decode prog_1_method_1_code 22 = .ok (.aload_n 0, 1) := by decide +kernel
theorem d_Cd_init_23 : decode prog_1_method_1_code 23 = .ok (.new 21, 3) := by decide +kernel
theorem d_Cd_init_26 : decode prog_1_method_1_code 26 = .ok (.dup, 1) := by decide +kernel
theorem d_Cd_init_27 : decode prog_1_method_1_code 27 = .ok (.invokespecial 23, 3) := by decide +kernel
theorem d_Cd_init_30 : decode prog_1_method_1_code 30 = .ok (.putfield 24, 3) := by decide +kernel
theorem d_Cd_init_33 : decode prog_1_method_1_code 33 = .ok (.return_, 1) := by decide +kernel
theorem d_Cd_domain_0 : decode prog_1_method_2_code 0 = .ok (.aload_n 0, 1) := by decide +kernel
theorem d_Cd_domain_1 : decode prog_1_method_2_code 1 = .ok (.getfield 28, 3) := by decide +kernel
theorem d_Cd_domain_4 : decode prog_1_method_2_code 4 = .ok (.bipush 6, 2) := by decide +kernel
theorem d_Cd_domain_6 : decode prog_1_method_2_code 6 = .ok (.if_icmp .lt 13, 3) := by decide +kernel
theorem d_Cd_domain_9 : decode prog_1_method_2_code 9 = .ok (.new 32, 3) := by decide +kernel
theorem d_Cd_domain_12 : decode prog_1_method_2_code 12 = .ok (.dup, 1) := by decide +kernel
theorem d_Cd_domain_13 : decode prog_1_method_2_code 13 = .ok (.ldc 34, 2) := by decide +kernel
theorem d_Cd_domain_15 : decode prog_1_method_2_code 15 = .ok (.invokespecial 36, 3) := by decide +kernel
theorem d_Cd_domain_18 : decode prog_1_method_2_code 18 = .ok (.athrow, 1) := by decide +kernel
theorem d_Cd_domain_19 : decode prog_1_method_2_code 19 = .ok (.aload_n 0, 1) := by decide +kernel
theorem d_Cd_domain_20 : decode prog_1_method_2_code 20 = .ok (.getfield 11, 3) := by decide +kernel
theorem d_Cd_domain_23 : decode prog_1_method_2_code 23 = .ok (.aload_n 0, 1) := by decide +kernel
theorem d_Cd_domain_24 : decode prog_1_method_2_code 24 = .ok (.getfield 28, 3) := by decide +kernel
theorem d_Cd_domain_27 : decode prog_1_method_2_code 27 = .ok (.new 9, 3) := by decide +kernel
theorem d_Cd_domain_30 : decode prog_1_method_2_code 30 = .ok (.dup, 1) := by decide +kernel
theorem d_Cd_domain_31 : decode prog_1_method_2_code 31 = .ok (.invokespecial 39, 3) := by decide +kernel
theorem d_Cd_domain_34 : decode prog_1_method_2_code 34 = .ok (.aastore, 1) := by decide +kernel
theorem d_Cd_domain_35 : decode prog_1_method_2_code 35 = .ok (.aload_n 0, 1) := by decide +kernel
theorem d_Cd_domain_36 : decode prog_1_method_2_code 36 = .ok (.dup, 1) := by decide +kernel
theorem d_Cd_domain_37 : decode prog_1_method_2_code 37 = .ok (.getfield 28, 3) := by decide +kernel
theorem d_Cd_domain_40 : decode prog_1_method_2_code 40 = .ok (.iconst 1, 1) := by decide +kernel
theorem d_Cd_domain_41 : decode prog_1_method_2_code 41 = .ok (.iadd, 1) := by decide +kernel
theorem d_Cd_domain_42 : decode prog_1_method_2_code 42 = .ok (.putfield 28, 3) := by decide +kernel
theorem d_Cd_domain_45 : decode prog_1_method_2_code 45 = .ok (.aload_n 0, 1) := by decide +kernel
theorem d_Cd_domain_46 : decode prog_1_method_2_code 46 = .ok (.getfield 28, 3) := by decide +kernel
theorem d_Cd_domain_49 : decode prog_1_method_2_code 49 = .ok (.iconst 1, 1) := by decide +kernel
theorem d_Cd_domain_50 : decode prog_1_method_2_code 50 = .ok (.isub, 1) := by decide +kernel
theorem d_Cd_domain_51 : decode prog_1_method_2_code 51 = .ok (.ireturn, 1) := by decide +kernel
theorem d_Cd_object_0 : decode prog_1_method_3_code 0 = .ok (.aload_n 0, 1) := by decide +kernel
theorem d_Cd_object_1 : decode prog_1_method_3_code 1 = .ok (.iload_n 1, 1) := by decide +kernel
theorem d_Cd_object_2 : decode prog_1_method_3_code 2 = .ok (.invokevirtual 40, 3) := by decide +kernel
theorem d_Cd_object_5 : decode prog_1_method_3_code 5 = .ok (.astore_n 2, 1) := by decide +kernel
theorem d_Cd_object_6 : decode prog_1_method_3_code 6 = .ok (.aload_n 2, 1) := by decide +kernel
theorem d_Cd_object_7 : decode prog_1_method_3_code 7 = .ok (.invokevirtual 44, 3) := by decide +kernel
theorem d_Cd_object_10 : decode prog_1_method_3_code 10 = .ok (.bipush 12, 2) := by decide +kernel
theorem d_Cd_object_12 : decode prog_1_method_3_code 12 = .ok (.if_icmp .lt 13, 3) := by decide +kernel
theorem d_Cd_object_15 : decode prog_1_method_3_code 15 = .ok (.new 48, 3) := by decide +kernel
theorem d_Cd_object_18 : decode prog_1_method_3_code 18 = .ok (.dup, 1) := by decide +kernel
theorem d_Cd_object_19 : decode prog_1_method_3_code 19 = .ok (.ldc 50, 2) := by decide +kernel
theorem d_Cd_object_21 : decode prog_1_method_3_code 21 = .ok (.invokespecial 52, 3) := by decide +kernel
theorem d_Cd_object_24 : decode prog_1_method_3_code 24 = .ok (.athrow, 1) := by decide +kernel
theorem d_Cd_object_25 : decode prog_1_method_3_code 25 = .ok (.aload_n 2, 1) := by decide +kernel
theorem d_Cd_object_26 : decode prog_1_method_3_code 26 = .ok (.invokevirtual 53, 3) := by decide +kernel
theorem d_Cd_object_29 : decode prog_1_method_3_code 29 = .ok (.ireturn, 1) := by decide +kernel
theorem d_Cd_set_0 : decode prog_1_method_4_code 0 = .ok (.aload_n 0, 1) := by decide +kernel
theorem d_Cd_set_1 : decode prog_1_method_4_code 1 = .ok (.iload_n 1, 1) := by decide +kernel
theorem d_Cd_set_2 : decode prog_1_method_4_code 2 = .ok (.invokevirtual 40, 3) := by decide +kernel
theorem d_Cd_set_5 : decode prog_1_method_4_code 5 = .ok (.iload_n 2, 1) := by decide +kernel
theorem d_Cd_set_6 : decode prog_1_method_4_code 6 = .ok (.iload_n 3, 1) := by decide +kernel
theorem d_Cd_set_7 : decode prog_1_method_4_code 7 = .ok (.invokestatic 56, 3) := by decide +kernel
theorem d_Cd_set_10 : decode prog_1_method_4_code 10 = .ok (.astore 5, 2) := by decide +kernel
theorem d_Cd_set_12 : decode prog_1_method_4_code 12 = .ok (.aload 5, 2) := by decide +kernel
theorem d_Cd_set_14 : decode prog_1_method_4_code 14 = .ok (.getfield 60, 3) := by decide +kernel
theorem d_Cd_set_17 : decode prog_1_method_4_code 17 = .ok (.istore 6, 2) := by decide +kernel
theorem d_Cd_set_19 : decode prog_1_method_4_code 19 = .ok (.aload 5, 2) := by decide +kernel
theorem d_Cd_set_21 : decode prog_1_method_4_code 21 = .ok (.iload 4, 2) := by decide +kernel
theorem d_Cd_set_23 : decode prog_1_method_4_code 23 = .ok (.invokevirtual 65, 3) := by decide +kernel
theorem d_Cd_set_26 : decode prog_1_method_4_code 26 = .ok (.iload 6, 2) := by decide +kernel
theorem d_Cd_set_28 : decode prog_1_method_4_code 28 = .ok (.ireturn, 1) := by decide +kernel
theorem d_Cd_link_0 : decode prog_1_method_5_code 0 = .ok (.aload_n 0, 1) := by decide +kernel
theorem d_Cd_link_1 : decode prog_1_method_5_code 1 = .ok (.iload_n 1, 1) := by decide +kernel
theorem d_Cd_link_2 : decode prog_1_method_5_code 2 = .ok (.invokevirtual 40, 3) := by decide +kernel
theorem d_Cd_link_5 : decode prog_1_method_5_code 5 = .ok (.astore 5, 2) := by decide +kernel
theorem d_Cd_link_7 : decode prog_1_method_5_code 7 = .ok (.aload 5, 2) := by decide +kernel
theorem d_Cd_link_9 : decode prog_1_method_5_code 9 = .ok (.iload_n 2, 1) := by decide +kernel
theorem d_Cd_link_10 : decode prog_1_method_5_code 10 = .ok (.iload_n 3, 1) := by decide +kernel
theorem d_Cd_link_11 : decode prog_1_method_5_code 11 = .ok (.invokestatic 56, 3) := by decide +kernel
theorem d_Cd_link_14 : decode prog_1_method_5_code 14 = .ok (.astore 6, 2) := by decide +kernel
theorem d_Cd_link_16 : decode prog_1_method_5_code 16 = .ok (.aload 5, 2) := by decide +kernel
theorem d_Cd_link_18 : decode prog_1_method_5_code 18 = .ok (.iload 4, 2) := by decide +kernel
theorem d_Cd_link_20 : decode prog_1_method_5_code 20 = .ok (.invokevirtual 69, 3) := by decide +kernel
theorem d_Cd_link_23 : decode prog_1_method_5_code 23 = .ok (.ifCond .ne 13, 3) := by decide +kernel
theorem d_Cd_link_26 : decode prog_1_method_5_code 26 = .ok (.new 73, 3) := by decide +kernel
theorem d_Cd_link_29 : decode prog_1_method_5_code 29 = .ok (.dup, 1) := by decide +kernel
theorem d_Cd_link_30 : decode prog_1_method_5_code 30 = .ok (.ldc 75, 2) := by decide +kernel
theorem d_Cd_link_32 : decode prog_1_method_5_code 32 = .ok (.invokespecial 77, 3) := by decide +kernel
theorem d_Cd_link_35 : decode prog_1_method_5_code 35 = .ok (.athrow, 1) := by decide +kernel
theorem d_Cd_link_36 : decode prog_1_method_5_code 36 = .ok (.aload 6, 2) := by decide +kernel
theorem d_Cd_link_38 : decode prog_1_method_5_code 38 = .ok (.iload 4, 2) := by decide +kernel
theorem d_Cd_link_40 : decode prog_1_method_5_code 40 = .ok (.invokevirtual 78, 3) := by decide +kernel
theorem d_Cd_link_43 : decode prog_1_method_5_code 43 = .ok (.iconst 0, 1) := by decide +kernel
theorem d_Cd_link_44 : decode prog_1_method_5_code 44 = .ok (.ireturn, 1) := by decide +kernel
theorem d_Cd_hold_0 : decode prog_1_method_6_code 0 = .ok (.aload_n 0, 1) := by decide +kernel
theorem d_Cd_hold_1 : decode prog_1_method_6_code 1 = .ok (.iload_n 1, 1) := by decide +kernel
theorem d_Cd_hold_2 : decode prog_1_method_6_code 2 = .ok (.invokevirtual 40, 3) := by decide +kernel
theorem d_Cd_hold_5 : decode prog_1_method_6_code 5 = .ok (.astore 5, 2) := by decide +kernel
theorem d_Cd_hold_7 : decode prog_1_method_6_code 7 = .ok (.aload 5, 2) := by decide +kernel
theorem d_Cd_hold_9 : decode prog_1_method_6_code 9 = .ok (.iload_n 2, 1) := by decide +kernel
theorem d_Cd_hold_10 : decode prog_1_method_6_code 10 = .ok (.iload_n 3, 1) := by decide +kernel
theorem d_Cd_hold_11 : decode prog_1_method_6_code 11 = .ok (.invokestatic 56, 3) := by decide +kernel
theorem d_Cd_hold_14 : decode prog_1_method_6_code 14 = .ok (.astore 6, 2) := by decide +kernel
theorem d_Cd_hold_16 : decode prog_1_method_6_code 16 = .ok (.iload 4, 2) := by decide +kernel
theorem d_Cd_hold_18 : decode prog_1_method_6_code 18 = .ok (.invokestatic 81, 3) := by decide +kernel
theorem d_Cd_hold_21 : decode prog_1_method_6_code 21 = .ok (.ifCond .ne 13, 3) := by decide +kernel
theorem d_Cd_hold_24 : decode prog_1_method_6_code 24 = .ok (.new 84, 3) := by decide +kernel
theorem d_Cd_hold_27 : decode prog_1_method_6_code 27 = .ok (.dup, 1) := by decide +kernel
theorem d_Cd_hold_28 : decode prog_1_method_6_code 28 = .ok (.ldc 86, 2) := by decide +kernel
theorem d_Cd_hold_30 : decode prog_1_method_6_code 30 = .ok (.invokespecial 88, 3) := by decide +kernel
theorem d_Cd_hold_33 : decode prog_1_method_6_code 33 = .ok (.athrow, 1) := by decide +kernel
theorem d_Cd_hold_34 : decode prog_1_method_6_code 34 = .ok (.aload 6, 2) := by decide +kernel
theorem d_Cd_hold_36 : decode prog_1_method_6_code 36 = .ok (.aload 5, 2) := by decide +kernel
theorem d_Cd_hold_38 : decode prog_1_method_6_code 38 = .ok (.iload 4, 2) := by decide +kernel
theorem d_Cd_hold_40 : decode prog_1_method_6_code 40 = .ok (.invokestatic 89, 3) := by decide +kernel
theorem d_Cd_hold_43 : decode prog_1_method_6_code 43 = .ok (.invokevirtual 93, 3) := by decide +kernel
theorem d_Cd_hold_46 : decode prog_1_method_6_code 46 = .ok (.iconst 0, 1) := by decide +kernel
theorem d_Cd_hold_47 : decode prog_1_method_6_code 47 = .ok (.ireturn, 1) := by decide +kernel
theorem d_Cd_export_0 : decode prog_1_method_7_code 0 = .ok (.aload_n 0, 1) := by decide +kernel
theorem d_Cd_export_1 : decode prog_1_method_7_code 1 = .ok (.iload_n 1, 1) := by decide +kernel
theorem d_Cd_export_2 : decode prog_1_method_7_code 2 = .ok (.iload_n 3, 1) := by decide +kernel
theorem d_Cd_export_3 : decode prog_1_method_7_code 3 = .ok (.invokevirtual 97, 3) := by decide +kernel
theorem d_Cd_export_6 : decode prog_1_method_7_code 6 = .ok (.iload 4, 2) := by decide +kernel
theorem d_Cd_export_8 : decode prog_1_method_7_code 8 = .ok (.iload 5, 2) := by decide +kernel
theorem d_Cd_export_10 : decode prog_1_method_7_code 10 = .ok (.invokestatic 101, 3) := by decide +kernel
theorem d_Cd_export_13 : decode prog_1_method_7_code 13 = .ok (.aload_n 0, 1) := by decide +kernel
theorem d_Cd_export_14 : decode prog_1_method_7_code 14 = .ok (.iload_n 1, 1) := by decide +kernel
theorem d_Cd_export_15 : decode prog_1_method_7_code 15 = .ok (.invokevirtual 40, 3) := by decide +kernel
theorem d_Cd_export_18 : decode prog_1_method_7_code 18 = .ok (.astore 6, 2) := by decide +kernel
theorem d_Cd_export_20 : decode prog_1_method_7_code 20 = .ok (.aload 6, 2) := by decide +kernel
theorem d_Cd_export_22 : decode prog_1_method_7_code 22 = .ok (.iload_n 2, 1) := by decide +kernel
theorem d_Cd_export_23 : decode prog_1_method_7_code 23 = .ok (.invokevirtual 69, 3) := by decide +kernel
theorem d_Cd_export_26 : decode prog_1_method_7_code 26 = .ok (.ifCond .ne 13, 3) := by decide +kernel
theorem d_Cd_export_29 : decode prog_1_method_7_code 29 = .ok (.new 73, 3) := by decide +kernel
theorem d_Cd_export_32 : decode prog_1_method_7_code 32 = .ok (.dup, 1) := by decide +kernel
theorem d_Cd_export_33 : decode prog_1_method_7_code 33 = .ok (.ldc 104, 2) := by decide +kernel
theorem d_Cd_export_35 : decode prog_1_method_7_code 35 = .ok (.invokespecial 77, 3) := by decide +kernel
theorem d_Cd_export_38 : decode prog_1_method_7_code 38 = .ok (.athrow, 1) := by decide +kernel
theorem d_Cd_export_39 : decode prog_1_method_7_code 39 = .ok (.aload_n 0, 1) := by decide +kernel
theorem d_Cd_export_40 : decode prog_1_method_7_code 40 = .ok (.invokevirtual 106, 3) := by decide +kernel
theorem d_Cd_export_43 : decode prog_1_method_7_code 43 = .ok (.aload_n 0, 1) := by decide +kernel
theorem d_Cd_export_44 : decode prog_1_method_7_code 44 = .ok (.new 15, 3) := by decide +kernel
theorem d_Cd_export_47 : decode prog_1_method_7_code 47 = .ok (.dup, 1) := by decide +kernel
theorem d_Cd_export_48 : decode prog_1_method_7_code 48 = .ok (.aload 6, 2) := by decide +kernel
theorem d_Cd_export_50 : decode prog_1_method_7_code 50 = .ok (.iload_n 2, 1) := by decide +kernel
theorem d_Cd_export_51 : decode prog_1_method_7_code 51 = .ok (.aconst_null, 1) := by decide +kernel
theorem d_Cd_export_52 : decode prog_1_method_7_code 52 = .ok (.iload 4, 2) := by decide +kernel
theorem d_Cd_export_54 : decode prog_1_method_7_code 54 = .ok (.iload 5, 2) := by decide +kernel
theorem d_Cd_export_56 : decode prog_1_method_7_code 56 = .ok (.invokespecial 109, 3) := by decide +kernel
theorem d_Cd_export_59 : decode prog_1_method_7_code 59 = .ok (.aload 6, 2) := by decide +kernel
theorem d_Cd_export_61 : decode prog_1_method_7_code 61 = .ok (.iload_n 3, 1) := by decide +kernel
theorem d_Cd_export_62 : decode prog_1_method_7_code 62 = .ok (.invokevirtual 112, 3) := by decide +kernel
theorem d_Cd_export_65 : decode prog_1_method_7_code 65 = .ok (.ireturn, 1) := by decide +kernel
theorem d_Cd_narrow_0 : decode prog_1_method_8_code 0 = .ok (.aload_n 0, 1) := by decide +kernel
theorem d_Cd_narrow_1 : decode prog_1_method_8_code 1 = .ok (.iload_n 1, 1) := by decide +kernel
theorem d_Cd_narrow_2 : decode prog_1_method_8_code 2 = .ok (.iload_n 2, 1) := by decide +kernel
theorem d_Cd_narrow_3 : decode prog_1_method_8_code 3 = .ok (.invokevirtual 97, 3) := by decide +kernel
theorem d_Cd_narrow_6 : decode prog_1_method_8_code 6 = .ok (.iload_n 3, 1) := by decide +kernel
theorem d_Cd_narrow_7 : decode prog_1_method_8_code 7 = .ok (.iload 4, 2) := by decide +kernel
theorem d_Cd_narrow_9 : decode prog_1_method_8_code 9 = .ok (.invokestatic 101, 3) := by decide +kernel
theorem d_Cd_narrow_12 : decode prog_1_method_8_code 12 = .ok (.aload_n 0, 1) := by decide +kernel
theorem d_Cd_narrow_13 : decode prog_1_method_8_code 13 = .ok (.iload_n 1, 1) := by decide +kernel
theorem d_Cd_narrow_14 : decode prog_1_method_8_code 14 = .ok (.invokevirtual 40, 3) := by decide +kernel
theorem d_Cd_narrow_17 : decode prog_1_method_8_code 17 = .ok (.astore 5, 2) := by decide +kernel
theorem d_Cd_narrow_19 : decode prog_1_method_8_code 19 = .ok (.aload 5, 2) := by decide +kernel
theorem d_Cd_narrow_21 : decode prog_1_method_8_code 21 = .ok (.iload_n 2, 1) := by decide +kernel
theorem d_Cd_narrow_22 : decode prog_1_method_8_code 22 = .ok (.invokestatic 89, 3) := by decide +kernel
theorem d_Cd_narrow_25 : decode prog_1_method_8_code 25 = .ok (.astore 6, 2) := by decide +kernel
theorem d_Cd_narrow_27 : decode prog_1_method_8_code 27 = .ok (.aload 6, 2) := by decide +kernel
theorem d_Cd_narrow_29 : decode prog_1_method_8_code 29 = .ok (.getfield 116, 3) := by decide +kernel
theorem d_Cd_narrow_32 : decode prog_1_method_8_code 32 = .ok (.ifCond .eq 13, 3) := by decide +kernel
theorem d_Cd_narrow_35 : decode prog_1_method_8_code 35 = .ok (.new 32, 3) := by decide +kernel
theorem d_Cd_narrow_38 : decode prog_1_method_8_code 38 = .ok (.dup, 1) := by decide +kernel
theorem d_Cd_narrow_39 : decode prog_1_method_8_code 39 = .ok (.ldc 120, 2) := by decide +kernel
theorem d_Cd_narrow_41 : decode prog_1_method_8_code 41 = .ok (.invokespecial 36, 3) := by decide +kernel
theorem d_Cd_narrow_44 : decode prog_1_method_8_code 44 = .ok (.athrow, 1) := by decide +kernel
theorem d_Cd_narrow_45 : decode prog_1_method_8_code 45 = .ok (.aload 6, 2) := by decide +kernel
theorem d_Cd_narrow_47 : decode prog_1_method_8_code 47 = .ok (.iload_n 3, 1) := by decide +kernel
theorem d_Cd_narrow_48 : decode prog_1_method_8_code 48 = .ok (.invokevirtual 122, 3) := by decide +kernel
theorem d_Cd_narrow_51 : decode prog_1_method_8_code 51 = .ok (.ifCond .ne 13, 3) := by decide +kernel
theorem d_Cd_narrow_54 : decode prog_1_method_8_code 54 = .ok (.new 125, 3) := by decide +kernel
theorem d_Cd_narrow_57 : decode prog_1_method_8_code 57 = .ok (.dup, 1) := by decide +kernel
theorem d_Cd_narrow_58 : decode prog_1_method_8_code 58 = .ok (.ldc 127, 2) := by decide +kernel
theorem d_Cd_narrow_60 : decode prog_1_method_8_code 60 = .ok (.invokespecial 129, 3) := by decide +kernel
theorem d_Cd_narrow_63 : decode prog_1_method_8_code 63 = .ok (.athrow, 1) := by decide +kernel
theorem d_Cd_narrow_64 : decode prog_1_method_8_code 64 = .ok (.aload_n 0, 1) := by decide +kernel
theorem d_Cd_narrow_65 : decode prog_1_method_8_code 65 = .ok (.invokevirtual 106, 3) := by decide +kernel
theorem d_Cd_narrow_68 : decode prog_1_method_8_code 68 = .ok (.aload_n 0, 1) := by decide +kernel
theorem d_Cd_narrow_69 : decode prog_1_method_8_code 69 = .ok (.new 15, 3) := by decide +kernel
theorem d_Cd_narrow_72 : decode prog_1_method_8_code 72 = .ok (.dup, 1) := by decide +kernel
theorem d_Cd_narrow_73 : decode prog_1_method_8_code 73 = .ok (.aload 6, 2) := by decide +kernel
theorem d_Cd_narrow_75 : decode prog_1_method_8_code 75 = .ok (.getfield 130, 3) := by decide +kernel
theorem d_Cd_narrow_78 : decode prog_1_method_8_code 78 = .ok (.aload 6, 2) := by decide +kernel
theorem d_Cd_narrow_80 : decode prog_1_method_8_code 80 = .ok (.getfield 134, 3) := by decide +kernel
theorem d_Cd_narrow_83 : decode prog_1_method_8_code 83 = .ok (.aload 6, 2) := by decide +kernel
theorem d_Cd_narrow_85 : decode prog_1_method_8_code 85 = .ok (.iload_n 3, 1) := by decide +kernel
theorem d_Cd_narrow_86 : decode prog_1_method_8_code 86 = .ok (.iload 4, 2) := by decide +kernel
theorem d_Cd_narrow_88 : decode prog_1_method_8_code 88 = .ok (.invokespecial 109, 3) := by decide +kernel
theorem d_Cd_narrow_91 : decode prog_1_method_8_code 91 = .ok (.aload 5, 2) := by decide +kernel
theorem d_Cd_narrow_93 : decode prog_1_method_8_code 93 = .ok (.iload_n 2, 1) := by decide +kernel
theorem d_Cd_narrow_94 : decode prog_1_method_8_code 94 = .ok (.invokevirtual 112, 3) := by decide +kernel
theorem d_Cd_narrow_97 : decode prog_1_method_8_code 97 = .ok (.ireturn, 1) := by decide +kernel
theorem d_Cd_give_0 : decode prog_1_method_9_code 0 = .ok (.aload_n 0, 1) := by decide +kernel
theorem d_Cd_give_1 : decode prog_1_method_9_code 1 = .ok (.iload_n 1, 1) := by decide +kernel
theorem d_Cd_give_2 : decode prog_1_method_9_code 2 = .ok (.iload_n 2, 1) := by decide +kernel
theorem d_Cd_give_3 : decode prog_1_method_9_code 3 = .ok (.invokevirtual 97, 3) := by decide +kernel
theorem d_Cd_give_6 : decode prog_1_method_9_code 6 = .ok (.aload_n 0, 1) := by decide +kernel
theorem d_Cd_give_7 : decode prog_1_method_9_code 7 = .ok (.iload_n 3, 1) := by decide +kernel
theorem d_Cd_give_8 : decode prog_1_method_9_code 8 = .ok (.iload 4, 2) := by decide +kernel
theorem d_Cd_give_10 : decode prog_1_method_9_code 10 = .ok (.invokevirtual 97, 3) := by decide +kernel
theorem d_Cd_give_13 : decode prog_1_method_9_code 13 = .ok (.aload_n 0, 1) := by decide +kernel
theorem d_Cd_give_14 : decode prog_1_method_9_code 14 = .ok (.iload_n 1, 1) := by decide +kernel
theorem d_Cd_give_15 : decode prog_1_method_9_code 15 = .ok (.invokevirtual 40, 3) := by decide +kernel
theorem d_Cd_give_18 : decode prog_1_method_9_code 18 = .ok (.astore 5, 2) := by decide +kernel
theorem d_Cd_give_20 : decode prog_1_method_9_code 20 = .ok (.aload_n 0, 1) := by decide +kernel
theorem d_Cd_give_21 : decode prog_1_method_9_code 21 = .ok (.iload_n 3, 1) := by decide +kernel
theorem d_Cd_give_22 : decode prog_1_method_9_code 22 = .ok (.invokevirtual 40, 3) := by decide +kernel
theorem d_Cd_give_25 : decode prog_1_method_9_code 25 = .ok (.astore 6, 2) := by decide +kernel
theorem d_Cd_give_27 : decode prog_1_method_9_code 27 = .ok (.aload 6, 2) := by decide +kernel
theorem d_Cd_give_29 : decode prog_1_method_9_code 29 = .ok (.iload 4, 2) := by decide +kernel
theorem d_Cd_give_31 : decode prog_1_method_9_code 31 = .ok (.aload 5, 2) := by decide +kernel
theorem d_Cd_give_33 : decode prog_1_method_9_code 33 = .ok (.iload_n 2, 1) := by decide +kernel
theorem d_Cd_give_34 : decode prog_1_method_9_code 34 = .ok (.invokestatic 89, 3) := by decide +kernel
theorem d_Cd_give_37 : decode prog_1_method_9_code 37 = .ok (.invokevirtual 137, 3) := by decide +kernel
theorem d_Cd_give_40 : decode prog_1_method_9_code 40 = .ok (.ireturn, 1) := by decide +kernel
theorem d_Cd_revoke_0 : decode prog_1_method_10_code 0 = .ok (.aload_n 0, 1) := by decide +kernel
theorem d_Cd_revoke_1 : decode prog_1_method_10_code 1 = .ok (.iload_n 1, 1) := by decide +kernel
theorem d_Cd_revoke_2 : decode prog_1_method_10_code 2 = .ok (.iload_n 2, 1) := by decide +kernel
theorem d_Cd_revoke_3 : decode prog_1_method_10_code 3 = .ok (.invokevirtual 97, 3) := by decide +kernel
theorem d_Cd_revoke_6 : decode prog_1_method_10_code 6 = .ok (.aload_n 0, 1) := by decide +kernel
theorem d_Cd_revoke_7 : decode prog_1_method_10_code 7 = .ok (.iload_n 1, 1) := by decide +kernel
theorem d_Cd_revoke_8 : decode prog_1_method_10_code 8 = .ok (.invokevirtual 40, 3) := by decide +kernel
theorem d_Cd_revoke_11 : decode prog_1_method_10_code 11 = .ok (.astore_n 3, 1) := by decide +kernel
theorem d_Cd_revoke_12 : decode prog_1_method_10_code 12 = .ok (.aload_n 3, 1) := by decide +kernel
theorem d_Cd_revoke_13 : decode prog_1_method_10_code 13 = .ok (.iload_n 2, 1) := by decide +kernel
theorem d_Cd_revoke_14 : decode prog_1_method_10_code 14 = .ok (.invokestatic 89, 3) := by decide +kernel
theorem d_Cd_revoke_17 : decode prog_1_method_10_code 17 = .ok (.astore 4, 2) := by decide +kernel
theorem d_Cd_revoke_19 : decode prog_1_method_10_code 19 = .ok (.aload 4, 2) := by decide +kernel
theorem d_Cd_revoke_21 : decode prog_1_method_10_code 21 = .ok (.getfield 130, 3) := by decide +kernel
theorem d_Cd_revoke_24 : decode prog_1_method_10_code 24 = .ok (.aload_n 3, 1) := by decide +kernel
theorem d_Cd_revoke_25 : decode prog_1_method_10_code 25 = .ok (.if_acmp .eq 13, 3) := by decide +kernel
theorem d_Cd_revoke_28 : decode prog_1_method_10_code 28 = .ok (.new 125, 3) := by decide +kernel
theorem d_Cd_revoke_31 : decode prog_1_method_10_code 31 = .ok (.dup, 1) := by decide +kernel
theorem d_Cd_revoke_32 : decode prog_1_method_10_code 32 = .ok (.ldc 141, 2) := by decide +kernel
theorem d_Cd_revoke_34 : decode prog_1_method_10_code 34 = .ok (.invokespecial 129, 3) := by decide +kernel
theorem d_Cd_revoke_37 : decode prog_1_method_10_code 37 = .ok (.athrow, 1) := by decide +kernel
theorem d_Cd_revoke_38 : decode prog_1_method_10_code 38 = .ok (.aload 4, 2) := by decide +kernel
theorem d_Cd_revoke_40 : decode prog_1_method_10_code 40 = .ok (.iconst 1, 1) := by decide +kernel
theorem d_Cd_revoke_41 : decode prog_1_method_10_code 41 = .ok (.putfield 143, 3) := by decide +kernel
theorem d_Cd_revoke_44 : decode prog_1_method_10_code 44 = .ok (.aload_n 0, 1) := by decide +kernel
theorem d_Cd_revoke_45 : decode prog_1_method_10_code 45 = .ok (.invokevirtual 146, 3) := by decide +kernel
theorem d_Cd_revoke_48 : decode prog_1_method_10_code 48 = .ok (.ireturn, 1) := by decide +kernel
theorem d_Cd_read_0 : decode prog_1_method_11_code 0 = .ok (.aload_n 0, 1) := by decide +kernel
theorem d_Cd_read_1 : decode prog_1_method_11_code 1 = .ok (.iload_n 1, 1) := by decide +kernel
theorem d_Cd_read_2 : decode prog_1_method_11_code 2 = .ok (.iload_n 2, 1) := by decide +kernel
theorem d_Cd_read_3 : decode prog_1_method_11_code 3 = .ok (.iconst 1, 1) := by decide +kernel
theorem d_Cd_read_4 : decode prog_1_method_11_code 4 = .ok (.invokevirtual 149, 3) := by decide +kernel
theorem d_Cd_read_7 : decode prog_1_method_11_code 7 = .ok (.astore 4, 2) := by decide +kernel
theorem d_Cd_read_9 : decode prog_1_method_11_code 9 = .ok (.aload 4, 2) := by decide +kernel
theorem d_Cd_read_11 : decode prog_1_method_11_code 11 = .ok (.iload_n 3, 1) := by decide +kernel
theorem d_Cd_read_12 : decode prog_1_method_11_code 12 = .ok (.invokestatic 153, 3) := by decide +kernel
theorem d_Cd_read_15 : decode prog_1_method_11_code 15 = .ok (.astore 5, 2) := by decide +kernel
theorem d_Cd_read_17 : decode prog_1_method_11_code 17 = .ok (.aload 5, 2) := by decide +kernel
theorem d_Cd_read_19 : decode prog_1_method_11_code 19 = .ok (.invokevirtual 157, 3) := by decide +kernel
theorem d_Cd_read_22 : decode prog_1_method_11_code 22 = .ok (.ifCond .ne 13, 3) := by decide +kernel
theorem d_Cd_read_25 : decode prog_1_method_11_code 25 = .ok (.new 48, 3) := by decide +kernel
theorem d_Cd_read_28 : decode prog_1_method_11_code 28 = .ok (.dup, 1) := by decide +kernel
theorem d_Cd_read_29 : decode prog_1_method_11_code 29 = .ok (.ldc 161, 2) := by decide +kernel
theorem d_Cd_read_31 : decode prog_1_method_11_code 31 = .ok (.invokespecial 52, 3) := by decide +kernel
theorem d_Cd_read_34 : decode prog_1_method_11_code 34 = .ok (.athrow, 1) := by decide +kernel
theorem d_Cd_read_35 : decode prog_1_method_11_code 35 = .ok (.aload 4, 2) := by decide +kernel
theorem d_Cd_read_37 : decode prog_1_method_11_code 37 = .ok (.invokevirtual 163, 3) := by decide +kernel
theorem d_Cd_read_40 : decode prog_1_method_11_code 40 = .ok (.aload 5, 2) := by decide +kernel
theorem d_Cd_read_42 : decode prog_1_method_11_code 42 = .ok (.getfield 60, 3) := by decide +kernel
theorem d_Cd_read_45 : decode prog_1_method_11_code 45 = .ok (.ireturn, 1) := by decide +kernel
theorem d_Cd_write_0 : decode prog_1_method_12_code 0 = .ok (.aload_n 0, 1) := by decide +kernel
theorem d_Cd_write_1 : decode prog_1_method_12_code 1 = .ok (.iload_n 1, 1) := by decide +kernel
theorem d_Cd_write_2 : decode prog_1_method_12_code 2 = .ok (.iload_n 2, 1) := by decide +kernel
theorem d_Cd_write_3 : decode prog_1_method_12_code 3 = .ok (.iconst 2, 1) := by decide +kernel
theorem d_Cd_write_4 : decode prog_1_method_12_code 4 = .ok (.invokevirtual 149, 3) := by decide +kernel
theorem d_Cd_write_7 : decode prog_1_method_12_code 7 = .ok (.astore 5, 2) := by decide +kernel
theorem d_Cd_write_9 : decode prog_1_method_12_code 9 = .ok (.aload 5, 2) := by decide +kernel
theorem d_Cd_write_11 : decode prog_1_method_12_code 11 = .ok (.iload_n 3, 1) := by decide +kernel
theorem d_Cd_write_12 : decode prog_1_method_12_code 12 = .ok (.invokestatic 153, 3) := by decide +kernel
theorem d_Cd_write_15 : decode prog_1_method_12_code 15 = .ok (.iload 4, 2) := by decide +kernel
theorem d_Cd_write_17 : decode prog_1_method_12_code 17 = .ok (.invokevirtual 65, 3) := by decide +kernel
theorem d_Cd_write_20 : decode prog_1_method_12_code 20 = .ok (.aload 5, 2) := by decide +kernel
theorem d_Cd_write_22 : decode prog_1_method_12_code 22 = .ok (.invokevirtual 163, 3) := by decide +kernel
theorem d_Cd_write_25 : decode prog_1_method_12_code 25 = .ok (.aload 5, 2) := by decide +kernel
theorem d_Cd_write_27 : decode prog_1_method_12_code 27 = .ok (.getfield 166, 3) := by decide +kernel
theorem d_Cd_write_30 : decode prog_1_method_12_code 30 = .ok (.ireturn, 1) := by decide +kernel
theorem d_Cd_pass_0 : decode prog_1_method_13_code 0 = .ok (.aload_n 0, 1) := by decide +kernel
theorem d_Cd_pass_1 : decode prog_1_method_13_code 1 = .ok (.iload_n 1, 1) := by decide +kernel
theorem d_Cd_pass_2 : decode prog_1_method_13_code 2 = .ok (.iload_n 2, 1) := by decide +kernel
theorem d_Cd_pass_3 : decode prog_1_method_13_code 3 = .ok (.iconst 4, 1) := by decide +kernel
theorem d_Cd_pass_4 : decode prog_1_method_13_code 4 = .ok (.invokevirtual 149, 3) := by decide +kernel
theorem d_Cd_pass_7 : decode prog_1_method_13_code 7 = .ok (.astore 5, 2) := by decide +kernel
theorem d_Cd_pass_9 : decode prog_1_method_13_code 9 = .ok (.aload 5, 2) := by decide +kernel
theorem d_Cd_pass_11 : decode prog_1_method_13_code 11 = .ok (.iload_n 3, 1) := by decide +kernel
theorem d_Cd_pass_12 : decode prog_1_method_13_code 12 = .ok (.invokestatic 153, 3) := by decide +kernel
theorem d_Cd_pass_15 : decode prog_1_method_13_code 15 = .ok (.astore 6, 2) := by decide +kernel
theorem d_Cd_pass_17 : decode prog_1_method_13_code 17 = .ok (.aload_n 0, 1) := by decide +kernel
theorem d_Cd_pass_18 : decode prog_1_method_13_code 18 = .ok (.iload_n 1, 1) := by decide +kernel
theorem d_Cd_pass_19 : decode prog_1_method_13_code 19 = .ok (.invokevirtual 40, 3) := by decide +kernel
theorem d_Cd_pass_22 : decode prog_1_method_13_code 22 = .ok (.astore 7, 2) := by decide +kernel
theorem d_Cd_pass_24 : decode prog_1_method_13_code 24 = .ok (.aload 7, 2) := by decide +kernel
theorem d_Cd_pass_26 : decode prog_1_method_13_code 26 = .ok (.iload 4, 2) := by decide +kernel
theorem d_Cd_pass_28 : decode prog_1_method_13_code 28 = .ok (.invokevirtual 69, 3) := by decide +kernel
theorem d_Cd_pass_31 : decode prog_1_method_13_code 31 = .ok (.ifCond .ne 13, 3) := by decide +kernel
theorem d_Cd_pass_34 : decode prog_1_method_13_code 34 = .ok (.new 73, 3) := by decide +kernel
theorem d_Cd_pass_37 : decode prog_1_method_13_code 37 = .ok (.dup, 1) := by decide +kernel
theorem d_Cd_pass_38 : decode prog_1_method_13_code 38 = .ok (.ldc 169, 2) := by decide +kernel
theorem d_Cd_pass_40 : decode prog_1_method_13_code 40 = .ok (.invokespecial 77, 3) := by decide +kernel
theorem d_Cd_pass_43 : decode prog_1_method_13_code 43 = .ok (.athrow, 1) := by decide +kernel
theorem d_Cd_pass_44 : decode prog_1_method_13_code 44 = .ok (.aload_n 0, 1) := by decide +kernel
theorem d_Cd_pass_45 : decode prog_1_method_13_code 45 = .ok (.getfield 24, 3) := by decide +kernel
theorem d_Cd_pass_48 : decode prog_1_method_13_code 48 = .ok (.aload 7, 2) := by decide +kernel
theorem d_Cd_pass_50 : decode prog_1_method_13_code 50 = .ok (.iload 4, 2) := by decide +kernel
theorem d_Cd_pass_52 : decode prog_1_method_13_code 52 = .ok (.invokevirtual 171, 3) := by decide +kernel
theorem d_Cd_pass_55 : decode prog_1_method_13_code 55 = .ok (.aload 5, 2) := by decide +kernel
theorem d_Cd_pass_57 : decode prog_1_method_13_code 57 = .ok (.getfield 130, 3) := by decide +kernel
theorem d_Cd_pass_60 : decode prog_1_method_13_code 60 = .ok (.invokevirtual 44, 3) := by decide +kernel
theorem d_Cd_pass_63 : decode prog_1_method_13_code 63 = .ok (.aload_n 0, 1) := by decide +kernel
theorem d_Cd_pass_64 : decode prog_1_method_13_code 64 = .ok (.getfield 24, 3) := by decide +kernel
theorem d_Cd_pass_67 : decode prog_1_method_13_code 67 = .ok (.getfield 175, 3) := by decide +kernel
theorem d_Cd_pass_70 : decode prog_1_method_13_code 70 = .ok (.iadd, 1) := by decide +kernel
theorem d_Cd_pass_71 : decode prog_1_method_13_code 71 = .ok (.bipush 12, 2) := by decide +kernel
theorem d_Cd_pass_73 : decode prog_1_method_13_code 73 = .ok (.if_icmp .le 13, 3) := by decide +kernel
theorem d_Cd_pass_76 : decode prog_1_method_13_code 76 = .ok (.new 48, 3) := by decide +kernel
theorem d_Cd_pass_79 : decode prog_1_method_13_code 79 = .ok (.dup, 1) := by decide +kernel
theorem d_Cd_pass_80 : decode prog_1_method_13_code 80 = .ok (.ldc 178, 2) := by decide +kernel
theorem d_Cd_pass_82 : decode prog_1_method_13_code 82 = .ok (.invokespecial 52, 3) := by decide +kernel
theorem d_Cd_pass_85 : decode prog_1_method_13_code 85 = .ok (.athrow, 1) := by decide +kernel
theorem d_Cd_pass_86 : decode prog_1_method_13_code 86 = .ok (.aload_n 0, 1) := by decide +kernel
theorem d_Cd_pass_87 : decode prog_1_method_13_code 87 = .ok (.getfield 24, 3) := by decide +kernel
theorem d_Cd_pass_90 : decode prog_1_method_13_code 90 = .ok (.aload 5, 2) := by decide +kernel
theorem d_Cd_pass_92 : decode prog_1_method_13_code 92 = .ok (.getfield 130, 3) := by decide +kernel
theorem d_Cd_pass_95 : decode prog_1_method_13_code 95 = .ok (.invokevirtual 180, 3) := by decide +kernel
theorem d_Cd_pass_98 : decode prog_1_method_13_code 98 = .ok (.aload 6, 2) := by decide +kernel
theorem d_Cd_pass_100 : decode prog_1_method_13_code 100 = .ok (.aload_n 0, 1) := by decide +kernel
theorem d_Cd_pass_101 : decode prog_1_method_13_code 101 = .ok (.getfield 24, 3) := by decide +kernel
theorem d_Cd_pass_104 : decode prog_1_method_13_code 104 = .ok (.getfield 184, 3) := by decide +kernel
theorem d_Cd_pass_107 : decode prog_1_method_13_code 107 = .ok (.iload 4, 2) := by decide +kernel
theorem d_Cd_pass_109 : decode prog_1_method_13_code 109 = .ok (.iaload, 1) := by decide +kernel
theorem d_Cd_pass_110 : decode prog_1_method_13_code 110 = .ok (.invokevirtual 78, 3) := by decide +kernel
theorem d_Cd_pass_113 : decode prog_1_method_13_code 113 = .ok (.aload 5, 2) := by decide +kernel
theorem d_Cd_pass_115 : decode prog_1_method_13_code 115 = .ok (.invokevirtual 163, 3) := by decide +kernel
theorem d_Cd_pass_118 : decode prog_1_method_13_code 118 = .ok (.aload_n 0, 1) := by decide +kernel
theorem d_Cd_pass_119 : decode prog_1_method_13_code 119 = .ok (.getfield 24, 3) := by decide +kernel
theorem d_Cd_pass_122 : decode prog_1_method_13_code 122 = .ok (.getfield 175, 3) := by decide +kernel
theorem d_Cd_pass_125 : decode prog_1_method_13_code 125 = .ok (.ireturn, 1) := by decide +kernel
theorem d_Cd_take_0 : decode prog_1_method_14_code 0 = .ok (.aload_n 0, 1) := by decide +kernel
theorem d_Cd_take_1 : decode prog_1_method_14_code 1 = .ok (.iload_n 1, 1) := by decide +kernel
theorem d_Cd_take_2 : decode prog_1_method_14_code 2 = .ok (.iload_n 2, 1) := by decide +kernel
theorem d_Cd_take_3 : decode prog_1_method_14_code 3 = .ok (.bipush 8, 2) := by decide +kernel
theorem d_Cd_take_5 : decode prog_1_method_14_code 5 = .ok (.invokevirtual 149, 3) := by decide +kernel
theorem d_Cd_take_8 : decode prog_1_method_14_code 8 = .ok (.astore 5, 2) := by decide +kernel
theorem d_Cd_take_10 : decode prog_1_method_14_code 10 = .ok (.aload 5, 2) := by decide +kernel
theorem d_Cd_take_12 : decode prog_1_method_14_code 12 = .ok (.iload_n 3, 1) := by decide +kernel
theorem d_Cd_take_13 : decode prog_1_method_14_code 13 = .ok (.invokestatic 153, 3) := by decide +kernel
theorem d_Cd_take_16 : decode prog_1_method_14_code 16 = .ok (.astore 6, 2) := by decide +kernel
theorem d_Cd_take_18 : decode prog_1_method_14_code 18 = .ok (.iload 4, 2) := by decide +kernel
theorem d_Cd_take_20 : decode prog_1_method_14_code 20 = .ok (.invokestatic 81, 3) := by decide +kernel
theorem d_Cd_take_23 : decode prog_1_method_14_code 23 = .ok (.ifCond .ne 13, 3) := by decide +kernel
theorem d_Cd_take_26 : decode prog_1_method_14_code 26 = .ok (.new 84, 3) := by decide +kernel
theorem d_Cd_take_29 : decode prog_1_method_14_code 29 = .ok (.dup, 1) := by decide +kernel
theorem d_Cd_take_30 : decode prog_1_method_14_code 30 = .ok (.ldc 86, 2) := by decide +kernel
theorem d_Cd_take_32 : decode prog_1_method_14_code 32 = .ok (.invokespecial 88, 3) := by decide +kernel
theorem d_Cd_take_35 : decode prog_1_method_14_code 35 = .ok (.athrow, 1) := by decide +kernel
theorem d_Cd_take_36 : decode prog_1_method_14_code 36 = .ok (.aload 6, 2) := by decide +kernel
theorem d_Cd_take_38 : decode prog_1_method_14_code 38 = .ok (.getfield 188, 3) := by decide +kernel
theorem d_Cd_take_41 : decode prog_1_method_14_code 41 = .ok (.ifnonnull 13, 3) := by decide +kernel
theorem d_Cd_take_44 : decode prog_1_method_14_code 44 = .ok (.new 48, 3) := by decide +kernel
theorem d_Cd_take_47 : decode prog_1_method_14_code 47 = .ok (.dup, 1) := by decide +kernel
theorem d_Cd_take_48 : decode prog_1_method_14_code 48 = .ok (.ldc 192, 2) := by decide +kernel
theorem d_Cd_take_50 : decode prog_1_method_14_code 50 = .ok (.invokespecial 52, 3) := by decide +kernel
theorem d_Cd_take_53 : decode prog_1_method_14_code 53 = .ok (.athrow, 1) := by decide +kernel
theorem d_Cd_take_54 : decode prog_1_method_14_code 54 = .ok (.aload 5, 2) := by decide +kernel
theorem d_Cd_take_56 : decode prog_1_method_14_code 56 = .ok (.invokevirtual 163, 3) := by decide +kernel
theorem d_Cd_take_59 : decode prog_1_method_14_code 59 = .ok (.aload_n 0, 1) := by decide +kernel
theorem d_Cd_take_60 : decode prog_1_method_14_code 60 = .ok (.iload_n 1, 1) := by decide +kernel
theorem d_Cd_take_61 : decode prog_1_method_14_code 61 = .ok (.invokevirtual 40, 3) := by decide +kernel
theorem d_Cd_take_64 : decode prog_1_method_14_code 64 = .ok (.iload 4, 2) := by decide +kernel
theorem d_Cd_take_66 : decode prog_1_method_14_code 66 = .ok (.aload 6, 2) := by decide +kernel
theorem d_Cd_take_68 : decode prog_1_method_14_code 68 = .ok (.getfield 188, 3) := by decide +kernel
theorem d_Cd_take_71 : decode prog_1_method_14_code 71 = .ok (.invokevirtual 137, 3) := by decide +kernel
theorem d_Cd_take_74 : decode prog_1_method_14_code 74 = .ok (.ireturn, 1) := by decide +kernel
theorem d_Cd_free_0 : decode prog_1_method_15_code 0 = .ok (.aload_n 0, 1) := by decide +kernel
theorem d_Cd_free_1 : decode prog_1_method_15_code 1 = .ok (.iload_n 1, 1) := by decide +kernel
theorem d_Cd_free_2 : decode prog_1_method_15_code 2 = .ok (.iload_n 2, 1) := by decide +kernel
theorem d_Cd_free_3 : decode prog_1_method_15_code 3 = .ok (.bipush 16, 2) := by decide +kernel
theorem d_Cd_free_5 : decode prog_1_method_15_code 5 = .ok (.invokevirtual 149, 3) := by decide +kernel
theorem d_Cd_free_8 : decode prog_1_method_15_code 8 = .ok (.astore_n 3, 1) := by decide +kernel
theorem d_Cd_free_9 : decode prog_1_method_15_code 9 = .ok (.aload_n 3, 1) := by decide +kernel
theorem d_Cd_free_10 : decode prog_1_method_15_code 10 = .ok (.invokevirtual 163, 3) := by decide +kernel
theorem d_Cd_free_13 : decode prog_1_method_15_code 13 = .ok (.aload_n 3, 1) := by decide +kernel
theorem d_Cd_free_14 : decode prog_1_method_15_code 14 = .ok (.getfield 130, 3) := by decide +kernel
theorem d_Cd_free_17 : decode prog_1_method_15_code 17 = .ok (.aload_n 3, 1) := by decide +kernel
theorem d_Cd_free_18 : decode prog_1_method_15_code 18 = .ok (.getfield 134, 3) := by decide +kernel
theorem d_Cd_free_21 : decode prog_1_method_15_code 21 = .ok (.invokevirtual 194, 3) := by decide +kernel
theorem d_Cd_free_24 : decode prog_1_method_15_code 24 = .ok (.istore 4, 2) := by decide +kernel
theorem d_Cd_free_26 : decode prog_1_method_15_code 26 = .ok (.aload_n 0, 1) := by decide +kernel
theorem d_Cd_free_27 : decode prog_1_method_15_code 27 = .ok (.invokevirtual 146, 3) := by decide +kernel
theorem d_Cd_free_30 : decode prog_1_method_15_code 30 = .ok (.pop, 1) := by decide +kernel
theorem d_Cd_free_31 : decode prog_1_method_15_code 31 = .ok (.iload 4, 2) := by decide +kernel
theorem d_Cd_free_33 : decode prog_1_method_15_code 33 = .ok (.ireturn, 1) := by decide +kernel
theorem d_Cd_end_0 : decode prog_1_method_16_code 0 = .ok (.aload_n 0, 1) := by decide +kernel
theorem d_Cd_end_1 : decode prog_1_method_16_code 1 = .ok (.iload_n 1, 1) := by decide +kernel
theorem d_Cd_end_2 : decode prog_1_method_16_code 2 = .ok (.invokevirtual 40, 3) := by decide +kernel
theorem d_Cd_end_5 : decode prog_1_method_16_code 5 = .ok (.invokevirtual 198, 3) := by decide +kernel
theorem d_Cd_end_8 : decode prog_1_method_16_code 8 = .ok (.aload_n 0, 1) := by decide +kernel
theorem d_Cd_end_9 : decode prog_1_method_16_code 9 = .ok (.invokevirtual 146, 3) := by decide +kernel
theorem d_Cd_end_12 : decode prog_1_method_16_code 12 = .ok (.ireturn, 1) := by decide +kernel
theorem d_Cd_holds_0 : decode prog_1_method_17_code 0 = .ok (.aload_n 0, 1) := by decide +kernel
theorem d_Cd_holds_1 : decode prog_1_method_17_code 1 = .ok (.iload_n 1, 1) := by decide +kernel
theorem d_Cd_holds_2 : decode prog_1_method_17_code 2 = .ok (.iload_n 2, 1) := by decide +kernel
theorem d_Cd_holds_3 : decode prog_1_method_17_code 3 = .ok (.iload_n 3, 1) := by decide +kernel
theorem d_Cd_holds_4 : decode prog_1_method_17_code 4 = .ok (.invokevirtual 201, 3) := by decide +kernel
theorem d_Cd_holds_7 : decode prog_1_method_17_code 7 = .ok (.ifCond .ne 5, 3) := by decide +kernel
theorem d_Cd_holds_10 : decode prog_1_method_17_code 10 = .ok (.iconst (-1), 1) := by decide +kernel
theorem d_Cd_holds_11 : decode prog_1_method_17_code 11 = .ok (.ireturn, 1) := by decide +kernel
theorem d_Cd_holds_12 : decode prog_1_method_17_code 12 = .ok (.aload_n 0, 1) := by decide +kernel
theorem d_Cd_holds_13 : decode prog_1_method_17_code 13 = .ok (.getfield 11, 3) := by decide +kernel
theorem d_Cd_holds_16 : decode prog_1_method_17_code 16 = .ok (.iload_n 1, 1) := by decide +kernel
theorem d_Cd_holds_17 : decode prog_1_method_17_code 17 = .ok (.aaload, 1) := by decide +kernel
theorem d_Cd_holds_18 : decode prog_1_method_17_code 18 = .ok (.getfield 205, 3) := by decide +kernel
theorem d_Cd_holds_21 : decode prog_1_method_17_code 21 = .ok (.iload_n 2, 1) := by decide +kernel
theorem d_Cd_holds_22 : decode prog_1_method_17_code 22 = .ok (.aaload, 1) := by decide +kernel
theorem d_Cd_holds_23 : decode prog_1_method_17_code 23 = .ok (.getfield 209, 3) := by decide +kernel
theorem d_Cd_holds_26 : decode prog_1_method_17_code 26 = .ok (.iload_n 3, 1) := by decide +kernel
theorem d_Cd_holds_27 : decode prog_1_method_17_code 27 = .ok (.aaload, 1) := by decide +kernel
theorem d_Cd_holds_28 : decode prog_1_method_17_code 28 = .ok (.astore 4, 2) := by decide +kernel
theorem d_Cd_holds_30 : decode prog_1_method_17_code 30 = .ok (.aload 4, 2) := by decide +kernel
theorem d_Cd_holds_32 : decode prog_1_method_17_code 32 = .ok (.getfield 188, 3) := by decide +kernel
theorem d_Cd_holds_35 : decode prog_1_method_17_code 35 = .ok (.ifnull 20, 3) := by decide +kernel
theorem d_Cd_holds_38 : decode prog_1_method_17_code 38 = .ok (.aload 4, 2) := by decide +kernel
theorem d_Cd_holds_40 : decode prog_1_method_17_code 40 = .ok (.getfield 188, 3) := by decide +kernel
theorem d_Cd_holds_43 : decode prog_1_method_17_code 43 = .ok (.getfield 116, 3) := by decide +kernel
theorem d_Cd_holds_46 : decode prog_1_method_17_code 46 = .ok (.ifCond .eq 7, 3) := by decide +kernel
theorem d_Cd_holds_49 : decode prog_1_method_17_code 49 = .ok (.iconst 3, 1) := by decide +kernel
theorem d_Cd_holds_50 : decode prog_1_method_17_code 50 = .ok (.goto 4, 3) := by decide +kernel
theorem d_Cd_holds_53 : decode prog_1_method_17_code 53 = .ok (.iconst 2, 1) := by decide +kernel
theorem d_Cd_holds_54 : decode prog_1_method_17_code 54 = .ok (.ireturn, 1) := by decide +kernel
theorem d_Cd_holds_55 : decode prog_1_method_17_code 55 = .ok (.aload 4, 2) := by decide +kernel
theorem d_Cd_holds_57 : decode prog_1_method_17_code 57 = .ok (.invokevirtual 215, 3) := by decide +kernel
theorem d_Cd_holds_60 : decode prog_1_method_17_code 60 = .ok (.ifCond .eq 7, 3) := by decide +kernel
theorem d_Cd_holds_63 : decode prog_1_method_17_code 63 = .ok (.iconst 1, 1) := by decide +kernel
theorem d_Cd_holds_64 : decode prog_1_method_17_code 64 = .ok (.goto 4, 3) := by decide +kernel
theorem d_Cd_holds_67 : decode prog_1_method_17_code 67 = .ok (.iconst 0, 1) := by decide +kernel
theorem d_Cd_holds_68 : decode prog_1_method_17_code 68 = .ok (.ireturn, 1) := by decide +kernel
theorem d_Cd_linked_0 : decode prog_1_method_18_code 0 = .ok (.aload_n 0, 1) := by decide +kernel
theorem d_Cd_linked_1 : decode prog_1_method_18_code 1 = .ok (.iload_n 1, 1) := by decide +kernel
theorem d_Cd_linked_2 : decode prog_1_method_18_code 2 = .ok (.iload_n 2, 1) := by decide +kernel
theorem d_Cd_linked_3 : decode prog_1_method_18_code 3 = .ok (.iload_n 3, 1) := by decide +kernel
theorem d_Cd_linked_4 : decode prog_1_method_18_code 4 = .ok (.invokevirtual 201, 3) := by decide +kernel
theorem d_Cd_linked_7 : decode prog_1_method_18_code 7 = .ok (.ifCond .eq 25, 3) := by decide +kernel
theorem d_Cd_linked_10 : decode prog_1_method_18_code 10 = .ok (.aload_n 0, 1) := by decide +kernel
theorem d_Cd_linked_11 : decode prog_1_method_18_code 11 = .ok (.getfield 11, 3) := by decide +kernel
theorem d_Cd_linked_14 : decode prog_1_method_18_code 14 = .ok (.iload_n 1, 1) := by decide +kernel
theorem d_Cd_linked_15 : decode prog_1_method_18_code 15 = .ok (.aaload, 1) := by decide +kernel
theorem d_Cd_linked_16 : decode prog_1_method_18_code 16 = .ok (.getfield 205, 3) := by decide +kernel
theorem d_Cd_linked_19 : decode prog_1_method_18_code 19 = .ok (.iload_n 2, 1) := by decide +kernel
theorem d_Cd_linked_20 : decode prog_1_method_18_code 20 = .ok (.aaload, 1) := by decide +kernel
theorem d_Cd_linked_21 : decode prog_1_method_18_code 21 = .ok (.getfield 209, 3) := by decide +kernel
theorem d_Cd_linked_24 : decode prog_1_method_18_code 24 = .ok (.iload_n 3, 1) := by decide +kernel
theorem d_Cd_linked_25 : decode prog_1_method_18_code 25 = .ok (.aaload, 1) := by decide +kernel
theorem d_Cd_linked_26 : decode prog_1_method_18_code 26 = .ok (.getfield 218, 3) := by decide +kernel
theorem d_Cd_linked_29 : decode prog_1_method_18_code 29 = .ok (.goto 4, 3) := by decide +kernel
theorem d_Cd_linked_32 : decode prog_1_method_18_code 32 = .ok (.iconst (-1), 1) := by decide +kernel
theorem d_Cd_linked_33 : decode prog_1_method_18_code 33 = .ok (.ireturn, 1) := by decide +kernel
theorem d_Cd_slot_0 : decode prog_1_method_19_code 0 = .ok (.aload_n 0, 1) := by decide +kernel
theorem d_Cd_slot_1 : decode prog_1_method_19_code 1 = .ok (.iload_n 1, 1) := by decide +kernel
theorem d_Cd_slot_2 : decode prog_1_method_19_code 2 = .ok (.invokevirtual 221, 3) := by decide +kernel
theorem d_Cd_slot_5 : decode prog_1_method_19_code 5 = .ok (.ifCond .eq 22, 3) := by decide +kernel
theorem d_Cd_slot_8 : decode prog_1_method_19_code 8 = .ok (.aload_n 0, 1) := by decide +kernel
theorem d_Cd_slot_9 : decode prog_1_method_19_code 9 = .ok (.getfield 11, 3) := by decide +kernel
theorem d_Cd_slot_12 : decode prog_1_method_19_code 12 = .ok (.iload_n 1, 1) := by decide +kernel
theorem d_Cd_slot_13 : decode prog_1_method_19_code 13 = .ok (.aaload, 1) := by decide +kernel
theorem d_Cd_slot_14 : decode prog_1_method_19_code 14 = .ok (.getfield 224, 3) := by decide +kernel
theorem d_Cd_slot_17 : decode prog_1_method_19_code 17 = .ok (.ifCond .ne 10, 3) := by decide +kernel
theorem d_Cd_slot_20 : decode prog_1_method_19_code 20 = .ok (.iload_n 2, 1) := by decide +kernel
theorem d_Cd_slot_21 : decode prog_1_method_19_code 21 = .ok (.invokestatic 81, 3) := by decide +kernel
theorem d_Cd_slot_24 : decode prog_1_method_19_code 24 = .ok (.ifCond .ne 5, 3) := by decide +kernel
theorem d_Cd_slot_27 : decode prog_1_method_19_code 27 = .ok (.iconst (-1), 1) := by decide +kernel
theorem d_Cd_slot_28 : decode prog_1_method_19_code 28 = .ok (.ireturn, 1) := by decide +kernel
theorem d_Cd_slot_29 : decode prog_1_method_19_code 29 = .ok (.aload_n 0, 1) := by decide +kernel
theorem d_Cd_slot_30 : decode prog_1_method_19_code 30 = .ok (.getfield 11, 3) := by decide +kernel
theorem d_Cd_slot_33 : decode prog_1_method_19_code 33 = .ok (.iload_n 1, 1) := by decide +kernel
theorem d_Cd_slot_34 : decode prog_1_method_19_code 34 = .ok (.aaload, 1) := by decide +kernel
theorem d_Cd_slot_35 : decode prog_1_method_19_code 35 = .ok (.getfield 227, 3) := by decide +kernel
theorem d_Cd_slot_38 : decode prog_1_method_19_code 38 = .ok (.iload_n 2, 1) := by decide +kernel
theorem d_Cd_slot_39 : decode prog_1_method_19_code 39 = .ok (.aaload, 1) := by decide +kernel
theorem d_Cd_slot_40 : decode prog_1_method_19_code 40 = .ok (.astore_n 3, 1) := by decide +kernel
theorem d_Cd_slot_41 : decode prog_1_method_19_code 41 = .ok (.aload_n 3, 1) := by decide +kernel
theorem d_Cd_slot_42 : decode prog_1_method_19_code 42 = .ok (.ifnonnull 5, 3) := by decide +kernel
theorem d_Cd_slot_45 : decode prog_1_method_19_code 45 = .ok (.iconst 0, 1) := by decide +kernel
theorem d_Cd_slot_46 : decode prog_1_method_19_code 46 = .ok (.ireturn, 1) := by decide +kernel
theorem d_Cd_slot_47 : decode prog_1_method_19_code 47 = .ok (.aload_n 3, 1) := by decide +kernel
theorem d_Cd_slot_48 : decode prog_1_method_19_code 48 = .ok (.getfield 116, 3) := by decide +kernel
theorem d_Cd_slot_51 : decode prog_1_method_19_code 51 = .ok (.ifCond .eq 7, 3) := by decide +kernel
theorem d_Cd_slot_54 : decode prog_1_method_19_code 54 = .ok (.iconst 2, 1) := by decide +kernel
theorem d_Cd_slot_55 : decode prog_1_method_19_code 55 = .ok (.goto 4, 3) := by decide +kernel
theorem d_Cd_slot_58 : decode prog_1_method_19_code 58 = .ok (.iconst 1, 1) := by decide +kernel
theorem d_Cd_slot_59 : decode prog_1_method_19_code 59 = .ok (.ireturn, 1) := by decide +kernel
theorem d_Cd_count_0 : decode prog_1_method_20_code 0 = .ok (.iload_n 1, 1) := by decide +kernel
theorem d_Cd_count_1 : decode prog_1_method_20_code 1 = .ok (.tableswitch 51 0 3 #[31, 36, 41, 46], 31) := by decide +kernel
theorem d_Cd_count_32 : decode prog_1_method_20_code 32 = .ok (.aload_n 0, 1) := by decide +kernel
theorem d_Cd_count_33 : decode prog_1_method_20_code 33 = .ok (.getfield 28, 3) := by decide +kernel
theorem d_Cd_count_36 : decode prog_1_method_20_code 36 = .ok (.ireturn, 1) := by decide +kernel
theorem d_Cd_count_37 : decode prog_1_method_20_code 37 = .ok (.aload_n 0, 1) := by decide +kernel
theorem d_Cd_count_38 : decode prog_1_method_20_code 38 = .ok (.invokevirtual 230, 3) := by decide +kernel
theorem d_Cd_count_41 : decode prog_1_method_20_code 41 = .ok (.ireturn, 1) := by decide +kernel
theorem d_Cd_count_42 : decode prog_1_method_20_code 42 = .ok (.aload_n 0, 1) := by decide +kernel
theorem d_Cd_count_43 : decode prog_1_method_20_code 43 = .ok (.getfield 233, 3) := by decide +kernel
theorem d_Cd_count_46 : decode prog_1_method_20_code 46 = .ok (.ireturn, 1) := by decide +kernel
theorem d_Cd_count_47 : decode prog_1_method_20_code 47 = .ok (.aload_n 0, 1) := by decide +kernel
theorem d_Cd_count_48 : decode prog_1_method_20_code 48 = .ok (.invokevirtual 236, 3) := by decide +kernel
theorem d_Cd_count_51 : decode prog_1_method_20_code 51 = .ok (.ireturn, 1) := by decide +kernel
theorem d_Cd_count_52 : decode prog_1_method_20_code 52 = .ok (.iload_n 1, 1) := by decide +kernel
theorem d_Cd_count_53 : decode prog_1_method_20_code 53 = .ok (.iconst 4, 1) := by decide +kernel
theorem d_Cd_count_54 : decode prog_1_method_20_code 54 = .ok (.if_icmp .lt 19, 3) := by decide +kernel
theorem d_Cd_count_57 : decode prog_1_method_20_code 57 = .ok (.iload_n 1, 1) := by decide +kernel
theorem d_Cd_count_58 : decode prog_1_method_20_code 58 = .ok (.bipush 10, 2) := by decide +kernel
theorem d_Cd_count_60 : decode prog_1_method_20_code 60 = .ok (.if_icmp .ge 13, 3) := by decide +kernel
theorem d_Cd_count_63 : decode prog_1_method_20_code 63 = .ok (.aload_n 0, 1) := by decide +kernel
theorem d_Cd_count_64 : decode prog_1_method_20_code 64 = .ok (.iload_n 1, 1) := by decide +kernel
theorem d_Cd_count_65 : decode prog_1_method_20_code 65 = .ok (.iconst 4, 1) := by decide +kernel
theorem d_Cd_count_66 : decode prog_1_method_20_code 66 = .ok (.isub, 1) := by decide +kernel
theorem d_Cd_count_67 : decode prog_1_method_20_code 67 = .ok (.invokevirtual 239, 3) := by decide +kernel
theorem d_Cd_count_70 : decode prog_1_method_20_code 70 = .ok (.goto 4, 3) := by decide +kernel
theorem d_Cd_count_73 : decode prog_1_method_20_code 73 = .ok (.iconst (-1), 1) := by decide +kernel
theorem d_Cd_count_74 : decode prog_1_method_20_code 74 = .ok (.ireturn, 1) := by decide +kernel
theorem d_Cd_livingDomains_0 : decode prog_1_method_21_code 0 = .ok (.iconst 0, 1) := by decide +kernel
theorem d_Cd_livingDomains_1 : decode prog_1_method_21_code 1 = .ok (.istore_n 1, 1) := by decide +kernel
theorem d_Cd_livingDomains_2 : decode prog_1_method_21_code 2 = .ok (.iconst 0, 1) := by decide +kernel
theorem d_Cd_livingDomains_3 : decode prog_1_method_21_code 3 = .ok (.istore_n 2, 1) := by decide +kernel
theorem d_Cd_livingDomains_4 : decode prog_1_method_21_code 4 = .ok (.iload_n 2, 1) := by decide +kernel
theorem d_Cd_livingDomains_5 : decode prog_1_method_21_code 5 = .ok (.aload_n 0, 1) := by decide +kernel
theorem d_Cd_livingDomains_6 : decode prog_1_method_21_code 6 = .ok (.getfield 28, 3) := by decide +kernel
theorem d_Cd_livingDomains_9 : decode prog_1_method_21_code 9 = .ok (.if_icmp .ge 24, 3) := by decide +kernel
theorem d_Cd_livingDomains_12 : decode prog_1_method_21_code 12 = .ok (.aload_n 0, 1) := by decide +kernel
theorem d_Cd_livingDomains_13 : decode prog_1_method_21_code 13 = .ok (.getfield 11, 3) := by decide +kernel
theorem d_Cd_livingDomains_16 : decode prog_1_method_21_code 16 = .ok (.iload_n 2, 1) := by decide +kernel
theorem d_Cd_livingDomains_17 : decode prog_1_method_21_code 17 = .ok (.aaload, 1) := by decide +kernel
theorem d_Cd_livingDomains_18 : decode prog_1_method_21_code 18 = .ok (.getfield 224, 3) := by decide +kernel
theorem d_Cd_livingDomains_21 : decode prog_1_method_21_code 21 = .ok (.ifCond .ne 6, 3) := by decide +kernel
theorem d_Cd_livingDomains_24 : decode prog_1_method_21_code 24 = .ok (.iinc 1 1, 3) := by decide +kernel
theorem d_Cd_livingDomains_27 : decode prog_1_method_21_code 27 = .ok (.iinc 2 1, 3) := by decide +kernel
theorem d_Cd_livingDomains_30 : decode prog_1_method_21_code 30 = .ok (.goto (-26), 3) := by decide +kernel
theorem d_Cd_livingDomains_33 : decode prog_1_method_21_code 33 = .ok (.iload_n 1, 1) := by decide +kernel
theorem d_Cd_livingDomains_34 : decode prog_1_method_21_code 34 = .ok (.ireturn, 1) := by decide +kernel
theorem d_Cd_livingCapabilities_0 : decode prog_1_method_22_code 0 = .ok (.iconst 0, 1) := by decide +kernel
theorem d_Cd_livingCapabilities_1 : decode prog_1_method_22_code 1 = .ok (.istore_n 1, 1) := by decide +kernel
theorem d_Cd_livingCapabilities_2 : decode prog_1_method_22_code 2 = .ok (.iconst 0, 1) := by decide +kernel
theorem d_Cd_livingCapabilities_3 : decode prog_1_method_22_code 3 = .ok (.istore_n 2, 1) := by decide +kernel
theorem d_Cd_livingCapabilities_4 : decode prog_1_method_22_code 4 = .ok (.iload_n 2, 1) := by decide +kernel
theorem d_Cd_livingCapabilities_5 : decode prog_1_method_22_code 5 = .ok (.aload_n 0, 1) := by decide +kernel
theorem d_Cd_livingCapabilities_6 : decode prog_1_method_22_code 6 = .ok (.getfield 233, 3) := by decide +kernel
theorem d_Cd_livingCapabilities_9 : decode prog_1_method_22_code 9 = .ok (.if_icmp .ge 24, 3) := by decide +kernel
theorem d_Cd_livingCapabilities_12 : decode prog_1_method_22_code 12 = .ok (.aload_n 0, 1) := by decide +kernel
theorem d_Cd_livingCapabilities_13 : decode prog_1_method_22_code 13 = .ok (.getfield 17, 3) := by decide +kernel
theorem d_Cd_livingCapabilities_16 : decode prog_1_method_22_code 16 = .ok (.iload_n 2, 1) := by decide +kernel
theorem d_Cd_livingCapabilities_17 : decode prog_1_method_22_code 17 = .ok (.aaload, 1) := by decide +kernel
theorem d_Cd_livingCapabilities_18 : decode prog_1_method_22_code 18 = .ok (.getfield 116, 3) := by decide +kernel
theorem d_Cd_livingCapabilities_21 : decode prog_1_method_22_code 21 = .ok (.ifCond .ne 6, 3) := by decide +kernel
theorem d_Cd_livingCapabilities_24 : decode prog_1_method_22_code 24 = .ok (.iinc 1 1, 3) := by decide +kernel
theorem d_Cd_livingCapabilities_27 : decode prog_1_method_22_code 27 = .ok (.iinc 2 1, 3) := by decide +kernel
theorem d_Cd_livingCapabilities_30 : decode prog_1_method_22_code 30 = .ok (.goto (-26), 3) := by decide +kernel
theorem d_Cd_livingCapabilities_33 : decode prog_1_method_22_code 33 = .ok (.iload_n 1, 1) := by decide +kernel
theorem d_Cd_livingCapabilities_34 : decode prog_1_method_22_code 34 = .ok (.ireturn, 1) := by decide +kernel
theorem d_Cd_objectsOf_0 : decode prog_1_method_23_code 0 = .ok (.aload_n 0, 1) := by decide +kernel
theorem d_Cd_objectsOf_1 : decode prog_1_method_23_code 1 = .ok (.iload_n 1, 1) := by decide +kernel
theorem d_Cd_objectsOf_2 : decode prog_1_method_23_code 2 = .ok (.invokevirtual 221, 3) := by decide +kernel
theorem d_Cd_objectsOf_5 : decode prog_1_method_23_code 5 = .ok (.ifCond .eq 15, 3) := by decide +kernel
theorem d_Cd_objectsOf_8 : decode prog_1_method_23_code 8 = .ok (.aload_n 0, 1) := by decide +kernel
theorem d_Cd_objectsOf_9 : decode prog_1_method_23_code 9 = .ok (.getfield 11, 3) := by decide +kernel
theorem d_Cd_objectsOf_12 : decode prog_1_method_23_code 12 = .ok (.iload_n 1, 1) := by decide +kernel
theorem d_Cd_objectsOf_13 : decode prog_1_method_23_code 13 = .ok (.aaload, 1) := by decide +kernel
theorem d_Cd_objectsOf_14 : decode prog_1_method_23_code 14 = .ok (.invokevirtual 44, 3) := by decide +kernel
theorem d_Cd_objectsOf_17 : decode prog_1_method_23_code 17 = .ok (.goto 4, 3) := by decide +kernel
theorem d_Cd_objectsOf_20 : decode prog_1_method_23_code 20 = .ok (.iconst 0, 1) := by decide +kernel
theorem d_Cd_objectsOf_21 : decode prog_1_method_23_code 21 = .ok (.ireturn, 1) := by decide +kernel
theorem d_Cd_isDomain_0 : decode prog_1_method_24_code 0 = .ok (.iload_n 1, 1) := by decide +kernel
theorem d_Cd_isDomain_1 : decode prog_1_method_24_code 1 = .ok (.ifCond .lt 15, 3) := by decide +kernel
theorem d_Cd_isDomain_4 : decode prog_1_method_24_code 4 = .ok (.iload_n 1, 1) := by decide +kernel
theorem d_Cd_isDomain_5 : decode prog_1_method_24_code 5 = .ok (.aload_n 0, 1) := by decide +kernel
theorem d_Cd_isDomain_6 : decode prog_1_method_24_code 6 = .ok (.getfield 28, 3) := by decide +kernel
theorem d_Cd_isDomain_9 : decode prog_1_method_24_code 9 = .ok (.if_icmp .ge 7, 3) := by decide +kernel
theorem d_Cd_isDomain_12 : decode prog_1_method_24_code 12 = .ok (.iconst 1, 1) := by decide +kernel
theorem d_Cd_isDomain_13 : decode prog_1_method_24_code 13 = .ok (.goto 4, 3) := by decide +kernel
theorem d_Cd_isDomain_16 : decode prog_1_method_24_code 16 = .ok (.iconst 0, 1) := by decide +kernel
theorem d_Cd_isDomain_17 : decode prog_1_method_24_code 17 = .ok (.ireturn, 1) := by decide +kernel
theorem d_Cd_isSlot_0 : decode prog_1_method_25_code 0 = .ok (.iload_n 0, 1) := by decide +kernel
theorem d_Cd_isSlot_1 : decode prog_1_method_25_code 1 = .ok (.ifCond .lt 13, 3) := by decide +kernel
theorem d_Cd_isSlot_4 : decode prog_1_method_25_code 4 = .ok (.iload_n 0, 1) := by decide +kernel
theorem d_Cd_isSlot_5 : decode prog_1_method_25_code 5 = .ok (.bipush 8, 2) := by decide +kernel
theorem d_Cd_isSlot_7 : decode prog_1_method_25_code 7 = .ok (.if_icmp .ge 7, 3) := by decide +kernel
theorem d_Cd_isSlot_10 : decode prog_1_method_25_code 10 = .ok (.iconst 1, 1) := by decide +kernel
theorem d_Cd_isSlot_11 : decode prog_1_method_25_code 11 = .ok (.goto 4, 3) := by decide +kernel
theorem d_Cd_isSlot_14 : decode prog_1_method_25_code 14 = .ok (.iconst 0, 1) := by decide +kernel
theorem d_Cd_isSlot_15 : decode prog_1_method_25_code 15 = .ok (.ireturn, 1) := by decide +kernel
theorem d_Cd_isField_0 : decode prog_1_method_26_code 0 = .ok (.aload_n 0, 1) := by decide +kernel
theorem d_Cd_isField_1 : decode prog_1_method_26_code 1 = .ok (.iload_n 1, 1) := by decide +kernel
theorem d_Cd_isField_2 : decode prog_1_method_26_code 2 = .ok (.invokevirtual 221, 3) := by decide +kernel
theorem d_Cd_isField_5 : decode prog_1_method_26_code 5 = .ok (.ifCond .eq 29, 3) := by decide +kernel
theorem d_Cd_isField_8 : decode prog_1_method_26_code 8 = .ok (.aload_n 0, 1) := by decide +kernel
theorem d_Cd_isField_9 : decode prog_1_method_26_code 9 = .ok (.getfield 11, 3) := by decide +kernel
theorem d_Cd_isField_12 : decode prog_1_method_26_code 12 = .ok (.iload_n 1, 1) := by decide +kernel
theorem d_Cd_isField_13 : decode prog_1_method_26_code 13 = .ok (.aaload, 1) := by decide +kernel
theorem d_Cd_isField_14 : decode prog_1_method_26_code 14 = .ok (.iload_n 2, 1) := by decide +kernel
theorem d_Cd_isField_15 : decode prog_1_method_26_code 15 = .ok (.invokevirtual 69, 3) := by decide +kernel
theorem d_Cd_isField_18 : decode prog_1_method_26_code 18 = .ok (.ifCond .eq 16, 3) := by decide +kernel
theorem d_Cd_isField_21 : decode prog_1_method_26_code 21 = .ok (.iload_n 3, 1) := by decide +kernel
theorem d_Cd_isField_22 : decode prog_1_method_26_code 22 = .ok (.ifCond .lt 12, 3) := by decide +kernel
theorem d_Cd_isField_25 : decode prog_1_method_26_code 25 = .ok (.iload_n 3, 1) := by decide +kernel
theorem d_Cd_isField_26 : decode prog_1_method_26_code 26 = .ok (.iconst 3, 1) := by decide +kernel
theorem d_Cd_isField_27 : decode prog_1_method_26_code 27 = .ok (.if_icmp .ge 7, 3) := by decide +kernel
theorem d_Cd_isField_30 : decode prog_1_method_26_code 30 = .ok (.iconst 1, 1) := by decide +kernel
theorem d_Cd_isField_31 : decode prog_1_method_26_code 31 = .ok (.goto 4, 3) := by decide +kernel
theorem d_Cd_isField_34 : decode prog_1_method_26_code 34 = .ok (.iconst 0, 1) := by decide +kernel
theorem d_Cd_isField_35 : decode prog_1_method_26_code 35 = .ok (.ireturn, 1) := by decide +kernel
theorem d_Cd_requireSlot_0 : decode prog_1_method_27_code 0 = .ok (.aload_n 0, 1) := by decide +kernel
theorem d_Cd_requireSlot_1 : decode prog_1_method_27_code 1 = .ok (.iload_n 1, 1) := by decide +kernel
theorem d_Cd_requireSlot_2 : decode prog_1_method_27_code 2 = .ok (.invokevirtual 221, 3) := by decide +kernel
theorem d_Cd_requireSlot_5 : decode prog_1_method_27_code 5 = .ok (.ifCond .eq 10, 3) := by decide +kernel
theorem d_Cd_requireSlot_8 : decode prog_1_method_27_code 8 = .ok (.iload_n 2, 1) := by decide +kernel
theorem d_Cd_requireSlot_9 : decode prog_1_method_27_code 9 = .ok (.invokestatic 81, 3) := by decide +kernel
theorem d_Cd_requireSlot_12 : decode prog_1_method_27_code 12 = .ok (.ifCond .ne 13, 3) := by decide +kernel
theorem d_Cd_requireSlot_15 : decode prog_1_method_27_code 15 = .ok (.new 242, 3) := by decide +kernel
theorem d_Cd_requireSlot_18 : decode prog_1_method_27_code 18 = .ok (.dup, 1) := by decide +kernel
theorem d_Cd_requireSlot_19 : decode prog_1_method_27_code 19 = .ok (.ldc 244, 2) := by decide +kernel
theorem d_Cd_requireSlot_21 : decode prog_1_method_27_code 21 = .ok (.invokespecial 246, 3) := by decide +kernel
theorem d_Cd_requireSlot_24 : decode prog_1_method_27_code 24 = .ok (.athrow, 1) := by decide +kernel
theorem d_Cd_requireSlot_25 : decode prog_1_method_27_code 25 = .ok (.return_, 1) := by decide +kernel
theorem d_Cd_requireGrant_0 : decode prog_1_method_28_code 0 = .ok (.iload_n 0, 1) := by decide +kernel
theorem d_Cd_requireGrant_1 : decode prog_1_method_28_code 1 = .ok (.ifCond .lt 14, 3) := by decide +kernel
theorem d_Cd_requireGrant_4 : decode prog_1_method_28_code 4 = .ok (.iload_n 0, 1) := by decide +kernel
theorem d_Cd_requireGrant_5 : decode prog_1_method_28_code 5 = .ok (.bipush 31, 2) := by decide +kernel
theorem d_Cd_requireGrant_7 : decode prog_1_method_28_code 7 = .ok (.if_icmp .gt 8, 3) := by decide +kernel
theorem d_Cd_requireGrant_10 : decode prog_1_method_28_code 10 = .ok (.iload_n 1, 1) := by decide +kernel
theorem d_Cd_requireGrant_11 : decode prog_1_method_28_code 11 = .ok (.iconst (-1), 1) := by decide +kernel
theorem d_Cd_requireGrant_12 : decode prog_1_method_28_code 12 = .ok (.if_icmp .ge 13, 3) := by decide +kernel
theorem d_Cd_requireGrant_15 : decode prog_1_method_28_code 15 = .ok (.new 242, 3) := by decide +kernel
theorem d_Cd_requireGrant_18 : decode prog_1_method_28_code 18 = .ok (.dup, 1) := by decide +kernel
theorem d_Cd_requireGrant_19 : decode prog_1_method_28_code 19 = .ok (.ldc 247, 2) := by decide +kernel
theorem d_Cd_requireGrant_21 : decode prog_1_method_28_code 21 = .ok (.invokespecial 246, 3) := by decide +kernel
theorem d_Cd_requireGrant_24 : decode prog_1_method_28_code 24 = .ok (.athrow, 1) := by decide +kernel
theorem d_Cd_requireGrant_25 : decode prog_1_method_28_code 25 = .ok (.return_, 1) := by decide +kernel
theorem d_Cd_requireCapabilityLeft_0 : decode prog_1_method_29_code 0 = .ok (.aload_n 0, 1) := by decide +kernel
theorem d_Cd_requireCapabilityLeft_1 : decode prog_1_method_29_code 1 = .ok (.getfield 233, 3) := by decide +kernel
theorem d_Cd_requireCapabilityLeft_4 : decode prog_1_method_29_code 4 = .ok (.bipush 40, 2) := by decide +kernel
theorem d_Cd_requireCapabilityLeft_6 : decode prog_1_method_29_code 6 = .ok (.if_icmp .lt 13, 3) := by decide +kernel
theorem d_Cd_requireCapabilityLeft_9 : decode prog_1_method_29_code 9 = .ok (.new 48, 3) := by decide +kernel
theorem d_Cd_requireCapabilityLeft_12 : decode prog_1_method_29_code 12 = .ok (.dup, 1) := by decide +kernel
theorem d_Cd_requireCapabilityLeft_13 : decode prog_1_method_29_code 13 = .ok (.ldc 249, 2) := by decide +kernel
theorem d_Cd_requireCapabilityLeft_15 : decode prog_1_method_29_code 15 = .ok (.invokespecial 52, 3) := by decide +kernel
theorem d_Cd_requireCapabilityLeft_18 : decode prog_1_method_29_code 18 = .ok (.athrow, 1) := by decide +kernel
theorem d_Cd_requireCapabilityLeft_19 : decode prog_1_method_29_code 19 = .ok (.return_, 1) := by decide +kernel
theorem d_Cd_livingDomain_0 : decode prog_1_method_30_code 0 = .ok (.aload_n 0, 1) := by decide +kernel
theorem d_Cd_livingDomain_1 : decode prog_1_method_30_code 1 = .ok (.iload_n 1, 1) := by decide +kernel
theorem d_Cd_livingDomain_2 : decode prog_1_method_30_code 2 = .ok (.invokevirtual 221, 3) := by decide +kernel
theorem d_Cd_livingDomain_5 : decode prog_1_method_30_code 5 = .ok (.ifCond .ne 13, 3) := by decide +kernel
theorem d_Cd_livingDomain_8 : decode prog_1_method_30_code 8 = .ok (.new 242, 3) := by decide +kernel
theorem d_Cd_livingDomain_11 : decode prog_1_method_30_code 11 = .ok (.dup, 1) := by decide +kernel
theorem d_Cd_livingDomain_12 : decode prog_1_method_30_code 12 = .ok (.ldc 251, 2) := by decide +kernel
theorem d_Cd_livingDomain_14 : decode prog_1_method_30_code 14 = .ok (.invokespecial 246, 3) := by decide +kernel
theorem d_Cd_livingDomain_17 : decode prog_1_method_30_code 17 = .ok (.athrow, 1) := by decide +kernel
theorem d_Cd_livingDomain_18 : decode prog_1_method_30_code 18 = .ok (.aload_n 0, 1) := by decide +kernel
theorem d_Cd_livingDomain_19 : decode prog_1_method_30_code 19 = .ok (.getfield 11, 3) := by decide +kernel
theorem d_Cd_livingDomain_22 : decode prog_1_method_30_code 22 = .ok (.iload_n 1, 1) := by decide +kernel
theorem d_Cd_livingDomain_23 : decode prog_1_method_30_code 23 = .ok (.aaload, 1) := by decide +kernel
theorem d_Cd_livingDomain_24 : decode prog_1_method_30_code 24 = .ok (.getfield 224, 3) := by decide +kernel
theorem d_Cd_livingDomain_27 : decode prog_1_method_30_code 27 = .ok (.ifCond .eq 13, 3) := by decide +kernel
theorem d_Cd_livingDomain_30 : decode prog_1_method_30_code 30 = .ok (.new 32, 3) := by decide +kernel
theorem d_Cd_livingDomain_33 : decode prog_1_method_30_code 33 = .ok (.dup, 1) := by decide +kernel
theorem d_Cd_livingDomain_34 : decode prog_1_method_30_code 34 = .ok (.ldc 253, 2) := by decide +kernel
theorem d_Cd_livingDomain_36 : decode prog_1_method_30_code 36 = .ok (.invokespecial 36, 3) := by decide +kernel
theorem d_Cd_livingDomain_39 : decode prog_1_method_30_code 39 = .ok (.athrow, 1) := by decide +kernel
theorem d_Cd_livingDomain_40 : decode prog_1_method_30_code 40 = .ok (.aload_n 0, 1) := by decide +kernel
theorem d_Cd_livingDomain_41 : decode prog_1_method_30_code 41 = .ok (.getfield 11, 3) := by decide +kernel
theorem d_Cd_livingDomain_44 : decode prog_1_method_30_code 44 = .ok (.iload_n 1, 1) := by decide +kernel
theorem d_Cd_livingDomain_45 : decode prog_1_method_30_code 45 = .ok (.aaload, 1) := by decide +kernel
theorem d_Cd_livingDomain_46 : decode prog_1_method_30_code 46 = .ok (.areturn, 1) := by decide +kernel
theorem d_Cd_fieldOf_0 : decode prog_1_method_31_code 0 = .ok (.aload_n 0, 1) := by decide +kernel
theorem d_Cd_fieldOf_1 : decode prog_1_method_31_code 1 = .ok (.iload_n 1, 1) := by decide +kernel
theorem d_Cd_fieldOf_2 : decode prog_1_method_31_code 2 = .ok (.invokevirtual 69, 3) := by decide +kernel
theorem d_Cd_fieldOf_5 : decode prog_1_method_31_code 5 = .ok (.ifCond .ne 13, 3) := by decide +kernel
theorem d_Cd_fieldOf_8 : decode prog_1_method_31_code 8 = .ok (.new 73, 3) := by decide +kernel
theorem d_Cd_fieldOf_11 : decode prog_1_method_31_code 11 = .ok (.dup, 1) := by decide +kernel
theorem d_Cd_fieldOf_12 : decode prog_1_method_31_code 12 = .ok (.ldc 104, 2) := by decide +kernel
theorem d_Cd_fieldOf_14 : decode prog_1_method_31_code 14 = .ok (.invokespecial 77, 3) := by decide +kernel
theorem d_Cd_fieldOf_17 : decode prog_1_method_31_code 17 = .ok (.athrow, 1) := by decide +kernel
theorem d_Cd_fieldOf_18 : decode prog_1_method_31_code 18 = .ok (.iload_n 2, 1) := by decide +kernel
theorem d_Cd_fieldOf_19 : decode prog_1_method_31_code 19 = .ok (.ifCond .lt 8, 3) := by decide +kernel
theorem d_Cd_fieldOf_22 : decode prog_1_method_31_code 22 = .ok (.iload_n 2, 1) := by decide +kernel
theorem d_Cd_fieldOf_23 : decode prog_1_method_31_code 23 = .ok (.iconst 3, 1) := by decide +kernel
theorem d_Cd_fieldOf_24 : decode prog_1_method_31_code 24 = .ok (.if_icmp .lt 13, 3) := by decide +kernel
theorem d_Cd_fieldOf_27 : decode prog_1_method_31_code 27 = .ok (.new 84, 3) := by decide +kernel
theorem d_Cd_fieldOf_30 : decode prog_1_method_31_code 30 = .ok (.dup, 1) := by decide +kernel
theorem d_Cd_fieldOf_31 : decode prog_1_method_31_code 31 = .ok (.ldc 255, 2) := by decide +kernel
theorem d_Cd_fieldOf_33 : decode prog_1_method_31_code 33 = .ok (.invokespecial 88, 3) := by decide +kernel
theorem d_Cd_fieldOf_36 : decode prog_1_method_31_code 36 = .ok (.athrow, 1) := by decide +kernel
theorem d_Cd_fieldOf_37 : decode prog_1_method_31_code 37 = .ok (.aload_n 0, 1) := by decide +kernel
theorem d_Cd_fieldOf_38 : decode prog_1_method_31_code 38 = .ok (.getfield 205, 3) := by decide +kernel
theorem d_Cd_fieldOf_41 : decode prog_1_method_31_code 41 = .ok (.iload_n 1, 1) := by decide +kernel
theorem d_Cd_fieldOf_42 : decode prog_1_method_31_code 42 = .ok (.aaload, 1) := by decide +kernel
theorem d_Cd_fieldOf_43 : decode prog_1_method_31_code 43 = .ok (.getfield 209, 3) := by decide +kernel
theorem d_Cd_fieldOf_46 : decode prog_1_method_31_code 46 = .ok (.iload_n 2, 1) := by decide +kernel
theorem d_Cd_fieldOf_47 : decode prog_1_method_31_code 47 = .ok (.aaload, 1) := by decide +kernel
theorem d_Cd_fieldOf_48 : decode prog_1_method_31_code 48 = .ok (.areturn, 1) := by decide +kernel
theorem d_Cd_capabilityIn_0 : decode prog_1_method_32_code 0 = .ok (.aload_n 0, 1) := by decide +kernel
theorem d_Cd_capabilityIn_1 : decode prog_1_method_32_code 1 = .ok (.getfield 227, 3) := by decide +kernel
theorem d_Cd_capabilityIn_4 : decode prog_1_method_32_code 4 = .ok (.iload_n 1, 1) := by decide +kernel
theorem d_Cd_capabilityIn_5 : decode prog_1_method_32_code 5 = .ok (.aaload, 1) := by decide +kernel
theorem d_Cd_capabilityIn_6 : decode prog_1_method_32_code 6 = .ok (.astore_n 2, 1) := by decide +kernel
theorem d_Cd_capabilityIn_7 : decode prog_1_method_32_code 7 = .ok (.aload_n 2, 1) := by decide +kernel
theorem d_Cd_capabilityIn_8 : decode prog_1_method_32_code 8 = .ok (.ifnonnull 14, 3) := by decide +kernel
theorem d_Cd_capabilityIn_11 : decode prog_1_method_32_code 11 = .ok (.new 73, 3) := by decide +kernel
theorem d_Cd_capabilityIn_14 : decode prog_1_method_32_code 14 = .ok (.dup, 1) := by decide +kernel
theorem d_Cd_capabilityIn_15 : decode prog_1_method_32_code 15 = .ok (.ldc_w 257, 3) := by decide +kernel
theorem d_Cd_capabilityIn_18 : decode prog_1_method_32_code 18 = .ok (.invokespecial 77, 3) := by decide +kernel
theorem d_Cd_capabilityIn_21 : decode prog_1_method_32_code 21 = .ok (.athrow, 1) := by decide +kernel
theorem d_Cd_capabilityIn_22 : decode prog_1_method_32_code 22 = .ok (.aload_n 2, 1) := by decide +kernel
theorem d_Cd_capabilityIn_23 : decode prog_1_method_32_code 23 = .ok (.areturn, 1) := by decide +kernel
theorem d_Cd_usable_0 : decode prog_1_method_33_code 0 = .ok (.aload_n 0, 1) := by decide +kernel
theorem d_Cd_usable_1 : decode prog_1_method_33_code 1 = .ok (.iload_n 1, 1) := by decide +kernel
theorem d_Cd_usable_2 : decode prog_1_method_33_code 2 = .ok (.iload_n 2, 1) := by decide +kernel
theorem d_Cd_usable_3 : decode prog_1_method_33_code 3 = .ok (.invokevirtual 97, 3) := by decide +kernel
theorem d_Cd_usable_6 : decode prog_1_method_33_code 6 = .ok (.aload_n 0, 1) := by decide +kernel
theorem d_Cd_usable_7 : decode prog_1_method_33_code 7 = .ok (.iload_n 1, 1) := by decide +kernel
theorem d_Cd_usable_8 : decode prog_1_method_33_code 8 = .ok (.invokevirtual 40, 3) := by decide +kernel
theorem d_Cd_usable_11 : decode prog_1_method_33_code 11 = .ok (.iload_n 2, 1) := by decide +kernel
theorem d_Cd_usable_12 : decode prog_1_method_33_code 12 = .ok (.invokestatic 89, 3) := by decide +kernel
theorem d_Cd_usable_15 : decode prog_1_method_33_code 15 = .ok (.astore 4, 2) := by decide +kernel
theorem d_Cd_usable_17 : decode prog_1_method_33_code 17 = .ok (.aload 4, 2) := by decide +kernel
theorem d_Cd_usable_19 : decode prog_1_method_33_code 19 = .ok (.getfield 116, 3) := by decide +kernel
theorem d_Cd_usable_22 : decode prog_1_method_33_code 22 = .ok (.ifCond .ne 11, 3) := by decide +kernel
theorem d_Cd_usable_25 : decode prog_1_method_33_code 25 = .ok (.aload 4, 2) := by decide +kernel
theorem d_Cd_usable_27 : decode prog_1_method_33_code 27 = .ok (.invokevirtual 259, 3) := by decide +kernel
theorem d_Cd_usable_30 : decode prog_1_method_33_code 30 = .ok (.ifCond .eq 14, 3) := by decide +kernel
theorem d_Cd_usable_33 : decode prog_1_method_33_code 33 = .ok (.new 32, 3) := by decide +kernel
theorem d_Cd_usable_36 : decode prog_1_method_33_code 36 = .ok (.dup, 1) := by decide +kernel
theorem d_Cd_usable_37 : decode prog_1_method_33_code 37 = .ok (.ldc_w 262, 3) := by decide +kernel
theorem d_Cd_usable_40 : decode prog_1_method_33_code 40 = .ok (.invokespecial 36, 3) := by decide +kernel
theorem d_Cd_usable_43 : decode prog_1_method_33_code 43 = .ok (.athrow, 1) := by decide +kernel
theorem d_Cd_usable_44 : decode prog_1_method_33_code 44 = .ok (.aload 4, 2) := by decide +kernel
theorem d_Cd_usable_46 : decode prog_1_method_33_code 46 = .ok (.iload_n 3, 1) := by decide +kernel
theorem d_Cd_usable_47 : decode prog_1_method_33_code 47 = .ok (.invokevirtual 122, 3) := by decide +kernel
theorem d_Cd_usable_50 : decode prog_1_method_33_code 50 = .ok (.ifCond .ne 14, 3) := by decide +kernel
theorem d_Cd_usable_53 : decode prog_1_method_33_code 53 = .ok (.new 125, 3) := by decide +kernel
theorem d_Cd_usable_56 : decode prog_1_method_33_code 56 = .ok (.dup, 1) := by decide +kernel
theorem d_Cd_usable_57 : decode prog_1_method_33_code 57 = .ok (.ldc_w 264, 3) := by decide +kernel
theorem d_Cd_usable_60 : decode prog_1_method_33_code 60 = .ok (.invokespecial 129, 3) := by decide +kernel
theorem d_Cd_usable_63 : decode prog_1_method_33_code 63 = .ok (.athrow, 1) := by decide +kernel
theorem d_Cd_usable_64 : decode prog_1_method_33_code 64 = .ok (.aload 4, 2) := by decide +kernel
theorem d_Cd_usable_66 : decode prog_1_method_33_code 66 = .ok (.areturn, 1) := by decide +kernel
theorem d_Cd_targetField_0 : decode prog_1_method_34_code 0 = .ok (.aload_n 0, 1) := by decide +kernel
theorem d_Cd_targetField_1 : decode prog_1_method_34_code 1 = .ok (.getfield 130, 3) := by decide +kernel
theorem d_Cd_targetField_4 : decode prog_1_method_34_code 4 = .ok (.aload_n 0, 1) := by decide +kernel
theorem d_Cd_targetField_5 : decode prog_1_method_34_code 5 = .ok (.getfield 134, 3) := by decide +kernel
theorem d_Cd_targetField_8 : decode prog_1_method_34_code 8 = .ok (.iload_n 1, 1) := by decide +kernel
theorem d_Cd_targetField_9 : decode prog_1_method_34_code 9 = .ok (.invokestatic 56, 3) := by decide +kernel
theorem d_Cd_targetField_12 : decode prog_1_method_34_code 12 = .ok (.areturn, 1) := by decide +kernel
theorem d_Cd_putNew_0 : decode prog_1_method_35_code 0 = .ok (.aload_n 0, 1) := by decide +kernel
theorem d_Cd_putNew_1 : decode prog_1_method_35_code 1 = .ok (.getfield 17, 3) := by decide +kernel
theorem d_Cd_putNew_4 : decode prog_1_method_35_code 4 = .ok (.aload_n 0, 1) := by decide +kernel
theorem d_Cd_putNew_5 : decode prog_1_method_35_code 5 = .ok (.getfield 233, 3) := by decide +kernel
theorem d_Cd_putNew_8 : decode prog_1_method_35_code 8 = .ok (.aload_n 1, 1) := by decide +kernel
theorem d_Cd_putNew_9 : decode prog_1_method_35_code 9 = .ok (.aastore, 1) := by decide +kernel
theorem d_Cd_putNew_10 : decode prog_1_method_35_code 10 = .ok (.aload_n 0, 1) := by decide +kernel
theorem d_Cd_putNew_11 : decode prog_1_method_35_code 11 = .ok (.dup, 1) := by decide +kernel
theorem d_Cd_putNew_12 : decode prog_1_method_35_code 12 = .ok (.getfield 233, 3) := by decide +kernel
theorem d_Cd_putNew_15 : decode prog_1_method_35_code 15 = .ok (.iconst 1, 1) := by decide +kernel
theorem d_Cd_putNew_16 : decode prog_1_method_35_code 16 = .ok (.iadd, 1) := by decide +kernel
theorem d_Cd_putNew_17 : decode prog_1_method_35_code 17 = .ok (.putfield 233, 3) := by decide +kernel
theorem d_Cd_putNew_20 : decode prog_1_method_35_code 20 = .ok (.aload_n 2, 1) := by decide +kernel
theorem d_Cd_putNew_21 : decode prog_1_method_35_code 21 = .ok (.getfield 227, 3) := by decide +kernel
theorem d_Cd_putNew_24 : decode prog_1_method_35_code 24 = .ok (.iload_n 3, 1) := by decide +kernel
theorem d_Cd_putNew_25 : decode prog_1_method_35_code 25 = .ok (.aload_n 1, 1) := by decide +kernel
theorem d_Cd_putNew_26 : decode prog_1_method_35_code 26 = .ok (.aastore, 1) := by decide +kernel
theorem d_Cd_putNew_27 : decode prog_1_method_35_code 27 = .ok (.aload_n 0, 1) := by decide +kernel
theorem d_Cd_putNew_28 : decode prog_1_method_35_code 28 = .ok (.getfield 233, 3) := by decide +kernel
theorem d_Cd_putNew_31 : decode prog_1_method_35_code 31 = .ok (.ireturn, 1) := by decide +kernel
theorem d_Cd_spreadDeath_0 : decode prog_1_method_36_code 0 = .ok (.iconst 0, 1) := by decide +kernel
theorem d_Cd_spreadDeath_1 : decode prog_1_method_36_code 1 = .ok (.istore_n 1, 1) := by decide +kernel
theorem d_Cd_spreadDeath_2 : decode prog_1_method_36_code 2 = .ok (.iconst 0, 1) := by decide +kernel
theorem d_Cd_spreadDeath_3 : decode prog_1_method_36_code 3 = .ok (.istore_n 2, 1) := by decide +kernel
theorem d_Cd_spreadDeath_4 : decode prog_1_method_36_code 4 = .ok (.iload_n 2, 1) := by decide +kernel
theorem d_Cd_spreadDeath_5 : decode prog_1_method_36_code 5 = .ok (.aload_n 0, 1) := by decide +kernel
theorem d_Cd_spreadDeath_6 : decode prog_1_method_36_code 6 = .ok (.getfield 233, 3) := by decide +kernel
theorem d_Cd_spreadDeath_9 : decode prog_1_method_36_code 9 = .ok (.if_icmp .ge 38, 3) := by decide +kernel
theorem d_Cd_spreadDeath_12 : decode prog_1_method_36_code 12 = .ok (.aload_n 0, 1) := by decide +kernel
theorem d_Cd_spreadDeath_13 : decode prog_1_method_36_code 13 = .ok (.getfield 17, 3) := by decide +kernel
theorem d_Cd_spreadDeath_16 : decode prog_1_method_36_code 16 = .ok (.iload_n 2, 1) := by decide +kernel
theorem d_Cd_spreadDeath_17 : decode prog_1_method_36_code 17 = .ok (.aaload, 1) := by decide +kernel
theorem d_Cd_spreadDeath_18 : decode prog_1_method_36_code 18 = .ok (.astore_n 3, 1) := by decide +kernel
theorem d_Cd_spreadDeath_19 : decode prog_1_method_36_code 19 = .ok (.aload_n 3, 1) := by decide +kernel
theorem d_Cd_spreadDeath_20 : decode prog_1_method_36_code 20 = .ok (.getfield 116, 3) := by decide +kernel
theorem d_Cd_spreadDeath_23 : decode prog_1_method_36_code 23 = .ok (.ifCond .ne 18, 3) := by decide +kernel
theorem d_Cd_spreadDeath_26 : decode prog_1_method_36_code 26 = .ok (.aload_n 3, 1) := by decide +kernel
theorem d_Cd_spreadDeath_27 : decode prog_1_method_36_code 27 = .ok (.invokevirtual 266, 3) := by decide +kernel
theorem d_Cd_spreadDeath_30 : decode prog_1_method_36_code 30 = .ok (.ifCond .eq 11, 3) := by decide +kernel
theorem d_Cd_spreadDeath_33 : decode prog_1_method_36_code 33 = .ok (.aload_n 3, 1) := by decide +kernel
theorem d_Cd_spreadDeath_34 : decode prog_1_method_36_code 34 = .ok (.iconst 1, 1) := by decide +kernel
theorem d_Cd_spreadDeath_35 : decode prog_1_method_36_code 35 = .ok (.putfield 116, 3) := by decide +kernel
theorem d_Cd_spreadDeath_38 : decode prog_1_method_36_code 38 = .ok (.iinc 1 1, 3) := by decide +kernel
theorem d_Cd_spreadDeath_41 : decode prog_1_method_36_code 41 = .ok (.iinc 2 1, 3) := by decide +kernel
theorem d_Cd_spreadDeath_44 : decode prog_1_method_36_code 44 = .ok (.goto (-40), 3) := by decide +kernel
theorem d_Cd_spreadDeath_47 : decode prog_1_method_36_code 47 = .ok (.iload_n 1, 1) := by decide +kernel
theorem d_Cd_spreadDeath_48 : decode prog_1_method_36_code 48 = .ok (.ireturn, 1) := by decide +kernel
theorem d_Do_init_0 : decode prog_3_method_1_code 0 = .ok (.aload_n 0, 1) := by decide +kernel
theorem d_Do_init_1 : decode prog_3_method_1_code 1 = .ok (.invokespecial 3, 3) := by decide +kernel
theorem d_Do_init_4 : decode prog_3_method_1_code 4 = .ok (.aload_n 0, 1) := by decide +kernel
theorem d_Do_init_5 : decode prog_3_method_1_code 5 = .ok (.bipush 12, 2) := by decide +kernel
theorem d_Do_init_7 : decode prog_3_method_1_code 7 = .ok (.anewarray 9, 3) := by decide +kernel
theorem d_Do_init_10 : decode prog_3_method_1_code 10 = .ok (.putfield 11, 3) := by decide +kernel
theorem d_Do_init_13 : decode prog_3_method_1_code 13 = .ok (.iconst 0, 1) := by decide +kernel
theorem d_Do_init_14 : decode prog_3_method_1_code 14 = .ok (.istore_n 1, 1) := by decide +kernel
theorem d_Do_init_15 : decode prog_3_method_1_code 15 = .ok (.iload_n 1, 1) := by decide +kernel
theorem d_Do_init_16 : decode prog_3_method_1_code 16 = .ok (.bipush 12, 2) := by decide +kernel
theorem d_Do_init_18 : decode prog_3_method_1_code 18 = .ok (.if_icmp .ge 22, 3) := by decide +kernel
theorem d_Do_init_21 : decode prog_3_method_1_code 21 = .ok (.aload_n 0, 1) := by decide +kernel
theorem d_Do_init_22 : decode prog_3_method_1_code 22 = .ok (.getfield 11, 3) := by decide +kernel
theorem d_Do_init_25 : decode prog_3_method_1_code 25 = .ok (.iload_n 1, 1) := by decide +kernel
theorem d_Do_init_26 : decode prog_3_method_1_code 26 = .ok (.new 9, 3) := by decide +kernel
theorem d_Do_init_29 : decode prog_3_method_1_code 29 = .ok (.dup, 1) := by decide +kernel
theorem d_Do_init_30 : decode prog_3_method_1_code 30 = .ok (.invokespecial 17, 3) := by decide +kernel
theorem d_Do_init_33 : decode prog_3_method_1_code 33 = .ok (.aastore, 1) := by decide +kernel
theorem d_Do_init_34 : decode prog_3_method_1_code 34 = .ok (.iinc 1 1, 3) := by decide +kernel
theorem d_Do_init_37 : decode prog_3_method_1_code 37 = .ok (.goto (-22), 3) := by decide +kernel
theorem d_Do_init_40 : decode prog_3_method_1_code 40 = .ok (.aload_n 0, 1) := by decide +kernel
theorem d_Do_init_41 : decode prog_3_method_1_code 41 = .ok (.bipush 8, 2) := by decide +kernel
theorem d_Do_init_43 : decode prog_3_method_1_code 43 = .ok (.anewarray 18, 3) := by decide +kernel
theorem d_Do_init_46 : decode prog_3_method_1_code 46 = .ok (.putfield 20, 3) := by decide +kernel
theorem d_Do_init_49 : decode prog_3_method_1_code 49 = .ok (.return_, 1) := by decide +kernel
theorem d_Do_hasObject_0 : decode prog_3_method_2_code 0 = .ok (.iload_n 1, 1) := by decide +kernel
theorem d_Do_hasObject_1 : decode prog_3_method_2_code 1 = .ok (.ifCond .lt 25, 3) := by decide +kernel
theorem d_Do_hasObject_4 : decode prog_3_method_2_code 4 = .ok (.iload_n 1, 1) := by decide +kernel
theorem d_Do_hasObject_5 : decode prog_3_method_2_code 5 = .ok (.bipush 12, 2) := by decide +kernel
theorem d_Do_hasObject_7 : decode prog_3_method_2_code 7 = .ok (.if_icmp .ge 19, 3) := by decide +kernel
theorem d_Do_hasObject_10 : decode prog_3_method_2_code 10 = .ok (.aload_n 0, 1) := by decide +kernel
theorem d_Do_hasObject_11 : decode prog_3_method_2_code 11 = .ok (.getfield 11, 3) := by decide +kernel
theorem d_Do_hasObject_14 : decode prog_3_method_2_code 14 = .ok (.iload_n 1, 1) := by decide +kernel
theorem d_Do_hasObject_15 : decode prog_3_method_2_code 15 = .ok (.aaload, 1) := by decide +kernel
theorem d_Do_hasObject_16 : decode prog_3_method_2_code 16 = .ok (.getfield 24, 3) := by decide +kernel
theorem d_Do_hasObject_19 : decode prog_3_method_2_code 19 = .ok (.ifCond .eq 7, 3) := by decide +kernel
theorem d_Do_hasObject_22 : decode prog_3_method_2_code 22 = .ok (.iconst 1, 1) := by decide +kernel
theorem d_Do_hasObject_23 : decode prog_3_method_2_code 23 = .ok (.goto 4, 3) := by decide +kernel
theorem d_Do_hasObject_26 : decode prog_3_method_2_code 26 = .ok (.iconst 0, 1) := by decide +kernel
theorem d_Do_hasObject_27 : decode prog_3_method_2_code 27 = .ok (.ireturn, 1) := by decide +kernel
theorem d_Do_objectCount_0 : decode prog_3_method_3_code 0 = .ok (.iconst 0, 1) := by decide +kernel
theorem d_Do_objectCount_1 : decode prog_3_method_3_code 1 = .ok (.istore_n 1, 1) := by decide +kernel
theorem d_Do_objectCount_2 : decode prog_3_method_3_code 2 = .ok (.iconst 0, 1) := by decide +kernel
theorem d_Do_objectCount_3 : decode prog_3_method_3_code 3 = .ok (.istore_n 2, 1) := by decide +kernel
theorem d_Do_objectCount_4 : decode prog_3_method_3_code 4 = .ok (.iload_n 2, 1) := by decide +kernel
theorem d_Do_objectCount_5 : decode prog_3_method_3_code 5 = .ok (.bipush 12, 2) := by decide +kernel
theorem d_Do_objectCount_7 : decode prog_3_method_3_code 7 = .ok (.if_icmp .ge 24, 3) := by decide +kernel
theorem d_Do_objectCount_10 : decode prog_3_method_3_code 10 = .ok (.aload_n 0, 1) := by decide +kernel
theorem d_Do_objectCount_11 : decode prog_3_method_3_code 11 = .ok (.getfield 11, 3) := by decide +kernel
theorem d_Do_objectCount_14 : decode prog_3_method_3_code 14 = .ok (.iload_n 2, 1) := by decide +kernel
theorem d_Do_objectCount_15 : decode prog_3_method_3_code 15 = .ok (.aaload, 1) := by decide +kernel
theorem d_Do_objectCount_16 : decode prog_3_method_3_code 16 = .ok (.getfield 24, 3) := by decide +kernel
theorem d_Do_objectCount_19 : decode prog_3_method_3_code 19 = .ok (.ifCond .eq 6, 3) := by decide +kernel
theorem d_Do_objectCount_22 : decode prog_3_method_3_code 22 = .ok (.iinc 1 1, 3) := by decide +kernel
theorem d_Do_objectCount_25 : decode prog_3_method_3_code 25 = .ok (.iinc 2 1, 3) := by decide +kernel
theorem d_Do_objectCount_28 : decode prog_3_method_3_code 28 = .ok (.goto (-24), 3) := by decide +kernel
theorem d_Do_objectCount_31 : decode prog_3_method_3_code 31 = .ok (.iload_n 1, 1) := by decide +kernel
theorem d_Do_objectCount_32 : decode prog_3_method_3_code 32 = .ok (.ireturn, 1) := by decide +kernel
theorem d_Do_makeObject_0 : decode prog_3_method_4_code 0 = .ok (.iconst 0, 1) := by decide +kernel
theorem d_Do_makeObject_1 : decode prog_3_method_4_code 1 = .ok (.istore_n 1, 1) := by decide +kernel
theorem d_Do_makeObject_2 : decode prog_3_method_4_code 2 = .ok (.iload_n 1, 1) := by decide +kernel
theorem d_Do_makeObject_3 : decode prog_3_method_4_code 3 = .ok (.bipush 12, 2) := by decide +kernel
theorem d_Do_makeObject_5 : decode prog_3_method_4_code 5 = .ok (.if_icmp .ge 32, 3) := by decide +kernel
theorem d_Do_makeObject_8 : decode prog_3_method_4_code 8 = .ok (.aload_n 0, 1) := by decide +kernel
theorem d_Do_makeObject_9 : decode prog_3_method_4_code 9 = .ok (.getfield 11, 3) := by decide +kernel
theorem d_Do_makeObject_12 : decode prog_3_method_4_code 12 = .ok (.iload_n 1, 1) := by decide +kernel
theorem d_Do_makeObject_13 : decode prog_3_method_4_code 13 = .ok (.aaload, 1) := by decide +kernel
theorem d_Do_makeObject_14 : decode prog_3_method_4_code 14 = .ok (.getfield 24, 3) := by decide +kernel
theorem d_Do_makeObject_17 : decode prog_3_method_4_code 17 = .ok (.ifCond .ne 14, 3) := by decide +kernel
theorem d_Do_makeObject_20 : decode prog_3_method_4_code 20 = .ok (.aload_n 0, 1) := by decide +kernel
theorem d_Do_makeObject_21 : decode prog_3_method_4_code 21 = .ok (.getfield 11, 3) := by decide +kernel
theorem d_Do_makeObject_24 : decode prog_3_method_4_code 24 = .ok (.iload_n 1, 1) := by decide +kernel
theorem d_Do_makeObject_25 : decode prog_3_method_4_code 25 = .ok (.aaload, 1) := by decide +kernel
theorem d_Do_makeObject_26 : decode prog_3_method_4_code 26 = .ok (.invokevirtual 28, 3) := by decide +kernel
theorem d_Do_makeObject_29 : decode prog_3_method_4_code 29 = .ok (.iload_n 1, 1) := by decide +kernel
theorem d_Do_makeObject_30 : decode prog_3_method_4_code 30 = .ok (.ireturn, 1) := by decide +kernel
theorem d_Do_makeObject_31 : decode prog_3_method_4_code 31 = .ok (.iinc 1 1, 3) := by decide +kernel
theorem d_Do_makeObject_34 : decode prog_3_method_4_code 34 = .ok (.goto (-32), 3) := by decide +kernel
theorem d_Do_makeObject_37 : decode prog_3_method_4_code 37 = .ok (.iconst (-1), 1) := by decide +kernel
theorem d_Do_makeObject_38 : decode prog_3_method_4_code 38 = .ok (.ireturn, 1) := by decide +kernel
theorem d_Do_removeObject_0 : decode prog_3_method_5_code 0 = .ok (.aload_n 0, 1) := by decide +kernel
theorem d_Do_removeObject_1 : decode prog_3_method_5_code 1 = .ok (.getfield 11, 3) := by decide +kernel
theorem d_Do_removeObject_4 : decode prog_3_method_5_code 4 = .ok (.iload_n 1, 1) := by decide +kernel
theorem d_Do_removeObject_5 : decode prog_3_method_5_code 5 = .ok (.aaload, 1) := by decide +kernel
theorem d_Do_removeObject_6 : decode prog_3_method_5_code 6 = .ok (.iconst 0, 1) := by decide +kernel
theorem d_Do_removeObject_7 : decode prog_3_method_5_code 7 = .ok (.putfield 24, 3) := by decide +kernel
theorem d_Do_removeObject_10 : decode prog_3_method_5_code 10 = .ok (.iconst 0, 1) := by decide +kernel
theorem d_Do_removeObject_11 : decode prog_3_method_5_code 11 = .ok (.istore_n 2, 1) := by decide +kernel
theorem d_Do_removeObject_12 : decode prog_3_method_5_code 12 = .ok (.iconst 0, 1) := by decide +kernel
theorem d_Do_removeObject_13 : decode prog_3_method_5_code 13 = .ok (.istore_n 3, 1) := by decide +kernel
theorem d_Do_removeObject_14 : decode prog_3_method_5_code 14 = .ok (.iload_n 3, 1) := by decide +kernel
theorem d_Do_removeObject_15 : decode prog_3_method_5_code 15 = .ok (.bipush 12, 2) := by decide +kernel
theorem d_Do_removeObject_17 : decode prog_3_method_5_code 17 = .ok (.if_icmp .ge 34, 3) := by decide +kernel
theorem d_Do_removeObject_20 : decode prog_3_method_5_code 20 = .ok (.aload_n 0, 1) := by decide +kernel
theorem d_Do_removeObject_21 : decode prog_3_method_5_code 21 = .ok (.getfield 11, 3) := by decide +kernel
theorem d_Do_removeObject_24 : decode prog_3_method_5_code 24 = .ok (.iload_n 3, 1) := by decide +kernel
theorem d_Do_removeObject_25 : decode prog_3_method_5_code 25 = .ok (.aaload, 1) := by decide +kernel
theorem d_Do_removeObject_26 : decode prog_3_method_5_code 26 = .ok (.getfield 24, 3) := by decide +kernel
theorem d_Do_removeObject_29 : decode prog_3_method_5_code 29 = .ok (.ifCond .eq 16, 3) := by decide +kernel
theorem d_Do_removeObject_32 : decode prog_3_method_5_code 32 = .ok (.iload_n 2, 1) := by decide +kernel
theorem d_Do_removeObject_33 : decode prog_3_method_5_code 33 = .ok (.aload_n 0, 1) := by decide +kernel
theorem d_Do_removeObject_34 : decode prog_3_method_5_code 34 = .ok (.getfield 11, 3) := by decide +kernel
theorem d_Do_removeObject_37 : decode prog_3_method_5_code 37 = .ok (.iload_n 3, 1) := by decide +kernel
theorem d_Do_removeObject_38 : decode prog_3_method_5_code 38 = .ok (.aaload, 1) := by decide +kernel
theorem d_Do_removeObject_39 : decode prog_3_method_5_code 39 = .ok (.iload_n 1, 1) := by decide +kernel
theorem d_Do_removeObject_40 : decode prog_3_method_5_code 40 = .ok (.invokevirtual 31, 3) := by decide +kernel
theorem d_Do_removeObject_43 : decode prog_3_method_5_code 43 = .ok (.iadd, 1) := by decide +kernel
theorem d_Do_removeObject_44 : decode prog_3_method_5_code 44 = .ok (.istore_n 2, 1) := by decide +kernel
theorem d_Do_removeObject_45 : decode prog_3_method_5_code 45 = .ok (.iinc 3 1, 3) := by decide +kernel
theorem d_Do_removeObject_48 : decode prog_3_method_5_code 48 = .ok (.goto (-34), 3) := by decide +kernel
theorem d_Do_removeObject_51 : decode prog_3_method_5_code 51 = .ok (.iload_n 2, 1) := by decide +kernel
theorem d_Do_removeObject_52 : decode prog_3_method_5_code 52 = .ok (.ireturn, 1) := by decide +kernel
theorem d_Do_replaceSlot_0 : decode prog_3_method_6_code 0 = .ok (.aload_n 0, 1) := by decide +kernel
theorem d_Do_replaceSlot_1 : decode prog_3_method_6_code 1 = .ok (.getfield 20, 3) := by decide +kernel
theorem d_Do_replaceSlot_4 : decode prog_3_method_6_code 4 = .ok (.iload_n 1, 1) := by decide +kernel
theorem d_Do_replaceSlot_5 : decode prog_3_method_6_code 5 = .ok (.aaload, 1) := by decide +kernel
theorem d_Do_replaceSlot_6 : decode prog_3_method_6_code 6 = .ok (.ifnonnull 7, 3) := by decide +kernel
theorem d_Do_replaceSlot_9 : decode prog_3_method_6_code 9 = .ok (.iconst 0, 1) := by decide +kernel
theorem d_Do_replaceSlot_10 : decode prog_3_method_6_code 10 = .ok (.goto 4, 3) := by decide +kernel
theorem d_Do_replaceSlot_13 : decode prog_3_method_6_code 13 = .ok (.iconst 1, 1) := by decide +kernel
theorem d_Do_replaceSlot_14 : decode prog_3_method_6_code 14 = .ok (.istore_n 3, 1) := by decide +kernel
theorem d_Do_replaceSlot_15 : decode prog_3_method_6_code 15 = .ok (.aload_n 0, 1) := by decide +kernel
theorem d_Do_replaceSlot_16 : decode prog_3_method_6_code 16 = .ok (.getfield 20, 3) := by decide +kernel
theorem d_Do_replaceSlot_19 : decode prog_3_method_6_code 19 = .ok (.iload_n 1, 1) := by decide +kernel
theorem d_Do_replaceSlot_20 : decode prog_3_method_6_code 20 = .ok (.aload_n 2, 1) := by decide +kernel
theorem d_Do_replaceSlot_21 : decode prog_3_method_6_code 21 = .ok (.aastore, 1) := by decide +kernel
theorem d_Do_replaceSlot_22 : decode prog_3_method_6_code 22 = .ok (.iload_n 3, 1) := by decide +kernel
theorem d_Do_replaceSlot_23 : decode prog_3_method_6_code 23 = .ok (.ireturn, 1) := by decide +kernel
theorem d_Do_finish_0 : decode prog_3_method_7_code 0 = .ok (.aload_n 0, 1) := by decide +kernel
theorem d_Do_finish_1 : decode prog_3_method_7_code 1 = .ok (.iconst 1, 1) := by decide +kernel
theorem d_Do_finish_2 : decode prog_3_method_7_code 2 = .ok (.putfield 35, 3) := by decide +kernel
theorem d_Do_finish_5 : decode prog_3_method_7_code 5 = .ok (.iconst 0, 1) := by decide +kernel
theorem d_Do_finish_6 : decode prog_3_method_7_code 6 = .ok (.istore_n 1, 1) := by decide +kernel
theorem d_Do_finish_7 : decode prog_3_method_7_code 7 = .ok (.iload_n 1, 1) := by decide +kernel
theorem d_Do_finish_8 : decode prog_3_method_7_code 8 = .ok (.bipush 12, 2) := by decide +kernel
theorem d_Do_finish_10 : decode prog_3_method_7_code 10 = .ok (.if_icmp .ge 19, 3) := by decide +kernel
theorem d_Do_finish_13 : decode prog_3_method_7_code 13 = .ok (.aload_n 0, 1) := by decide +kernel
theorem d_Do_finish_14 : decode prog_3_method_7_code 14 = .ok (.getfield 11, 3) := by decide +kernel
theorem d_Do_finish_17 : decode prog_3_method_7_code 17 = .ok (.iload_n 1, 1) := by decide +kernel
theorem d_Do_finish_18 : decode prog_3_method_7_code 18 = .ok (.aaload, 1) := by decide +kernel
theorem d_Do_finish_19 : decode prog_3_method_7_code 19 = .ok (.iconst 0, 1) := by decide +kernel
theorem d_Do_finish_20 : decode prog_3_method_7_code 20 = .ok (.putfield 24, 3) := by decide +kernel
theorem d_Do_finish_23 : decode prog_3_method_7_code 23 = .ok (.iinc 1 1, 3) := by decide +kernel
theorem d_Do_finish_26 : decode prog_3_method_7_code 26 = .ok (.goto (-19), 3) := by decide +kernel
theorem d_Do_finish_29 : decode prog_3_method_7_code 29 = .ok (.iconst 0, 1) := by decide +kernel
theorem d_Do_finish_30 : decode prog_3_method_7_code 30 = .ok (.istore_n 1, 1) := by decide +kernel
theorem d_Do_finish_31 : decode prog_3_method_7_code 31 = .ok (.iload_n 1, 1) := by decide +kernel
theorem d_Do_finish_32 : decode prog_3_method_7_code 32 = .ok (.bipush 8, 2) := by decide +kernel
theorem d_Do_finish_34 : decode prog_3_method_7_code 34 = .ok (.if_icmp .ge 16, 3) := by decide +kernel
theorem d_Do_finish_37 : decode prog_3_method_7_code 37 = .ok (.aload_n 0, 1) := by decide +kernel
theorem d_Do_finish_38 : decode prog_3_method_7_code 38 = .ok (.getfield 20, 3) := by decide +kernel
theorem d_Do_finish_41 : decode prog_3_method_7_code 41 = .ok (.iload_n 1, 1) := by decide +kernel
theorem d_Do_finish_42 : decode prog_3_method_7_code 42 = .ok (.aconst_null, 1) := by decide +kernel
theorem d_Do_finish_43 : decode prog_3_method_7_code 43 = .ok (.aastore, 1) := by decide +kernel
theorem d_Do_finish_44 : decode prog_3_method_7_code 44 = .ok (.iinc 1 1, 3) := by decide +kernel
theorem d_Do_finish_47 : decode prog_3_method_7_code 47 = .ok (.goto (-16), 3) := by decide +kernel
theorem d_Do_finish_50 : decode prog_3_method_7_code 50 = .ok (.return_, 1) := by decide +kernel
theorem d_Ob_init_0 : decode prog_4_method_1_code 0 = .ok (.aload_n 0, 1) := by decide +kernel
theorem d_Ob_init_1 : decode prog_4_method_1_code 1 = .ok (.invokespecial 3, 3) := by decide +kernel
theorem d_Ob_init_4 : decode prog_4_method_1_code 4 = .ok (.aload_n 0, 1) := by decide +kernel
theorem d_Ob_init_5 : decode prog_4_method_1_code 5 = .ok (.iconst 3, 1) := by decide +kernel
theorem d_Ob_init_6 : decode prog_4_method_1_code 6 = .ok (.anewarray 9, 3) := by decide +kernel
theorem d_Ob_init_9 : decode prog_4_method_1_code 9 = .ok (.putfield 11, 3) := by decide +kernel
theorem d_Ob_init_12 : decode prog_4_method_1_code 12 = .ok (.iconst 0, 1) := by decide +kernel
theorem d_Ob_init_13 : decode prog_4_method_1_code 13 = .ok (.istore_n 1, 1) := by decide +kernel
theorem d_Ob_init_14 : decode prog_4_method_1_code 14 = .ok (.iload_n 1, 1) := by decide +kernel
theorem d_Ob_init_15 : decode prog_4_method_1_code 15 = .ok (.iconst 3, 1) := by decide +kernel
theorem d_Ob_init_16 : decode prog_4_method_1_code 16 = .ok (.if_icmp .ge 22, 3) := by decide +kernel
theorem d_Ob_init_19 : decode prog_4_method_1_code 19 = .ok (.aload_n 0, 1) := by decide +kernel
theorem d_Ob_init_20 : decode prog_4_method_1_code 20 = .ok (.getfield 11, 3) := by decide +kernel
theorem d_Ob_init_23 : decode prog_4_method_1_code 23 = .ok (.iload_n 1, 1) := by decide +kernel
theorem d_Ob_init_24 : decode prog_4_method_1_code 24 = .ok (.new 9, 3) := by decide +kernel
theorem d_Ob_init_27 : decode prog_4_method_1_code 27 = .ok (.dup, 1) := by decide +kernel
theorem d_Ob_init_28 : decode prog_4_method_1_code 28 = .ok (.invokespecial 17, 3) := by decide +kernel
theorem d_Ob_init_31 : decode prog_4_method_1_code 31 = .ok (.aastore, 1) := by decide +kernel
theorem d_Ob_init_32 : decode prog_4_method_1_code 32 = .ok (.iinc 1 1, 3) := by decide +kernel
theorem d_Ob_init_35 : decode prog_4_method_1_code 35 = .ok (.goto (-21), 3) := by decide +kernel
theorem d_Ob_init_38 : decode prog_4_method_1_code 38 = .ok (.return_, 1) := by decide +kernel
theorem d_Ob_begin_0 : decode prog_4_method_2_code 0 = .ok (.aload_n 0, 1) := by decide +kernel
theorem d_Ob_begin_1 : decode prog_4_method_2_code 1 = .ok (.iconst 1, 1) := by decide +kernel
theorem d_Ob_begin_2 : decode prog_4_method_2_code 2 = .ok (.putfield 18, 3) := by decide +kernel
theorem d_Ob_begin_5 : decode prog_4_method_2_code 5 = .ok (.iconst 0, 1) := by decide +kernel
theorem d_Ob_begin_6 : decode prog_4_method_2_code 6 = .ok (.istore_n 1, 1) := by decide +kernel
theorem d_Ob_begin_7 : decode prog_4_method_2_code 7 = .ok (.iload_n 1, 1) := by decide +kernel
theorem d_Ob_begin_8 : decode prog_4_method_2_code 8 = .ok (.iconst 3, 1) := by decide +kernel
theorem d_Ob_begin_9 : decode prog_4_method_2_code 9 = .ok (.if_icmp .ge 19, 3) := by decide +kernel
theorem d_Ob_begin_12 : decode prog_4_method_2_code 12 = .ok (.aload_n 0, 1) := by decide +kernel
theorem d_Ob_begin_13 : decode prog_4_method_2_code 13 = .ok (.getfield 11, 3) := by decide +kernel
theorem d_Ob_begin_16 : decode prog_4_method_2_code 16 = .ok (.iload_n 1, 1) := by decide +kernel
theorem d_Ob_begin_17 : decode prog_4_method_2_code 17 = .ok (.aaload, 1) := by decide +kernel
theorem d_Ob_begin_18 : decode prog_4_method_2_code 18 = .ok (.iconst 0, 1) := by decide +kernel
theorem d_Ob_begin_19 : decode prog_4_method_2_code 19 = .ok (.invokevirtual 22, 3) := by decide +kernel
theorem d_Ob_begin_22 : decode prog_4_method_2_code 22 = .ok (.iinc 1 1, 3) := by decide +kernel
theorem d_Ob_begin_25 : decode prog_4_method_2_code 25 = .ok (.goto (-18), 3) := by decide +kernel
theorem d_Ob_begin_28 : decode prog_4_method_2_code 28 = .ok (.return_, 1) := by decide +kernel
theorem d_Ob_unlink_0 : decode prog_4_method_3_code 0 = .ok (.iconst 0, 1) := by decide +kernel
theorem d_Ob_unlink_1 : decode prog_4_method_3_code 1 = .ok (.istore_n 2, 1) := by decide +kernel
theorem d_Ob_unlink_2 : decode prog_4_method_3_code 2 = .ok (.iconst 0, 1) := by decide +kernel
theorem d_Ob_unlink_3 : decode prog_4_method_3_code 3 = .ok (.istore_n 3, 1) := by decide +kernel
theorem d_Ob_unlink_4 : decode prog_4_method_3_code 4 = .ok (.iload_n 3, 1) := by decide +kernel
theorem d_Ob_unlink_5 : decode prog_4_method_3_code 5 = .ok (.iconst 3, 1) := by decide +kernel
theorem d_Ob_unlink_6 : decode prog_4_method_3_code 6 = .ok (.if_icmp .ge 35, 3) := by decide +kernel
theorem d_Ob_unlink_9 : decode prog_4_method_3_code 9 = .ok (.aload_n 0, 1) := by decide +kernel
theorem d_Ob_unlink_10 : decode prog_4_method_3_code 10 = .ok (.getfield 11, 3) := by decide +kernel
theorem d_Ob_unlink_13 : decode prog_4_method_3_code 13 = .ok (.iload_n 3, 1) := by decide +kernel
theorem d_Ob_unlink_14 : decode prog_4_method_3_code 14 = .ok (.aaload, 1) := by decide +kernel
theorem d_Ob_unlink_15 : decode prog_4_method_3_code 15 = .ok (.getfield 26, 3) := by decide +kernel
theorem d_Ob_unlink_18 : decode prog_4_method_3_code 18 = .ok (.iload_n 1, 1) := by decide +kernel
theorem d_Ob_unlink_19 : decode prog_4_method_3_code 19 = .ok (.if_icmp .ne 16, 3) := by decide +kernel
theorem d_Ob_unlink_22 : decode prog_4_method_3_code 22 = .ok (.aload_n 0, 1) := by decide +kernel
theorem d_Ob_unlink_23 : decode prog_4_method_3_code 23 = .ok (.getfield 11, 3) := by decide +kernel
theorem d_Ob_unlink_26 : decode prog_4_method_3_code 26 = .ok (.iload_n 3, 1) := by decide +kernel
theorem d_Ob_unlink_27 : decode prog_4_method_3_code 27 = .ok (.aaload, 1) := by decide +kernel
theorem d_Ob_unlink_28 : decode prog_4_method_3_code 28 = .ok (.iconst 0, 1) := by decide +kernel
theorem d_Ob_unlink_29 : decode prog_4_method_3_code 29 = .ok (.invokevirtual 22, 3) := by decide +kernel
theorem d_Ob_unlink_32 : decode prog_4_method_3_code 32 = .ok (.iinc 2 1, 3) := by decide +kernel
theorem d_Ob_unlink_35 : decode prog_4_method_3_code 35 = .ok (.iinc 3 1, 3) := by decide +kernel
theorem d_Ob_unlink_38 : decode prog_4_method_3_code 38 = .ok (.goto (-34), 3) := by decide +kernel
theorem d_Ob_unlink_41 : decode prog_4_method_3_code 41 = .ok (.iload_n 2, 1) := by decide +kernel
theorem d_Ob_unlink_42 : decode prog_4_method_3_code 42 = .ok (.ireturn, 1) := by decide +kernel
theorem d_Fi_init_0 : decode prog_5_method_1_code 0 = .ok (.aload_n 0, 1) := by decide +kernel
theorem d_Fi_init_1 : decode prog_5_method_1_code 1 = .ok (.invokespecial 3, 3) := by decide +kernel
theorem d_Fi_init_4 : decode prog_5_method_1_code 4 = .ok (.aload_n 0, 1) := by decide +kernel
theorem d_Fi_init_5 : decode prog_5_method_1_code 5 = .ok (.iconst (-1), 1) := by decide +kernel
theorem d_Fi_init_6 : decode prog_5_method_1_code 6 = .ok (.putfield 9, 3) := by decide +kernel
theorem d_Fi_init_9 : decode prog_5_method_1_code 9 = .ok (.return_, 1) := by decide +kernel
theorem d_Fi_isLink_0 : decode prog_5_method_2_code 0 = .ok (.aload_n 0, 1) := by decide +kernel
theorem d_Fi_isLink_1 : decode prog_5_method_2_code 1 = .ok (.getfield 9, 3) := by decide +kernel
theorem d_Fi_isLink_4 : decode prog_5_method_2_code 4 = .ok (.iconst (-1), 1) := by decide +kernel
theorem d_Fi_isLink_5 : decode prog_5_method_2_code 5 = .ok (.if_icmp .eq 7, 3) := by decide +kernel
theorem d_Fi_isLink_8 : decode prog_5_method_2_code 8 = .ok (.iconst 1, 1) := by decide +kernel
theorem d_Fi_isLink_9 : decode prog_5_method_2_code 9 = .ok (.goto 4, 3) := by decide +kernel
theorem d_Fi_isLink_12 : decode prog_5_method_2_code 12 = .ok (.iconst 0, 1) := by decide +kernel
theorem d_Fi_isLink_13 : decode prog_5_method_2_code 13 = .ok (.ireturn, 1) := by decide +kernel
theorem d_Fi_isNumber_0 : decode prog_5_method_3_code 0 = .ok (.aload_n 0, 1) := by decide +kernel
theorem d_Fi_isNumber_1 : decode prog_5_method_3_code 1 = .ok (.getfield 9, 3) := by decide +kernel
theorem d_Fi_isNumber_4 : decode prog_5_method_3_code 4 = .ok (.iconst (-1), 1) := by decide +kernel
theorem d_Fi_isNumber_5 : decode prog_5_method_3_code 5 = .ok (.if_icmp .ne 14, 3) := by decide +kernel
theorem d_Fi_isNumber_8 : decode prog_5_method_3_code 8 = .ok (.aload_n 0, 1) := by decide +kernel
theorem d_Fi_isNumber_9 : decode prog_5_method_3_code 9 = .ok (.getfield 15, 3) := by decide +kernel
theorem d_Fi_isNumber_12 : decode prog_5_method_3_code 12 = .ok (.ifnonnull 7, 3) := by decide +kernel
theorem d_Fi_isNumber_15 : decode prog_5_method_3_code 15 = .ok (.iconst 1, 1) := by decide +kernel
theorem d_Fi_isNumber_16 : decode prog_5_method_3_code 16 = .ok (.goto 4, 3) := by decide +kernel
theorem d_Fi_isNumber_19 : decode prog_5_method_3_code 19 = .ok (.iconst 0, 1) := by decide +kernel
theorem d_Fi_isNumber_20 : decode prog_5_method_3_code 20 = .ok (.ireturn, 1) := by decide +kernel
theorem d_Fi_becomeNumber_0 : decode prog_5_method_4_code 0 = .ok (.aload_n 0, 1) := by decide +kernel
theorem d_Fi_becomeNumber_1 : decode prog_5_method_4_code 1 = .ok (.iload_n 1, 1) := by decide +kernel
theorem d_Fi_becomeNumber_2 : decode prog_5_method_4_code 2 = .ok (.putfield 19, 3) := by decide +kernel
theorem d_Fi_becomeNumber_5 : decode prog_5_method_4_code 5 = .ok (.aload_n 0, 1) := by decide +kernel
theorem d_Fi_becomeNumber_6 : decode prog_5_method_4_code 6 = .ok (.iconst (-1), 1) := by decide +kernel
theorem d_Fi_becomeNumber_7 : decode prog_5_method_4_code 7 = .ok (.putfield 9, 3) := by decide +kernel
theorem d_Fi_becomeNumber_10 : decode prog_5_method_4_code 10 = .ok (.aload_n 0, 1) := by decide +kernel
theorem d_Fi_becomeNumber_11 : decode prog_5_method_4_code 11 = .ok (.aconst_null, 1) := by decide +kernel
theorem d_Fi_becomeNumber_12 : decode prog_5_method_4_code 12 = .ok (.putfield 15, 3) := by decide +kernel
theorem d_Fi_becomeNumber_15 : decode prog_5_method_4_code 15 = .ok (.return_, 1) := by decide +kernel
theorem d_Fi_becomeLink_0 : decode prog_5_method_5_code 0 = .ok (.aload_n 0, 1) := by decide +kernel
theorem d_Fi_becomeLink_1 : decode prog_5_method_5_code 1 = .ok (.iconst 0, 1) := by decide +kernel
theorem d_Fi_becomeLink_2 : decode prog_5_method_5_code 2 = .ok (.putfield 19, 3) := by decide +kernel
theorem d_Fi_becomeLink_5 : decode prog_5_method_5_code 5 = .ok (.aload_n 0, 1) := by decide +kernel
theorem d_Fi_becomeLink_6 : decode prog_5_method_5_code 6 = .ok (.iload_n 1, 1) := by decide +kernel
theorem d_Fi_becomeLink_7 : decode prog_5_method_5_code 7 = .ok (.putfield 9, 3) := by decide +kernel
theorem d_Fi_becomeLink_10 : decode prog_5_method_5_code 10 = .ok (.aload_n 0, 1) := by decide +kernel
theorem d_Fi_becomeLink_11 : decode prog_5_method_5_code 11 = .ok (.aconst_null, 1) := by decide +kernel
theorem d_Fi_becomeLink_12 : decode prog_5_method_5_code 12 = .ok (.putfield 15, 3) := by decide +kernel
theorem d_Fi_becomeLink_15 : decode prog_5_method_5_code 15 = .ok (.return_, 1) := by decide +kernel
theorem d_Fi_becomeCapability_0 : decode prog_5_method_6_code 0 = .ok (.aload_n 0, 1) := by decide +kernel
theorem d_Fi_becomeCapability_1 : decode prog_5_method_6_code 1 = .ok (.iconst 0, 1) := by decide +kernel
theorem d_Fi_becomeCapability_2 : decode prog_5_method_6_code 2 = .ok (.putfield 19, 3) := by decide +kernel
theorem d_Fi_becomeCapability_5 : decode prog_5_method_6_code 5 = .ok (.aload_n 0, 1) := by decide +kernel
theorem d_Fi_becomeCapability_6 : decode prog_5_method_6_code 6 = .ok (.iconst (-1), 1) := by decide +kernel
theorem d_Fi_becomeCapability_7 : decode prog_5_method_6_code 7 = .ok (.putfield 9, 3) := by decide +kernel
theorem d_Fi_becomeCapability_10 : decode prog_5_method_6_code 10 = .ok (.aload_n 0, 1) := by decide +kernel
theorem d_Fi_becomeCapability_11 : decode prog_5_method_6_code 11 = .ok (.aload_n 1, 1) := by decide +kernel
theorem d_Fi_becomeCapability_12 : decode prog_5_method_6_code 12 = .ok (.putfield 15, 3) := by decide +kernel
theorem d_Fi_becomeCapability_15 : decode prog_5_method_6_code 15 = .ok (.return_, 1) := by decide +kernel
theorem d_Ca_init_0 : decode prog_2_method_1_code 0 = .ok (.aload_n 0, 1) := by decide +kernel
theorem d_Ca_init_1 : decode prog_2_method_1_code 1 = .ok (.invokespecial 1, 3) := by decide +kernel
theorem d_Ca_init_4 : decode prog_2_method_1_code 4 = .ok (.aload_n 0, 1) := by decide +kernel
theorem d_Ca_init_5 : decode prog_2_method_1_code 5 = .ok (.aload_n 1, 1) := by decide +kernel
theorem d_Ca_init_6 : decode prog_2_method_1_code 6 = .ok (.putfield 7, 3) := by decide +kernel
theorem d_Ca_init_9 : decode prog_2_method_1_code 9 = .ok (.aload_n 0, 1) := by decide +kernel
theorem d_Ca_init_10 : decode prog_2_method_1_code 10 = .ok (.iload_n 2, 1) := by decide +kernel
theorem d_Ca_init_11 : decode prog_2_method_1_code 11 = .ok (.putfield 13, 3) := by decide +kernel
theorem d_Ca_init_14 : decode prog_2_method_1_code 14 = .ok (.aload_n 0, 1) := by decide +kernel
theorem d_Ca_init_15 : decode prog_2_method_1_code 15 = .ok (.aload_n 3, 1) := by decide +kernel
theorem d_Ca_init_16 : decode prog_2_method_1_code 16 = .ok (.putfield 17, 3) := by decide +kernel
theorem d_Ca_init_19 : decode prog_2_method_1_code 19 = .ok (.aload_n 0, 1) := by decide +kernel
theorem d_Ca_init_20 : decode prog_2_method_1_code 20 = .ok (.iload 4, 2) := by decide +kernel
theorem d_Ca_init_22 : decode prog_2_method_1_code 22 = .ok (.putfield 21, 3) := by decide +kernel
theorem d_Ca_init_25 : decode prog_2_method_1_code 25 = .ok (.aload_n 0, 1) := by decide +kernel
theorem d_Ca_init_26 : decode prog_2_method_1_code 26 = .ok (.iload 5, 2) := by decide +kernel
theorem d_Ca_init_28 : decode prog_2_method_1_code 28 = .ok (.putfield 24, 3) := by decide +kernel
theorem d_Ca_init_31 : decode prog_2_method_1_code 31 = .ok (.return_, 1) := by decide +kernel
theorem d_Ca_allows_0 : decode prog_2_method_2_code 0 = .ok (.iload_n 1, 1) := by decide +kernel
theorem d_Ca_allows_1 : decode prog_2_method_2_code 1 = .ok (.aload_n 0, 1) := by decide +kernel
theorem d_Ca_allows_2 : decode prog_2_method_2_code 2 = .ok (.getfield 21, 3) := by decide +kernel
theorem d_Ca_allows_5 : decode prog_2_method_2_code 5 = .ok (.iconst (-1), 1) := by decide +kernel
theorem d_Ca_allows_6 : decode prog_2_method_2_code 6 = .ok (.ixor, 1) := by decide +kernel
theorem d_Ca_allows_7 : decode prog_2_method_2_code 7 = .ok (.iand, 1) := by decide +kernel
theorem d_Ca_allows_8 : decode prog_2_method_2_code 8 = .ok (.ifCond .ne 7, 3) := by decide +kernel
theorem d_Ca_allows_11 : decode prog_2_method_2_code 11 = .ok (.iconst 1, 1) := by decide +kernel
theorem d_Ca_allows_12 : decode prog_2_method_2_code 12 = .ok (.goto 4, 3) := by decide +kernel
theorem d_Ca_allows_15 : decode prog_2_method_2_code 15 = .ok (.iconst 0, 1) := by decide +kernel
theorem d_Ca_allows_16 : decode prog_2_method_2_code 16 = .ok (.ireturn, 1) := by decide +kernel
theorem d_Ca_mustDie_0 : decode prog_2_method_3_code 0 = .ok (.aload_n 0, 1) := by decide +kernel
theorem d_Ca_mustDie_1 : decode prog_2_method_3_code 1 = .ok (.getfield 27, 3) := by decide +kernel
theorem d_Ca_mustDie_4 : decode prog_2_method_3_code 4 = .ok (.ifCond .ne 44, 3) := by decide +kernel
theorem d_Ca_mustDie_7 : decode prog_2_method_3_code 7 = .ok (.aload_n 0, 1) := by decide +kernel
theorem d_Ca_mustDie_8 : decode prog_2_method_3_code 8 = .ok (.getfield 7, 3) := by decide +kernel
theorem d_Ca_mustDie_11 : decode prog_2_method_3_code 11 = .ok (.getfield 31, 3) := by decide +kernel
theorem d_Ca_mustDie_14 : decode prog_2_method_3_code 14 = .ok (.ifCond .ne 34, 3) := by decide +kernel
theorem d_Ca_mustDie_17 : decode prog_2_method_3_code 17 = .ok (.aload_n 0, 1) := by decide +kernel
theorem d_Ca_mustDie_18 : decode prog_2_method_3_code 18 = .ok (.getfield 7, 3) := by decide +kernel
theorem d_Ca_mustDie_21 : decode prog_2_method_3_code 21 = .ok (.aload_n 0, 1) := by decide +kernel
theorem d_Ca_mustDie_22 : decode prog_2_method_3_code 22 = .ok (.getfield 13, 3) := by decide +kernel
theorem d_Ca_mustDie_25 : decode prog_2_method_3_code 25 = .ok (.invokevirtual 36, 3) := by decide +kernel
theorem d_Ca_mustDie_28 : decode prog_2_method_3_code 28 = .ok (.ifCond .eq 20, 3) := by decide +kernel
theorem d_Ca_mustDie_31 : decode prog_2_method_3_code 31 = .ok (.aload_n 0, 1) := by decide +kernel
theorem d_Ca_mustDie_32 : decode prog_2_method_3_code 32 = .ok (.getfield 17, 3) := by decide +kernel
theorem d_Ca_mustDie_35 : decode prog_2_method_3_code 35 = .ok (.ifnull 17, 3) := by decide +kernel
theorem d_Ca_mustDie_38 : decode prog_2_method_3_code 38 = .ok (.aload_n 0, 1) := by decide +kernel
theorem d_Ca_mustDie_39 : decode prog_2_method_3_code 39 = .ok (.getfield 17, 3) := by decide +kernel
theorem d_Ca_mustDie_42 : decode prog_2_method_3_code 42 = .ok (.getfield 40, 3) := by decide +kernel
theorem d_Ca_mustDie_45 : decode prog_2_method_3_code 45 = .ok (.ifCond .eq 7, 3) := by decide +kernel
theorem d_Ca_mustDie_48 : decode prog_2_method_3_code 48 = .ok (.iconst 1, 1) := by decide +kernel
theorem d_Ca_mustDie_49 : decode prog_2_method_3_code 49 = .ok (.goto 4, 3) := by decide +kernel
theorem d_Ca_mustDie_52 : decode prog_2_method_3_code 52 = .ok (.iconst 0, 1) := by decide +kernel
theorem d_Ca_mustDie_53 : decode prog_2_method_3_code 53 = .ok (.ireturn, 1) := by decide +kernel
theorem d_Ca_isUsedUp_0 : decode prog_2_method_4_code 0 = .ok (.aload_n 0, 1) := by decide +kernel
theorem d_Ca_isUsedUp_1 : decode prog_2_method_4_code 1 = .ok (.astore_n 1, 1) := by decide +kernel
theorem d_Ca_isUsedUp_2 : decode prog_2_method_4_code 2 = .ok (.aload_n 1, 1) := by decide +kernel
theorem d_Ca_isUsedUp_3 : decode prog_2_method_4_code 3 = .ok (.ifnull 20, 3) := by decide +kernel
theorem d_Ca_isUsedUp_6 : decode prog_2_method_4_code 6 = .ok (.aload_n 1, 1) := by decide +kernel
theorem d_Ca_isUsedUp_7 : decode prog_2_method_4_code 7 = .ok (.getfield 24, 3) := by decide +kernel
theorem d_Ca_isUsedUp_10 : decode prog_2_method_4_code 10 = .ok (.ifCond .ne 5, 3) := by decide +kernel
theorem d_Ca_isUsedUp_13 : decode prog_2_method_4_code 13 = .ok (.iconst 1, 1) := by decide +kernel
theorem d_Ca_isUsedUp_14 : decode prog_2_method_4_code 14 = .ok (.ireturn, 1) := by decide +kernel
theorem d_Ca_isUsedUp_15 : decode prog_2_method_4_code 15 = .ok (.aload_n 1, 1) := by decide +kernel
theorem d_Ca_isUsedUp_16 : decode prog_2_method_4_code 16 = .ok (.getfield 17, 3) := by decide +kernel
theorem d_Ca_isUsedUp_19 : decode prog_2_method_4_code 19 = .ok (.astore_n 1, 1) := by decide +kernel
theorem d_Ca_isUsedUp_20 : decode prog_2_method_4_code 20 = .ok (.goto (-18), 3) := by decide +kernel
theorem d_Ca_isUsedUp_23 : decode prog_2_method_4_code 23 = .ok (.iconst 0, 1) := by decide +kernel
theorem d_Ca_isUsedUp_24 : decode prog_2_method_4_code 24 = .ok (.ireturn, 1) := by decide +kernel
theorem d_Ca_spendOneUse_0 : decode prog_2_method_5_code 0 = .ok (.aload_n 0, 1) := by decide +kernel
theorem d_Ca_spendOneUse_1 : decode prog_2_method_5_code 1 = .ok (.astore_n 1, 1) := by decide +kernel
theorem d_Ca_spendOneUse_2 : decode prog_2_method_5_code 2 = .ok (.aload_n 1, 1) := by decide +kernel
theorem d_Ca_spendOneUse_3 : decode prog_2_method_5_code 3 = .ok (.ifnull 28, 3) := by decide +kernel
theorem d_Ca_spendOneUse_6 : decode prog_2_method_5_code 6 = .ok (.aload_n 1, 1) := by decide +kernel
theorem d_Ca_spendOneUse_7 : decode prog_2_method_5_code 7 = .ok (.getfield 24, 3) := by decide +kernel
theorem d_Ca_spendOneUse_10 : decode prog_2_method_5_code 10 = .ok (.ifCond .le 13, 3) := by decide +kernel
theorem d_Ca_spendOneUse_13 : decode prog_2_method_5_code 13 = .ok (.aload_n 1, 1) := by decide +kernel
theorem d_Ca_spendOneUse_14 : decode prog_2_method_5_code 14 = .ok (.dup, 1) := by decide +kernel
theorem d_Ca_spendOneUse_15 : decode prog_2_method_5_code 15 = .ok (.getfield 24, 3) := by decide +kernel
theorem d_Ca_spendOneUse_18 : decode prog_2_method_5_code 18 = .ok (.iconst 1, 1) := by decide +kernel
theorem d_Ca_spendOneUse_19 : decode prog_2_method_5_code 19 = .ok (.isub, 1) := by decide +kernel
theorem d_Ca_spendOneUse_20 : decode prog_2_method_5_code 20 = .ok (.putfield 24, 3) := by decide +kernel
theorem d_Ca_spendOneUse_23 : decode prog_2_method_5_code 23 = .ok (.aload_n 1, 1) := by decide +kernel
theorem d_Ca_spendOneUse_24 : decode prog_2_method_5_code 24 = .ok (.getfield 17, 3) := by decide +kernel
theorem d_Ca_spendOneUse_27 : decode prog_2_method_5_code 27 = .ok (.astore_n 1, 1) := by decide +kernel
theorem d_Ca_spendOneUse_28 : decode prog_2_method_5_code 28 = .ok (.goto (-26), 3) := by decide +kernel
theorem d_Ca_spendOneUse_31 : decode prog_2_method_5_code 31 = .ok (.return_, 1) := by decide +kernel
theorem d_Re_init_0 : decode prog_6_method_1_code 0 = .ok (.aload_n 0, 1) := by decide +kernel
theorem d_Re_init_1 : decode prog_6_method_1_code 1 = .ok (.invokespecial 3, 3) := by decide +kernel
theorem d_Re_init_4 : decode prog_6_method_1_code 4 = .ok (.aload_n 0, 1) := by decide +kernel
theorem d_Re_init_5 : decode prog_6_method_1_code 5 = .ok (.bipush 12, 2) := by decide +kernel
theorem d_Re_init_7 : decode prog_6_method_1_code 7 = .ok (.newarray .int, 2) := by decide +kernel
theorem d_Re_init_9 : decode prog_6_method_1_code 9 = .ok (.putfield 9, 3) := by decide +kernel
theorem d_Re_init_12 : decode prog_6_method_1_code 12 = .ok (.aload_n 0, 1) := by decide +kernel
theorem d_Re_init_13 : decode prog_6_method_1_code 13 = .ok (.bipush 12, 2) := by decide +kernel
theorem d_Re_init_15 : decode prog_6_method_1_code 15 = .ok (.newarray .int, 2) := by decide +kernel
theorem d_Re_init_17 : decode prog_6_method_1_code 17 = .ok (.putfield 15, 3) := by decide +kernel
theorem d_Re_init_20 : decode prog_6_method_1_code 20 = .ok (.aload_n 0, 1) := by decide +kernel
theorem d_Re_init_21 : decode prog_6_method_1_code 21 = .ok (.bipush 12, 2) := by decide +kernel
theorem d_Re_init_23 : decode prog_6_method_1_code 23 = .ok (.newarray .boolean, 2) := by decide +kernel
theorem d_Re_init_25 : decode prog_6_method_1_code 25 = .ok (.putfield 18, 3) := by decide +kernel
theorem d_Re_init_28 : decode prog_6_method_1_code 28 = .ok (.return_, 1) := by decide +kernel
theorem d_Re_start_0 : decode prog_6_method_2_code 0 = .ok (.aload_n 0, 1) := by decide +kernel
theorem d_Re_start_1 : decode prog_6_method_2_code 1 = .ok (.aload_n 1, 1) := by decide +kernel
theorem d_Re_start_2 : decode prog_6_method_2_code 2 = .ok (.putfield 22, 3) := by decide +kernel
theorem d_Re_start_5 : decode prog_6_method_2_code 5 = .ok (.aload_n 0, 1) := by decide +kernel
theorem d_Re_start_6 : decode prog_6_method_2_code 6 = .ok (.iconst 0, 1) := by decide +kernel
theorem d_Re_start_7 : decode prog_6_method_2_code 7 = .ok (.putfield 26, 3) := by decide +kernel
theorem d_Re_start_10 : decode prog_6_method_2_code 10 = .ok (.iconst 0, 1) := by decide +kernel
theorem d_Re_start_11 : decode prog_6_method_2_code 11 = .ok (.istore_n 3, 1) := by decide +kernel
theorem d_Re_start_12 : decode prog_6_method_2_code 12 = .ok (.iload_n 3, 1) := by decide +kernel
theorem d_Re_start_13 : decode prog_6_method_2_code 13 = .ok (.bipush 12, 2) := by decide +kernel
theorem d_Re_start_15 : decode prog_6_method_2_code 15 = .ok (.if_icmp .ge 16, 3) := by decide +kernel
theorem d_Re_start_18 : decode prog_6_method_2_code 18 = .ok (.aload_n 0, 1) := by decide +kernel
theorem d_Re_start_19 : decode prog_6_method_2_code 19 = .ok (.getfield 18, 3) := by decide +kernel
theorem d_Re_start_22 : decode prog_6_method_2_code 22 = .ok (.iload_n 3, 1) := by decide +kernel
theorem d_Re_start_23 : decode prog_6_method_2_code 23 = .ok (.iconst 0, 1) := by decide +kernel
theorem d_Re_start_24 : decode prog_6_method_2_code 24 = .ok (.bastore, 1) := by decide +kernel
theorem d_Re_start_25 : decode prog_6_method_2_code 25 = .ok (.iinc 3 1, 3) := by decide +kernel
theorem d_Re_start_28 : decode prog_6_method_2_code 28 = .ok (.goto (-16), 3) := by decide +kernel
theorem d_Re_start_31 : decode prog_6_method_2_code 31 = .ok (.aload_n 0, 1) := by decide +kernel
theorem d_Re_start_32 : decode prog_6_method_2_code 32 = .ok (.iload_n 2, 1) := by decide +kernel
theorem d_Re_start_33 : decode prog_6_method_2_code 33 = .ok (.iconst 0, 1) := by decide +kernel
theorem d_Re_start_34 : decode prog_6_method_2_code 34 = .ok (.invokevirtual 30, 3) := by decide +kernel
theorem d_Re_start_37 : decode prog_6_method_2_code 37 = .ok (.return_, 1) := by decide +kernel
theorem d_Re_comeTo_0 : decode prog_6_method_3_code 0 = .ok (.iload_n 2, 1) := by decide +kernel
theorem d_Re_comeTo_1 : decode prog_6_method_3_code 1 = .ok (.bipush 12, 2) := by decide +kernel
theorem d_Re_comeTo_3 : decode prog_6_method_3_code 3 = .ok (.if_icmp .ge 23, 3) := by decide +kernel
theorem d_Re_comeTo_6 : decode prog_6_method_3_code 6 = .ok (.aload_n 0, 1) := by decide +kernel
theorem d_Re_comeTo_7 : decode prog_6_method_3_code 7 = .ok (.getfield 22, 3) := by decide +kernel
theorem d_Re_comeTo_10 : decode prog_6_method_3_code 10 = .ok (.iload_n 1, 1) := by decide +kernel
theorem d_Re_comeTo_11 : decode prog_6_method_3_code 11 = .ok (.invokevirtual 34, 3) := by decide +kernel
theorem d_Re_comeTo_14 : decode prog_6_method_3_code 14 = .ok (.ifCond .eq 12, 3) := by decide +kernel
theorem d_Re_comeTo_17 : decode prog_6_method_3_code 17 = .ok (.aload_n 0, 1) := by decide +kernel
theorem d_Re_comeTo_18 : decode prog_6_method_3_code 18 = .ok (.getfield 18, 3) := by decide +kernel
theorem d_Re_comeTo_21 : decode prog_6_method_3_code 21 = .ok (.iload_n 1, 1) := by decide +kernel
theorem d_Re_comeTo_22 : decode prog_6_method_3_code 22 = .ok (.baload, 1) := by decide +kernel
theorem d_Re_comeTo_23 : decode prog_6_method_3_code 23 = .ok (.ifCond .eq 4, 3) := by decide +kernel
theorem d_Re_comeTo_26 : decode prog_6_method_3_code 26 = .ok (.return_, 1) := by decide +kernel
theorem d_Re_comeTo_27 : decode prog_6_method_3_code 27 = .ok (.aload_n 0, 1) := by decide +kernel
theorem d_Re_comeTo_28 : decode prog_6_method_3_code 28 = .ok (.getfield 18, 3) := by decide +kernel
theorem d_Re_comeTo_31 : decode prog_6_method_3_code 31 = .ok (.iload_n 1, 1) := by decide +kernel
theorem d_Re_comeTo_32 : decode prog_6_method_3_code 32 = .ok (.iconst 1, 1) := by decide +kernel
theorem d_Re_comeTo_33 : decode prog_6_method_3_code 33 = .ok (.bastore, 1) := by decide +kernel
theorem d_Re_comeTo_34 : decode prog_6_method_3_code 34 = .ok (.aload_n 0, 1) := by decide +kernel
theorem d_Re_comeTo_35 : decode prog_6_method_3_code 35 = .ok (.getfield 15, 3) := by decide +kernel
theorem d_Re_comeTo_38 : decode prog_6_method_3_code 38 = .ok (.aload_n 0, 1) := by decide +kernel
theorem d_Re_comeTo_39 : decode prog_6_method_3_code 39 = .ok (.getfield 26, 3) := by decide +kernel
theorem d_Re_comeTo_42 : decode prog_6_method_3_code 42 = .ok (.iload_n 1, 1) := by decide +kernel
theorem d_Re_comeTo_43 : decode prog_6_method_3_code 43 = .ok (.iastore, 1) := by decide +kernel
theorem d_Re_comeTo_44 : decode prog_6_method_3_code 44 = .ok (.aload_n 0, 1) := by decide +kernel
theorem d_Re_comeTo_45 : decode prog_6_method_3_code 45 = .ok (.dup, 1) := by decide +kernel
theorem d_Re_comeTo_46 : decode prog_6_method_3_code 46 = .ok (.getfield 26, 3) := by decide +kernel
theorem d_Re_comeTo_49 : decode prog_6_method_3_code 49 = .ok (.iconst 1, 1) := by decide +kernel
theorem d_Re_comeTo_50 : decode prog_6_method_3_code 50 = .ok (.iadd, 1) := by decide +kernel
theorem d_Re_comeTo_51 : decode prog_6_method_3_code 51 = .ok (.putfield 26, 3) := by decide +kernel
theorem d_Re_comeTo_54 : decode prog_6_method_3_code 54 = .ok (.iconst 0, 1) := by decide +kernel
theorem d_Re_comeTo_55 : decode prog_6_method_3_code 55 = .ok (.istore_n 3, 1) := by decide +kernel
theorem d_Re_comeTo_56 : decode prog_6_method_3_code 56 = .ok (.iload_n 3, 1) := by decide +kernel
theorem d_Re_comeTo_57 : decode prog_6_method_3_code 57 = .ok (.iconst 3, 1) := by decide +kernel
theorem d_Re_comeTo_58 : decode prog_6_method_3_code 58 = .ok (.if_icmp .ge 33, 3) := by decide +kernel
theorem d_Re_comeTo_61 : decode prog_6_method_3_code 61 = .ok (.aload_n 0, 1) := by decide +kernel
theorem d_Re_comeTo_62 : decode prog_6_method_3_code 62 = .ok (.aload_n 0, 1) := by decide +kernel
theorem d_Re_comeTo_63 : decode prog_6_method_3_code 63 = .ok (.getfield 22, 3) := by decide +kernel
theorem d_Re_comeTo_66 : decode prog_6_method_3_code 66 = .ok (.getfield 40, 3) := by decide +kernel
theorem d_Re_comeTo_69 : decode prog_6_method_3_code 69 = .ok (.iload_n 1, 1) := by decide +kernel
theorem d_Re_comeTo_70 : decode prog_6_method_3_code 70 = .ok (.aaload, 1) := by decide +kernel
theorem d_Re_comeTo_71 : decode prog_6_method_3_code 71 = .ok (.getfield 44, 3) := by decide +kernel
theorem d_Re_comeTo_74 : decode prog_6_method_3_code 74 = .ok (.iload_n 3, 1) := by decide +kernel
theorem d_Re_comeTo_75 : decode prog_6_method_3_code 75 = .ok (.aaload, 1) := by decide +kernel
theorem d_Re_comeTo_76 : decode prog_6_method_3_code 76 = .ok (.getfield 50, 3) := by decide +kernel
theorem d_Re_comeTo_79 : decode prog_6_method_3_code 79 = .ok (.iload_n 2, 1) := by decide +kernel
theorem d_Re_comeTo_80 : decode prog_6_method_3_code 80 = .ok (.iconst 1, 1) := by decide +kernel
theorem d_Re_comeTo_81 : decode prog_6_method_3_code 81 = .ok (.iadd, 1) := by decide +kernel
theorem d_Re_comeTo_82 : decode prog_6_method_3_code 82 = .ok (.invokevirtual 30, 3) := by decide +kernel
theorem d_Re_comeTo_85 : decode prog_6_method_3_code 85 = .ok (.iinc 3 1, 3) := by decide +kernel
theorem d_Re_comeTo_88 : decode prog_6_method_3_code 88 = .ok (.goto (-32), 3) := by decide +kernel
theorem d_Re_comeTo_91 : decode prog_6_method_3_code 91 = .ok (.return_, 1) := by decide +kernel
theorem d_Re_copyInto_0 : decode prog_6_method_4_code 0 = .ok (.iconst 0, 1) := by decide +kernel
theorem d_Re_copyInto_1 : decode prog_6_method_4_code 1 = .ok (.istore_n 2, 1) := by decide +kernel
theorem d_Re_copyInto_2 : decode prog_6_method_4_code 2 = .ok (.iload_n 2, 1) := by decide +kernel
theorem d_Re_copyInto_3 : decode prog_6_method_4_code 3 = .ok (.aload_n 0, 1) := by decide +kernel
theorem d_Re_copyInto_4 : decode prog_6_method_4_code 4 = .ok (.getfield 26, 3) := by decide +kernel
theorem d_Re_copyInto_7 : decode prog_6_method_4_code 7 = .ok (.if_icmp .ge 24, 3) := by decide +kernel
theorem d_Re_copyInto_10 : decode prog_6_method_4_code 10 = .ok (.aload_n 0, 1) := by decide +kernel
theorem d_Re_copyInto_11 : decode prog_6_method_4_code 11 = .ok (.getfield 9, 3) := by decide +kernel
theorem d_Re_copyInto_14 : decode prog_6_method_4_code 14 = .ok (.aload_n 0, 1) := by decide +kernel
theorem d_Re_copyInto_15 : decode prog_6_method_4_code 15 = .ok (.getfield 15, 3) := by decide +kernel
theorem d_Re_copyInto_18 : decode prog_6_method_4_code 18 = .ok (.iload_n 2, 1) := by decide +kernel
theorem d_Re_copyInto_19 : decode prog_6_method_4_code 19 = .ok (.iaload, 1) := by decide +kernel
theorem d_Re_copyInto_20 : decode prog_6_method_4_code 20 = .ok (.aload_n 1, 1) := by decide +kernel
theorem d_Re_copyInto_21 : decode prog_6_method_4_code 21 = .ok (.invokevirtual 55, 3) := by decide +kernel
theorem d_Re_copyInto_24 : decode prog_6_method_4_code 24 = .ok (.iastore, 1) := by decide +kernel
theorem d_Re_copyInto_25 : decode prog_6_method_4_code 25 = .ok (.iinc 2 1, 3) := by decide +kernel
theorem d_Re_copyInto_28 : decode prog_6_method_4_code 28 = .ok (.goto (-26), 3) := by decide +kernel
theorem d_Re_copyInto_31 : decode prog_6_method_4_code 31 = .ok (.iconst 0, 1) := by decide +kernel
theorem d_Re_copyInto_32 : decode prog_6_method_4_code 32 = .ok (.istore_n 2, 1) := by decide +kernel
theorem d_Re_copyInto_33 : decode prog_6_method_4_code 33 = .ok (.iload_n 2, 1) := by decide +kernel
theorem d_Re_copyInto_34 : decode prog_6_method_4_code 34 = .ok (.aload_n 0, 1) := by decide +kernel
theorem d_Re_copyInto_35 : decode prog_6_method_4_code 35 = .ok (.getfield 26, 3) := by decide +kernel
theorem d_Re_copyInto_38 : decode prog_6_method_4_code 38 = .ok (.if_icmp .ge 43, 3) := by decide +kernel
theorem d_Re_copyInto_41 : decode prog_6_method_4_code 41 = .ok (.aload_n 0, 1) := by decide +kernel
theorem d_Re_copyInto_42 : decode prog_6_method_4_code 42 = .ok (.aload_n 0, 1) := by decide +kernel
theorem d_Re_copyInto_43 : decode prog_6_method_4_code 43 = .ok (.getfield 22, 3) := by decide +kernel
theorem d_Re_copyInto_46 : decode prog_6_method_4_code 46 = .ok (.getfield 40, 3) := by decide +kernel
theorem d_Re_copyInto_49 : decode prog_6_method_4_code 49 = .ok (.aload_n 0, 1) := by decide +kernel
theorem d_Re_copyInto_50 : decode prog_6_method_4_code 50 = .ok (.getfield 15, 3) := by decide +kernel
theorem d_Re_copyInto_53 : decode prog_6_method_4_code 53 = .ok (.iload_n 2, 1) := by decide +kernel
theorem d_Re_copyInto_54 : decode prog_6_method_4_code 54 = .ok (.iaload, 1) := by decide +kernel
theorem d_Re_copyInto_55 : decode prog_6_method_4_code 55 = .ok (.aaload, 1) := by decide +kernel
theorem d_Re_copyInto_56 : decode prog_6_method_4_code 56 = .ok (.aload_n 1, 1) := by decide +kernel
theorem d_Re_copyInto_57 : decode prog_6_method_4_code 57 = .ok (.getfield 40, 3) := by decide +kernel
theorem d_Re_copyInto_60 : decode prog_6_method_4_code 60 = .ok (.aload_n 0, 1) := by decide +kernel
theorem d_Re_copyInto_61 : decode prog_6_method_4_code 61 = .ok (.getfield 9, 3) := by decide +kernel
theorem d_Re_copyInto_64 : decode prog_6_method_4_code 64 = .ok (.aload_n 0, 1) := by decide +kernel
theorem d_Re_copyInto_65 : decode prog_6_method_4_code 65 = .ok (.getfield 15, 3) := by decide +kernel
theorem d_Re_copyInto_68 : decode prog_6_method_4_code 68 = .ok (.iload_n 2, 1) := by decide +kernel
theorem d_Re_copyInto_69 : decode prog_6_method_4_code 69 = .ok (.iaload, 1) := by decide +kernel
theorem d_Re_copyInto_70 : decode prog_6_method_4_code 70 = .ok (.iaload, 1) := by decide +kernel
theorem d_Re_copyInto_71 : decode prog_6_method_4_code 71 = .ok (.aaload, 1) := by decide +kernel
theorem d_Re_copyInto_72 : decode prog_6_method_4_code 72 = .ok (.invokevirtual 59, 3) := by decide +kernel
theorem d_Re_copyInto_75 : decode prog_6_method_4_code 75 = .ok (.iinc 2 1, 3) := by decide +kernel
theorem d_Re_copyInto_78 : decode prog_6_method_4_code 78 = .ok (.goto (-45), 3) := by decide +kernel
theorem d_Re_copyInto_81 : decode prog_6_method_4_code 81 = .ok (.return_, 1) := by decide +kernel
theorem d_Re_copyFields_0 : decode prog_6_method_5_code 0 = .ok (.iconst 0, 1) := by decide +kernel
theorem d_Re_copyFields_1 : decode prog_6_method_5_code 1 = .ok (.istore_n 3, 1) := by decide +kernel
theorem d_Re_copyFields_2 : decode prog_6_method_5_code 2 = .ok (.iload_n 3, 1) := by decide +kernel
theorem d_Re_copyFields_3 : decode prog_6_method_5_code 3 = .ok (.iconst 3, 1) := by decide +kernel
theorem d_Re_copyFields_4 : decode prog_6_method_5_code 4 = .ok (.if_icmp .ge 86, 3) := by decide +kernel
theorem d_Re_copyFields_7 : decode prog_6_method_5_code 7 = .ok (.aload_n 1, 1) := by decide +kernel
theorem d_Re_copyFields_8 : decode prog_6_method_5_code 8 = .ok (.getfield 44, 3) := by decide +kernel
theorem d_Re_copyFields_11 : decode prog_6_method_5_code 11 = .ok (.iload_n 3, 1) := by decide +kernel
theorem d_Re_copyFields_12 : decode prog_6_method_5_code 12 = .ok (.aaload, 1) := by decide +kernel
theorem d_Re_copyFields_13 : decode prog_6_method_5_code 13 = .ok (.astore 4, 2) := by decide +kernel
theorem d_Re_copyFields_15 : decode prog_6_method_5_code 15 = .ok (.aload 4, 2) := by decide +kernel
theorem d_Re_copyFields_17 : decode prog_6_method_5_code 17 = .ok (.invokevirtual 63, 3) := by decide +kernel
theorem d_Re_copyFields_20 : decode prog_6_method_5_code 20 = .ok (.ifCond .eq 25, 3) := by decide +kernel
theorem d_Re_copyFields_23 : decode prog_6_method_5_code 23 = .ok (.aload_n 2, 1) := by decide +kernel
theorem d_Re_copyFields_24 : decode prog_6_method_5_code 24 = .ok (.getfield 44, 3) := by decide +kernel
theorem d_Re_copyFields_27 : decode prog_6_method_5_code 27 = .ok (.iload_n 3, 1) := by decide +kernel
theorem d_Re_copyFields_28 : decode prog_6_method_5_code 28 = .ok (.aaload, 1) := by decide +kernel
theorem d_Re_copyFields_29 : decode prog_6_method_5_code 29 = .ok (.aload_n 0, 1) := by decide +kernel
theorem d_Re_copyFields_30 : decode prog_6_method_5_code 30 = .ok (.getfield 9, 3) := by decide +kernel
theorem d_Re_copyFields_33 : decode prog_6_method_5_code 33 = .ok (.aload 4, 2) := by decide +kernel
theorem d_Re_copyFields_35 : decode prog_6_method_5_code 35 = .ok (.getfield 50, 3) := by decide +kernel
theorem d_Re_copyFields_38 : decode prog_6_method_5_code 38 = .ok (.iaload, 1) := by decide +kernel
theorem d_Re_copyFields_39 : decode prog_6_method_5_code 39 = .ok (.invokevirtual 67, 3) := by decide +kernel
theorem d_Re_copyFields_42 : decode prog_6_method_5_code 42 = .ok (.goto 42, 3) := by decide +kernel
theorem d_Re_copyFields_45 : decode prog_6_method_5_code 45 = .ok (.aload 4, 2) := by decide +kernel
theorem d_Re_copyFields_47 : decode prog_6_method_5_code 47 = .ok (.getfield 71, 3) := by decide +kernel
theorem d_Re_copyFields_50 : decode prog_6_method_5_code 50 = .ok (.ifnull 20, 3) := by decide +kernel
theorem d_Re_copyFields_53 : decode prog_6_method_5_code 53 = .ok (.aload_n 2, 1) := by decide +kernel
theorem d_Re_copyFields_54 : decode prog_6_method_5_code 54 = .ok (.getfield 44, 3) := by decide +kernel
theorem d_Re_copyFields_57 : decode prog_6_method_5_code 57 = .ok (.iload_n 3, 1) := by decide +kernel
theorem d_Re_copyFields_58 : decode prog_6_method_5_code 58 = .ok (.aaload, 1) := by decide +kernel
theorem d_Re_copyFields_59 : decode prog_6_method_5_code 59 = .ok (.aload 4, 2) := by decide +kernel
theorem d_Re_copyFields_61 : decode prog_6_method_5_code 61 = .ok (.getfield 71, 3) := by decide +kernel
theorem d_Re_copyFields_64 : decode prog_6_method_5_code 64 = .ok (.invokevirtual 75, 3) := by decide +kernel
theorem d_Re_copyFields_67 : decode prog_6_method_5_code 67 = .ok (.goto 17, 3) := by decide +kernel
theorem d_Re_copyFields_70 : decode prog_6_method_5_code 70 = .ok (.aload_n 2, 1) := by decide +kernel
theorem d_Re_copyFields_71 : decode prog_6_method_5_code 71 = .ok (.getfield 44, 3) := by decide +kernel
theorem d_Re_copyFields_74 : decode prog_6_method_5_code 74 = .ok (.iload_n 3, 1) := by decide +kernel
theorem d_Re_copyFields_75 : decode prog_6_method_5_code 75 = .ok (.aaload, 1) := by decide +kernel
theorem d_Re_copyFields_76 : decode prog_6_method_5_code 76 = .ok (.aload 4, 2) := by decide +kernel
theorem d_Re_copyFields_78 : decode prog_6_method_5_code 78 = .ok (.getfield 79, 3) := by decide +kernel
theorem d_Re_copyFields_81 : decode prog_6_method_5_code 81 = .ok (.invokevirtual 82, 3) := by decide +kernel
theorem d_Re_copyFields_84 : decode prog_6_method_5_code 84 = .ok (.iinc 3 1, 3) := by decide +kernel
theorem d_Re_copyFields_87 : decode prog_6_method_5_code 87 = .ok (.goto (-85), 3) := by decide +kernel
theorem d_Re_copyFields_90 : decode prog_6_method_5_code 90 = .ok (.return_, 1) := by decide +kernel
