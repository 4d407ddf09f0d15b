theorem d_La_domain_0 : decode method_3_code 0 = .ok (.aload_n 1, 1) := by decide +kernel
theorem d_La_domain_1 : decode method_3_code 1 = .ok (.iconst 0, 1) := by decide +kernel
theorem d_La_domain_2 : decode method_3_code 2 = .ok (.aload_n 0, 1) := by decide +kernel
theorem d_La_domain_3 : decode method_3_code 3 = .ok (.invokevirtual 7, 3) := by decide +kernel
theorem d_La_domain_6 : decode method_3_code 6 = .ok (.i2l, 1) := by decide +kernel
theorem d_La_domain_7 : decode method_3_code 7 = .ok (.lastore, 1) := by decide +kernel
theorem d_La_domain_8 : decode method_3_code 8 = .ok (.goto 6, 3) := by decide +kernel
theorem d_La_domain_11 : decode method_3_code 11 = .ok (.astore_n 2, 1) := by decide +kernel
theorem d_La_domain_12 : decode method_3_code 12 = .ok (.iconst 1, 1) := by decide +kernel
theorem d_La_domain_13 : decode method_3_code 13 = .ok (.ireturn, 1) := by decide +kernel
theorem d_La_domain_14 : decode method_3_code 14 = .ok (.iconst 0, 1) := by decide +kernel
theorem d_La_domain_15 : decode method_3_code 15 = .ok (.ireturn, 1) := by decide +kernel
theorem d_La_object_0 : decode method_4_code 0 = .ok (.aload_n 2, 1) := by decide +kernel
theorem d_La_object_1 : decode method_4_code 1 = .ok (.iconst 0, 1) := by decide +kernel
theorem d_La_object_2 : decode method_4_code 2 = .ok (.aload_n 0, 1) := by decide +kernel
theorem d_La_object_3 : decode method_4_code 3 = .ok (.iload_n 1, 1) := by decide +kernel
theorem d_La_object_4 : decode method_4_code 4 = .ok (.invokevirtual 15, 3) := by decide +kernel
theorem d_La_object_7 : decode method_4_code 7 = .ok (.i2l, 1) := by decide +kernel
theorem d_La_object_8 : decode method_4_code 8 = .ok (.lastore, 1) := by decide +kernel
theorem d_La_object_9 : decode method_4_code 9 = .ok (.goto 12, 3) := by decide +kernel
theorem d_La_object_12 : decode method_4_code 12 = .ok (.astore_n 3, 1) := by decide +kernel
theorem d_La_object_13 : decode method_4_code 13 = .ok (.iconst 1, 1) := by decide +kernel
theorem d_La_object_14 : decode method_4_code 14 = .ok (.ireturn, 1) := by decide +kernel
theorem d_La_object_15 : decode method_4_code 15 = .ok (.astore_n 3, 1) := by decide +kernel
theorem d_La_object_16 : decode method_4_code 16 = .ok (.iconst 2, 1) := by decide +kernel
theorem d_La_object_17 : decode method_4_code 17 = .ok (.ireturn, 1) := by decide +kernel
theorem d_La_object_18 : decode method_4_code 18 = .ok (.astore_n 3, 1) := by decide +kernel
theorem d_La_object_19 : decode method_4_code 19 = .ok (.iconst 3, 1) := by decide +kernel
theorem d_La_object_20 : decode method_4_code 20 = .ok (.ireturn, 1) := by decide +kernel
theorem d_La_object_21 : decode method_4_code 21 = .ok (.iconst 0, 1) := by decide +kernel
theorem d_La_object_22 : decode method_4_code 22 = .ok (.ireturn, 1) := by decide +kernel
theorem d_La_set_0 : decode method_5_code 0 = .ok (.aload 5, 2) := by decide +kernel
theorem d_La_set_2 : decode method_5_code 2 = .ok (.iconst 0, 1) := by decide +kernel
theorem d_La_set_3 : decode method_5_code 3 = .ok (.aload_n 0, 1) := by decide +kernel
theorem d_La_set_4 : decode method_5_code 4 = .ok (.iload_n 1, 1) := by decide +kernel
theorem d_La_set_5 : decode method_5_code 5 = .ok (.iload_n 2, 1) := by decide +kernel
theorem d_La_set_6 : decode method_5_code 6 = .ok (.iload_n 3, 1) := by decide +kernel
theorem d_La_set_7 : decode method_5_code 7 = .ok (.iload 4, 2) := by decide +kernel
theorem d_La_set_9 : decode method_5_code 9 = .ok (.invokevirtual 23, 3) := by decide +kernel
theorem d_La_set_12 : decode method_5_code 12 = .ok (.i2l, 1) := by decide +kernel
theorem d_La_set_13 : decode method_5_code 13 = .ok (.lastore, 1) := by decide +kernel
theorem d_La_set_14 : decode method_5_code 14 = .ok (.goto 19, 3) := by decide +kernel
theorem d_La_set_17 : decode method_5_code 17 = .ok (.astore 6, 2) := by decide +kernel
theorem d_La_set_19 : decode method_5_code 19 = .ok (.iconst 1, 1) := by decide +kernel
theorem d_La_set_20 : decode method_5_code 20 = .ok (.ireturn, 1) := by decide +kernel
theorem d_La_set_21 : decode method_5_code 21 = .ok (.astore 6, 2) := by decide +kernel
theorem d_La_set_23 : decode method_5_code 23 = .ok (.iconst 2, 1) := by decide +kernel
theorem d_La_set_24 : decode method_5_code 24 = .ok (.ireturn, 1) := by decide +kernel
theorem d_La_set_25 : decode method_5_code 25 = .ok (.astore 6, 2) := by decide +kernel
theorem d_La_set_27 : decode method_5_code 27 = .ok (.iconst 3, 1) := by decide +kernel
theorem d_La_set_28 : decode method_5_code 28 = .ok (.ireturn, 1) := by decide +kernel
theorem d_La_set_29 : decode method_5_code 29 = .ok (.astore 6, 2) := by decide +kernel
theorem d_La_set_31 : decode method_5_code 31 = .ok (.iconst 4, 1) := by decide +kernel
theorem d_La_set_32 : decode method_5_code 32 = .ok (.ireturn, 1) := by decide +kernel
theorem d_La_set_33 : decode method_5_code 33 = .ok (.iconst 0, 1) := by decide +kernel
theorem d_La_set_34 : decode method_5_code 34 = .ok (.ireturn, 1) := by decide +kernel
theorem d_La_link_0 : decode method_6_code 0 = .ok (.aload 5, 2) := by decide +kernel
theorem d_La_link_2 : decode method_6_code 2 = .ok (.iconst 0, 1) := by decide +kernel
theorem d_La_link_3 : decode method_6_code 3 = .ok (.aload_n 0, 1) := by decide +kernel
theorem d_La_link_4 : decode method_6_code 4 = .ok (.iload_n 1, 1) := by decide +kernel
theorem d_La_link_5 : decode method_6_code 5 = .ok (.iload_n 2, 1) := by decide +kernel
theorem d_La_link_6 : decode method_6_code 6 = .ok (.iload_n 3, 1) := by decide +kernel
theorem d_La_link_7 : decode method_6_code 7 = .ok (.iload 4, 2) := by decide +kernel
theorem d_La_link_9 : decode method_6_code 9 = .ok (.invokevirtual 31, 3) := by decide +kernel
theorem d_La_link_12 : decode method_6_code 12 = .ok (.i2l, 1) := by decide +kernel
theorem d_La_link_13 : decode method_6_code 13 = .ok (.lastore, 1) := by decide +kernel
theorem d_La_link_14 : decode method_6_code 14 = .ok (.goto 19, 3) := by decide +kernel
theorem d_La_link_17 : decode method_6_code 17 = .ok (.astore 6, 2) := by decide +kernel
theorem d_La_link_19 : decode method_6_code 19 = .ok (.iconst 1, 1) := by decide +kernel
theorem d_La_link_20 : decode method_6_code 20 = .ok (.ireturn, 1) := by decide +kernel
theorem d_La_link_21 : decode method_6_code 21 = .ok (.astore 6, 2) := by decide +kernel
theorem d_La_link_23 : decode method_6_code 23 = .ok (.iconst 2, 1) := by decide +kernel
theorem d_La_link_24 : decode method_6_code 24 = .ok (.ireturn, 1) := by decide +kernel
theorem d_La_link_25 : decode method_6_code 25 = .ok (.astore 6, 2) := by decide +kernel
theorem d_La_link_27 : decode method_6_code 27 = .ok (.iconst 3, 1) := by decide +kernel
theorem d_La_link_28 : decode method_6_code 28 = .ok (.ireturn, 1) := by decide +kernel
theorem d_La_link_29 : decode method_6_code 29 = .ok (.astore 6, 2) := by decide +kernel
theorem d_La_link_31 : decode method_6_code 31 = .ok (.iconst 4, 1) := by decide +kernel
theorem d_La_link_32 : decode method_6_code 32 = .ok (.ireturn, 1) := by decide +kernel
theorem d_La_link_33 : decode method_6_code 33 = .ok (.iconst 0, 1) := by decide +kernel
theorem d_La_link_34 : decode method_6_code 34 = .ok (.ireturn, 1) := by decide +kernel
theorem d_La_hold_0 : decode method_7_code 0 = .ok (.aload 5, 2) := by decide +kernel
theorem d_La_hold_2 : decode method_7_code 2 = .ok (.iconst 0, 1) := by decide +kernel
theorem d_La_hold_3 : decode method_7_code 3 = .ok (.aload_n 0, 1) := by decide +kernel
theorem d_La_hold_4 : decode method_7_code 4 = .ok (.iload_n 1, 1) := by decide +kernel
theorem d_La_hold_5 : decode method_7_code 5 = .ok (.iload_n 2, 1) := by decide +kernel
theorem d_La_hold_6 : decode method_7_code 6 = .ok (.iload_n 3, 1) := by decide +kernel
theorem d_La_hold_7 : decode method_7_code 7 = .ok (.iload 4, 2) := by decide +kernel
theorem d_La_hold_9 : decode method_7_code 9 = .ok (.invokevirtual 34, 3) := by decide +kernel
theorem d_La_hold_12 : decode method_7_code 12 = .ok (.i2l, 1) := by decide +kernel
theorem d_La_hold_13 : decode method_7_code 13 = .ok (.lastore, 1) := by decide +kernel
theorem d_La_hold_14 : decode method_7_code 14 = .ok (.goto 19, 3) := by decide +kernel
theorem d_La_hold_17 : decode method_7_code 17 = .ok (.astore 6, 2) := by decide +kernel
theorem d_La_hold_19 : decode method_7_code 19 = .ok (.iconst 1, 1) := by decide +kernel
theorem d_La_hold_20 : decode method_7_code 20 = .ok (.ireturn, 1) := by decide +kernel
theorem d_La_hold_21 : decode method_7_code 21 = .ok (.astore 6, 2) := by decide +kernel
theorem d_La_hold_23 : decode method_7_code 23 = .ok (.iconst 2, 1) := by decide +kernel
theorem d_La_hold_24 : decode method_7_code 24 = .ok (.ireturn, 1) := by decide +kernel
theorem d_La_hold_25 : decode method_7_code 25 = .ok (.astore 6, 2) := by decide +kernel
theorem d_La_hold_27 : decode method_7_code 27 = .ok (.iconst 3, 1) := by decide +kernel
theorem d_La_hold_28 : decode method_7_code 28 = .ok (.ireturn, 1) := by decide +kernel
theorem d_La_hold_29 : decode method_7_code 29 = .ok (.astore 6, 2) := by decide +kernel
theorem d_La_hold_31 : decode method_7_code 31 = .ok (.iconst 4, 1) := by decide +kernel
theorem d_La_hold_32 : decode method_7_code 32 = .ok (.ireturn, 1) := by decide +kernel
theorem d_La_hold_33 : decode method_7_code 33 = .ok (.iconst 0, 1) := by decide +kernel
theorem d_La_hold_34 : decode method_7_code 34 = .ok (.ireturn, 1) := by decide +kernel
theorem d_La_export_0 : decode method_8_code 0 = .ok (.aload 6, 2) := by decide +kernel
theorem d_La_export_2 : decode method_8_code 2 = .ok (.iconst 0, 1) := by decide +kernel
theorem d_La_export_3 : decode method_8_code 3 = .ok (.aload_n 0, 1) := by decide +kernel
theorem d_La_export_4 : decode method_8_code 4 = .ok (.iload_n 1, 1) := by decide +kernel
theorem d_La_export_5 : decode method_8_code 5 = .ok (.iload_n 2, 1) := by decide +kernel
theorem d_La_export_6 : decode method_8_code 6 = .ok (.iload_n 3, 1) := by decide +kernel
theorem d_La_export_7 : decode method_8_code 7 = .ok (.iload 4, 2) := by decide +kernel
theorem d_La_export_9 : decode method_8_code 9 = .ok (.iload 5, 2) := by decide +kernel
theorem d_La_export_11 : decode method_8_code 11 = .ok (.invokevirtual 37, 3) := by decide +kernel
theorem d_La_export_14 : decode method_8_code 14 = .ok (.i2l, 1) := by decide +kernel
theorem d_La_export_15 : decode method_8_code 15 = .ok (.lastore, 1) := by decide +kernel
theorem d_La_export_16 : decode method_8_code 16 = .ok (.goto 19, 3) := by decide +kernel
theorem d_La_export_19 : decode method_8_code 19 = .ok (.astore 7, 2) := by decide +kernel
theorem d_La_export_21 : decode method_8_code 21 = .ok (.iconst 1, 1) := by decide +kernel
theorem d_La_export_22 : decode method_8_code 22 = .ok (.ireturn, 1) := by decide +kernel
theorem d_La_export_23 : decode method_8_code 23 = .ok (.astore 7, 2) := by decide +kernel
theorem d_La_export_25 : decode method_8_code 25 = .ok (.iconst 2, 1) := by decide +kernel
theorem d_La_export_26 : decode method_8_code 26 = .ok (.ireturn, 1) := by decide +kernel
theorem d_La_export_27 : decode method_8_code 27 = .ok (.astore 7, 2) := by decide +kernel
theorem d_La_export_29 : decode method_8_code 29 = .ok (.iconst 3, 1) := by decide +kernel
theorem d_La_export_30 : decode method_8_code 30 = .ok (.ireturn, 1) := by decide +kernel
theorem d_La_export_31 : decode method_8_code 31 = .ok (.astore 7, 2) := by decide +kernel
theorem d_La_export_33 : decode method_8_code 33 = .ok (.iconst 4, 1) := by decide +kernel
theorem d_La_export_34 : decode method_8_code 34 = .ok (.ireturn, 1) := by decide +kernel
theorem d_La_export_35 : decode method_8_code 35 = .ok (.iconst 0, 1) := by decide +kernel
theorem d_La_export_36 : decode method_8_code 36 = .ok (.ireturn, 1) := by decide +kernel
theorem d_La_narrow_0 : decode method_9_code 0 = .ok (.aload 5, 2) := by decide +kernel
theorem d_La_narrow_2 : decode method_9_code 2 = .ok (.iconst 0, 1) := by decide +kernel
theorem d_La_narrow_3 : decode method_9_code 3 = .ok (.aload_n 0, 1) := by decide +kernel
theorem d_La_narrow_4 : decode method_9_code 4 = .ok (.iload_n 1, 1) := by decide +kernel
theorem d_La_narrow_5 : decode method_9_code 5 = .ok (.iload_n 2, 1) := by decide +kernel
theorem d_La_narrow_6 : decode method_9_code 6 = .ok (.iload_n 3, 1) := by decide +kernel
theorem d_La_narrow_7 : decode method_9_code 7 = .ok (.iload 4, 2) := by decide +kernel
theorem d_La_narrow_9 : decode method_9_code 9 = .ok (.invokevirtual 41, 3) := by decide +kernel
theorem d_La_narrow_12 : decode method_9_code 12 = .ok (.i2l, 1) := by decide +kernel
theorem d_La_narrow_13 : decode method_9_code 13 = .ok (.lastore, 1) := by decide +kernel
theorem d_La_narrow_14 : decode method_9_code 14 = .ok (.goto 23, 3) := by decide +kernel
theorem d_La_narrow_17 : decode method_9_code 17 = .ok (.astore 6, 2) := by decide +kernel
theorem d_La_narrow_19 : decode method_9_code 19 = .ok (.iconst 1, 1) := by decide +kernel
theorem d_La_narrow_20 : decode method_9_code 20 = .ok (.ireturn, 1) := by decide +kernel
theorem d_La_narrow_21 : decode method_9_code 21 = .ok (.astore 6, 2) := by decide +kernel
theorem d_La_narrow_23 : decode method_9_code 23 = .ok (.iconst 2, 1) := by decide +kernel
theorem d_La_narrow_24 : decode method_9_code 24 = .ok (.ireturn, 1) := by decide +kernel
theorem d_La_narrow_25 : decode method_9_code 25 = .ok (.astore 6, 2) := by decide +kernel
theorem d_La_narrow_27 : decode method_9_code 27 = .ok (.iconst 3, 1) := by decide +kernel
theorem d_La_narrow_28 : decode method_9_code 28 = .ok (.ireturn, 1) := by decide +kernel
theorem d_La_narrow_29 : decode method_9_code 29 = .ok (.astore 6, 2) := by decide +kernel
theorem d_La_narrow_31 : decode method_9_code 31 = .ok (.iconst 4, 1) := by decide +kernel
theorem d_La_narrow_32 : decode method_9_code 32 = .ok (.ireturn, 1) := by decide +kernel
theorem d_La_narrow_33 : decode method_9_code 33 = .ok (.astore 6, 2) := by decide +kernel
theorem d_La_narrow_35 : decode method_9_code 35 = .ok (.iconst 5, 1) := by decide +kernel
theorem d_La_narrow_36 : decode method_9_code 36 = .ok (.ireturn, 1) := by decide +kernel
theorem d_La_narrow_37 : decode method_9_code 37 = .ok (.iconst 0, 1) := by decide +kernel
theorem d_La_narrow_38 : decode method_9_code 38 = .ok (.ireturn, 1) := by decide +kernel
theorem d_La_give_0 : decode method_10_code 0 = .ok (.aload 5, 2) := by decide +kernel
theorem d_La_give_2 : decode method_10_code 2 = .ok (.iconst 0, 1) := by decide +kernel
theorem d_La_give_3 : decode method_10_code 3 = .ok (.aload_n 0, 1) := by decide +kernel
theorem d_La_give_4 : decode method_10_code 4 = .ok (.iload_n 1, 1) := by decide +kernel
theorem d_La_give_5 : decode method_10_code 5 = .ok (.iload_n 2, 1) := by decide +kernel
theorem d_La_give_6 : decode method_10_code 6 = .ok (.iload_n 3, 1) := by decide +kernel
theorem d_La_give_7 : decode method_10_code 7 = .ok (.iload 4, 2) := by decide +kernel
theorem d_La_give_9 : decode method_10_code 9 = .ok (.invokevirtual 46, 3) := by decide +kernel
theorem d_La_give_12 : decode method_10_code 12 = .ok (.i2l, 1) := by decide +kernel
theorem d_La_give_13 : decode method_10_code 13 = .ok (.lastore, 1) := by decide +kernel
theorem d_La_give_14 : decode method_10_code 14 = .ok (.goto 15, 3) := by decide +kernel
theorem d_La_give_17 : decode method_10_code 17 = .ok (.astore 6, 2) := by decide +kernel
theorem d_La_give_19 : decode method_10_code 19 = .ok (.iconst 1, 1) := by decide +kernel
theorem d_La_give_20 : decode method_10_code 20 = .ok (.ireturn, 1) := by decide +kernel
theorem d_La_give_21 : decode method_10_code 21 = .ok (.astore 6, 2) := by decide +kernel
theorem d_La_give_23 : decode method_10_code 23 = .ok (.iconst 2, 1) := by decide +kernel
theorem d_La_give_24 : decode method_10_code 24 = .ok (.ireturn, 1) := by decide +kernel
theorem d_La_give_25 : decode method_10_code 25 = .ok (.astore 6, 2) := by decide +kernel
theorem d_La_give_27 : decode method_10_code 27 = .ok (.iconst 3, 1) := by decide +kernel
theorem d_La_give_28 : decode method_10_code 28 = .ok (.ireturn, 1) := by decide +kernel
theorem d_La_give_29 : decode method_10_code 29 = .ok (.iconst 0, 1) := by decide +kernel
theorem d_La_give_30 : decode method_10_code 30 = .ok (.ireturn, 1) := by decide +kernel
theorem d_La_revoke_0 : decode method_11_code 0 = .ok (.aload_n 3, 1) := by decide +kernel
theorem d_La_revoke_1 : decode method_11_code 1 = .ok (.iconst 0, 1) := by decide +kernel
theorem d_La_revoke_2 : decode method_11_code 2 = .ok (.aload_n 0, 1) := by decide +kernel
theorem d_La_revoke_3 : decode method_11_code 3 = .ok (.iload_n 1, 1) := by decide +kernel
theorem d_La_revoke_4 : decode method_11_code 4 = .ok (.iload_n 2, 1) := by decide +kernel
theorem d_La_revoke_5 : decode method_11_code 5 = .ok (.invokevirtual 49, 3) := by decide +kernel
theorem d_La_revoke_8 : decode method_11_code 8 = .ok (.i2l, 1) := by decide +kernel
theorem d_La_revoke_9 : decode method_11_code 9 = .ok (.lastore, 1) := by decide +kernel
theorem d_La_revoke_10 : decode method_11_code 10 = .ok (.goto 19, 3) := by decide +kernel
theorem d_La_revoke_13 : decode method_11_code 13 = .ok (.astore 4, 2) := by decide +kernel
theorem d_La_revoke_15 : decode method_11_code 15 = .ok (.iconst 1, 1) := by decide +kernel
theorem d_La_revoke_16 : decode method_11_code 16 = .ok (.ireturn, 1) := by decide +kernel
theorem d_La_revoke_17 : decode method_11_code 17 = .ok (.astore 4, 2) := by decide +kernel
theorem d_La_revoke_19 : decode method_11_code 19 = .ok (.iconst 2, 1) := by decide +kernel
theorem d_La_revoke_20 : decode method_11_code 20 = .ok (.ireturn, 1) := by decide +kernel
theorem d_La_revoke_21 : decode method_11_code 21 = .ok (.astore 4, 2) := by decide +kernel
theorem d_La_revoke_23 : decode method_11_code 23 = .ok (.iconst 3, 1) := by decide +kernel
theorem d_La_revoke_24 : decode method_11_code 24 = .ok (.ireturn, 1) := by decide +kernel
theorem d_La_revoke_25 : decode method_11_code 25 = .ok (.astore 4, 2) := by decide +kernel
theorem d_La_revoke_27 : decode method_11_code 27 = .ok (.iconst 4, 1) := by decide +kernel
theorem d_La_revoke_28 : decode method_11_code 28 = .ok (.ireturn, 1) := by decide +kernel
theorem d_La_revoke_29 : decode method_11_code 29 = .ok (.iconst 0, 1) := by decide +kernel
theorem d_La_revoke_30 : decode method_11_code 30 = .ok (.ireturn, 1) := by decide +kernel
theorem d_La_read_0 : decode method_12_code 0 = .ok (.aload 4, 2) := by decide +kernel
theorem d_La_read_2 : decode method_12_code 2 = .ok (.iconst 0, 1) := by decide +kernel
theorem d_La_read_3 : decode method_12_code 3 = .ok (.aload_n 0, 1) := by decide +kernel
theorem d_La_read_4 : decode method_12_code 4 = .ok (.iload_n 1, 1) := by decide +kernel
theorem d_La_read_5 : decode method_12_code 5 = .ok (.iload_n 2, 1) := by decide +kernel
theorem d_La_read_6 : decode method_12_code 6 = .ok (.iload_n 3, 1) := by decide +kernel
theorem d_La_read_7 : decode method_12_code 7 = .ok (.invokevirtual 53, 3) := by decide +kernel
theorem d_La_read_10 : decode method_12_code 10 = .ok (.i2l, 1) := by decide +kernel
theorem d_La_read_11 : decode method_12_code 11 = .ok (.lastore, 1) := by decide +kernel
theorem d_La_read_12 : decode method_12_code 12 = .ok (.goto 28, 3) := by decide +kernel
theorem d_La_read_15 : decode method_12_code 15 = .ok (.astore 5, 2) := by decide +kernel
theorem d_La_read_17 : decode method_12_code 17 = .ok (.iconst 1, 1) := by decide +kernel
theorem d_La_read_18 : decode method_12_code 18 = .ok (.ireturn, 1) := by decide +kernel
theorem d_La_read_19 : decode method_12_code 19 = .ok (.astore 5, 2) := by decide +kernel
theorem d_La_read_21 : decode method_12_code 21 = .ok (.iconst 2, 1) := by decide +kernel
theorem d_La_read_22 : decode method_12_code 22 = .ok (.ireturn, 1) := by decide +kernel
theorem d_La_read_23 : decode method_12_code 23 = .ok (.astore 5, 2) := by decide +kernel
theorem d_La_read_25 : decode method_12_code 25 = .ok (.iconst 3, 1) := by decide +kernel
theorem d_La_read_26 : decode method_12_code 26 = .ok (.ireturn, 1) := by decide +kernel
theorem d_La_read_27 : decode method_12_code 27 = .ok (.astore 5, 2) := by decide +kernel
theorem d_La_read_29 : decode method_12_code 29 = .ok (.iconst 4, 1) := by decide +kernel
theorem d_La_read_30 : decode method_12_code 30 = .ok (.ireturn, 1) := by decide +kernel
theorem d_La_read_31 : decode method_12_code 31 = .ok (.astore 5, 2) := by decide +kernel
theorem d_La_read_33 : decode method_12_code 33 = .ok (.iconst 5, 1) := by decide +kernel
theorem d_La_read_34 : decode method_12_code 34 = .ok (.ireturn, 1) := by decide +kernel
theorem d_La_read_35 : decode method_12_code 35 = .ok (.astore 5, 2) := by decide +kernel
theorem d_La_read_37 : decode method_12_code 37 = .ok (.bipush 6, 2) := by decide +kernel
theorem d_La_read_39 : decode method_12_code 39 = .ok (.ireturn, 1) := by decide +kernel
theorem d_La_read_40 : decode method_12_code 40 = .ok (.iconst 0, 1) := by decide +kernel
theorem d_La_read_41 : decode method_12_code 41 = .ok (.ireturn, 1) := by decide +kernel
theorem d_La_write_0 : decode method_13_code 0 = .ok (.aload 5, 2) := by decide +kernel
theorem d_La_write_2 : decode method_13_code 2 = .ok (.iconst 0, 1) := by decide +kernel
theorem d_La_write_3 : decode method_13_code 3 = .ok (.aload_n 0, 1) := by decide +kernel
theorem d_La_write_4 : decode method_13_code 4 = .ok (.iload_n 1, 1) := by decide +kernel
theorem d_La_write_5 : decode method_13_code 5 = .ok (.iload_n 2, 1) := by decide +kernel
theorem d_La_write_6 : decode method_13_code 6 = .ok (.iload_n 3, 1) := by decide +kernel
theorem d_La_write_7 : decode method_13_code 7 = .ok (.iload 4, 2) := by decide +kernel
theorem d_La_write_9 : decode method_13_code 9 = .ok (.invokevirtual 57, 3) := by decide +kernel
theorem d_La_write_12 : decode method_13_code 12 = .ok (.i2l, 1) := by decide +kernel
theorem d_La_write_13 : decode method_13_code 13 = .ok (.lastore, 1) := by decide +kernel
theorem d_La_write_14 : decode method_13_code 14 = .ok (.goto 23, 3) := by decide +kernel
theorem d_La_write_17 : decode method_13_code 17 = .ok (.astore 6, 2) := by decide +kernel
theorem d_La_write_19 : decode method_13_code 19 = .ok (.iconst 1, 1) := by decide +kernel
theorem d_La_write_20 : decode method_13_code 20 = .ok (.ireturn, 1) := by decide +kernel
theorem d_La_write_21 : decode method_13_code 21 = .ok (.astore 6, 2) := by decide +kernel
theorem d_La_write_23 : decode method_13_code 23 = .ok (.iconst 2, 1) := by decide +kernel
theorem d_La_write_24 : decode method_13_code 24 = .ok (.ireturn, 1) := by decide +kernel
theorem d_La_write_25 : decode method_13_code 25 = .ok (.astore 6, 2) := by decide +kernel
theorem d_La_write_27 : decode method_13_code 27 = .ok (.iconst 3, 1) := by decide +kernel
theorem d_La_write_28 : decode method_13_code 28 = .ok (.ireturn, 1) := by decide +kernel
theorem d_La_write_29 : decode method_13_code 29 = .ok (.astore 6, 2) := by decide +kernel
theorem d_La_write_31 : decode method_13_code 31 = .ok (.iconst 4, 1) := by decide +kernel
theorem d_La_write_32 : decode method_13_code 32 = .ok (.ireturn, 1) := by decide +kernel
theorem d_La_write_33 : decode method_13_code 33 = .ok (.astore 6, 2) := by decide +kernel
theorem d_La_write_35 : decode method_13_code 35 = .ok (.iconst 5, 1) := by decide +kernel
theorem d_La_write_36 : decode method_13_code 36 = .ok (.ireturn, 1) := by decide +kernel
theorem d_La_write_37 : decode method_13_code 37 = .ok (.iconst 0, 1) := by decide +kernel
theorem d_La_write_38 : decode method_13_code 38 = .ok (.ireturn, 1) := by decide +kernel
theorem d_La_pass_0 : decode method_14_code 0 = .ok (.aload 5, 2) := by decide +kernel
theorem d_La_pass_2 : decode method_14_code 2 = .ok (.iconst 0, 1) := by decide +kernel
theorem d_La_pass_3 : decode method_14_code 3 = .ok (.aload_n 0, 1) := by decide +kernel
theorem d_La_pass_4 : decode method_14_code 4 = .ok (.iload_n 1, 1) := by decide +kernel
theorem d_La_pass_5 : decode method_14_code 5 = .ok (.iload_n 2, 1) := by decide +kernel
theorem d_La_pass_6 : decode method_14_code 6 = .ok (.iload_n 3, 1) := by decide +kernel
theorem d_La_pass_7 : decode method_14_code 7 = .ok (.iload 4, 2) := by decide +kernel
theorem d_La_pass_9 : decode method_14_code 9 = .ok (.invokevirtual 60, 3) := by decide +kernel
theorem d_La_pass_12 : decode method_14_code 12 = .ok (.i2l, 1) := by decide +kernel
theorem d_La_pass_13 : decode method_14_code 13 = .ok (.lastore, 1) := by decide +kernel
theorem d_La_pass_14 : decode method_14_code 14 = .ok (.goto 28, 3) := by decide +kernel
theorem d_La_pass_17 : decode method_14_code 17 = .ok (.astore 6, 2) := by decide +kernel
theorem d_La_pass_19 : decode method_14_code 19 = .ok (.iconst 1, 1) := by decide +kernel
theorem d_La_pass_20 : decode method_14_code 20 = .ok (.ireturn, 1) := by decide +kernel
theorem d_La_pass_21 : decode method_14_code 21 = .ok (.astore 6, 2) := by decide +kernel
theorem d_La_pass_23 : decode method_14_code 23 = .ok (.iconst 2, 1) := by decide +kernel
theorem d_La_pass_24 : decode method_14_code 24 = .ok (.ireturn, 1) := by decide +kernel
theorem d_La_pass_25 : decode method_14_code 25 = .ok (.astore 6, 2) := by decide +kernel
theorem d_La_pass_27 : decode method_14_code 27 = .ok (.iconst 3, 1) := by decide +kernel
theorem d_La_pass_28 : decode method_14_code 28 = .ok (.ireturn, 1) := by decide +kernel
theorem d_La_pass_29 : decode method_14_code 29 = .ok (.astore 6, 2) := by decide +kernel
theorem d_La_pass_31 : decode method_14_code 31 = .ok (.iconst 4, 1) := by decide +kernel
theorem d_La_pass_32 : decode method_14_code 32 = .ok (.ireturn, 1) := by decide +kernel
theorem d_La_pass_33 : decode method_14_code 33 = .ok (.astore 6, 2) := by decide +kernel
theorem d_La_pass_35 : decode method_14_code 35 = .ok (.iconst 5, 1) := by decide +kernel
theorem d_La_pass_36 : decode method_14_code 36 = .ok (.ireturn, 1) := by decide +kernel
theorem d_La_pass_37 : decode method_14_code 37 = .ok (.astore 6, 2) := by decide +kernel
theorem d_La_pass_39 : decode method_14_code 39 = .ok (.bipush 6, 2) := by decide +kernel
theorem d_La_pass_41 : decode method_14_code 41 = .ok (.ireturn, 1) := by decide +kernel
theorem d_La_pass_42 : decode method_14_code 42 = .ok (.iconst 0, 1) := by decide +kernel
theorem d_La_pass_43 : decode method_14_code 43 = .ok (.ireturn, 1) := by decide +kernel
theorem d_La_take_0 : decode method_15_code 0 = .ok (.aload 5, 2) := by decide +kernel
theorem d_La_take_2 : decode method_15_code 2 = .ok (.iconst 0, 1) := by decide +kernel
theorem d_La_take_3 : decode method_15_code 3 = .ok (.aload_n 0, 1) := by decide +kernel
theorem d_La_take_4 : decode method_15_code 4 = .ok (.iload_n 1, 1) := by decide +kernel
theorem d_La_take_5 : decode method_15_code 5 = .ok (.iload_n 2, 1) := by decide +kernel
theorem d_La_take_6 : decode method_15_code 6 = .ok (.iload_n 3, 1) := by decide +kernel
theorem d_La_take_7 : decode method_15_code 7 = .ok (.iload 4, 2) := by decide +kernel
theorem d_La_take_9 : decode method_15_code 9 = .ok (.invokevirtual 63, 3) := by decide +kernel
theorem d_La_take_12 : decode method_15_code 12 = .ok (.i2l, 1) := by decide +kernel
theorem d_La_take_13 : decode method_15_code 13 = .ok (.lastore, 1) := by decide +kernel
theorem d_La_take_14 : decode method_15_code 14 = .ok (.goto 28, 3) := by decide +kernel
theorem d_La_take_17 : decode method_15_code 17 = .ok (.astore 6, 2) := by decide +kernel
theorem d_La_take_19 : decode method_15_code 19 = .ok (.iconst 1, 1) := by decide +kernel
theorem d_La_take_20 : decode method_15_code 20 = .ok (.ireturn, 1) := by decide +kernel
theorem d_La_take_21 : decode method_15_code 21 = .ok (.astore 6, 2) := by decide +kernel
theorem d_La_take_23 : decode method_15_code 23 = .ok (.iconst 2, 1) := by decide +kernel
theorem d_La_take_24 : decode method_15_code 24 = .ok (.ireturn, 1) := by decide +kernel
theorem d_La_take_25 : decode method_15_code 25 = .ok (.astore 6, 2) := by decide +kernel
theorem d_La_take_27 : decode method_15_code 27 = .ok (.iconst 3, 1) := by decide +kernel
theorem d_La_take_28 : decode method_15_code 28 = .ok (.ireturn, 1) := by decide +kernel
theorem d_La_take_29 : decode method_15_code 29 = .ok (.astore 6, 2) := by decide +kernel
theorem d_La_take_31 : decode method_15_code 31 = .ok (.iconst 4, 1) := by decide +kernel
theorem d_La_take_32 : decode method_15_code 32 = .ok (.ireturn, 1) := by decide +kernel
theorem d_La_take_33 : decode method_15_code 33 = .ok (.astore 6, 2) := by decide +kernel
theorem d_La_take_35 : decode method_15_code 35 = .ok (.iconst 5, 1) := by decide +kernel
theorem d_La_take_36 : decode method_15_code 36 = .ok (.ireturn, 1) := by decide +kernel
theorem d_La_take_37 : decode method_15_code 37 = .ok (.astore 6, 2) := by decide +kernel
theorem d_La_take_39 : decode method_15_code 39 = .ok (.bipush 6, 2) := by decide +kernel
theorem d_La_take_41 : decode method_15_code 41 = .ok (.ireturn, 1) := by decide +kernel
theorem d_La_take_42 : decode method_15_code 42 = .ok (.iconst 0, 1) := by decide +kernel
theorem d_La_take_43 : decode method_15_code 43 = .ok (.ireturn, 1) := by decide +kernel
theorem d_La_free_0 : decode method_16_code 0 = .ok (.aload_n 3, 1) := by decide +kernel
theorem d_La_free_1 : decode method_16_code 1 = .ok (.iconst 0, 1) := by decide +kernel
theorem d_La_free_2 : decode method_16_code 2 = .ok (.aload_n 0, 1) := by decide +kernel
theorem d_La_free_3 : decode method_16_code 3 = .ok (.iload_n 1, 1) := by decide +kernel
theorem d_La_free_4 : decode method_16_code 4 = .ok (.iload_n 2, 1) := by decide +kernel
theorem d_La_free_5 : decode method_16_code 5 = .ok (.invokevirtual 66, 3) := by decide +kernel
theorem d_La_free_8 : decode method_16_code 8 = .ok (.i2l, 1) := by decide +kernel
theorem d_La_free_9 : decode method_16_code 9 = .ok (.lastore, 1) := by decide +kernel
theorem d_La_free_10 : decode method_16_code 10 = .ok (.goto 19, 3) := by decide +kernel
theorem d_La_free_13 : decode method_16_code 13 = .ok (.astore 4, 2) := by decide +kernel
theorem d_La_free_15 : decode method_16_code 15 = .ok (.iconst 1, 1) := by decide +kernel
theorem d_La_free_16 : decode method_16_code 16 = .ok (.ireturn, 1) := by decide +kernel
theorem d_La_free_17 : decode method_16_code 17 = .ok (.astore 4, 2) := by decide +kernel
theorem d_La_free_19 : decode method_16_code 19 = .ok (.iconst 2, 1) := by decide +kernel
theorem d_La_free_20 : decode method_16_code 20 = .ok (.ireturn, 1) := by decide +kernel
theorem d_La_free_21 : decode method_16_code 21 = .ok (.astore 4, 2) := by decide +kernel
theorem d_La_free_23 : decode method_16_code 23 = .ok (.iconst 3, 1) := by decide +kernel
theorem d_La_free_24 : decode method_16_code 24 = .ok (.ireturn, 1) := by decide +kernel
theorem d_La_free_25 : decode method_16_code 25 = .ok (.astore 4, 2) := by decide +kernel
theorem d_La_free_27 : decode method_16_code 27 = .ok (.iconst 4, 1) := by decide +kernel
theorem d_La_free_28 : decode method_16_code 28 = .ok (.ireturn, 1) := by decide +kernel
theorem d_La_free_29 : decode method_16_code 29 = .ok (.iconst 0, 1) := by decide +kernel
theorem d_La_free_30 : decode method_16_code 30 = .ok (.ireturn, 1) := by decide +kernel
theorem d_La_end_0 : decode method_17_code 0 = .ok (.aload_n 2, 1) := by decide +kernel
theorem d_La_end_1 : decode method_17_code 1 = .ok (.iconst 0, 1) := by decide +kernel
theorem d_La_end_2 : decode method_17_code 2 = .ok (.aload_n 0, 1) := by decide +kernel
theorem d_La_end_3 : decode method_17_code 3 = .ok (.iload_n 1, 1) := by decide +kernel
theorem d_La_end_4 : decode method_17_code 4 = .ok (.invokevirtual 69, 3) := by decide +kernel
theorem d_La_end_7 : decode method_17_code 7 = .ok (.i2l, 1) := by decide +kernel
theorem d_La_end_8 : decode method_17_code 8 = .ok (.lastore, 1) := by decide +kernel
theorem d_La_end_9 : decode method_17_code 9 = .ok (.goto 9, 3) := by decide +kernel
theorem d_La_end_12 : decode method_17_code 12 = .ok (.astore_n 3, 1) := by decide +kernel
theorem d_La_end_13 : decode method_17_code 13 = .ok (.iconst 1, 1) := by decide +kernel
theorem d_La_end_14 : decode method_17_code 14 = .ok (.ireturn, 1) := by decide +kernel
theorem d_La_end_15 : decode method_17_code 15 = .ok (.astore_n 3, 1) := by decide +kernel
theorem d_La_end_16 : decode method_17_code 16 = .ok (.iconst 2, 1) := by decide +kernel
theorem d_La_end_17 : decode method_17_code 17 = .ok (.ireturn, 1) := by decide +kernel
theorem d_La_end_18 : decode method_17_code 18 = .ok (.iconst 0, 1) := by decide +kernel
theorem d_La_end_19 : decode method_17_code 19 = .ok (.ireturn, 1) := by decide +kernel
theorem d_La_law_0 : decode code 0 = .ok (.new 8, 3) := by decide +kernel
theorem d_La_law_3 : decode code 3 = .ok (.dup, 1) := by decide +kernel
theorem d_La_law_4 : decode code 4 = .ok (.invokespecial 72, 3) := by decide +kernel
theorem d_La_law_7 : decode code 7 = .ok (.astore_n 1, 1) := by decide +kernel
theorem d_La_law_8 : decode code 8 = .ok (.new 73, 3) := by decide +kernel
theorem d_La_law_11 : decode code 11 = .ok (.dup, 1) := by decide +kernel
theorem d_La_law_12 : decode code 12 = .ok (.invokespecial 75, 3) := by decide +kernel
theorem d_La_law_15 : decode code 15 = .ok (.astore_n 2, 1) := by decide +kernel
theorem d_La_law_16 : decode code 16 = .ok (.iconst 1, 1) := by decide +kernel
theorem d_La_law_17 : decode code 17 = .ok (.newarray .long, 2) := by decide +kernel
theorem d_La_law_19 : decode code 19 = .ok (.astore_n 3, 1) := by decide +kernel
theorem d_La_law_20 : decode code 20 = .ok (.iconst 0, 1) := by decide +kernel
theorem d_La_law_21 : decode code 21 = .ok (.istore 4, 2) := by decide +kernel
theorem d_La_law_23 : decode code 23 = .ok (.iload 4, 2) := by decide +kernel
theorem d_La_law_25 : decode code 25 = .ok (.aload_n 0, 1) := by decide +kernel
theorem d_La_law_26 : decode code 26 = .ok (.arraylength, 1) := by decide +kernel
theorem d_La_law_27 : decode code 27 = .ok (.bipush 6, 2) := by decide +kernel
theorem d_La_law_29 : decode code 29 = .ok (.isub, 1) := by decide +kernel
theorem d_La_law_30 : decode code 30 = .ok (.if_icmp .gt 1480, 3) := by decide +kernel
theorem d_La_law_33 : decode code 33 = .ok (.aload_n 0, 1) := by decide +kernel
theorem d_La_law_34 : decode code 34 = .ok (.iload 4, 2) := by decide +kernel
theorem d_La_law_36 : decode code 36 = .ok (.iaload, 1) := by decide +kernel
theorem d_La_law_37 : decode code 37 = .ok (.bipush 31, 2) := by decide +kernel
theorem d_La_law_39 : decode code 39 = .ok (.iand, 1) := by decide +kernel
theorem d_La_law_40 : decode code 40 = .ok (.tableswitch 1464 0 18 #[92, 136, 192, 284, 376, 468, 572, 664, 756, 824, 904, 996, 1088, 1180, 1248, 1304, 1353, 1402, 1439], 92) := by decide +kernel
theorem d_La_law_132 : decode code 132 = .ok (.aload_n 1, 1) := by decide +kernel
theorem d_La_law_133 : decode code 133 = .ok (.aload_n 3, 1) := by decide +kernel
theorem d_La_law_134 : decode code 134 = .ok (.invokestatic 76, 3) := by decide +kernel
theorem d_La_law_137 : decode code 137 = .ok (.istore 5, 2) := by decide +kernel
theorem d_La_law_139 : decode code 139 = .ok (.aload_n 2, 1) := by decide +kernel
theorem d_La_law_140 : decode code 140 = .ok (.invokevirtual 81, 3) := by decide +kernel
theorem d_La_law_143 : decode code 143 = .ok (.istore 6, 2) := by decide +kernel
theorem d_La_law_145 : decode code 145 = .ok (.aload_n 2, 1) := by decide +kernel
theorem d_La_law_146 : decode code 146 = .ok (.invokevirtual 82, 3) := by decide +kernel
theorem d_La_law_149 : decode code 149 = .ok (.iload 5, 2) := by decide +kernel
theorem d_La_law_151 : decode code 151 = .ok (.if_icmp .eq 5, 3) := by decide +kernel
theorem d_La_law_154 : decode code 154 = .ok (.iconst 0, 1) := by decide +kernel
theorem d_La_law_155 : decode code 155 = .ok (.ireturn, 1) := by decide +kernel
theorem d_La_law_156 : decode code 156 = .ok (.iload 5, 2) := by decide +kernel
theorem d_La_law_158 : decode code 158 = .ok (.ifCond .ne 15, 3) := by decide +kernel
theorem d_La_law_161 : decode code 161 = .ok (.aload_n 3, 1) := by decide +kernel
theorem d_La_law_162 : decode code 162 = .ok (.iconst 0, 1) := by decide +kernel
theorem d_La_law_163 : decode code 163 = .ok (.laload, 1) := by decide +kernel
theorem d_La_law_164 : decode code 164 = .ok (.iload 6, 2) := by decide +kernel
theorem d_La_law_166 : decode code 166 = .ok (.i2l, 1) := by decide +kernel
theorem d_La_law_167 : decode code 167 = .ok (.lcmp, 1) := by decide +kernel
theorem d_La_law_168 : decode code 168 = .ok (.ifCond .eq 5, 3) := by decide +kernel
theorem d_La_law_171 : decode code 171 = .ok (.iconst 0, 1) := by decide +kernel
theorem d_La_law_172 : decode code 172 = .ok (.ireturn, 1) := by decide +kernel
theorem d_La_law_173 : decode code 173 = .ok (.goto 1331, 3) := by decide +kernel
theorem d_La_law_176 : decode code 176 = .ok (.aload_n 1, 1) := by decide +kernel
theorem d_La_law_177 : decode code 177 = .ok (.aload_n 0, 1) := by decide +kernel
theorem d_La_law_178 : decode code 178 = .ok (.iload 4, 2) := by decide +kernel
theorem d_La_law_180 : decode code 180 = .ok (.iconst 1, 1) := by decide +kernel
theorem d_La_law_181 : decode code 181 = .ok (.iadd, 1) := by decide +kernel
theorem d_La_law_182 : decode code 182 = .ok (.iaload, 1) := by decide +kernel
theorem d_La_law_183 : decode code 183 = .ok (.aload_n 3, 1) := by decide +kernel
theorem d_La_law_184 : decode code 184 = .ok (.invokestatic 85, 3) := by decide +kernel
theorem d_La_law_187 : decode code 187 = .ok (.istore 5, 2) := by decide +kernel
theorem d_La_law_189 : decode code 189 = .ok (.aload_n 2, 1) := by decide +kernel
theorem d_La_law_190 : decode code 190 = .ok (.aload_n 0, 1) := by decide +kernel
theorem d_La_law_191 : decode code 191 = .ok (.iload 4, 2) := by decide +kernel
theorem d_La_law_193 : decode code 193 = .ok (.iconst 1, 1) := by decide +kernel
theorem d_La_law_194 : decode code 194 = .ok (.iadd, 1) := by decide +kernel
theorem d_La_law_195 : decode code 195 = .ok (.iaload, 1) := by decide +kernel
theorem d_La_law_196 : decode code 196 = .ok (.invokevirtual 88, 3) := by decide +kernel
theorem d_La_law_199 : decode code 199 = .ok (.istore 6, 2) := by decide +kernel
theorem d_La_law_201 : decode code 201 = .ok (.aload_n 2, 1) := by decide +kernel
theorem d_La_law_202 : decode code 202 = .ok (.invokevirtual 82, 3) := by decide +kernel
theorem d_La_law_205 : decode code 205 = .ok (.iload 5, 2) := by decide +kernel
theorem d_La_law_207 : decode code 207 = .ok (.if_icmp .eq 5, 3) := by decide +kernel
theorem d_La_law_210 : decode code 210 = .ok (.iconst 0, 1) := by decide +kernel
theorem d_La_law_211 : decode code 211 = .ok (.ireturn, 1) := by decide +kernel
theorem d_La_law_212 : decode code 212 = .ok (.iload 5, 2) := by decide +kernel
theorem d_La_law_214 : decode code 214 = .ok (.ifCond .ne 15, 3) := by decide +kernel
theorem d_La_law_217 : decode code 217 = .ok (.aload_n 3, 1) := by decide +kernel
theorem d_La_law_218 : decode code 218 = .ok (.iconst 0, 1) := by decide +kernel
theorem d_La_law_219 : decode code 219 = .ok (.laload, 1) := by decide +kernel
theorem d_La_law_220 : decode code 220 = .ok (.iload 6, 2) := by decide +kernel
theorem d_La_law_222 : decode code 222 = .ok (.i2l, 1) := by decide +kernel
theorem d_La_law_223 : decode code 223 = .ok (.lcmp, 1) := by decide +kernel
theorem d_La_law_224 : decode code 224 = .ok (.ifCond .eq 5, 3) := by decide +kernel
theorem d_La_law_227 : decode code 227 = .ok (.iconst 0, 1) := by decide +kernel
theorem d_La_law_228 : decode code 228 = .ok (.ireturn, 1) := by decide +kernel
theorem d_La_law_229 : decode code 229 = .ok (.goto 1275, 3) := by decide +kernel
theorem d_La_law_232 : decode code 232 = .ok (.aload_n 1, 1) := by decide +kernel
theorem d_La_law_233 : decode code 233 = .ok (.aload_n 0, 1) := by decide +kernel
theorem d_La_law_234 : decode code 234 = .ok (.iload 4, 2) := by decide +kernel
theorem d_La_law_236 : decode code 236 = .ok (.iconst 1, 1) := by decide +kernel
theorem d_La_law_237 : decode code 237 = .ok (.iadd, 1) := by decide +kernel
theorem d_La_law_238 : decode code 238 = .ok (.iaload, 1) := by decide +kernel
theorem d_La_law_239 : decode code 239 = .ok (.aload_n 0, 1) := by decide +kernel
theorem d_La_law_240 : decode code 240 = .ok (.iload 4, 2) := by decide +kernel
theorem d_La_law_242 : decode code 242 = .ok (.iconst 2, 1) := by decide +kernel
theorem d_La_law_243 : decode code 243 = .ok (.iadd, 1) := by decide +kernel
theorem d_La_law_244 : decode code 244 = .ok (.iaload, 1) := by decide +kernel
theorem d_La_law_245 : decode code 245 = .ok (.aload_n 0, 1) := by decide +kernel
theorem d_La_law_246 : decode code 246 = .ok (.iload 4, 2) := by decide +kernel
theorem d_La_law_248 : decode code 248 = .ok (.iconst 3, 1) := by decide +kernel
theorem d_La_law_249 : decode code 249 = .ok (.iadd, 1) := by decide +kernel
theorem d_La_law_250 : decode code 250 = .ok (.iaload, 1) := by decide +kernel
theorem d_La_law_251 : decode code 251 = .ok (.aload_n 0, 1) := by decide +kernel
theorem d_La_law_252 : decode code 252 = .ok (.iload 4, 2) := by decide +kernel
theorem d_La_law_254 : decode code 254 = .ok (.iconst 4, 1) := by decide +kernel
theorem d_La_law_255 : decode code 255 = .ok (.iadd, 1) := by decide +kernel
theorem d_La_law_256 : decode code 256 = .ok (.iaload, 1) := by decide +kernel
theorem d_La_law_257 : decode code 257 = .ok (.aload_n 3, 1) := by decide +kernel
theorem d_La_law_258 : decode code 258 = .ok (.invokestatic 89, 3) := by decide +kernel
theorem d_La_law_261 : decode code 261 = .ok (.istore 5, 2) := by decide +kernel
theorem d_La_law_263 : decode code 263 = .ok (.aload_n 2, 1) := by decide +kernel
theorem d_La_law_264 : decode code 264 = .ok (.aload_n 0, 1) := by decide +kernel
theorem d_La_law_265 : decode code 265 = .ok (.iload 4, 2) := by decide +kernel
theorem d_La_law_267 : decode code 267 = .ok (.iconst 1, 1) := by decide +kernel
theorem d_La_law_268 : decode code 268 = .ok (.iadd, 1) := by decide +kernel
theorem d_La_law_269 : decode code 269 = .ok (.iaload, 1) := by decide +kernel
theorem d_La_law_270 : decode code 270 = .ok (.aload_n 0, 1) := by decide +kernel
theorem d_La_law_271 : decode code 271 = .ok (.iload 4, 2) := by decide +kernel
theorem d_La_law_273 : decode code 273 = .ok (.iconst 2, 1) := by decide +kernel
theorem d_La_law_274 : decode code 274 = .ok (.iadd, 1) := by decide +kernel
theorem d_La_law_275 : decode code 275 = .ok (.iaload, 1) := by decide +kernel
theorem d_La_law_276 : decode code 276 = .ok (.aload_n 0, 1) := by decide +kernel
theorem d_La_law_277 : decode code 277 = .ok (.iload 4, 2) := by decide +kernel
theorem d_La_law_279 : decode code 279 = .ok (.iconst 3, 1) := by decide +kernel
theorem d_La_law_280 : decode code 280 = .ok (.iadd, 1) := by decide +kernel
theorem d_La_law_281 : decode code 281 = .ok (.iaload, 1) := by decide +kernel
theorem d_La_law_282 : decode code 282 = .ok (.aload_n 0, 1) := by decide +kernel
theorem d_La_law_283 : decode code 283 = .ok (.iload 4, 2) := by decide +kernel
theorem d_La_law_285 : decode code 285 = .ok (.iconst 4, 1) := by decide +kernel
theorem d_La_law_286 : decode code 286 = .ok (.iadd, 1) := by decide +kernel
theorem d_La_law_287 : decode code 287 = .ok (.iaload, 1) := by decide +kernel
theorem d_La_law_288 : decode code 288 = .ok (.invokevirtual 92, 3) := by decide +kernel
theorem d_La_law_291 : decode code 291 = .ok (.istore 6, 2) := by decide +kernel
theorem d_La_law_293 : decode code 293 = .ok (.aload_n 2, 1) := by decide +kernel
theorem d_La_law_294 : decode code 294 = .ok (.invokevirtual 82, 3) := by decide +kernel
theorem d_La_law_297 : decode code 297 = .ok (.iload 5, 2) := by decide +kernel
theorem d_La_law_299 : decode code 299 = .ok (.if_icmp .eq 5, 3) := by decide +kernel
theorem d_La_law_302 : decode code 302 = .ok (.iconst 0, 1) := by decide +kernel
theorem d_La_law_303 : decode code 303 = .ok (.ireturn, 1) := by decide +kernel
theorem d_La_law_304 : decode code 304 = .ok (.iload 5, 2) := by decide +kernel
theorem d_La_law_306 : decode code 306 = .ok (.ifCond .ne 15, 3) := by decide +kernel
theorem d_La_law_309 : decode code 309 = .ok (.aload_n 3, 1) := by decide +kernel
theorem d_La_law_310 : decode code 310 = .ok (.iconst 0, 1) := by decide +kernel
theorem d_La_law_311 : decode code 311 = .ok (.laload, 1) := by decide +kernel
theorem d_La_law_312 : decode code 312 = .ok (.iload 6, 2) := by decide +kernel
theorem d_La_law_314 : decode code 314 = .ok (.i2l, 1) := by decide +kernel
theorem d_La_law_315 : decode code 315 = .ok (.lcmp, 1) := by decide +kernel
theorem d_La_law_316 : decode code 316 = .ok (.ifCond .eq 5, 3) := by decide +kernel
theorem d_La_law_319 : decode code 319 = .ok (.iconst 0, 1) := by decide +kernel
theorem d_La_law_320 : decode code 320 = .ok (.ireturn, 1) := by decide +kernel
theorem d_La_law_321 : decode code 321 = .ok (.goto 1183, 3) := by decide +kernel
theorem d_La_law_324 : decode code 324 = .ok (.aload_n 1, 1) := by decide +kernel
theorem d_La_law_325 : decode code 325 = .ok (.aload_n 0, 1) := by decide +kernel
theorem d_La_law_326 : decode code 326 = .ok (.iload 4, 2) := by decide +kernel
theorem d_La_law_328 : decode code 328 = .ok (.iconst 1, 1) := by decide +kernel
theorem d_La_law_329 : decode code 329 = .ok (.iadd, 1) := by decide +kernel
theorem d_La_law_330 : decode code 330 = .ok (.iaload, 1) := by decide +kernel
theorem d_La_law_331 : decode code 331 = .ok (.aload_n 0, 1) := by decide +kernel
theorem d_La_law_332 : decode code 332 = .ok (.iload 4, 2) := by decide +kernel
theorem d_La_law_334 : decode code 334 = .ok (.iconst 2, 1) := by decide +kernel
theorem d_La_law_335 : decode code 335 = .ok (.iadd, 1) := by decide +kernel
theorem d_La_law_336 : decode code 336 = .ok (.iaload, 1) := by decide +kernel
theorem d_La_law_337 : decode code 337 = .ok (.aload_n 0, 1) := by decide +kernel
theorem d_La_law_338 : decode code 338 = .ok (.iload 4, 2) := by decide +kernel
theorem d_La_law_340 : decode code 340 = .ok (.iconst 3, 1) := by decide +kernel
theorem d_La_law_341 : decode code 341 = .ok (.iadd, 1) := by decide +kernel
theorem d_La_law_342 : decode code 342 = .ok (.iaload, 1) := by decide +kernel
theorem d_La_law_343 : decode code 343 = .ok (.aload_n 0, 1) := by decide +kernel
theorem d_La_law_344 : decode code 344 = .ok (.iload 4, 2) := by decide +kernel
theorem d_La_law_346 : decode code 346 = .ok (.iconst 4, 1) := by decide +kernel
theorem d_La_law_347 : decode code 347 = .ok (.iadd, 1) := by decide +kernel
theorem d_La_law_348 : decode code 348 = .ok (.iaload, 1) := by decide +kernel
theorem d_La_law_349 : decode code 349 = .ok (.aload_n 3, 1) := by decide +kernel
theorem d_La_law_350 : decode code 350 = .ok (.invokestatic 93, 3) := by decide +kernel
theorem d_La_law_353 : decode code 353 = .ok (.istore 5, 2) := by decide +kernel
theorem d_La_law_355 : decode code 355 = .ok (.aload_n 2, 1) := by decide +kernel
theorem d_La_law_356 : decode code 356 = .ok (.aload_n 0, 1) := by decide +kernel
theorem d_La_law_357 : decode code 357 = .ok (.iload 4, 2) := by decide +kernel
theorem d_La_law_359 : decode code 359 = .ok (.iconst 1, 1) := by decide +kernel
theorem d_La_law_360 : decode code 360 = .ok (.iadd, 1) := by decide +kernel
theorem d_La_law_361 : decode code 361 = .ok (.iaload, 1) := by decide +kernel
theorem d_La_law_362 : decode code 362 = .ok (.aload_n 0, 1) := by decide +kernel
theorem d_La_law_363 : decode code 363 = .ok (.iload 4, 2) := by decide +kernel
theorem d_La_law_365 : decode code 365 = .ok (.iconst 2, 1) := by decide +kernel
theorem d_La_law_366 : decode code 366 = .ok (.iadd, 1) := by decide +kernel
theorem d_La_law_367 : decode code 367 = .ok (.iaload, 1) := by decide +kernel
theorem d_La_law_368 : decode code 368 = .ok (.aload_n 0, 1) := by decide +kernel
theorem d_La_law_369 : decode code 369 = .ok (.iload 4, 2) := by decide +kernel
theorem d_La_law_371 : decode code 371 = .ok (.iconst 3, 1) := by decide +kernel
theorem d_La_law_372 : decode code 372 = .ok (.iadd, 1) := by decide +kernel
theorem d_La_law_373 : decode code 373 = .ok (.iaload, 1) := by decide +kernel
theorem d_La_law_374 : decode code 374 = .ok (.aload_n 0, 1) := by decide +kernel
theorem d_La_law_375 : decode code 375 = .ok (.iload 4, 2) := by decide +kernel
theorem d_La_law_377 : decode code 377 = .ok (.iconst 4, 1) := by decide +kernel
theorem d_La_law_378 : decode code 378 = .ok (.iadd, 1) := by decide +kernel
theorem d_La_law_379 : decode code 379 = .ok (.iaload, 1) := by decide +kernel
theorem d_La_law_380 : decode code 380 = .ok (.invokevirtual 95, 3) := by decide +kernel
theorem d_La_law_383 : decode code 383 = .ok (.istore 6, 2) := by decide +kernel
theorem d_La_law_385 : decode code 385 = .ok (.aload_n 2, 1) := by decide +kernel
theorem d_La_law_386 : decode code 386 = .ok (.invokevirtual 82, 3) := by decide +kernel
theorem d_La_law_389 : decode code 389 = .ok (.iload 5, 2) := by decide +kernel
theorem d_La_law_391 : decode code 391 = .ok (.if_icmp .eq 5, 3) := by decide +kernel
theorem d_La_law_394 : decode code 394 = .ok (.iconst 0, 1) := by decide +kernel
theorem d_La_law_395 : decode code 395 = .ok (.ireturn, 1) := by decide +kernel
theorem d_La_law_396 : decode code 396 = .ok (.iload 5, 2) := by decide +kernel
theorem d_La_law_398 : decode code 398 = .ok (.ifCond .ne 15, 3) := by decide +kernel
theorem d_La_law_401 : decode code 401 = .ok (.aload_n 3, 1) := by decide +kernel
theorem d_La_law_402 : decode code 402 = .ok (.iconst 0, 1) := by decide +kernel
theorem d_La_law_403 : decode code 403 = .ok (.laload, 1) := by decide +kernel
theorem d_La_law_404 : decode code 404 = .ok (.iload 6, 2) := by decide +kernel
theorem d_La_law_406 : decode code 406 = .ok (.i2l, 1) := by decide +kernel
theorem d_La_law_407 : decode code 407 = .ok (.lcmp, 1) := by decide +kernel
theorem d_La_law_408 : decode code 408 = .ok (.ifCond .eq 5, 3) := by decide +kernel
theorem d_La_law_411 : decode code 411 = .ok (.iconst 0, 1) := by decide +kernel
theorem d_La_law_412 : decode code 412 = .ok (.ireturn, 1) := by decide +kernel
theorem d_La_law_413 : decode code 413 = .ok (.goto 1091, 3) := by decide +kernel
theorem d_La_law_416 : decode code 416 = .ok (.aload_n 1, 1) := by decide +kernel
theorem d_La_law_417 : decode code 417 = .ok (.aload_n 0, 1) := by decide +kernel
theorem d_La_law_418 : decode code 418 = .ok (.iload 4, 2) := by decide +kernel
theorem d_La_law_420 : decode code 420 = .ok (.iconst 1, 1) := by decide +kernel
theorem d_La_law_421 : decode code 421 = .ok (.iadd, 1) := by decide +kernel
theorem d_La_law_422 : decode code 422 = .ok (.iaload, 1) := by decide +kernel
theorem d_La_law_423 : decode code 423 = .ok (.aload_n 0, 1) := by decide +kernel
theorem d_La_law_424 : decode code 424 = .ok (.iload 4, 2) := by decide +kernel
theorem d_La_law_426 : decode code 426 = .ok (.iconst 2, 1) := by decide +kernel
theorem d_La_law_427 : decode code 427 = .ok (.iadd, 1) := by decide +kernel
theorem d_La_law_428 : decode code 428 = .ok (.iaload, 1) := by decide +kernel
theorem d_La_law_429 : decode code 429 = .ok (.aload_n 0, 1) := by decide +kernel
theorem d_La_law_430 : decode code 430 = .ok (.iload 4, 2) := by decide +kernel
theorem d_La_law_432 : decode code 432 = .ok (.iconst 3, 1) := by decide +kernel
theorem d_La_law_433 : decode code 433 = .ok (.iadd, 1) := by decide +kernel
theorem d_La_law_434 : decode code 434 = .ok (.iaload, 1) := by decide +kernel
theorem d_La_law_435 : decode code 435 = .ok (.aload_n 0, 1) := by decide +kernel
theorem d_La_law_436 : decode code 436 = .ok (.iload 4, 2) := by decide +kernel
theorem d_La_law_438 : decode code 438 = .ok (.iconst 4, 1) := by decide +kernel
theorem d_La_law_439 : decode code 439 = .ok (.iadd, 1) := by decide +kernel
theorem d_La_law_440 : decode code 440 = .ok (.iaload, 1) := by decide +kernel
theorem d_La_law_441 : decode code 441 = .ok (.aload_n 3, 1) := by decide +kernel
theorem d_La_law_442 : decode code 442 = .ok (.invokestatic 96, 3) := by decide +kernel
theorem d_La_law_445 : decode code 445 = .ok (.istore 5, 2) := by decide +kernel
theorem d_La_law_447 : decode code 447 = .ok (.aload_n 2, 1) := by decide +kernel
theorem d_La_law_448 : decode code 448 = .ok (.aload_n 0, 1) := by decide +kernel
theorem d_La_law_449 : decode code 449 = .ok (.iload 4, 2) := by decide +kernel
theorem d_La_law_451 : decode code 451 = .ok (.iconst 1, 1) := by decide +kernel
theorem d_La_law_452 : decode code 452 = .ok (.iadd, 1) := by decide +kernel
theorem d_La_law_453 : decode code 453 = .ok (.iaload, 1) := by decide +kernel
theorem d_La_law_454 : decode code 454 = .ok (.aload_n 0, 1) := by decide +kernel
theorem d_La_law_455 : decode code 455 = .ok (.iload 4, 2) := by decide +kernel
theorem d_La_law_457 : decode code 457 = .ok (.iconst 2, 1) := by decide +kernel
theorem d_La_law_458 : decode code 458 = .ok (.iadd, 1) := by decide +kernel
theorem d_La_law_459 : decode code 459 = .ok (.iaload, 1) := by decide +kernel
theorem d_La_law_460 : decode code 460 = .ok (.aload_n 0, 1) := by decide +kernel
theorem d_La_law_461 : decode code 461 = .ok (.iload 4, 2) := by decide +kernel
theorem d_La_law_463 : decode code 463 = .ok (.iconst 3, 1) := by decide +kernel
theorem d_La_law_464 : decode code 464 = .ok (.iadd, 1) := by decide +kernel
theorem d_La_law_465 : decode code 465 = .ok (.iaload, 1) := by decide +kernel
theorem d_La_law_466 : decode code 466 = .ok (.aload_n 0, 1) := by decide +kernel
theorem d_La_law_467 : decode code 467 = .ok (.iload 4, 2) := by decide +kernel
theorem d_La_law_469 : decode code 469 = .ok (.iconst 4, 1) := by decide +kernel
theorem d_La_law_470 : decode code 470 = .ok (.iadd, 1) := by decide +kernel
theorem d_La_law_471 : decode code 471 = .ok (.iaload, 1) := by decide +kernel
theorem d_La_law_472 : decode code 472 = .ok (.invokevirtual 98, 3) := by decide +kernel
theorem d_La_law_475 : decode code 475 = .ok (.istore 6, 2) := by decide +kernel
theorem d_La_law_477 : decode code 477 = .ok (.aload_n 2, 1) := by decide +kernel
theorem d_La_law_478 : decode code 478 = .ok (.invokevirtual 82, 3) := by decide +kernel
theorem d_La_law_481 : decode code 481 = .ok (.iload 5, 2) := by decide +kernel
theorem d_La_law_483 : decode code 483 = .ok (.if_icmp .eq 5, 3) := by decide +kernel
theorem d_La_law_486 : decode code 486 = .ok (.iconst 0, 1) := by decide +kernel
theorem d_La_law_487 : decode code 487 = .ok (.ireturn, 1) := by decide +kernel
theorem d_La_law_488 : decode code 488 = .ok (.iload 5, 2) := by decide +kernel
theorem d_La_law_490 : decode code 490 = .ok (.ifCond .ne 15, 3) := by decide +kernel
theorem d_La_law_493 : decode code 493 = .ok (.aload_n 3, 1) := by decide +kernel
theorem d_La_law_494 : decode code 494 = .ok (.iconst 0, 1) := by decide +kernel
theorem d_La_law_495 : decode code 495 = .ok (.laload, 1) := by decide +kernel
theorem d_La_law_496 : decode code 496 = .ok (.iload 6, 2) := by decide +kernel
theorem d_La_law_498 : decode code 498 = .ok (.i2l, 1) := by decide +kernel
theorem d_La_law_499 : decode code 499 = .ok (.lcmp, 1) := by decide +kernel
theorem d_La_law_500 : decode code 500 = .ok (.ifCond .eq 5, 3) := by decide +kernel
theorem d_La_law_503 : decode code 503 = .ok (.iconst 0, 1) := by decide +kernel
theorem d_La_law_504 : decode code 504 = .ok (.ireturn, 1) := by decide +kernel
theorem d_La_law_505 : decode code 505 = .ok (.goto 999, 3) := by decide +kernel
theorem d_La_law_508 : decode code 508 = .ok (.aload_n 1, 1) := by decide +kernel
theorem d_La_law_509 : decode code 509 = .ok (.aload_n 0, 1) := by decide +kernel
theorem d_La_law_510 : decode code 510 = .ok (.iload 4, 2) := by decide +kernel
theorem d_La_law_512 : decode code 512 = .ok (.iconst 1, 1) := by decide +kernel
theorem d_La_law_513 : decode code 513 = .ok (.iadd, 1) := by decide +kernel
theorem d_La_law_514 : decode code 514 = .ok (.iaload, 1) := by decide +kernel
theorem d_La_law_515 : decode code 515 = .ok (.aload_n 0, 1) := by decide +kernel
theorem d_La_law_516 : decode code 516 = .ok (.iload 4, 2) := by decide +kernel
theorem d_La_law_518 : decode code 518 = .ok (.iconst 2, 1) := by decide +kernel
theorem d_La_law_519 : decode code 519 = .ok (.iadd, 1) := by decide +kernel
theorem d_La_law_520 : decode code 520 = .ok (.iaload, 1) := by decide +kernel
theorem d_La_law_521 : decode code 521 = .ok (.aload_n 0, 1) := by decide +kernel
theorem d_La_law_522 : decode code 522 = .ok (.iload 4, 2) := by decide +kernel
theorem d_La_law_524 : decode code 524 = .ok (.iconst 3, 1) := by decide +kernel
theorem d_La_law_525 : decode code 525 = .ok (.iadd, 1) := by decide +kernel
theorem d_La_law_526 : decode code 526 = .ok (.iaload, 1) := by decide +kernel
theorem d_La_law_527 : decode code 527 = .ok (.aload_n 0, 1) := by decide +kernel
theorem d_La_law_528 : decode code 528 = .ok (.iload 4, 2) := by decide +kernel
theorem d_La_law_530 : decode code 530 = .ok (.iconst 4, 1) := by decide +kernel
theorem d_La_law_531 : decode code 531 = .ok (.iadd, 1) := by decide +kernel
theorem d_La_law_532 : decode code 532 = .ok (.iaload, 1) := by decide +kernel
theorem d_La_law_533 : decode code 533 = .ok (.aload_n 0, 1) := by decide +kernel
theorem d_La_law_534 : decode code 534 = .ok (.iload 4, 2) := by decide +kernel
theorem d_La_law_536 : decode code 536 = .ok (.iconst 5, 1) := by decide +kernel
theorem d_La_law_537 : decode code 537 = .ok (.iadd, 1) := by decide +kernel
theorem d_La_law_538 : decode code 538 = .ok (.iaload, 1) := by decide +kernel
theorem d_La_law_539 : decode code 539 = .ok (.aload_n 3, 1) := by decide +kernel
theorem d_La_law_540 : decode code 540 = .ok (.invokestatic 99, 3) := by decide +kernel
theorem d_La_law_543 : decode code 543 = .ok (.istore 5, 2) := by decide +kernel
theorem d_La_law_545 : decode code 545 = .ok (.aload_n 2, 1) := by decide +kernel
theorem d_La_law_546 : decode code 546 = .ok (.aload_n 0, 1) := by decide +kernel
theorem d_La_law_547 : decode code 547 = .ok (.iload 4, 2) := by decide +kernel
theorem d_La_law_549 : decode code 549 = .ok (.iconst 1, 1) := by decide +kernel
theorem d_La_law_550 : decode code 550 = .ok (.iadd, 1) := by decide +kernel
theorem d_La_law_551 : decode code 551 = .ok (.iaload, 1) := by decide +kernel
theorem d_La_law_552 : decode code 552 = .ok (.aload_n 0, 1) := by decide +kernel
theorem d_La_law_553 : decode code 553 = .ok (.iload 4, 2) := by decide +kernel
theorem d_La_law_555 : decode code 555 = .ok (.iconst 2, 1) := by decide +kernel
theorem d_La_law_556 : decode code 556 = .ok (.iadd, 1) := by decide +kernel
theorem d_La_law_557 : decode code 557 = .ok (.iaload, 1) := by decide +kernel
theorem d_La_law_558 : decode code 558 = .ok (.aload_n 0, 1) := by decide +kernel
theorem d_La_law_559 : decode code 559 = .ok (.iload 4, 2) := by decide +kernel
theorem d_La_law_561 : decode code 561 = .ok (.iconst 3, 1) := by decide +kernel
theorem d_La_law_562 : decode code 562 = .ok (.iadd, 1) := by decide +kernel
theorem d_La_law_563 : decode code 563 = .ok (.iaload, 1) := by decide +kernel
theorem d_La_law_564 : decode code 564 = .ok (.aload_n 0, 1) := by decide +kernel
theorem d_La_law_565 : decode code 565 = .ok (.iload 4, 2) := by decide +kernel
theorem d_La_law_567 : decode code 567 = .ok (.iconst 4, 1) := by decide +kernel
theorem d_La_law_568 : decode code 568 = .ok (.iadd, 1) := by decide +kernel
theorem d_La_law_569 : decode code 569 = .ok (.iaload, 1) := by decide +kernel
theorem d_La_law_570 : decode code 570 = .ok (.aload_n 0, 1) := by decide +kernel
theorem d_La_law_571 : decode code 571 = .ok (.iload 4, 2) := by decide +kernel
theorem d_La_law_573 : decode code 573 = .ok (.iconst 5, 1) := by decide +kernel
theorem d_La_law_574 : decode code 574 = .ok (.iadd, 1) := by decide +kernel
theorem d_La_law_575 : decode code 575 = .ok (.iaload, 1) := by decide +kernel
theorem d_La_law_576 : decode code 576 = .ok (.invokevirtual 102, 3) := by decide +kernel
theorem d_La_law_579 : decode code 579 = .ok (.istore 6, 2) := by decide +kernel
theorem d_La_law_581 : decode code 581 = .ok (.aload_n 2, 1) := by decide +kernel
theorem d_La_law_582 : decode code 582 = .ok (.invokevirtual 82, 3) := by decide +kernel
theorem d_La_law_585 : decode code 585 = .ok (.iload 5, 2) := by decide +kernel
theorem d_La_law_587 : decode code 587 = .ok (.if_icmp .eq 5, 3) := by decide +kernel
theorem d_La_law_590 : decode code 590 = .ok (.iconst 0, 1) := by decide +kernel
theorem d_La_law_591 : decode code 591 = .ok (.ireturn, 1) := by decide +kernel
theorem d_La_law_592 : decode code 592 = .ok (.iload 5, 2) := by decide +kernel
theorem d_La_law_594 : decode code 594 = .ok (.ifCond .ne 15, 3) := by decide +kernel
theorem d_La_law_597 : decode code 597 = .ok (.aload_n 3, 1) := by decide +kernel
theorem d_La_law_598 : decode code 598 = .ok (.iconst 0, 1) := by decide +kernel
theorem d_La_law_599 : decode code 599 = .ok (.laload, 1) := by decide +kernel
theorem d_La_law_600 : decode code 600 = .ok (.iload 6, 2) := by decide +kernel
theorem d_La_law_602 : decode code 602 = .ok (.i2l, 1) := by decide +kernel
theorem d_La_law_603 : decode code 603 = .ok (.lcmp, 1) := by decide +kernel
theorem d_La_law_604 : decode code 604 = .ok (.ifCond .eq 5, 3) := by decide +kernel
theorem d_La_law_607 : decode code 607 = .ok (.iconst 0, 1) := by decide +kernel
theorem d_La_law_608 : decode code 608 = .ok (.ireturn, 1) := by decide +kernel
theorem d_La_law_609 : decode code 609 = .ok (.goto 895, 3) := by decide +kernel
theorem d_La_law_612 : decode code 612 = .ok (.aload_n 1, 1) := by decide +kernel
theorem d_La_law_613 : decode code 613 = .ok (.aload_n 0, 1) := by decide +kernel
theorem d_La_law_614 : decode code 614 = .ok (.iload 4, 2) := by decide +kernel
theorem d_La_law_616 : decode code 616 = .ok (.iconst 1, 1) := by decide +kernel
theorem d_La_law_617 : decode code 617 = .ok (.iadd, 1) := by decide +kernel
theorem d_La_law_618 : decode code 618 = .ok (.iaload, 1) := by decide +kernel
theorem d_La_law_619 : decode code 619 = .ok (.aload_n 0, 1) := by decide +kernel
theorem d_La_law_620 : decode code 620 = .ok (.iload 4, 2) := by decide +kernel
theorem d_La_law_622 : decode code 622 = .ok (.iconst 2, 1) := by decide +kernel
theorem d_La_law_623 : decode code 623 = .ok (.iadd, 1) := by decide +kernel
theorem d_La_law_624 : decode code 624 = .ok (.iaload, 1) := by decide +kernel
theorem d_La_law_625 : decode code 625 = .ok (.aload_n 0, 1) := by decide +kernel
theorem d_La_law_626 : decode code 626 = .ok (.iload 4, 2) := by decide +kernel
theorem d_La_law_628 : decode code 628 = .ok (.iconst 3, 1) := by decide +kernel
theorem d_La_law_629 : decode code 629 = .ok (.iadd, 1) := by decide +kernel
theorem d_La_law_630 : decode code 630 = .ok (.iaload, 1) := by decide +kernel
theorem d_La_law_631 : decode code 631 = .ok (.aload_n 0, 1) := by decide +kernel
theorem d_La_law_632 : decode code 632 = .ok (.iload 4, 2) := by decide +kernel
theorem d_La_law_634 : decode code 634 = .ok (.iconst 4, 1) := by decide +kernel
theorem d_La_law_635 : decode code 635 = .ok (.iadd, 1) := by decide +kernel
theorem d_La_law_636 : decode code 636 = .ok (.iaload, 1) := by decide +kernel
theorem d_La_law_637 : decode code 637 = .ok (.aload_n 3, 1) := by decide +kernel
theorem d_La_law_638 : decode code 638 = .ok (.invokestatic 103, 3) := by decide +kernel
theorem d_La_law_641 : decode code 641 = .ok (.istore 5, 2) := by decide +kernel
theorem d_La_law_643 : decode code 643 = .ok (.aload_n 2, 1) := by decide +kernel
theorem d_La_law_644 : decode code 644 = .ok (.aload_n 0, 1) := by decide +kernel
theorem d_La_law_645 : decode code 645 = .ok (.iload 4, 2) := by decide +kernel
theorem d_La_law_647 : decode code 647 = .ok (.iconst 1, 1) := by decide +kernel
theorem d_La_law_648 : decode code 648 = .ok (.iadd, 1) := by decide +kernel
theorem d_La_law_649 : decode code 649 = .ok (.iaload, 1) := by decide +kernel
theorem d_La_law_650 : decode code 650 = .ok (.aload_n 0, 1) := by decide +kernel
theorem d_La_law_651 : decode code 651 = .ok (.iload 4, 2) := by decide +kernel
theorem d_La_law_653 : decode code 653 = .ok (.iconst 2, 1) := by decide +kernel
theorem d_La_law_654 : decode code 654 = .ok (.iadd, 1) := by decide +kernel
theorem d_La_law_655 : decode code 655 = .ok (.iaload, 1) := by decide +kernel
theorem d_La_law_656 : decode code 656 = .ok (.aload_n 0, 1) := by decide +kernel
theorem d_La_law_657 : decode code 657 = .ok (.iload 4, 2) := by decide +kernel
theorem d_La_law_659 : decode code 659 = .ok (.iconst 3, 1) := by decide +kernel
theorem d_La_law_660 : decode code 660 = .ok (.iadd, 1) := by decide +kernel
theorem d_La_law_661 : decode code 661 = .ok (.iaload, 1) := by decide +kernel
theorem d_La_law_662 : decode code 662 = .ok (.aload_n 0, 1) := by decide +kernel
theorem d_La_law_663 : decode code 663 = .ok (.iload 4, 2) := by decide +kernel
theorem d_La_law_665 : decode code 665 = .ok (.iconst 4, 1) := by decide +kernel
theorem d_La_law_666 : decode code 666 = .ok (.iadd, 1) := by decide +kernel
theorem d_La_law_667 : decode code 667 = .ok (.iaload, 1) := by decide +kernel
theorem d_La_law_668 : decode code 668 = .ok (.invokevirtual 105, 3) := by decide +kernel
theorem d_La_law_671 : decode code 671 = .ok (.istore 6, 2) := by decide +kernel
theorem d_La_law_673 : decode code 673 = .ok (.aload_n 2, 1) := by decide +kernel
theorem d_La_law_674 : decode code 674 = .ok (.invokevirtual 82, 3) := by decide +kernel
theorem d_La_law_677 : decode code 677 = .ok (.iload 5, 2) := by decide +kernel
theorem d_La_law_679 : decode code 679 = .ok (.if_icmp .eq 5, 3) := by decide +kernel
theorem d_La_law_682 : decode code 682 = .ok (.iconst 0, 1) := by decide +kernel
theorem d_La_law_683 : decode code 683 = .ok (.ireturn, 1) := by decide +kernel
theorem d_La_law_684 : decode code 684 = .ok (.iload 5, 2) := by decide +kernel
theorem d_La_law_686 : decode code 686 = .ok (.ifCond .ne 15, 3) := by decide +kernel
theorem d_La_law_689 : decode code 689 = .ok (.aload_n 3, 1) := by decide +kernel
theorem d_La_law_690 : decode code 690 = .ok (.iconst 0, 1) := by decide +kernel
theorem d_La_law_691 : decode code 691 = .ok (.laload, 1) := by decide +kernel
theorem d_La_law_692 : decode code 692 = .ok (.iload 6, 2) := by decide +kernel
theorem d_La_law_694 : decode code 694 = .ok (.i2l, 1) := by decide +kernel
theorem d_La_law_695 : decode code 695 = .ok (.lcmp, 1) := by decide +kernel
theorem d_La_law_696 : decode code 696 = .ok (.ifCond .eq 5, 3) := by decide +kernel
theorem d_La_law_699 : decode code 699 = .ok (.iconst 0, 1) := by decide +kernel
theorem d_La_law_700 : decode code 700 = .ok (.ireturn, 1) := by decide +kernel
theorem d_La_law_701 : decode code 701 = .ok (.goto 803, 3) := by decide +kernel
theorem d_La_law_704 : decode code 704 = .ok (.aload_n 1, 1) := by decide +kernel
theorem d_La_law_705 : decode code 705 = .ok (.aload_n 0, 1) := by decide +kernel
theorem d_La_law_706 : decode code 706 = .ok (.iload 4, 2) := by decide +kernel
theorem d_La_law_708 : decode code 708 = .ok (.iconst 1, 1) := by decide +kernel
theorem d_La_law_709 : decode code 709 = .ok (.iadd, 1) := by decide +kernel
theorem d_La_law_710 : decode code 710 = .ok (.iaload, 1) := by decide +kernel
theorem d_La_law_711 : decode code 711 = .ok (.aload_n 0, 1) := by decide +kernel
theorem d_La_law_712 : decode code 712 = .ok (.iload 4, 2) := by decide +kernel
theorem d_La_law_714 : decode code 714 = .ok (.iconst 2, 1) := by decide +kernel
theorem d_La_law_715 : decode code 715 = .ok (.iadd, 1) := by decide +kernel
theorem d_La_law_716 : decode code 716 = .ok (.iaload, 1) := by decide +kernel
theorem d_La_law_717 : decode code 717 = .ok (.aload_n 0, 1) := by decide +kernel
theorem d_La_law_718 : decode code 718 = .ok (.iload 4, 2) := by decide +kernel
theorem d_La_law_720 : decode code 720 = .ok (.iconst 3, 1) := by decide +kernel
theorem d_La_law_721 : decode code 721 = .ok (.iadd, 1) := by decide +kernel
theorem d_La_law_722 : decode code 722 = .ok (.iaload, 1) := by decide +kernel
theorem d_La_law_723 : decode code 723 = .ok (.aload_n 0, 1) := by decide +kernel
theorem d_La_law_724 : decode code 724 = .ok (.iload 4, 2) := by decide +kernel
theorem d_La_law_726 : decode code 726 = .ok (.iconst 4, 1) := by decide +kernel
theorem d_La_law_727 : decode code 727 = .ok (.iadd, 1) := by decide +kernel
theorem d_La_law_728 : decode code 728 = .ok (.iaload, 1) := by decide +kernel
theorem d_La_law_729 : decode code 729 = .ok (.aload_n 3, 1) := by decide +kernel
theorem d_La_law_730 : decode code 730 = .ok (.invokestatic 106, 3) := by decide +kernel
theorem d_La_law_733 : decode code 733 = .ok (.istore 5, 2) := by decide +kernel
theorem d_La_law_735 : decode code 735 = .ok (.aload_n 2, 1) := by decide +kernel
theorem d_La_law_736 : decode code 736 = .ok (.aload_n 0, 1) := by decide +kernel
theorem d_La_law_737 : decode code 737 = .ok (.iload 4, 2) := by decide +kernel
theorem d_La_law_739 : decode code 739 = .ok (.iconst 1, 1) := by decide +kernel
theorem d_La_law_740 : decode code 740 = .ok (.iadd, 1) := by decide +kernel
theorem d_La_law_741 : decode code 741 = .ok (.iaload, 1) := by decide +kernel
theorem d_La_law_742 : decode code 742 = .ok (.aload_n 0, 1) := by decide +kernel
theorem d_La_law_743 : decode code 743 = .ok (.iload 4, 2) := by decide +kernel
theorem d_La_law_745 : decode code 745 = .ok (.iconst 2, 1) := by decide +kernel
theorem d_La_law_746 : decode code 746 = .ok (.iadd, 1) := by decide +kernel
theorem d_La_law_747 : decode code 747 = .ok (.iaload, 1) := by decide +kernel
theorem d_La_law_748 : decode code 748 = .ok (.aload_n 0, 1) := by decide +kernel
theorem d_La_law_749 : decode code 749 = .ok (.iload 4, 2) := by decide +kernel
theorem d_La_law_751 : decode code 751 = .ok (.iconst 3, 1) := by decide +kernel
theorem d_La_law_752 : decode code 752 = .ok (.iadd, 1) := by decide +kernel
theorem d_La_law_753 : decode code 753 = .ok (.iaload, 1) := by decide +kernel
theorem d_La_law_754 : decode code 754 = .ok (.aload_n 0, 1) := by decide +kernel
theorem d_La_law_755 : decode code 755 = .ok (.iload 4, 2) := by decide +kernel
theorem d_La_law_757 : decode code 757 = .ok (.iconst 4, 1) := by decide +kernel
theorem d_La_law_758 : decode code 758 = .ok (.iadd, 1) := by decide +kernel
theorem d_La_law_759 : decode code 759 = .ok (.iaload, 1) := by decide +kernel
theorem d_La_law_760 : decode code 760 = .ok (.invokevirtual 108, 3) := by decide +kernel
theorem d_La_law_763 : decode code 763 = .ok (.istore 6, 2) := by decide +kernel
theorem d_La_law_765 : decode code 765 = .ok (.aload_n 2, 1) := by decide +kernel
theorem d_La_law_766 : decode code 766 = .ok (.invokevirtual 82, 3) := by decide +kernel
theorem d_La_law_769 : decode code 769 = .ok (.iload 5, 2) := by decide +kernel
theorem d_La_law_771 : decode code 771 = .ok (.if_icmp .eq 5, 3) := by decide +kernel
theorem d_La_law_774 : decode code 774 = .ok (.iconst 0, 1) := by decide +kernel
theorem d_La_law_775 : decode code 775 = .ok (.ireturn, 1) := by decide +kernel
theorem d_La_law_776 : decode code 776 = .ok (.iload 5, 2) := by decide +kernel
theorem d_La_law_778 : decode code 778 = .ok (.ifCond .ne 15, 3) := by decide +kernel
theorem d_La_law_781 : decode code 781 = .ok (.aload_n 3, 1) := by decide +kernel
theorem d_La_law_782 : decode code 782 = .ok (.iconst 0, 1) := by decide +kernel
theorem d_La_law_783 : decode code 783 = .ok (.laload, 1) := by decide +kernel
theorem d_La_law_784 : decode code 784 = .ok (.iload 6, 2) := by decide +kernel
theorem d_La_law_786 : decode code 786 = .ok (.i2l, 1) := by decide +kernel
theorem d_La_law_787 : decode code 787 = .ok (.lcmp, 1) := by decide +kernel
theorem d_La_law_788 : decode code 788 = .ok (.ifCond .eq 5, 3) := by decide +kernel
theorem d_La_law_791 : decode code 791 = .ok (.iconst 0, 1) := by decide +kernel
theorem d_La_law_792 : decode code 792 = .ok (.ireturn, 1) := by decide +kernel
theorem d_La_law_793 : decode code 793 = .ok (.goto 711, 3) := by decide +kernel
theorem d_La_law_796 : decode code 796 = .ok (.aload_n 1, 1) := by decide +kernel
theorem d_La_law_797 : decode code 797 = .ok (.aload_n 0, 1) := by decide +kernel
theorem d_La_law_798 : decode code 798 = .ok (.iload 4, 2) := by decide +kernel
theorem d_La_law_800 : decode code 800 = .ok (.iconst 1, 1) := by decide +kernel
theorem d_La_law_801 : decode code 801 = .ok (.iadd, 1) := by decide +kernel
theorem d_La_law_802 : decode code 802 = .ok (.iaload, 1) := by decide +kernel
theorem d_La_law_803 : decode code 803 = .ok (.aload_n 0, 1) := by decide +kernel
theorem d_La_law_804 : decode code 804 = .ok (.iload 4, 2) := by decide +kernel
theorem d_La_law_806 : decode code 806 = .ok (.iconst 2, 1) := by decide +kernel
theorem d_La_law_807 : decode code 807 = .ok (.iadd, 1) := by decide +kernel
theorem d_La_law_808 : decode code 808 = .ok (.iaload, 1) := by decide +kernel
theorem d_La_law_809 : decode code 809 = .ok (.aload_n 3, 1) := by decide +kernel
theorem d_La_law_810 : decode code 810 = .ok (.invokestatic 109, 3) := by decide +kernel
theorem d_La_law_813 : decode code 813 = .ok (.istore 5, 2) := by decide +kernel
theorem d_La_law_815 : decode code 815 = .ok (.aload_n 2, 1) := by decide +kernel
theorem d_La_law_816 : decode code 816 = .ok (.aload_n 0, 1) := by decide +kernel
theorem d_La_law_817 : decode code 817 = .ok (.iload 4, 2) := by decide +kernel
theorem d_La_law_819 : decode code 819 = .ok (.iconst 1, 1) := by decide +kernel
theorem d_La_law_820 : decode code 820 = .ok (.iadd, 1) := by decide +kernel
theorem d_La_law_821 : decode code 821 = .ok (.iaload, 1) := by decide +kernel
theorem d_La_law_822 : decode code 822 = .ok (.aload_n 0, 1) := by decide +kernel
theorem d_La_law_823 : decode code 823 = .ok (.iload 4, 2) := by decide +kernel
theorem d_La_law_825 : decode code 825 = .ok (.iconst 2, 1) := by decide +kernel
theorem d_La_law_826 : decode code 826 = .ok (.iadd, 1) := by decide +kernel
theorem d_La_law_827 : decode code 827 = .ok (.iaload, 1) := by decide +kernel
theorem d_La_law_828 : decode code 828 = .ok (.invokevirtual 112, 3) := by decide +kernel
theorem d_La_law_831 : decode code 831 = .ok (.istore 6, 2) := by decide +kernel
theorem d_La_law_833 : decode code 833 = .ok (.aload_n 2, 1) := by decide +kernel
theorem d_La_law_834 : decode code 834 = .ok (.invokevirtual 82, 3) := by decide +kernel
theorem d_La_law_837 : decode code 837 = .ok (.iload 5, 2) := by decide +kernel
theorem d_La_law_839 : decode code 839 = .ok (.if_icmp .eq 5, 3) := by decide +kernel
theorem d_La_law_842 : decode code 842 = .ok (.iconst 0, 1) := by decide +kernel
theorem d_La_law_843 : decode code 843 = .ok (.ireturn, 1) := by decide +kernel
theorem d_La_law_844 : decode code 844 = .ok (.iload 5, 2) := by decide +kernel
theorem d_La_law_846 : decode code 846 = .ok (.ifCond .ne 15, 3) := by decide +kernel
theorem d_La_law_849 : decode code 849 = .ok (.aload_n 3, 1) := by decide +kernel
theorem d_La_law_850 : decode code 850 = .ok (.iconst 0, 1) := by decide +kernel
theorem d_La_law_851 : decode code 851 = .ok (.laload, 1) := by decide +kernel
theorem d_La_law_852 : decode code 852 = .ok (.iload 6, 2) := by decide +kernel
theorem d_La_law_854 : decode code 854 = .ok (.i2l, 1) := by decide +kernel
theorem d_La_law_855 : decode code 855 = .ok (.lcmp, 1) := by decide +kernel
theorem d_La_law_856 : decode code 856 = .ok (.ifCond .eq 5, 3) := by decide +kernel
theorem d_La_law_859 : decode code 859 = .ok (.iconst 0, 1) := by decide +kernel
theorem d_La_law_860 : decode code 860 = .ok (.ireturn, 1) := by decide +kernel
theorem d_La_law_861 : decode code 861 = .ok (.goto 643, 3) := by decide +kernel
theorem d_La_law_864 : decode code 864 = .ok (.aload_n 1, 1) := by decide +kernel
theorem d_La_law_865 : decode code 865 = .ok (.aload_n 0, 1) := by decide +kernel
theorem d_La_law_866 : decode code 866 = .ok (.iload 4, 2) := by decide +kernel
theorem d_La_law_868 : decode code 868 = .ok (.iconst 1, 1) := by decide +kernel
theorem d_La_law_869 : decode code 869 = .ok (.iadd, 1) := by decide +kernel
theorem d_La_law_870 : decode code 870 = .ok (.iaload, 1) := by decide +kernel
theorem d_La_law_871 : decode code 871 = .ok (.aload_n 0, 1) := by decide +kernel
theorem d_La_law_872 : decode code 872 = .ok (.iload 4, 2) := by decide +kernel
theorem d_La_law_874 : decode code 874 = .ok (.iconst 2, 1) := by decide +kernel
theorem d_La_law_875 : decode code 875 = .ok (.iadd, 1) := by decide +kernel
theorem d_La_law_876 : decode code 876 = .ok (.iaload, 1) := by decide +kernel
theorem d_La_law_877 : decode code 877 = .ok (.aload_n 0, 1) := by decide +kernel
theorem d_La_law_878 : decode code 878 = .ok (.iload 4, 2) := by decide +kernel
theorem d_La_law_880 : decode code 880 = .ok (.iconst 3, 1) := by decide +kernel
theorem d_La_law_881 : decode code 881 = .ok (.iadd, 1) := by decide +kernel
theorem d_La_law_882 : decode code 882 = .ok (.iaload, 1) := by decide +kernel
theorem d_La_law_883 : decode code 883 = .ok (.aload_n 3, 1) := by decide +kernel
theorem d_La_law_884 : decode code 884 = .ok (.invokestatic 113, 3) := by decide +kernel
theorem d_La_law_887 : decode code 887 = .ok (.istore 5, 2) := by decide +kernel
theorem d_La_law_889 : decode code 889 = .ok (.aload_n 2, 1) := by decide +kernel
theorem d_La_law_890 : decode code 890 = .ok (.aload_n 0, 1) := by decide +kernel
theorem d_La_law_891 : decode code 891 = .ok (.iload 4, 2) := by decide +kernel
theorem d_La_law_893 : decode code 893 = .ok (.iconst 1, 1) := by decide +kernel
theorem d_La_law_894 : decode code 894 = .ok (.iadd, 1) := by decide +kernel
theorem d_La_law_895 : decode code 895 = .ok (.iaload, 1) := by decide +kernel
theorem d_La_law_896 : decode code 896 = .ok (.aload_n 0, 1) := by decide +kernel
theorem d_La_law_897 : decode code 897 = .ok (.iload 4, 2) := by decide +kernel
theorem d_La_law_899 : decode code 899 = .ok (.iconst 2, 1) := by decide +kernel
theorem d_La_law_900 : decode code 900 = .ok (.iadd, 1) := by decide +kernel
theorem d_La_law_901 : decode code 901 = .ok (.iaload, 1) := by decide +kernel
theorem d_La_law_902 : decode code 902 = .ok (.aload_n 0, 1) := by decide +kernel
theorem d_La_law_903 : decode code 903 = .ok (.iload 4, 2) := by decide +kernel
theorem d_La_law_905 : decode code 905 = .ok (.iconst 3, 1) := by decide +kernel
theorem d_La_law_906 : decode code 906 = .ok (.iadd, 1) := by decide +kernel
theorem d_La_law_907 : decode code 907 = .ok (.iaload, 1) := by decide +kernel
theorem d_La_law_908 : decode code 908 = .ok (.invokevirtual 116, 3) := by decide +kernel
theorem d_La_law_911 : decode code 911 = .ok (.istore 6, 2) := by decide +kernel
theorem d_La_law_913 : decode code 913 = .ok (.aload_n 2, 1) := by decide +kernel
theorem d_La_law_914 : decode code 914 = .ok (.invokevirtual 82, 3) := by decide +kernel
theorem d_La_law_917 : decode code 917 = .ok (.iload 5, 2) := by decide +kernel
theorem d_La_law_919 : decode code 919 = .ok (.if_icmp .eq 5, 3) := by decide +kernel
theorem d_La_law_922 : decode code 922 = .ok (.iconst 0, 1) := by decide +kernel
theorem d_La_law_923 : decode code 923 = .ok (.ireturn, 1) := by decide +kernel
theorem d_La_law_924 : decode code 924 = .ok (.iload 5, 2) := by decide +kernel
theorem d_La_law_926 : decode code 926 = .ok (.ifCond .ne 15, 3) := by decide +kernel
theorem d_La_law_929 : decode code 929 = .ok (.aload_n 3, 1) := by decide +kernel
theorem d_La_law_930 : decode code 930 = .ok (.iconst 0, 1) := by decide +kernel
theorem d_La_law_931 : decode code 931 = .ok (.laload, 1) := by decide +kernel
theorem d_La_law_932 : decode code 932 = .ok (.iload 6, 2) := by decide +kernel
theorem d_La_law_934 : decode code 934 = .ok (.i2l, 1) := by decide +kernel
theorem d_La_law_935 : decode code 935 = .ok (.lcmp, 1) := by decide +kernel
theorem d_La_law_936 : decode code 936 = .ok (.ifCond .eq 5, 3) := by decide +kernel
theorem d_La_law_939 : decode code 939 = .ok (.iconst 0, 1) := by decide +kernel
theorem d_La_law_940 : decode code 940 = .ok (.ireturn, 1) := by decide +kernel
theorem d_La_law_941 : decode code 941 = .ok (.goto 563, 3) := by decide +kernel
theorem d_La_law_944 : decode code 944 = .ok (.aload_n 1, 1) := by decide +kernel
theorem d_La_law_945 : decode code 945 = .ok (.aload_n 0, 1) := by decide +kernel
theorem d_La_law_946 : decode code 946 = .ok (.iload 4, 2) := by decide +kernel
theorem d_La_law_948 : decode code 948 = .ok (.iconst 1, 1) := by decide +kernel
theorem d_La_law_949 : decode code 949 = .ok (.iadd, 1) := by decide +kernel
theorem d_La_law_950 : decode code 950 = .ok (.iaload, 1) := by decide +kernel
theorem d_La_law_951 : decode code 951 = .ok (.aload_n 0, 1) := by decide +kernel
theorem d_La_law_952 : decode code 952 = .ok (.iload 4, 2) := by decide +kernel
theorem d_La_law_954 : decode code 954 = .ok (.iconst 2, 1) := by decide +kernel
theorem d_La_law_955 : decode code 955 = .ok (.iadd, 1) := by decide +kernel
theorem d_La_law_956 : decode code 956 = .ok (.iaload, 1) := by decide +kernel
theorem d_La_law_957 : decode code 957 = .ok (.aload_n 0, 1) := by decide +kernel
theorem d_La_law_958 : decode code 958 = .ok (.iload 4, 2) := by decide +kernel
theorem d_La_law_960 : decode code 960 = .ok (.iconst 3, 1) := by decide +kernel
theorem d_La_law_961 : decode code 961 = .ok (.iadd, 1) := by decide +kernel
theorem d_La_law_962 : decode code 962 = .ok (.iaload, 1) := by decide +kernel
theorem d_La_law_963 : decode code 963 = .ok (.aload_n 0, 1) := by decide +kernel
theorem d_La_law_964 : decode code 964 = .ok (.iload 4, 2) := by decide +kernel
theorem d_La_law_966 : decode code 966 = .ok (.iconst 4, 1) := by decide +kernel
theorem d_La_law_967 : decode code 967 = .ok (.iadd, 1) := by decide +kernel
theorem d_La_law_968 : decode code 968 = .ok (.iaload, 1) := by decide +kernel
theorem d_La_law_969 : decode code 969 = .ok (.aload_n 3, 1) := by decide +kernel
theorem d_La_law_970 : decode code 970 = .ok (.invokestatic 117, 3) := by decide +kernel
theorem d_La_law_973 : decode code 973 = .ok (.istore 5, 2) := by decide +kernel
theorem d_La_law_975 : decode code 975 = .ok (.aload_n 2, 1) := by decide +kernel
theorem d_La_law_976 : decode code 976 = .ok (.aload_n 0, 1) := by decide +kernel
theorem d_La_law_977 : decode code 977 = .ok (.iload 4, 2) := by decide +kernel
theorem d_La_law_979 : decode code 979 = .ok (.iconst 1, 1) := by decide +kernel
theorem d_La_law_980 : decode code 980 = .ok (.iadd, 1) := by decide +kernel
theorem d_La_law_981 : decode code 981 = .ok (.iaload, 1) := by decide +kernel
theorem d_La_law_982 : decode code 982 = .ok (.aload_n 0, 1) := by decide +kernel
theorem d_La_law_983 : decode code 983 = .ok (.iload 4, 2) := by decide +kernel
theorem d_La_law_985 : decode code 985 = .ok (.iconst 2, 1) := by decide +kernel
theorem d_La_law_986 : decode code 986 = .ok (.iadd, 1) := by decide +kernel
theorem d_La_law_987 : decode code 987 = .ok (.iaload, 1) := by decide +kernel
theorem d_La_law_988 : decode code 988 = .ok (.aload_n 0, 1) := by decide +kernel
theorem d_La_law_989 : decode code 989 = .ok (.iload 4, 2) := by decide +kernel
theorem d_La_law_991 : decode code 991 = .ok (.iconst 3, 1) := by decide +kernel
theorem d_La_law_992 : decode code 992 = .ok (.iadd, 1) := by decide +kernel
theorem d_La_law_993 : decode code 993 = .ok (.iaload, 1) := by decide +kernel
theorem d_La_law_994 : decode code 994 = .ok (.aload_n 0, 1) := by decide +kernel
theorem d_La_law_995 : decode code 995 = .ok (.iload 4, 2) := by decide +kernel
theorem d_La_law_997 : decode code 997 = .ok (.iconst 4, 1) := by decide +kernel
theorem d_La_law_998 : decode code 998 = .ok (.iadd, 1) := by decide +kernel
theorem d_La_law_999 : decode code 999 = .ok (.iaload, 1) := by decide +kernel
theorem d_La_law_1000 : decode code 1000 = .ok (.invokevirtual 119, 3) := by decide +kernel
theorem d_La_law_1003 : decode code 1003 = .ok (.istore 6, 2) := by decide +kernel
theorem d_La_law_1005 : decode code 1005 = .ok (.aload_n 2, 1) := by decide +kernel
theorem d_La_law_1006 : decode code 1006 = .ok (.invokevirtual 82, 3) := by decide +kernel
theorem d_La_law_1009 : decode code 1009 = .ok (.iload 5, 2) := by decide +kernel
theorem d_La_law_1011 : decode code 1011 = .ok (.if_icmp .eq 5, 3) := by decide +kernel
theorem d_La_law_1014 : decode code 1014 = .ok (.iconst 0, 1) := by decide +kernel
theorem d_La_law_1015 : decode code 1015 = .ok (.ireturn, 1) := by decide +kernel
theorem d_La_law_1016 : decode code 1016 = .ok (.iload 5, 2) := by decide +kernel
theorem d_La_law_1018 : decode code 1018 = .ok (.ifCond .ne 15, 3) := by decide +kernel
theorem d_La_law_1021 : decode code 1021 = .ok (.aload_n 3, 1) := by decide +kernel
theorem d_La_law_1022 : decode code 1022 = .ok (.iconst 0, 1) := by decide +kernel
theorem d_La_law_1023 : decode code 1023 = .ok (.laload, 1) := by decide +kernel
theorem d_La_law_1024 : decode code 1024 = .ok (.iload 6, 2) := by decide +kernel
theorem d_La_law_1026 : decode code 1026 = .ok (.i2l, 1) := by decide +kernel
theorem d_La_law_1027 : decode code 1027 = .ok (.lcmp, 1) := by decide +kernel
theorem d_La_law_1028 : decode code 1028 = .ok (.ifCond .eq 5, 3) := by decide +kernel
theorem d_La_law_1031 : decode code 1031 = .ok (.iconst 0, 1) := by decide +kernel
theorem d_La_law_1032 : decode code 1032 = .ok (.ireturn, 1) := by decide +kernel
theorem d_La_law_1033 : decode code 1033 = .ok (.goto 471, 3) := by decide +kernel
theorem d_La_law_1036 : decode code 1036 = .ok (.aload_n 1, 1) := by decide +kernel
theorem d_La_law_1037 : decode code 1037 = .ok (.aload_n 0, 1) := by decide +kernel
theorem d_La_law_1038 : decode code 1038 = .ok (.iload 4, 2) := by decide +kernel
theorem d_La_law_1040 : decode code 1040 = .ok (.iconst 1, 1) := by decide +kernel
theorem d_La_law_1041 : decode code 1041 = .ok (.iadd, 1) := by decide +kernel
theorem d_La_law_1042 : decode code 1042 = .ok (.iaload, 1) := by decide +kernel
theorem d_La_law_1043 : decode code 1043 = .ok (.aload_n 0, 1) := by decide +kernel
theorem d_La_law_1044 : decode code 1044 = .ok (.iload 4, 2) := by decide +kernel
theorem d_La_law_1046 : decode code 1046 = .ok (.iconst 2, 1) := by decide +kernel
theorem d_La_law_1047 : decode code 1047 = .ok (.iadd, 1) := by decide +kernel
theorem d_La_law_1048 : decode code 1048 = .ok (.iaload, 1) := by decide +kernel
theorem d_La_law_1049 : decode code 1049 = .ok (.aload_n 0, 1) := by decide +kernel
theorem d_La_law_1050 : decode code 1050 = .ok (.iload 4, 2) := by decide +kernel
theorem d_La_law_1052 : decode code 1052 = .ok (.iconst 3, 1) := by decide +kernel
theorem d_La_law_1053 : decode code 1053 = .ok (.iadd, 1) := by decide +kernel
theorem d_La_law_1054 : decode code 1054 = .ok (.iaload, 1) := by decide +kernel
theorem d_La_law_1055 : decode code 1055 = .ok (.aload_n 0, 1) := by decide +kernel
theorem d_La_law_1056 : decode code 1056 = .ok (.iload 4, 2) := by decide +kernel
theorem d_La_law_1058 : decode code 1058 = .ok (.iconst 4, 1) := by decide +kernel
theorem d_La_law_1059 : decode code 1059 = .ok (.iadd, 1) := by decide +kernel
theorem d_La_law_1060 : decode code 1060 = .ok (.iaload, 1) := by decide +kernel
theorem d_La_law_1061 : decode code 1061 = .ok (.aload_n 3, 1) := by decide +kernel
theorem d_La_law_1062 : decode code 1062 = .ok (.invokestatic 120, 3) := by decide +kernel
theorem d_La_law_1065 : decode code 1065 = .ok (.istore 5, 2) := by decide +kernel
theorem d_La_law_1067 : decode code 1067 = .ok (.aload_n 2, 1) := by decide +kernel
theorem d_La_law_1068 : decode code 1068 = .ok (.aload_n 0, 1) := by decide +kernel
theorem d_La_law_1069 : decode code 1069 = .ok (.iload 4, 2) := by decide +kernel
theorem d_La_law_1071 : decode code 1071 = .ok (.iconst 1, 1) := by decide +kernel
theorem d_La_law_1072 : decode code 1072 = .ok (.iadd, 1) := by decide +kernel
theorem d_La_law_1073 : decode code 1073 = .ok (.iaload, 1) := by decide +kernel
theorem d_La_law_1074 : decode code 1074 = .ok (.aload_n 0, 1) := by decide +kernel
theorem d_La_law_1075 : decode code 1075 = .ok (.iload 4, 2) := by decide +kernel
theorem d_La_law_1077 : decode code 1077 = .ok (.iconst 2, 1) := by decide +kernel
theorem d_La_law_1078 : decode code 1078 = .ok (.iadd, 1) := by decide +kernel
theorem d_La_law_1079 : decode code 1079 = .ok (.iaload, 1) := by decide +kernel
theorem d_La_law_1080 : decode code 1080 = .ok (.aload_n 0, 1) := by decide +kernel
theorem d_La_law_1081 : decode code 1081 = .ok (.iload 4, 2) := by decide +kernel
theorem d_La_law_1083 : decode code 1083 = .ok (.iconst 3, 1) := by decide +kernel
theorem d_La_law_1084 : decode code 1084 = .ok (.iadd, 1) := by decide +kernel
theorem d_La_law_1085 : decode code 1085 = .ok (.iaload, 1) := by decide +kernel
theorem d_La_law_1086 : decode code 1086 = .ok (.aload_n 0, 1) := by decide +kernel
theorem d_La_law_1087 : decode code 1087 = .ok (.iload 4, 2) := by decide +kernel
theorem d_La_law_1089 : decode code 1089 = .ok (.iconst 4, 1) := by decide +kernel
theorem d_La_law_1090 : decode code 1090 = .ok (.iadd, 1) := by decide +kernel
theorem d_La_law_1091 : decode code 1091 = .ok (.iaload, 1) := by decide +kernel
theorem d_La_law_1092 : decode code 1092 = .ok (.invokevirtual 122, 3) := by decide +kernel
theorem d_La_law_1095 : decode code 1095 = .ok (.istore 6, 2) := by decide +kernel
theorem d_La_law_1097 : decode code 1097 = .ok (.aload_n 2, 1) := by decide +kernel
theorem d_La_law_1098 : decode code 1098 = .ok (.invokevirtual 82, 3) := by decide +kernel
theorem d_La_law_1101 : decode code 1101 = .ok (.iload 5, 2) := by decide +kernel
theorem d_La_law_1103 : decode code 1103 = .ok (.if_icmp .eq 5, 3) := by decide +kernel
theorem d_La_law_1106 : decode code 1106 = .ok (.iconst 0, 1) := by decide +kernel
theorem d_La_law_1107 : decode code 1107 = .ok (.ireturn, 1) := by decide +kernel
theorem d_La_law_1108 : decode code 1108 = .ok (.iload 5, 2) := by decide +kernel
theorem d_La_law_1110 : decode code 1110 = .ok (.ifCond .ne 15, 3) := by decide +kernel
theorem d_La_law_1113 : decode code 1113 = .ok (.aload_n 3, 1) := by decide +kernel
theorem d_La_law_1114 : decode code 1114 = .ok (.iconst 0, 1) := by decide +kernel
theorem d_La_law_1115 : decode code 1115 = .ok (.laload, 1) := by decide +kernel
theorem d_La_law_1116 : decode code 1116 = .ok (.iload 6, 2) := by decide +kernel
theorem d_La_law_1118 : decode code 1118 = .ok (.i2l, 1) := by decide +kernel
theorem d_La_law_1119 : decode code 1119 = .ok (.lcmp, 1) := by decide +kernel
theorem d_La_law_1120 : decode code 1120 = .ok (.ifCond .eq 5, 3) := by decide +kernel
theorem d_La_law_1123 : decode code 1123 = .ok (.iconst 0, 1) := by decide +kernel
theorem d_La_law_1124 : decode code 1124 = .ok (.ireturn, 1) := by decide +kernel
theorem d_La_law_1125 : decode code 1125 = .ok (.goto 379, 3) := by decide +kernel
theorem d_La_law_1128 : decode code 1128 = .ok (.aload_n 1, 1) := by decide +kernel
theorem d_La_law_1129 : decode code 1129 = .ok (.aload_n 0, 1) := by decide +kernel
theorem d_La_law_1130 : decode code 1130 = .ok (.iload 4, 2) := by decide +kernel
theorem d_La_law_1132 : decode code 1132 = .ok (.iconst 1, 1) := by decide +kernel
theorem d_La_law_1133 : decode code 1133 = .ok (.iadd, 1) := by decide +kernel
theorem d_La_law_1134 : decode code 1134 = .ok (.iaload, 1) := by decide +kernel
theorem d_La_law_1135 : decode code 1135 = .ok (.aload_n 0, 1) := by decide +kernel
theorem d_La_law_1136 : decode code 1136 = .ok (.iload 4, 2) := by decide +kernel
theorem d_La_law_1138 : decode code 1138 = .ok (.iconst 2, 1) := by decide +kernel
theorem d_La_law_1139 : decode code 1139 = .ok (.iadd, 1) := by decide +kernel
theorem d_La_law_1140 : decode code 1140 = .ok (.iaload, 1) := by decide +kernel
theorem d_La_law_1141 : decode code 1141 = .ok (.aload_n 0, 1) := by decide +kernel
theorem d_La_law_1142 : decode code 1142 = .ok (.iload 4, 2) := by decide +kernel
theorem d_La_law_1144 : decode code 1144 = .ok (.iconst 3, 1) := by decide +kernel
theorem d_La_law_1145 : decode code 1145 = .ok (.iadd, 1) := by decide +kernel
theorem d_La_law_1146 : decode code 1146 = .ok (.iaload, 1) := by decide +kernel
theorem d_La_law_1147 : decode code 1147 = .ok (.aload_n 0, 1) := by decide +kernel
theorem d_La_law_1148 : decode code 1148 = .ok (.iload 4, 2) := by decide +kernel
theorem d_La_law_1150 : decode code 1150 = .ok (.iconst 4, 1) := by decide +kernel
theorem d_La_law_1151 : decode code 1151 = .ok (.iadd, 1) := by decide +kernel
theorem d_La_law_1152 : decode code 1152 = .ok (.iaload, 1) := by decide +kernel
theorem d_La_law_1153 : decode code 1153 = .ok (.aload_n 3, 1) := by decide +kernel
theorem d_La_law_1154 : decode code 1154 = .ok (.invokestatic 123, 3) := by decide +kernel
theorem d_La_law_1157 : decode code 1157 = .ok (.istore 5, 2) := by decide +kernel
theorem d_La_law_1159 : decode code 1159 = .ok (.aload_n 2, 1) := by decide +kernel
theorem d_La_law_1160 : decode code 1160 = .ok (.aload_n 0, 1) := by decide +kernel
theorem d_La_law_1161 : decode code 1161 = .ok (.iload 4, 2) := by decide +kernel
theorem d_La_law_1163 : decode code 1163 = .ok (.iconst 1, 1) := by decide +kernel
theorem d_La_law_1164 : decode code 1164 = .ok (.iadd, 1) := by decide +kernel
theorem d_La_law_1165 : decode code 1165 = .ok (.iaload, 1) := by decide +kernel
theorem d_La_law_1166 : decode code 1166 = .ok (.aload_n 0, 1) := by decide +kernel
theorem d_La_law_1167 : decode code 1167 = .ok (.iload 4, 2) := by decide +kernel
theorem d_La_law_1169 : decode code 1169 = .ok (.iconst 2, 1) := by decide +kernel
theorem d_La_law_1170 : decode code 1170 = .ok (.iadd, 1) := by decide +kernel
theorem d_La_law_1171 : decode code 1171 = .ok (.iaload, 1) := by decide +kernel
theorem d_La_law_1172 : decode code 1172 = .ok (.aload_n 0, 1) := by decide +kernel
theorem d_La_law_1173 : decode code 1173 = .ok (.iload 4, 2) := by decide +kernel
theorem d_La_law_1175 : decode code 1175 = .ok (.iconst 3, 1) := by decide +kernel
theorem d_La_law_1176 : decode code 1176 = .ok (.iadd, 1) := by decide +kernel
theorem d_La_law_1177 : decode code 1177 = .ok (.iaload, 1) := by decide +kernel
theorem d_La_law_1178 : decode code 1178 = .ok (.aload_n 0, 1) := by decide +kernel
theorem d_La_law_1179 : decode code 1179 = .ok (.iload 4, 2) := by decide +kernel
theorem d_La_law_1181 : decode code 1181 = .ok (.iconst 4, 1) := by decide +kernel
theorem d_La_law_1182 : decode code 1182 = .ok (.iadd, 1) := by decide +kernel
theorem d_La_law_1183 : decode code 1183 = .ok (.iaload, 1) := by decide +kernel
theorem d_La_law_1184 : decode code 1184 = .ok (.invokevirtual 125, 3) := by decide +kernel
theorem d_La_law_1187 : decode code 1187 = .ok (.istore 6, 2) := by decide +kernel
theorem d_La_law_1189 : decode code 1189 = .ok (.aload_n 2, 1) := by decide +kernel
theorem d_La_law_1190 : decode code 1190 = .ok (.invokevirtual 82, 3) := by decide +kernel
theorem d_La_law_1193 : decode code 1193 = .ok (.iload 5, 2) := by decide +kernel
theorem d_La_law_1195 : decode code 1195 = .ok (.if_icmp .eq 5, 3) := by decide +kernel
theorem d_La_law_1198 : decode code 1198 = .ok (.iconst 0, 1) := by decide +kernel
theorem d_La_law_1199 : decode code 1199 = .ok (.ireturn, 1) := by decide +kernel
theorem d_La_law_1200 : decode code 1200 = .ok (.iload 5, 2) := by decide +kernel
theorem d_La_law_1202 : decode code 1202 = .ok (.ifCond .ne 15, 3) := by decide +kernel
theorem d_La_law_1205 : decode code 1205 = .ok (.aload_n 3, 1) := by decide +kernel
theorem d_La_law_1206 : decode code 1206 = .ok (.iconst 0, 1) := by decide +kernel
theorem d_La_law_1207 : decode code 1207 = .ok (.laload, 1) := by decide +kernel
theorem d_La_law_1208 : decode code 1208 = .ok (.iload 6, 2) := by decide +kernel
theorem d_La_law_1210 : decode code 1210 = .ok (.i2l, 1) := by decide +kernel
theorem d_La_law_1211 : decode code 1211 = .ok (.lcmp, 1) := by decide +kernel
theorem d_La_law_1212 : decode code 1212 = .ok (.ifCond .eq 5, 3) := by decide +kernel
theorem d_La_law_1215 : decode code 1215 = .ok (.iconst 0, 1) := by decide +kernel
theorem d_La_law_1216 : decode code 1216 = .ok (.ireturn, 1) := by decide +kernel
theorem d_La_law_1217 : decode code 1217 = .ok (.goto 287, 3) := by decide +kernel
theorem d_La_law_1220 : decode code 1220 = .ok (.aload_n 1, 1) := by decide +kernel
theorem d_La_law_1221 : decode code 1221 = .ok (.aload_n 0, 1) := by decide +kernel
theorem d_La_law_1222 : decode code 1222 = .ok (.iload 4, 2) := by decide +kernel
theorem d_La_law_1224 : decode code 1224 = .ok (.iconst 1, 1) := by decide +kernel
theorem d_La_law_1225 : decode code 1225 = .ok (.iadd, 1) := by decide +kernel
theorem d_La_law_1226 : decode code 1226 = .ok (.iaload, 1) := by decide +kernel
theorem d_La_law_1227 : decode code 1227 = .ok (.aload_n 0, 1) := by decide +kernel
theorem d_La_law_1228 : decode code 1228 = .ok (.iload 4, 2) := by decide +kernel
theorem d_La_law_1230 : decode code 1230 = .ok (.iconst 2, 1) := by decide +kernel
theorem d_La_law_1231 : decode code 1231 = .ok (.iadd, 1) := by decide +kernel
theorem d_La_law_1232 : decode code 1232 = .ok (.iaload, 1) := by decide +kernel
theorem d_La_law_1233 : decode code 1233 = .ok (.aload_n 3, 1) := by decide +kernel
theorem d_La_law_1234 : decode code 1234 = .ok (.invokestatic 126, 3) := by decide +kernel
theorem d_La_law_1237 : decode code 1237 = .ok (.istore 5, 2) := by decide +kernel
theorem d_La_law_1239 : decode code 1239 = .ok (.aload_n 2, 1) := by decide +kernel
theorem d_La_law_1240 : decode code 1240 = .ok (.aload_n 0, 1) := by decide +kernel
theorem d_La_law_1241 : decode code 1241 = .ok (.iload 4, 2) := by decide +kernel
theorem d_La_law_1243 : decode code 1243 = .ok (.iconst 1, 1) := by decide +kernel
theorem d_La_law_1244 : decode code 1244 = .ok (.iadd, 1) := by decide +kernel
theorem d_La_law_1245 : decode code 1245 = .ok (.iaload, 1) := by decide +kernel
theorem d_La_law_1246 : decode code 1246 = .ok (.aload_n 0, 1) := by decide +kernel
theorem d_La_law_1247 : decode code 1247 = .ok (.iload 4, 2) := by decide +kernel
theorem d_La_law_1249 : decode code 1249 = .ok (.iconst 2, 1) := by decide +kernel
theorem d_La_law_1250 : decode code 1250 = .ok (.iadd, 1) := by decide +kernel
theorem d_La_law_1251 : decode code 1251 = .ok (.iaload, 1) := by decide +kernel
theorem d_La_law_1252 : decode code 1252 = .ok (.invokevirtual 128, 3) := by decide +kernel
theorem d_La_law_1255 : decode code 1255 = .ok (.istore 6, 2) := by decide +kernel
theorem d_La_law_1257 : decode code 1257 = .ok (.aload_n 2, 1) := by decide +kernel
theorem d_La_law_1258 : decode code 1258 = .ok (.invokevirtual 82, 3) := by decide +kernel
theorem d_La_law_1261 : decode code 1261 = .ok (.iload 5, 2) := by decide +kernel
theorem d_La_law_1263 : decode code 1263 = .ok (.if_icmp .eq 5, 3) := by decide +kernel
theorem d_La_law_1266 : decode code 1266 = .ok (.iconst 0, 1) := by decide +kernel
theorem d_La_law_1267 : decode code 1267 = .ok (.ireturn, 1) := by decide +kernel
theorem d_La_law_1268 : decode code 1268 = .ok (.iload 5, 2) := by decide +kernel
theorem d_La_law_1270 : decode code 1270 = .ok (.ifCond .ne 15, 3) := by decide +kernel
theorem d_La_law_1273 : decode code 1273 = .ok (.aload_n 3, 1) := by decide +kernel
theorem d_La_law_1274 : decode code 1274 = .ok (.iconst 0, 1) := by decide +kernel
theorem d_La_law_1275 : decode code 1275 = .ok (.laload, 1) := by decide +kernel
theorem d_La_law_1276 : decode code 1276 = .ok (.iload 6, 2) := by decide +kernel
theorem d_La_law_1278 : decode code 1278 = .ok (.i2l, 1) := by decide +kernel
theorem d_La_law_1279 : decode code 1279 = .ok (.lcmp, 1) := by decide +kernel
theorem d_La_law_1280 : decode code 1280 = .ok (.ifCond .eq 5, 3) := by decide +kernel
theorem d_La_law_1283 : decode code 1283 = .ok (.iconst 0, 1) := by decide +kernel
theorem d_La_law_1284 : decode code 1284 = .ok (.ireturn, 1) := by decide +kernel
theorem d_La_law_1285 : decode code 1285 = .ok (.goto 219, 3) := by decide +kernel
theorem d_La_law_1288 : decode code 1288 = .ok (.aload_n 1, 1) := by decide +kernel
theorem d_La_law_1289 : decode code 1289 = .ok (.aload_n 0, 1) := by decide +kernel
theorem d_La_law_1290 : decode code 1290 = .ok (.iload 4, 2) := by decide +kernel
theorem d_La_law_1292 : decode code 1292 = .ok (.iconst 1, 1) := by decide +kernel
theorem d_La_law_1293 : decode code 1293 = .ok (.iadd, 1) := by decide +kernel
theorem d_La_law_1294 : decode code 1294 = .ok (.iaload, 1) := by decide +kernel
theorem d_La_law_1295 : decode code 1295 = .ok (.aload_n 3, 1) := by decide +kernel
theorem d_La_law_1296 : decode code 1296 = .ok (.invokestatic 129, 3) := by decide +kernel
theorem d_La_law_1299 : decode code 1299 = .ok (.istore 5, 2) := by decide +kernel
theorem d_La_law_1301 : decode code 1301 = .ok (.aload_n 2, 1) := by decide +kernel
theorem d_La_law_1302 : decode code 1302 = .ok (.aload_n 0, 1) := by decide +kernel
theorem d_La_law_1303 : decode code 1303 = .ok (.iload 4, 2) := by decide +kernel
theorem d_La_law_1305 : decode code 1305 = .ok (.iconst 1, 1) := by decide +kernel
theorem d_La_law_1306 : decode code 1306 = .ok (.iadd, 1) := by decide +kernel
theorem d_La_law_1307 : decode code 1307 = .ok (.iaload, 1) := by decide +kernel
theorem d_La_law_1308 : decode code 1308 = .ok (.invokevirtual 131, 3) := by decide +kernel
theorem d_La_law_1311 : decode code 1311 = .ok (.istore 6, 2) := by decide +kernel
theorem d_La_law_1313 : decode code 1313 = .ok (.aload_n 2, 1) := by decide +kernel
theorem d_La_law_1314 : decode code 1314 = .ok (.invokevirtual 82, 3) := by decide +kernel
theorem d_La_law_1317 : decode code 1317 = .ok (.iload 5, 2) := by decide +kernel
theorem d_La_law_1319 : decode code 1319 = .ok (.if_icmp .eq 5, 3) := by decide +kernel
theorem d_La_law_1322 : decode code 1322 = .ok (.iconst 0, 1) := by decide +kernel
theorem d_La_law_1323 : decode code 1323 = .ok (.ireturn, 1) := by decide +kernel
theorem d_La_law_1324 : decode code 1324 = .ok (.iload 5, 2) := by decide +kernel
theorem d_La_law_1326 : decode code 1326 = .ok (.ifCond .ne 15, 3) := by decide +kernel
theorem d_La_law_1329 : decode code 1329 = .ok (.aload_n 3, 1) := by decide +kernel
theorem d_La_law_1330 : decode code 1330 = .ok (.iconst 0, 1) := by decide +kernel
theorem d_La_law_1331 : decode code 1331 = .ok (.laload, 1) := by decide +kernel
theorem d_La_law_1332 : decode code 1332 = .ok (.iload 6, 2) := by decide +kernel
theorem d_La_law_1334 : decode code 1334 = .ok (.i2l, 1) := by decide +kernel
theorem d_La_law_1335 : decode code 1335 = .ok (.lcmp, 1) := by decide +kernel
theorem d_La_law_1336 : decode code 1336 = .ok (.ifCond .eq 5, 3) := by decide +kernel
theorem d_La_law_1339 : decode code 1339 = .ok (.iconst 0, 1) := by decide +kernel
theorem d_La_law_1340 : decode code 1340 = .ok (.ireturn, 1) := by decide +kernel
theorem d_La_law_1341 : decode code 1341 = .ok (.goto 163, 3) := by decide +kernel
theorem d_La_law_1344 : decode code 1344 = .ok (.aload_n 1, 1) := by decide +kernel
theorem d_La_law_1345 : decode code 1345 = .ok (.aload_n 0, 1) := by decide +kernel
theorem d_La_law_1346 : decode code 1346 = .ok (.iload 4, 2) := by decide +kernel
theorem d_La_law_1348 : decode code 1348 = .ok (.iconst 1, 1) := by decide +kernel
theorem d_La_law_1349 : decode code 1349 = .ok (.iadd, 1) := by decide +kernel
theorem d_La_law_1350 : decode code 1350 = .ok (.iaload, 1) := by decide +kernel
theorem d_La_law_1351 : decode code 1351 = .ok (.aload_n 0, 1) := by decide +kernel
theorem d_La_law_1352 : decode code 1352 = .ok (.iload 4, 2) := by decide +kernel
theorem d_La_law_1354 : decode code 1354 = .ok (.iconst 2, 1) := by decide +kernel
theorem d_La_law_1355 : decode code 1355 = .ok (.iadd, 1) := by decide +kernel
theorem d_La_law_1356 : decode code 1356 = .ok (.iaload, 1) := by decide +kernel
theorem d_La_law_1357 : decode code 1357 = .ok (.aload_n 0, 1) := by decide +kernel
theorem d_La_law_1358 : decode code 1358 = .ok (.iload 4, 2) := by decide +kernel
theorem d_La_law_1360 : decode code 1360 = .ok (.iconst 3, 1) := by decide +kernel
theorem d_La_law_1361 : decode code 1361 = .ok (.iadd, 1) := by decide +kernel
theorem d_La_law_1362 : decode code 1362 = .ok (.iaload, 1) := by decide +kernel
theorem d_La_law_1363 : decode code 1363 = .ok (.invokevirtual 132, 3) := by decide +kernel
theorem d_La_law_1366 : decode code 1366 = .ok (.aload_n 2, 1) := by decide +kernel
theorem d_La_law_1367 : decode code 1367 = .ok (.aload_n 0, 1) := by decide +kernel
theorem d_La_law_1368 : decode code 1368 = .ok (.iload 4, 2) := by decide +kernel
theorem d_La_law_1370 : decode code 1370 = .ok (.iconst 1, 1) := by decide +kernel
theorem d_La_law_1371 : decode code 1371 = .ok (.iadd, 1) := by decide +kernel
theorem d_La_law_1372 : decode code 1372 = .ok (.iaload, 1) := by decide +kernel
theorem d_La_law_1373 : decode code 1373 = .ok (.aload_n 0, 1) := by decide +kernel
theorem d_La_law_1374 : decode code 1374 = .ok (.iload 4, 2) := by decide +kernel
theorem d_La_law_1376 : decode code 1376 = .ok (.iconst 2, 1) := by decide +kernel
theorem d_La_law_1377 : decode code 1377 = .ok (.iadd, 1) := by decide +kernel
theorem d_La_law_1378 : decode code 1378 = .ok (.iaload, 1) := by decide +kernel
theorem d_La_law_1379 : decode code 1379 = .ok (.aload_n 0, 1) := by decide +kernel
theorem d_La_law_1380 : decode code 1380 = .ok (.iload 4, 2) := by decide +kernel
theorem d_La_law_1382 : decode code 1382 = .ok (.iconst 3, 1) := by decide +kernel
theorem d_La_law_1383 : decode code 1383 = .ok (.iadd, 1) := by decide +kernel
theorem d_La_law_1384 : decode code 1384 = .ok (.iaload, 1) := by decide +kernel
theorem d_La_law_1385 : decode code 1385 = .ok (.invokevirtual 135, 3) := by decide +kernel
theorem d_La_law_1388 : decode code 1388 = .ok (.if_icmp .eq 116, 3) := by decide +kernel
theorem d_La_law_1391 : decode code 1391 = .ok (.iconst 0, 1) := by decide +kernel
theorem d_La_law_1392 : decode code 1392 = .ok (.ireturn, 1) := by decide +kernel
theorem d_La_law_1393 : decode code 1393 = .ok (.aload_n 1, 1) := by decide +kernel
theorem d_La_law_1394 : decode code 1394 = .ok (.aload_n 0, 1) := by decide +kernel
theorem d_La_law_1395 : decode code 1395 = .ok (.iload 4, 2) := by decide +kernel
theorem d_La_law_1397 : decode code 1397 = .ok (.iconst 1, 1) := by decide +kernel
theorem d_La_law_1398 : decode code 1398 = .ok (.iadd, 1) := by decide +kernel
theorem d_La_law_1399 : decode code 1399 = .ok (.iaload, 1) := by decide +kernel
theorem d_La_law_1400 : decode code 1400 = .ok (.aload_n 0, 1) := by decide +kernel
theorem d_La_law_1401 : decode code 1401 = .ok (.iload 4, 2) := by decide +kernel
theorem d_La_law_1403 : decode code 1403 = .ok (.iconst 2, 1) := by decide +kernel
theorem d_La_law_1404 : decode code 1404 = .ok (.iadd, 1) := by decide +kernel
theorem d_La_law_1405 : decode code 1405 = .ok (.iaload, 1) := by decide +kernel
theorem d_La_law_1406 : decode code 1406 = .ok (.aload_n 0, 1) := by decide +kernel
theorem d_La_law_1407 : decode code 1407 = .ok (.iload 4, 2) := by decide +kernel
theorem d_La_law_1409 : decode code 1409 = .ok (.iconst 3, 1) := by decide +kernel
theorem d_La_law_1410 : decode code 1410 = .ok (.iadd, 1) := by decide +kernel
theorem d_La_law_1411 : decode code 1411 = .ok (.iaload, 1) := by decide +kernel
theorem d_La_law_1412 : decode code 1412 = .ok (.invokevirtual 136, 3) := by decide +kernel
theorem d_La_law_1415 : decode code 1415 = .ok (.aload_n 2, 1) := by decide +kernel
theorem d_La_law_1416 : decode code 1416 = .ok (.aload_n 0, 1) := by decide +kernel
theorem d_La_law_1417 : decode code 1417 = .ok (.iload 4, 2) := by decide +kernel
theorem d_La_law_1419 : decode code 1419 = .ok (.iconst 1, 1) := by decide +kernel
theorem d_La_law_1420 : decode code 1420 = .ok (.iadd, 1) := by decide +kernel
theorem d_La_law_1421 : decode code 1421 = .ok (.iaload, 1) := by decide +kernel
theorem d_La_law_1422 : decode code 1422 = .ok (.aload_n 0, 1) := by decide +kernel
theorem d_La_law_1423 : decode code 1423 = .ok (.iload 4, 2) := by decide +kernel
theorem d_La_law_1425 : decode code 1425 = .ok (.iconst 2, 1) := by decide +kernel
theorem d_La_law_1426 : decode code 1426 = .ok (.iadd, 1) := by decide +kernel
theorem d_La_law_1427 : decode code 1427 = .ok (.iaload, 1) := by decide +kernel
theorem d_La_law_1428 : decode code 1428 = .ok (.aload_n 0, 1) := by decide +kernel
theorem d_La_law_1429 : decode code 1429 = .ok (.iload 4, 2) := by decide +kernel
theorem d_La_law_1431 : decode code 1431 = .ok (.iconst 3, 1) := by decide +kernel
theorem d_La_law_1432 : decode code 1432 = .ok (.iadd, 1) := by decide +kernel
theorem d_La_law_1433 : decode code 1433 = .ok (.iaload, 1) := by decide +kernel
theorem d_La_law_1434 : decode code 1434 = .ok (.invokevirtual 139, 3) := by decide +kernel
theorem d_La_law_1437 : decode code 1437 = .ok (.if_icmp .eq 67, 3) := by decide +kernel
theorem d_La_law_1440 : decode code 1440 = .ok (.iconst 0, 1) := by decide +kernel
theorem d_La_law_1441 : decode code 1441 = .ok (.ireturn, 1) := by decide +kernel
theorem d_La_law_1442 : decode code 1442 = .ok (.aload_n 1, 1) := by decide +kernel
theorem d_La_law_1443 : decode code 1443 = .ok (.aload_n 0, 1) := by decide +kernel
theorem d_La_law_1444 : decode code 1444 = .ok (.iload 4, 2) := by decide +kernel
theorem d_La_law_1446 : decode code 1446 = .ok (.iconst 1, 1) := by decide +kernel
theorem d_La_law_1447 : decode code 1447 = .ok (.iadd, 1) := by decide +kernel
theorem d_La_law_1448 : decode code 1448 = .ok (.iaload, 1) := by decide +kernel
theorem d_La_law_1449 : decode code 1449 = .ok (.aload_n 0, 1) := by decide +kernel
theorem d_La_law_1450 : decode code 1450 = .ok (.iload 4, 2) := by decide +kernel
theorem d_La_law_1452 : decode code 1452 = .ok (.iconst 2, 1) := by decide +kernel
theorem d_La_law_1453 : decode code 1453 = .ok (.iadd, 1) := by decide +kernel
theorem d_La_law_1454 : decode code 1454 = .ok (.iaload, 1) := by decide +kernel
theorem d_La_law_1455 : decode code 1455 = .ok (.invokevirtual 140, 3) := by decide +kernel
theorem d_La_law_1458 : decode code 1458 = .ok (.aload_n 2, 1) := by decide +kernel
theorem d_La_law_1459 : decode code 1459 = .ok (.aload_n 0, 1) := by decide +kernel
theorem d_La_law_1460 : decode code 1460 = .ok (.iload 4, 2) := by decide +kernel
theorem d_La_law_1462 : decode code 1462 = .ok (.iconst 1, 1) := by decide +kernel
theorem d_La_law_1463 : decode code 1463 = .ok (.iadd, 1) := by decide +kernel
theorem d_La_law_1464 : decode code 1464 = .ok (.iaload, 1) := by decide +kernel
theorem d_La_law_1465 : decode code 1465 = .ok (.aload_n 0, 1) := by decide +kernel
theorem d_La_law_1466 : decode code 1466 = .ok (.iload 4, 2) := by decide +kernel
theorem d_La_law_1468 : decode code 1468 = .ok (.iconst 2, 1) := by decide +kernel
theorem d_La_law_1469 : decode code 1469 = .ok (.iadd, 1) := by decide +kernel
theorem d_La_law_1470 : decode code 1470 = .ok (.iaload, 1) := by decide +kernel
theorem d_La_law_1471 : decode code 1471 = .ok (.invokevirtual 143, 3) := by decide +kernel
theorem d_La_law_1474 : decode code 1474 = .ok (.if_icmp .eq 30, 3) := by decide +kernel
theorem d_La_law_1477 : decode code 1477 = .ok (.iconst 0, 1) := by decide +kernel
theorem d_La_law_1478 : decode code 1478 = .ok (.ireturn, 1) := by decide +kernel
theorem d_La_law_1479 : decode code 1479 = .ok (.aload_n 1, 1) := by decide +kernel
theorem d_La_law_1480 : decode code 1480 = .ok (.aload_n 0, 1) := by decide +kernel
theorem d_La_law_1481 : decode code 1481 = .ok (.iload 4, 2) := by decide +kernel
theorem d_La_law_1483 : decode code 1483 = .ok (.iconst 1, 1) := by decide +kernel
theorem d_La_law_1484 : decode code 1484 = .ok (.iadd, 1) := by decide +kernel
theorem d_La_law_1485 : decode code 1485 = .ok (.iaload, 1) := by decide +kernel
theorem d_La_law_1486 : decode code 1486 = .ok (.invokevirtual 144, 3) := by decide +kernel
theorem d_La_law_1489 : decode code 1489 = .ok (.aload_n 2, 1) := by decide +kernel
theorem d_La_law_1490 : decode code 1490 = .ok (.aload_n 0, 1) := by decide +kernel
theorem d_La_law_1491 : decode code 1491 = .ok (.iload 4, 2) := by decide +kernel
theorem d_La_law_1493 : decode code 1493 = .ok (.iconst 1, 1) := by decide +kernel
theorem d_La_law_1494 : decode code 1494 = .ok (.iadd, 1) := by decide +kernel
theorem d_La_law_1495 : decode code 1495 = .ok (.iaload, 1) := by decide +kernel
theorem d_La_law_1496 : decode code 1496 = .ok (.invokevirtual 147, 3) := by decide +kernel
theorem d_La_law_1499 : decode code 1499 = .ok (.if_icmp .eq 5, 3) := by decide +kernel
theorem d_La_law_1502 : decode code 1502 = .ok (.iconst 0, 1) := by decide +kernel
theorem d_La_law_1503 : decode code 1503 = .ok (.ireturn, 1) := by decide +kernel
theorem d_La_law_1504 : decode code 1504 = .ok (.iinc 4 6, 3) := by decide +kernel
theorem d_La_law_1507 : decode code 1507 = .ok (.goto (-1484), 3) := by decide +kernel
theorem d_La_law_1510 : decode code 1510 = .ok (.iconst 1, 1) := by decide +kernel
theorem d_La_law_1511 : decode code 1511 = .ok (.ireturn, 1) := by decide +kernel
