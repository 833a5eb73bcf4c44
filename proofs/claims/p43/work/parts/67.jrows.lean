/-! the JDK's own methods on a builder: their instructions (printed by jdk.py) -/
theorem dj_ini_0 : decode prog_12_method_2_code 0 = .ok (.aload_n 0, 1) := by decide +kernel
theorem dj_ini_1 : decode prog_12_method_2_code 1 = .ok (.invokespecial 3, 3) := by decide +kernel
theorem dj_ini_4 : decode prog_12_method_2_code 4 = .ok (.getstatic 18, 3) := by decide +kernel
theorem dj_ini_7 : decode prog_12_method_2_code 7 = .ok (.ifCond .eq 18, 3) := by decide +kernel
theorem dj_ini_10 : decode prog_12_method_2_code 10 = .ok (.aload_n 0, 1) := by decide +kernel
theorem dj_ini_11 : decode prog_12_method_2_code 11 = .ok (.iload_n 1, 1) := by decide +kernel
theorem dj_ini_12 : decode prog_12_method_2_code 12 = .ok (.newarray .byte, 2) := by decide +kernel
theorem dj_ini_14 : decode prog_12_method_2_code 14 = .ok (.putfield 15, 3) := by decide +kernel
theorem dj_ini_17 : decode prog_12_method_2_code 17 = .ok (.aload_n 0, 1) := by decide +kernel
theorem dj_ini_18 : decode prog_12_method_2_code 18 = .ok (.iconst 0, 1) := by decide +kernel
theorem dj_ini_19 : decode prog_12_method_2_code 19 = .ok (.putfield 22, 3) := by decide +kernel
theorem dj_ini_22 : decode prog_12_method_2_code 22 = .ok (.goto 16, 3) := by decide +kernel
theorem dj_ini_25 : decode prog_12_method_2_code 25 = .ok (.aload_n 0, 1) := by decide +kernel
theorem dj_ini_26 : decode prog_12_method_2_code 26 = .ok (.iload_n 1, 1) := by decide +kernel
theorem dj_ini_27 : decode prog_12_method_2_code 27 = .ok (.invokestatic 26, 3) := by decide +kernel
theorem dj_ini_30 : decode prog_12_method_2_code 30 = .ok (.putfield 15, 3) := by decide +kernel
theorem dj_ini_33 : decode prog_12_method_2_code 33 = .ok (.aload_n 0, 1) := by decide +kernel
theorem dj_ini_34 : decode prog_12_method_2_code 34 = .ok (.iconst 1, 1) := by decide +kernel
theorem dj_ini_35 : decode prog_12_method_2_code 35 = .ok (.putfield 22, 3) := by decide +kernel
theorem dj_ini_38 : decode prog_12_method_2_code 38 = .ok (.return_, 1) := by decide +kernel
theorem dj_sbi_0 : decode prog_17_method_1_code 0 = .ok (.aload_n 0, 1) := by decide +kernel
theorem dj_sbi_1 : decode prog_17_method_1_code 1 = .ok (.bipush 16, 2) := by decide +kernel
theorem dj_sbi_3 : decode prog_17_method_1_code 3 = .ok (.invokespecial 1, 3) := by decide +kernel
theorem dj_sbi_6 : decode prog_17_method_1_code 6 = .ok (.return_, 1) := by decide +kernel
theorem dj_isL_0 : decode prog_12_method_68_code 0 = .ok (.getstatic 18, 3) := by decide +kernel
theorem dj_isL_3 : decode prog_12_method_68_code 3 = .ok (.ifCond .eq 14, 3) := by decide +kernel
theorem dj_isL_6 : decode prog_12_method_68_code 6 = .ok (.aload_n 0, 1) := by decide +kernel
theorem dj_isL_7 : decode prog_12_method_68_code 7 = .ok (.getfield 22, 3) := by decide +kernel
theorem dj_isL_10 : decode prog_12_method_68_code 10 = .ok (.ifCond .ne 7, 3) := by decide +kernel
theorem dj_isL_13 : decode prog_12_method_68_code 13 = .ok (.iconst 1, 1) := by decide +kernel
theorem dj_isL_14 : decode prog_12_method_68_code 14 = .ok (.goto 4, 3) := by decide +kernel
theorem dj_isL_17 : decode prog_12_method_68_code 17 = .ok (.iconst 0, 1) := by decide +kernel
theorem dj_isL_18 : decode prog_12_method_68_code 18 = .ok (.ireturn, 1) := by decide +kernel
theorem dj_can_0 : decode prog_18_method_3_code 0 = .ok (.iload_n 0, 1) := by decide +kernel
theorem dj_can_1 : decode prog_18_method_3_code 1 = .ok (.sipush 255, 3) := by decide +kernel
theorem dj_can_4 : decode prog_18_method_3_code 4 = .ok (.if_icmp .gt 7, 3) := by decide +kernel
theorem dj_can_7 : decode prog_18_method_3_code 7 = .ok (.iconst 1, 1) := by decide +kernel
theorem dj_can_8 : decode prog_18_method_3_code 8 = .ok (.goto 4, 3) := by decide +kernel
theorem dj_can_11 : decode prog_18_method_3_code 11 = .ok (.iconst 0, 1) := by decide +kernel
theorem dj_can_12 : decode prog_18_method_3_code 12 = .ok (.ireturn, 1) := by decide +kernel
theorem dj_ens_0 : decode prog_12_method_9_code 0 = .ok (.aload_n 0, 1) := by decide +kernel
theorem dj_ens_1 : decode prog_12_method_9_code 1 = .ok (.getfield 15, 3) := by decide +kernel
theorem dj_ens_4 : decode prog_12_method_9_code 4 = .ok (.arraylength, 1) := by decide +kernel
theorem dj_ens_5 : decode prog_12_method_9_code 5 = .ok (.aload_n 0, 1) := by decide +kernel
theorem dj_ens_6 : decode prog_12_method_9_code 6 = .ok (.getfield 22, 3) := by decide +kernel
theorem dj_ens_9 : decode prog_12_method_9_code 9 = .ok (.ishr, 1) := by decide +kernel
theorem dj_ens_10 : decode prog_12_method_9_code 10 = .ok (.istore_n 2, 1) := by decide +kernel
theorem dj_ens_11 : decode prog_12_method_9_code 11 = .ok (.iload_n 1, 1) := by decide +kernel
theorem dj_ens_12 : decode prog_12_method_9_code 12 = .ok (.iload_n 2, 1) := by decide +kernel
theorem dj_ens_13 : decode prog_12_method_9_code 13 = .ok (.isub, 1) := by decide +kernel
theorem dj_ens_14 : decode prog_12_method_9_code 14 = .ok (.ifCond .le 24, 3) := by decide +kernel
theorem dj_ens_17 : decode prog_12_method_9_code 17 = .ok (.aload_n 0, 1) := by decide +kernel
theorem dj_ens_18 : decode prog_12_method_9_code 18 = .ok (.aload_n 0, 1) := by decide +kernel
theorem dj_ens_19 : decode prog_12_method_9_code 19 = .ok (.getfield 15, 3) := by decide +kernel
theorem dj_ens_22 : decode prog_12_method_9_code 22 = .ok (.aload_n 0, 1) := by decide +kernel
theorem dj_ens_23 : decode prog_12_method_9_code 23 = .ok (.iload_n 1, 1) := by decide +kernel
theorem dj_ens_24 : decode prog_12_method_9_code 24 = .ok (.invokevirtual 104, 3) := by decide +kernel
theorem dj_ens_27 : decode prog_12_method_9_code 27 = .ok (.aload_n 0, 1) := by decide +kernel
theorem dj_ens_28 : decode prog_12_method_9_code 28 = .ok (.getfield 22, 3) := by decide +kernel
theorem dj_ens_31 : decode prog_12_method_9_code 31 = .ok (.ishl, 1) := by decide +kernel
theorem dj_ens_32 : decode prog_12_method_9_code 32 = .ok (.invokestatic 108, 3) := by decide +kernel
theorem dj_ens_35 : decode prog_12_method_9_code 35 = .ok (.putfield 15, 3) := by decide +kernel
theorem dj_ens_38 : decode prog_12_method_9_code 38 = .ok (.return_, 1) := by decide +kernel
theorem dj_apC_0 : decode prog_12_method_31_code 0 = .ok (.aload_n 0, 1) := by decide +kernel
theorem dj_apC_1 : decode prog_12_method_31_code 1 = .ok (.aload_n 0, 1) := by decide +kernel
theorem dj_apC_2 : decode prog_12_method_31_code 2 = .ok (.getfield 79, 3) := by decide +kernel
theorem dj_apC_5 : decode prog_12_method_31_code 5 = .ok (.iconst 1, 1) := by decide +kernel
theorem dj_apC_6 : decode prog_12_method_31_code 6 = .ok (.iadd, 1) := by decide +kernel
theorem dj_apC_7 : decode prog_12_method_31_code 7 = .ok (.invokevirtual 100, 3) := by decide +kernel
theorem dj_apC_10 : decode prog_12_method_31_code 10 = .ok (.aload_n 0, 1) := by decide +kernel
theorem dj_apC_11 : decode prog_12_method_31_code 11 = .ok (.invokevirtual 83, 3) := by decide +kernel
theorem dj_apC_14 : decode prog_12_method_31_code 14 = .ok (.ifCond .eq 31, 3) := by decide +kernel
theorem dj_apC_17 : decode prog_12_method_31_code 17 = .ok (.iload_n 1, 1) := by decide +kernel
theorem dj_apC_18 : decode prog_12_method_31_code 18 = .ok (.invokestatic 191, 3) := by decide +kernel
theorem dj_apC_21 : decode prog_12_method_31_code 21 = .ok (.ifCond .eq 24, 3) := by decide +kernel
theorem dj_apC_24 : decode prog_12_method_31_code 24 = .ok (.aload_n 0, 1) := by decide +kernel
theorem dj_apC_25 : decode prog_12_method_31_code 25 = .ok (.getfield 15, 3) := by decide +kernel
theorem dj_apC_28 : decode prog_12_method_31_code 28 = .ok (.aload_n 0, 1) := by decide +kernel
theorem dj_apC_29 : decode prog_12_method_31_code 29 = .ok (.dup, 1) := by decide +kernel
theorem dj_apC_30 : decode prog_12_method_31_code 30 = .ok (.getfield 79, 3) := by decide +kernel
theorem dj_apC_33 : decode prog_12_method_31_code 33 = .ok (.dup_x1, 1) := by decide +kernel
theorem dj_apC_34 : decode prog_12_method_31_code 34 = .ok (.iconst 1, 1) := by decide +kernel
theorem dj_apC_35 : decode prog_12_method_31_code 35 = .ok (.iadd, 1) := by decide +kernel
theorem dj_apC_36 : decode prog_12_method_31_code 36 = .ok (.putfield 79, 3) := by decide +kernel
theorem dj_apC_39 : decode prog_12_method_31_code 39 = .ok (.iload_n 1, 1) := by decide +kernel
theorem dj_apC_40 : decode prog_12_method_31_code 40 = .ok (.i2b, 1) := by decide +kernel
theorem dj_apC_41 : decode prog_12_method_31_code 41 = .ok (.bastore, 1) := by decide +kernel
theorem dj_apC_42 : decode prog_12_method_31_code 42 = .ok (.goto 33, 3) := by decide +kernel
theorem dj_apC_45 : decode prog_12_method_31_code 45 = .ok (.aload_n 0, 1) := by decide +kernel
theorem dj_apC_46 : decode prog_12_method_31_code 46 = .ok (.invokevirtual 83, 3) := by decide +kernel
theorem dj_apC_49 : decode prog_12_method_31_code 49 = .ok (.ifCond .eq 7, 3) := by decide +kernel
theorem dj_apC_52 : decode prog_12_method_31_code 52 = .ok (.aload_n 0, 1) := by decide +kernel
theorem dj_apC_53 : decode prog_12_method_31_code 53 = .ok (.invokevirtual 195, 3) := by decide +kernel
theorem dj_apC_56 : decode prog_12_method_31_code 56 = .ok (.aload_n 0, 1) := by decide +kernel
theorem dj_apC_57 : decode prog_12_method_31_code 57 = .ok (.getfield 15, 3) := by decide +kernel
theorem dj_apC_60 : decode prog_12_method_31_code 60 = .ok (.aload_n 0, 1) := by decide +kernel
theorem dj_apC_61 : decode prog_12_method_31_code 61 = .ok (.dup, 1) := by decide +kernel
theorem dj_apC_62 : decode prog_12_method_31_code 62 = .ok (.getfield 79, 3) := by decide +kernel
theorem dj_apC_65 : decode prog_12_method_31_code 65 = .ok (.dup_x1, 1) := by decide +kernel
theorem dj_apC_66 : decode prog_12_method_31_code 66 = .ok (.iconst 1, 1) := by decide +kernel
theorem dj_apC_67 : decode prog_12_method_31_code 67 = .ok (.iadd, 1) := by decide +kernel
theorem dj_apC_68 : decode prog_12_method_31_code 68 = .ok (.putfield 79, 3) := by decide +kernel
theorem dj_apC_71 : decode prog_12_method_31_code 71 = .ok (.iload_n 1, 1) := by decide +kernel
theorem dj_apC_72 : decode prog_12_method_31_code 72 = .ok (.invokestatic 197, 3) := by decide +kernel
theorem dj_apC_75 : decode prog_12_method_31_code 75 = .ok (.aload_n 0, 1) := by decide +kernel
theorem dj_apC_76 : decode prog_12_method_31_code 76 = .ok (.areturn, 1) := by decide +kernel
theorem dj_sbC_0 : decode prog_17_method_14_code 0 = .ok (.aload_n 0, 1) := by decide +kernel
theorem dj_sbC_1 : decode prog_17_method_14_code 1 = .ok (.iload_n 1, 1) := by decide +kernel
theorem dj_sbC_2 : decode prog_17_method_14_code 2 = .ok (.invokespecial 50, 3) := by decide +kernel
theorem dj_sbC_5 : decode prog_17_method_14_code 5 = .ok (.pop, 1) := by decide +kernel
theorem dj_sbC_6 : decode prog_17_method_14_code 6 = .ok (.aload_n 0, 1) := by decide +kernel
theorem dj_sbC_7 : decode prog_17_method_14_code 7 = .ok (.areturn, 1) := by decide +kernel
theorem dj_cod_0 : decode prog_16_method_152_code 0 = .ok (.getstatic 38, 3) := by decide +kernel
theorem dj_cod_3 : decode prog_16_method_152_code 3 = .ok (.ifCond .eq 10, 3) := by decide +kernel
theorem dj_cod_6 : decode prog_16_method_152_code 6 = .ok (.aload_n 0, 1) := by decide +kernel
theorem dj_cod_7 : decode prog_16_method_152_code 7 = .ok (.getfield 15, 3) := by decide +kernel
theorem dj_cod_10 : decode prog_16_method_152_code 10 = .ok (.goto 4, 3) := by decide +kernel
theorem dj_cod_13 : decode prog_16_method_152_code 13 = .ok (.iconst 1, 1) := by decide +kernel
theorem dj_cod_14 : decode prog_16_method_152_code 14 = .ok (.ireturn, 1) := by decide +kernel
theorem dj_len_0 : decode prog_16_method_54_code 0 = .ok (.aload_n 0, 1) := by decide +kernel
theorem dj_len_1 : decode prog_16_method_54_code 1 = .ok (.getfield 9, 3) := by decide +kernel
theorem dj_len_4 : decode prog_16_method_54_code 4 = .ok (.arraylength, 1) := by decide +kernel
theorem dj_len_5 : decode prog_16_method_54_code 5 = .ok (.aload_n 0, 1) := by decide +kernel
theorem dj_len_6 : decode prog_16_method_54_code 6 = .ok (.invokevirtual 335, 3) := by decide +kernel
theorem dj_len_9 : decode prog_16_method_54_code 9 = .ok (.ishr, 1) := by decide +kernel
theorem dj_len_10 : decode prog_16_method_54_code 10 = .ok (.ireturn, 1) := by decide +kernel
theorem dj_inf_0 : decode prog_12_method_71_code 0 = .ok (.getstatic 18, 3) := by decide +kernel
theorem dj_inf_3 : decode prog_12_method_71_code 3 = .ok (.ifCond .eq 18, 3) := by decide +kernel
theorem dj_inf_6 : decode prog_12_method_71_code 6 = .ok (.aload_n 0, 1) := by decide +kernel
theorem dj_inf_7 : decode prog_12_method_71_code 7 = .ok (.getfield 22, 3) := by decide +kernel
theorem dj_inf_10 : decode prog_12_method_71_code 10 = .ok (.aload_n 1, 1) := by decide +kernel
theorem dj_inf_11 : decode prog_12_method_71_code 11 = .ok (.invokevirtual 40, 3) := by decide +kernel
theorem dj_inf_14 : decode prog_12_method_71_code 14 = .ok (.if_icmp .eq 7, 3) := by decide +kernel
theorem dj_inf_17 : decode prog_12_method_71_code 17 = .ok (.aload_n 0, 1) := by decide +kernel
theorem dj_inf_18 : decode prog_12_method_71_code 18 = .ok (.invokevirtual 195, 3) := by decide +kernel
theorem dj_inf_21 : decode prog_12_method_71_code 21 = .ok (.return_, 1) := by decide +kernel
theorem dj_gby_0 : decode prog_16_method_147_code 0 = .ok (.aload_n 0, 1) := by decide +kernel
theorem dj_gby_1 : decode prog_16_method_147_code 1 = .ok (.invokevirtual 335, 3) := by decide +kernel
theorem dj_gby_4 : decode prog_16_method_147_code 4 = .ok (.iload_n 3, 1) := by decide +kernel
theorem dj_gby_5 : decode prog_16_method_147_code 5 = .ok (.if_icmp .ne 23, 3) := by decide +kernel
theorem dj_gby_8 : decode prog_16_method_147_code 8 = .ok (.aload_n 0, 1) := by decide +kernel
theorem dj_gby_9 : decode prog_16_method_147_code 9 = .ok (.getfield 9, 3) := by decide +kernel
theorem dj_gby_12 : decode prog_16_method_147_code 12 = .ok (.iconst 0, 1) := by decide +kernel
theorem dj_gby_13 : decode prog_16_method_147_code 13 = .ok (.aload_n 1, 1) := by decide +kernel
theorem dj_gby_14 : decode prog_16_method_147_code 14 = .ok (.iload_n 2, 1) := by decide +kernel
theorem dj_gby_15 : decode prog_16_method_147_code 15 = .ok (.iload_n 3, 1) := by decide +kernel
theorem dj_gby_16 : decode prog_16_method_147_code 16 = .ok (.ishl, 1) := by decide +kernel
theorem dj_gby_17 : decode prog_16_method_147_code 17 = .ok (.aload_n 0, 1) := by decide +kernel
theorem dj_gby_18 : decode prog_16_method_147_code 18 = .ok (.getfield 9, 3) := by decide +kernel
theorem dj_gby_21 : decode prog_16_method_147_code 21 = .ok (.arraylength, 1) := by decide +kernel
theorem dj_gby_22 : decode prog_16_method_147_code 22 = .ok (.invokestatic 212, 3) := by decide +kernel
theorem dj_gby_25 : decode prog_16_method_147_code 25 = .ok (.goto 18, 3) := by decide +kernel
theorem dj_gby_28 : decode prog_16_method_147_code 28 = .ok (.aload_n 0, 1) := by decide +kernel
theorem dj_gby_29 : decode prog_16_method_147_code 29 = .ok (.getfield 9, 3) := by decide +kernel
theorem dj_gby_32 : decode prog_16_method_147_code 32 = .ok (.iconst 0, 1) := by decide +kernel
theorem dj_gby_33 : decode prog_16_method_147_code 33 = .ok (.aload_n 1, 1) := by decide +kernel
theorem dj_gby_34 : decode prog_16_method_147_code 34 = .ok (.iload_n 2, 1) := by decide +kernel
theorem dj_gby_35 : decode prog_16_method_147_code 35 = .ok (.aload_n 0, 1) := by decide +kernel
theorem dj_gby_36 : decode prog_16_method_147_code 36 = .ok (.getfield 9, 3) := by decide +kernel
theorem dj_gby_39 : decode prog_16_method_147_code 39 = .ok (.arraylength, 1) := by decide +kernel
theorem dj_gby_40 : decode prog_16_method_147_code 40 = .ok (.invokestatic 106, 3) := by decide +kernel
theorem dj_gby_43 : decode prog_16_method_147_code 43 = .ok (.return_, 1) := by decide +kernel
theorem dj_pst_0 : decode prog_12_method_73_code 0 = .ok (.aload_n 0, 1) := by decide +kernel
theorem dj_pst_1 : decode prog_12_method_73_code 1 = .ok (.aload_n 2, 1) := by decide +kernel
theorem dj_pst_2 : decode prog_12_method_73_code 2 = .ok (.invokevirtual 397, 3) := by decide +kernel
theorem dj_pst_5 : decode prog_12_method_73_code 5 = .ok (.aload_n 2, 1) := by decide +kernel
theorem dj_pst_6 : decode prog_12_method_73_code 6 = .ok (.aload_n 0, 1) := by decide +kernel
theorem dj_pst_7 : decode prog_12_method_73_code 7 = .ok (.getfield 15, 3) := by decide +kernel
theorem dj_pst_10 : decode prog_12_method_73_code 10 = .ok (.iload_n 1, 1) := by decide +kernel
theorem dj_pst_11 : decode prog_12_method_73_code 11 = .ok (.aload_n 0, 1) := by decide +kernel
theorem dj_pst_12 : decode prog_12_method_73_code 12 = .ok (.getfield 22, 3) := by decide +kernel
theorem dj_pst_15 : decode prog_12_method_73_code 15 = .ok (.invokevirtual 399, 3) := by decide +kernel
theorem dj_pst_18 : decode prog_12_method_73_code 18 = .ok (.return_, 1) := by decide +kernel
theorem dj_apS_0 : decode prog_12_method_22_code 0 = .ok (.aload_n 1, 1) := by decide +kernel
theorem dj_apS_1 : decode prog_12_method_22_code 1 = .ok (.ifnonnull 8, 3) := by decide +kernel
theorem dj_apS_4 : decode prog_12_method_22_code 4 = .ok (.aload_n 0, 1) := by decide +kernel
theorem dj_apS_5 : decode prog_12_method_22_code 5 = .ok (.invokevirtual 204, 3) := by decide +kernel
theorem dj_apS_8 : decode prog_12_method_22_code 8 = .ok (.areturn, 1) := by decide +kernel
theorem dj_apS_9 : decode prog_12_method_22_code 9 = .ok (.aload_n 1, 1) := by decide +kernel
theorem dj_apS_10 : decode prog_12_method_22_code 10 = .ok (.invokevirtual 32, 3) := by decide +kernel
theorem dj_apS_13 : decode prog_12_method_22_code 13 = .ok (.istore_n 2, 1) := by decide +kernel
theorem dj_apS_14 : decode prog_12_method_22_code 14 = .ok (.aload_n 0, 1) := by decide +kernel
theorem dj_apS_15 : decode prog_12_method_22_code 15 = .ok (.aload_n 0, 1) := by decide +kernel
theorem dj_apS_16 : decode prog_12_method_22_code 16 = .ok (.getfield 79, 3) := by decide +kernel
theorem dj_apS_19 : decode prog_12_method_22_code 19 = .ok (.iload_n 2, 1) := by decide +kernel
theorem dj_apS_20 : decode prog_12_method_22_code 20 = .ok (.iadd, 1) := by decide +kernel
theorem dj_apS_21 : decode prog_12_method_22_code 21 = .ok (.invokevirtual 100, 3) := by decide +kernel
theorem dj_apS_24 : decode prog_12_method_22_code 24 = .ok (.aload_n 0, 1) := by decide +kernel
theorem dj_apS_25 : decode prog_12_method_22_code 25 = .ok (.aload_n 0, 1) := by decide +kernel
theorem dj_apS_26 : decode prog_12_method_22_code 26 = .ok (.getfield 79, 3) := by decide +kernel
theorem dj_apS_29 : decode prog_12_method_22_code 29 = .ok (.aload_n 1, 1) := by decide +kernel
theorem dj_apS_30 : decode prog_12_method_22_code 30 = .ok (.invokevirtual 208, 3) := by decide +kernel
theorem dj_apS_33 : decode prog_12_method_22_code 33 = .ok (.aload_n 0, 1) := by decide +kernel
theorem dj_apS_34 : decode prog_12_method_22_code 34 = .ok (.dup, 1) := by decide +kernel
theorem dj_apS_35 : decode prog_12_method_22_code 35 = .ok (.getfield 79, 3) := by decide +kernel
theorem dj_apS_38 : decode prog_12_method_22_code 38 = .ok (.iload_n 2, 1) := by decide +kernel
theorem dj_apS_39 : decode prog_12_method_22_code 39 = .ok (.iadd, 1) := by decide +kernel
theorem dj_apS_40 : decode prog_12_method_22_code 40 = .ok (.putfield 79, 3) := by decide +kernel
theorem dj_apS_43 : decode prog_12_method_22_code 43 = .ok (.aload_n 0, 1) := by decide +kernel
theorem dj_apS_44 : decode prog_12_method_22_code 44 = .ok (.areturn, 1) := by decide +kernel
theorem dj_sbS_0 : decode prog_17_method_7_code 0 = .ok (.aload_n 0, 1) := by decide +kernel
theorem dj_sbS_1 : decode prog_17_method_7_code 1 = .ok (.aload_n 1, 1) := by decide +kernel
theorem dj_sbS_2 : decode prog_17_method_7_code 2 = .ok (.invokespecial 29, 3) := by decide +kernel
theorem dj_sbS_5 : decode prog_17_method_7_code 5 = .ok (.pop, 1) := by decide +kernel
theorem dj_sbS_6 : decode prog_17_method_7_code 6 = .ok (.aload_n 0, 1) := by decide +kernel
theorem dj_sbS_7 : decode prog_17_method_7_code 7 = .ok (.areturn, 1) := by decide +kernel
theorem dj_ssz_0 : decode prog_14_method_13_code 0 = .ok (.iconst 1, 1) := by decide +kernel
theorem dj_ssz_1 : decode prog_14_method_13_code 1 = .ok (.istore_n 1, 1) := by decide +kernel
theorem dj_ssz_2 : decode prog_14_method_13_code 2 = .ok (.iload_n 0, 1) := by decide +kernel
theorem dj_ssz_3 : decode prog_14_method_13_code 3 = .ok (.ifCond .lt 8, 3) := by decide +kernel
theorem dj_ssz_6 : decode prog_14_method_13_code 6 = .ok (.iconst 0, 1) := by decide +kernel
theorem dj_ssz_7 : decode prog_14_method_13_code 7 = .ok (.istore_n 1, 1) := by decide +kernel
theorem dj_ssz_8 : decode prog_14_method_13_code 8 = .ok (.iload_n 0, 1) := by decide +kernel
theorem dj_ssz_9 : decode prog_14_method_13_code 9 = .ok (.ineg, 1) := by decide +kernel
theorem dj_ssz_10 : decode prog_14_method_13_code 10 = .ok (.istore_n 0, 1) := by decide +kernel
theorem dj_ssz_11 : decode prog_14_method_13_code 11 = .ok (.bipush (-10), 2) := by decide +kernel
theorem dj_ssz_13 : decode prog_14_method_13_code 13 = .ok (.istore_n 2, 1) := by decide +kernel
theorem dj_ssz_14 : decode prog_14_method_13_code 14 = .ok (.iconst 1, 1) := by decide +kernel
theorem dj_ssz_15 : decode prog_14_method_13_code 15 = .ok (.istore_n 3, 1) := by decide +kernel
theorem dj_ssz_16 : decode prog_14_method_13_code 16 = .ok (.iload_n 3, 1) := by decide +kernel
theorem dj_ssz_17 : decode prog_14_method_13_code 17 = .ok (.bipush 10, 2) := by decide +kernel
theorem dj_ssz_19 : decode prog_14_method_13_code 19 = .ok (.if_icmp .ge 23, 3) := by decide +kernel
theorem dj_ssz_22 : decode prog_14_method_13_code 22 = .ok (.iload_n 0, 1) := by decide +kernel
theorem dj_ssz_23 : decode prog_14_method_13_code 23 = .ok (.iload_n 2, 1) := by decide +kernel
theorem dj_ssz_24 : decode prog_14_method_13_code 24 = .ok (.if_icmp .le 7, 3) := by decide +kernel
theorem dj_ssz_27 : decode prog_14_method_13_code 27 = .ok (.iload_n 3, 1) := by decide +kernel
theorem dj_ssz_28 : decode prog_14_method_13_code 28 = .ok (.iload_n 1, 1) := by decide +kernel
theorem dj_ssz_29 : decode prog_14_method_13_code 29 = .ok (.iadd, 1) := by decide +kernel
theorem dj_ssz_30 : decode prog_14_method_13_code 30 = .ok (.ireturn, 1) := by decide +kernel
theorem dj_ssz_31 : decode prog_14_method_13_code 31 = .ok (.bipush 10, 2) := by decide +kernel
theorem dj_ssz_33 : decode prog_14_method_13_code 33 = .ok (.iload_n 2, 1) := by decide +kernel
theorem dj_ssz_34 : decode prog_14_method_13_code 34 = .ok (.imul, 1) := by decide +kernel
theorem dj_ssz_35 : decode prog_14_method_13_code 35 = .ok (.istore_n 2, 1) := by decide +kernel
theorem dj_ssz_36 : decode prog_14_method_13_code 36 = .ok (.iinc 3 1, 3) := by decide +kernel
theorem dj_ssz_39 : decode prog_14_method_13_code 39 = .ok (.goto (-23), 3) := by decide +kernel
theorem dj_ssz_42 : decode prog_14_method_13_code 42 = .ok (.bipush 10, 2) := by decide +kernel
theorem dj_ssz_44 : decode prog_14_method_13_code 44 = .ok (.iload_n 1, 1) := by decide +kernel
theorem dj_ssz_45 : decode prog_14_method_13_code 45 = .ok (.iadd, 1) := by decide +kernel
theorem dj_ssz_46 : decode prog_14_method_13_code 46 = .ok (.ireturn, 1) := by decide +kernel
theorem dj_gch_0 : decode prog_14_method_12_code 0 = .ok (.iload_n 1, 1) := by decide +kernel
theorem dj_gch_1 : decode prog_14_method_12_code 1 = .ok (.istore 5, 2) := by decide +kernel
theorem dj_gch_3 : decode prog_14_method_12_code 3 = .ok (.iload_n 0, 1) := by decide +kernel
theorem dj_gch_4 : decode prog_14_method_12_code 4 = .ok (.ifCond .ge 7, 3) := by decide +kernel
theorem dj_gch_7 : decode prog_14_method_12_code 7 = .ok (.iconst 1, 1) := by decide +kernel
theorem dj_gch_8 : decode prog_14_method_12_code 8 = .ok (.goto 4, 3) := by decide +kernel
theorem dj_gch_11 : decode prog_14_method_12_code 11 = .ok (.iconst 0, 1) := by decide +kernel
theorem dj_gch_12 : decode prog_14_method_12_code 12 = .ok (.istore 6, 2) := by decide +kernel
theorem dj_gch_14 : decode prog_14_method_12_code 14 = .ok (.iload 6, 2) := by decide +kernel
theorem dj_gch_16 : decode prog_14_method_12_code 16 = .ok (.ifCond .ne 6, 3) := by decide +kernel
theorem dj_gch_19 : decode prog_14_method_12_code 19 = .ok (.iload_n 0, 1) := by decide +kernel
theorem dj_gch_20 : decode prog_14_method_12_code 20 = .ok (.ineg, 1) := by decide +kernel
theorem dj_gch_21 : decode prog_14_method_12_code 21 = .ok (.istore_n 0, 1) := by decide +kernel
theorem dj_gch_22 : decode prog_14_method_12_code 22 = .ok (.iload_n 0, 1) := by decide +kernel
theorem dj_gch_23 : decode prog_14_method_12_code 23 = .ok (.bipush (-100), 2) := by decide +kernel
theorem dj_gch_25 : decode prog_14_method_12_code 25 = .ok (.if_icmp .gt 47, 3) := by decide +kernel
theorem dj_gch_28 : decode prog_14_method_12_code 28 = .ok (.iload_n 0, 1) := by decide +kernel
theorem dj_gch_29 : decode prog_14_method_12_code 29 = .ok (.bipush 100, 2) := by decide +kernel
theorem dj_gch_31 : decode prog_14_method_12_code 31 = .ok (.idiv, 1) := by decide +kernel
theorem dj_gch_32 : decode prog_14_method_12_code 32 = .ok (.istore_n 3, 1) := by decide +kernel
theorem dj_gch_33 : decode prog_14_method_12_code 33 = .ok (.iload_n 3, 1) := by decide +kernel
theorem dj_gch_34 : decode prog_14_method_12_code 34 = .ok (.bipush 100, 2) := by decide +kernel
theorem dj_gch_36 : decode prog_14_method_12_code 36 = .ok (.imul, 1) := by decide +kernel
theorem dj_gch_37 : decode prog_14_method_12_code 37 = .ok (.iload_n 0, 1) := by decide +kernel
theorem dj_gch_38 : decode prog_14_method_12_code 38 = .ok (.isub, 1) := by decide +kernel
theorem dj_gch_39 : decode prog_14_method_12_code 39 = .ok (.istore 4, 2) := by decide +kernel
theorem dj_gch_41 : decode prog_14_method_12_code 41 = .ok (.iload_n 3, 1) := by decide +kernel
theorem dj_gch_42 : decode prog_14_method_12_code 42 = .ok (.istore_n 0, 1) := by decide +kernel
theorem dj_gch_43 : decode prog_14_method_12_code 43 = .ok (.aload_n 2, 1) := by decide +kernel
theorem dj_gch_44 : decode prog_14_method_12_code 44 = .ok (.iinc 5 (-1), 3) := by decide +kernel
theorem dj_gch_47 : decode prog_14_method_12_code 47 = .ok (.iload 5, 2) := by decide +kernel
theorem dj_gch_49 : decode prog_14_method_12_code 49 = .ok (.getstatic 83, 3) := by decide +kernel
theorem dj_gch_52 : decode prog_14_method_12_code 52 = .ok (.iload 4, 2) := by decide +kernel
theorem dj_gch_54 : decode prog_14_method_12_code 54 = .ok (.baload, 1) := by decide +kernel
theorem dj_gch_55 : decode prog_14_method_12_code 55 = .ok (.bastore, 1) := by decide +kernel
theorem dj_gch_56 : decode prog_14_method_12_code 56 = .ok (.aload_n 2, 1) := by decide +kernel
theorem dj_gch_57 : decode prog_14_method_12_code 57 = .ok (.iinc 5 (-1), 3) := by decide +kernel
theorem dj_gch_60 : decode prog_14_method_12_code 60 = .ok (.iload 5, 2) := by decide +kernel
theorem dj_gch_62 : decode prog_14_method_12_code 62 = .ok (.getstatic 87, 3) := by decide +kernel
theorem dj_gch_65 : decode prog_14_method_12_code 65 = .ok (.iload 4, 2) := by decide +kernel
theorem dj_gch_67 : decode prog_14_method_12_code 67 = .ok (.baload, 1) := by decide +kernel
theorem dj_gch_68 : decode prog_14_method_12_code 68 = .ok (.bastore, 1) := by decide +kernel
theorem dj_gch_69 : decode prog_14_method_12_code 69 = .ok (.goto (-47), 3) := by decide +kernel
theorem dj_gch_72 : decode prog_14_method_12_code 72 = .ok (.aload_n 2, 1) := by decide +kernel
theorem dj_gch_73 : decode prog_14_method_12_code 73 = .ok (.iinc 5 (-1), 3) := by decide +kernel
theorem dj_gch_76 : decode prog_14_method_12_code 76 = .ok (.iload 5, 2) := by decide +kernel
theorem dj_gch_78 : decode prog_14_method_12_code 78 = .ok (.getstatic 83, 3) := by decide +kernel
theorem dj_gch_81 : decode prog_14_method_12_code 81 = .ok (.iload_n 0, 1) := by decide +kernel
theorem dj_gch_82 : decode prog_14_method_12_code 82 = .ok (.ineg, 1) := by decide +kernel
theorem dj_gch_83 : decode prog_14_method_12_code 83 = .ok (.baload, 1) := by decide +kernel
theorem dj_gch_84 : decode prog_14_method_12_code 84 = .ok (.bastore, 1) := by decide +kernel
theorem dj_gch_85 : decode prog_14_method_12_code 85 = .ok (.iload_n 0, 1) := by decide +kernel
theorem dj_gch_86 : decode prog_14_method_12_code 86 = .ok (.bipush (-9), 2) := by decide +kernel
theorem dj_gch_88 : decode prog_14_method_12_code 88 = .ok (.if_icmp .ge 16, 3) := by decide +kernel
theorem dj_gch_91 : decode prog_14_method_12_code 91 = .ok (.aload_n 2, 1) := by decide +kernel
theorem dj_gch_92 : decode prog_14_method_12_code 92 = .ok (.iinc 5 (-1), 3) := by decide +kernel
theorem dj_gch_95 : decode prog_14_method_12_code 95 = .ok (.iload 5, 2) := by decide +kernel
theorem dj_gch_97 : decode prog_14_method_12_code 97 = .ok (.getstatic 87, 3) := by decide +kernel
theorem dj_gch_100 : decode prog_14_method_12_code 100 = .ok (.iload_n 0, 1) := by decide +kernel
theorem dj_gch_101 : decode prog_14_method_12_code 101 = .ok (.ineg, 1) := by decide +kernel
theorem dj_gch_102 : decode prog_14_method_12_code 102 = .ok (.baload, 1) := by decide +kernel
theorem dj_gch_103 : decode prog_14_method_12_code 103 = .ok (.bastore, 1) := by decide +kernel
theorem dj_gch_104 : decode prog_14_method_12_code 104 = .ok (.iload 6, 2) := by decide +kernel
theorem dj_gch_106 : decode prog_14_method_12_code 106 = .ok (.ifCond .eq 12, 3) := by decide +kernel
theorem dj_gch_109 : decode prog_14_method_12_code 109 = .ok (.aload_n 2, 1) := by decide +kernel
theorem dj_gch_110 : decode prog_14_method_12_code 110 = .ok (.iinc 5 (-1), 3) := by decide +kernel
theorem dj_gch_113 : decode prog_14_method_12_code 113 = .ok (.iload 5, 2) := by decide +kernel
theorem dj_gch_115 : decode prog_14_method_12_code 115 = .ok (.bipush 45, 2) := by decide +kernel
theorem dj_gch_117 : decode prog_14_method_12_code 117 = .ok (.bastore, 1) := by decide +kernel
theorem dj_gch_118 : decode prog_14_method_12_code 118 = .ok (.iload 5, 2) := by decide +kernel
theorem dj_gch_120 : decode prog_14_method_12_code 120 = .ok (.ireturn, 1) := by decide +kernel
theorem dj_apI_0 : decode prog_12_method_32_code 0 = .ok (.aload_n 0, 1) := by decide +kernel
theorem dj_apI_1 : decode prog_12_method_32_code 1 = .ok (.getfield 79, 3) := by decide +kernel
theorem dj_apI_4 : decode prog_12_method_32_code 4 = .ok (.istore_n 2, 1) := by decide +kernel
theorem dj_apI_5 : decode prog_12_method_32_code 5 = .ok (.iload_n 2, 1) := by decide +kernel
theorem dj_apI_6 : decode prog_12_method_32_code 6 = .ok (.iload_n 1, 1) := by decide +kernel
theorem dj_apI_7 : decode prog_12_method_32_code 7 = .ok (.invokestatic 245, 3) := by decide +kernel
theorem dj_apI_10 : decode prog_12_method_32_code 10 = .ok (.iadd, 1) := by decide +kernel
theorem dj_apI_11 : decode prog_12_method_32_code 11 = .ok (.istore_n 3, 1) := by decide +kernel
theorem dj_apI_12 : decode prog_12_method_32_code 12 = .ok (.aload_n 0, 1) := by decide +kernel
theorem dj_apI_13 : decode prog_12_method_32_code 13 = .ok (.iload_n 3, 1) := by decide +kernel
theorem dj_apI_14 : decode prog_12_method_32_code 14 = .ok (.invokevirtual 100, 3) := by decide +kernel
theorem dj_apI_17 : decode prog_12_method_32_code 17 = .ok (.aload_n 0, 1) := by decide +kernel
theorem dj_apI_18 : decode prog_12_method_32_code 18 = .ok (.invokevirtual 83, 3) := by decide +kernel
theorem dj_apI_21 : decode prog_12_method_32_code 21 = .ok (.ifCond .eq 16, 3) := by decide +kernel
theorem dj_apI_24 : decode prog_12_method_32_code 24 = .ok (.iload_n 1, 1) := by decide +kernel
theorem dj_apI_25 : decode prog_12_method_32_code 25 = .ok (.iload_n 3, 1) := by decide +kernel
theorem dj_apI_26 : decode prog_12_method_32_code 26 = .ok (.aload_n 0, 1) := by decide +kernel
theorem dj_apI_27 : decode prog_12_method_32_code 27 = .ok (.getfield 15, 3) := by decide +kernel
theorem dj_apI_30 : decode prog_12_method_32_code 30 = .ok (.invokestatic 248, 3) := by decide +kernel
theorem dj_apI_33 : decode prog_12_method_32_code 33 = .ok (.pop, 1) := by decide +kernel
theorem dj_apI_34 : decode prog_12_method_32_code 34 = .ok (.goto 14, 3) := by decide +kernel
theorem dj_apI_37 : decode prog_12_method_32_code 37 = .ok (.iload_n 1, 1) := by decide +kernel
theorem dj_apI_38 : decode prog_12_method_32_code 38 = .ok (.iload_n 2, 1) := by decide +kernel
theorem dj_apI_39 : decode prog_12_method_32_code 39 = .ok (.iload_n 3, 1) := by decide +kernel
theorem dj_apI_40 : decode prog_12_method_32_code 40 = .ok (.aload_n 0, 1) := by decide +kernel
theorem dj_apI_41 : decode prog_12_method_32_code 41 = .ok (.getfield 15, 3) := by decide +kernel
theorem dj_apI_44 : decode prog_12_method_32_code 44 = .ok (.invokestatic 251, 3) := by decide +kernel
theorem dj_apI_47 : decode prog_12_method_32_code 47 = .ok (.pop, 1) := by decide +kernel
theorem dj_apI_48 : decode prog_12_method_32_code 48 = .ok (.aload_n 0, 1) := by decide +kernel
theorem dj_apI_49 : decode prog_12_method_32_code 49 = .ok (.iload_n 3, 1) := by decide +kernel
theorem dj_apI_50 : decode prog_12_method_32_code 50 = .ok (.putfield 79, 3) := by decide +kernel
theorem dj_apI_53 : decode prog_12_method_32_code 53 = .ok (.aload_n 0, 1) := by decide +kernel
theorem dj_apI_54 : decode prog_12_method_32_code 54 = .ok (.areturn, 1) := by decide +kernel
theorem dj_sbI_0 : decode prog_17_method_15_code 0 = .ok (.aload_n 0, 1) := by decide +kernel
theorem dj_sbI_1 : decode prog_17_method_15_code 1 = .ok (.iload_n 1, 1) := by decide +kernel
theorem dj_sbI_2 : decode prog_17_method_15_code 2 = .ok (.invokespecial 53, 3) := by decide +kernel
theorem dj_sbI_5 : decode prog_17_method_15_code 5 = .ok (.pop, 1) := by decide +kernel
theorem dj_sbI_6 : decode prog_17_method_15_code 6 = .ok (.aload_n 0, 1) := by decide +kernel
theorem dj_sbI_7 : decode prog_17_method_15_code 7 = .ok (.areturn, 1) := by decide +kernel
