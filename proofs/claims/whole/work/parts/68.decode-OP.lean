theorem d_OP_init_0 : decode b_OP_init 0 = .ok (.aload_n 0, 1) := by decide +kernel
theorem d_OP_init_1 : decode b_OP_init 1 = .ok (.invokespecial 1, 3) := by decide +kernel
theorem d_OP_init_4 : decode b_OP_init 4 = .ok (.aload_n 0, 1) := by decide +kernel
theorem d_OP_init_5 : decode b_OP_init 5 = .ok (.new 7, 3) := by decide +kernel
theorem d_OP_init_8 : decode b_OP_init 8 = .ok (.dup, 1) := by decide +kernel
theorem d_OP_init_9 : decode b_OP_init 9 = .ok (.invokespecial 9, 3) := by decide +kernel
theorem d_OP_init_12 : decode b_OP_init 12 = .ok (.putfield 10, 3) := by decide +kernel
theorem d_OP_init_15 : decode b_OP_init 15 = .ok (.aload_n 0, 1) := by decide +kernel
theorem d_OP_init_16 : decode b_OP_init 16 = .ok (.new 16, 3) := by decide +kernel
theorem d_OP_init_19 : decode b_OP_init 19 = .ok (.dup, 1) := by decide +kernel
theorem d_OP_init_20 : decode b_OP_init 20 = .ok (.invokespecial 18, 3) := by decide +kernel
theorem d_OP_init_23 : decode b_OP_init 23 = .ok (.putfield 19, 3) := by decide +kernel
theorem d_OP_init_26 : decode b_OP_init 26 = .ok (.aload_n 0, 1) := by decide +kernel
theorem d_OP_init_27 : decode b_OP_init 27 = .ok (.new 23, 3) := by decide +kernel
theorem d_OP_init_30 : decode b_OP_init 30 = .ok (.dup, 1) := by decide +kernel
theorem d_OP_init_31 : decode b_OP_init 31 = .ok (.invokespecial 25, 3) := by decide +kernel
theorem d_OP_init_34 : decode b_OP_init 34 = .ok (.putfield 26, 3) := by decide +kernel
theorem d_OP_init_37 : decode b_OP_init 37 = .ok (.aload_n 0, 1) := by decide +kernel
theorem d_OP_init_38 : decode b_OP_init 38 = .ok (.new 30, 3) := by decide +kernel
theorem d_OP_init_41 : decode b_OP_init 41 = .ok (.dup, 1) := by decide +kernel
theorem d_OP_init_42 : decode b_OP_init 42 = .ok (.invokespecial 32, 3) := by decide +kernel
theorem d_OP_init_45 : decode b_OP_init 45 = .ok (.putfield 33, 3) := by decide +kernel
theorem d_OP_init_48 : decode b_OP_init 48 = .ok (.aload_n 0, 1) := by decide +kernel
theorem d_OP_init_49 : decode b_OP_init 49 = .ok (.new 30, 3) := by decide +kernel
theorem d_OP_init_52 : decode b_OP_init 52 = .ok (.dup, 1) := by decide +kernel
theorem d_OP_init_53 : decode b_OP_init 53 = .ok (.invokespecial 32, 3) := by decide +kernel
theorem d_OP_init_56 : decode b_OP_init 56 = .ok (.putfield 37, 3) := by decide +kernel
theorem d_OP_init_59 : decode b_OP_init 59 = .ok (.return_, 1) := by decide +kernel
theorem d_OP_fits_0 : decode b_OP_fits 0 = .ok (.aload_n 0, 1) := by decide +kernel
theorem d_OP_fits_1 : decode b_OP_fits 1 = .ok (.invokevirtual 93, 3) := by decide +kernel
theorem d_OP_fits_4 : decode b_OP_fits 4 = .ok (.aload_n 0, 1) := by decide +kernel
theorem d_OP_fits_5 : decode b_OP_fits 5 = .ok (.getfield 33, 3) := by decide +kernel
theorem d_OP_fits_8 : decode b_OP_fits 8 = .ok (.invokevirtual 123, 3) := by decide +kernel
theorem d_OP_fits_11 : decode b_OP_fits 11 = .ok (.ifCond .ne 7, 3) := by decide +kernel
theorem d_OP_fits_14 : decode b_OP_fits 14 = .ok (.iconst 1, 1) := by decide +kernel
theorem d_OP_fits_15 : decode b_OP_fits 15 = .ok (.goto 4, 3) := by decide +kernel
theorem d_OP_fits_18 : decode b_OP_fits 18 = .ok (.iconst 0, 1) := by decide +kernel
theorem d_OP_fits_19 : decode b_OP_fits 19 = .ok (.ireturn, 1) := by decide +kernel
theorem d_OP_sumAll_0 : decode b_OP_sumAll 0 = .ok (.aload_n 0, 1) := by decide +kernel
theorem d_OP_sumAll_1 : decode b_OP_sumAll 1 = .ok (.getfield 10, 3) := by decide +kernel
theorem d_OP_sumAll_4 : decode b_OP_sumAll 4 = .ok (.invokevirtual 40, 3) := by decide +kernel
theorem d_OP_sumAll_7 : decode b_OP_sumAll 7 = .ok (.ifCond .ne 12, 3) := by decide +kernel
theorem d_OP_sumAll_10 : decode b_OP_sumAll 10 = .ok (.aload_n 0, 1) := by decide +kernel
theorem d_OP_sumAll_11 : decode b_OP_sumAll 11 = .ok (.getfield 33, 3) := by decide +kernel
theorem d_OP_sumAll_14 : decode b_OP_sumAll 14 = .ok (.iconst 1, 1) := by decide +kernel
theorem d_OP_sumAll_15 : decode b_OP_sumAll 15 = .ok (.invokevirtual 133, 3) := by decide +kernel
theorem d_OP_sumAll_18 : decode b_OP_sumAll 18 = .ok (.return_, 1) := by decide +kernel
theorem d_OP_sumAll_19 : decode b_OP_sumAll 19 = .ok (.aload_n 0, 1) := by decide +kernel
theorem d_OP_sumAll_20 : decode b_OP_sumAll 20 = .ok (.getfield 26, 3) := by decide +kernel
theorem d_OP_sumAll_23 : decode b_OP_sumAll 23 = .ok (.iconst 0, 1) := by decide +kernel
theorem d_OP_sumAll_24 : decode b_OP_sumAll 24 = .ok (.aload_n 0, 1) := by decide +kernel
theorem d_OP_sumAll_25 : decode b_OP_sumAll 25 = .ok (.getfield 10, 3) := by decide +kernel
theorem d_OP_sumAll_28 : decode b_OP_sumAll 28 = .ok (.aload_n 0, 1) := by decide +kernel
theorem d_OP_sumAll_29 : decode b_OP_sumAll 29 = .ok (.getfield 19, 3) := by decide +kernel
theorem d_OP_sumAll_32 : decode b_OP_sumAll 32 = .ok (.invokevirtual 100, 3) := by decide +kernel
theorem d_OP_sumAll_35 : decode b_OP_sumAll 35 = .ok (.aload_n 0, 1) := by decide +kernel
theorem d_OP_sumAll_36 : decode b_OP_sumAll 36 = .ok (.getfield 26, 3) := by decide +kernel
theorem d_OP_sumAll_39 : decode b_OP_sumAll 39 = .ok (.iconst 0, 1) := by decide +kernel
theorem d_OP_sumAll_40 : decode b_OP_sumAll 40 = .ok (.aload_n 0, 1) := by decide +kernel
theorem d_OP_sumAll_41 : decode b_OP_sumAll 41 = .ok (.getfield 33, 3) := by decide +kernel
theorem d_OP_sumAll_44 : decode b_OP_sumAll 44 = .ok (.invokevirtual 129, 3) := by decide +kernel
theorem d_OP_sumAll_47 : decode b_OP_sumAll 47 = .ok (.return_, 1) := by decide +kernel
theorem d_OP_date_0 : decode b_OP_date 0 = .ok (.aload_n 0, 1) := by decide +kernel
theorem d_OP_date_1 : decode b_OP_date 1 = .ok (.getfield 10, 3) := by decide +kernel
theorem d_OP_date_4 : decode b_OP_date 4 = .ok (.invokevirtual 40, 3) := by decide +kernel
theorem d_OP_date_7 : decode b_OP_date 7 = .ok (.bipush 6, 2) := by decide +kernel
theorem d_OP_date_9 : decode b_OP_date 9 = .ok (.if_icmp .lt 13, 3) := by decide +kernel
theorem d_OP_date_12 : decode b_OP_date 12 = .ok (.new 44, 3) := by decide +kernel
theorem d_OP_date_15 : decode b_OP_date 15 = .ok (.dup, 1) := by decide +kernel
theorem d_OP_date_16 : decode b_OP_date 16 = .ok (.ldc 46, 2) := by decide +kernel
theorem d_OP_date_18 : decode b_OP_date 18 = .ok (.invokespecial 48, 3) := by decide +kernel
theorem d_OP_date_21 : decode b_OP_date 21 = .ok (.athrow, 1) := by decide +kernel
theorem d_OP_date_22 : decode b_OP_date 22 = .ok (.aload_n 0, 1) := by decide +kernel
theorem d_OP_date_23 : decode b_OP_date 23 = .ok (.getfield 10, 3) := by decide +kernel
theorem d_OP_date_26 : decode b_OP_date 26 = .ok (.invokevirtual 51, 3) := by decide +kernel
theorem d_OP_date_29 : decode b_OP_date 29 = .ok (.ireturn, 1) := by decide +kernel
theorem d_OP_weight_0 : decode b_OP_weight 0 = .ok (.aload_n 0, 1) := by decide +kernel
theorem d_OP_weight_1 : decode b_OP_weight 1 = .ok (.iload_n 1, 1) := by decide +kernel
theorem d_OP_weight_2 : decode b_OP_weight 2 = .ok (.invokevirtual 54, 3) := by decide +kernel
theorem d_OP_weight_5 : decode b_OP_weight 5 = .ok (.iload_n 2, 1) := by decide +kernel
theorem d_OP_weight_6 : decode b_OP_weight 6 = .ok (.invokestatic 58, 3) := by decide +kernel
theorem d_OP_weight_9 : decode b_OP_weight 9 = .ok (.iload_n 3, 1) := by decide +kernel
theorem d_OP_weight_10 : decode b_OP_weight 10 = .ok (.ifCond .lt 10, 3) := by decide +kernel
theorem d_OP_weight_13 : decode b_OP_weight 13 = .ok (.iload_n 3, 1) := by decide +kernel
theorem d_OP_weight_14 : decode b_OP_weight 14 = .ok (.sipush 999, 3) := by decide +kernel
theorem d_OP_weight_17 : decode b_OP_weight 17 = .ok (.if_icmp .le 13, 3) := by decide +kernel
theorem d_OP_weight_20 : decode b_OP_weight 20 = .ok (.new 61, 3) := by decide +kernel
theorem d_OP_weight_23 : decode b_OP_weight 23 = .ok (.dup, 1) := by decide +kernel
theorem d_OP_weight_24 : decode b_OP_weight 24 = .ok (.ldc 63, 2) := by decide +kernel
theorem d_OP_weight_26 : decode b_OP_weight 26 = .ok (.invokespecial 65, 3) := by decide +kernel
theorem d_OP_weight_29 : decode b_OP_weight 29 = .ok (.athrow, 1) := by decide +kernel
theorem d_OP_weight_30 : decode b_OP_weight 30 = .ok (.aload_n 0, 1) := by decide +kernel
theorem d_OP_weight_31 : decode b_OP_weight 31 = .ok (.getfield 10, 3) := by decide +kernel
theorem d_OP_weight_34 : decode b_OP_weight 34 = .ok (.iload_n 1, 1) := by decide +kernel
theorem d_OP_weight_35 : decode b_OP_weight 35 = .ok (.iload_n 2, 1) := by decide +kernel
theorem d_OP_weight_36 : decode b_OP_weight 36 = .ok (.iload_n 3, 1) := by decide +kernel
theorem d_OP_weight_37 : decode b_OP_weight 37 = .ok (.invokevirtual 66, 3) := by decide +kernel
theorem d_OP_weight_40 : decode b_OP_weight 40 = .ok (.ireturn, 1) := by decide +kernel
theorem d_OP_needDate_0 : decode b_OP_needDate 0 = .ok (.iload_n 1, 1) := by decide +kernel
theorem d_OP_needDate_1 : decode b_OP_needDate 1 = .ok (.ifCond .lt 14, 3) := by decide +kernel
theorem d_OP_needDate_4 : decode b_OP_needDate 4 = .ok (.iload_n 1, 1) := by decide +kernel
theorem d_OP_needDate_5 : decode b_OP_needDate 5 = .ok (.aload_n 0, 1) := by decide +kernel
theorem d_OP_needDate_6 : decode b_OP_needDate 6 = .ok (.getfield 10, 3) := by decide +kernel
theorem d_OP_needDate_9 : decode b_OP_needDate 9 = .ok (.invokevirtual 40, 3) := by decide +kernel
theorem d_OP_needDate_12 : decode b_OP_needDate 12 = .ok (.if_icmp .lt 13, 3) := by decide +kernel
theorem d_OP_needDate_15 : decode b_OP_needDate 15 = .ok (.new 146, 3) := by decide +kernel
theorem d_OP_needDate_18 : decode b_OP_needDate 18 = .ok (.dup, 1) := by decide +kernel
theorem d_OP_needDate_19 : decode b_OP_needDate 19 = .ok (.ldc 164, 2) := by decide +kernel
theorem d_OP_needDate_21 : decode b_OP_needDate 21 = .ok (.invokespecial 150, 3) := by decide +kernel
theorem d_OP_needDate_24 : decode b_OP_needDate 24 = .ok (.athrow, 1) := by decide +kernel
theorem d_OP_needDate_25 : decode b_OP_needDate 25 = .ok (.return_, 1) := by decide +kernel
theorem d_OP_needYear_0 : decode b_OP_needYear 0 = .ok (.iload_n 0, 1) := by decide +kernel
theorem d_OP_needYear_1 : decode b_OP_needYear 1 = .ok (.ifCond .lt 9, 3) := by decide +kernel
theorem d_OP_needYear_4 : decode b_OP_needYear 4 = .ok (.iload_n 0, 1) := by decide +kernel
theorem d_OP_needYear_5 : decode b_OP_needYear 5 = .ok (.bipush 12, 2) := by decide +kernel
theorem d_OP_needYear_7 : decode b_OP_needYear 7 = .ok (.if_icmp .lt 13, 3) := by decide +kernel
theorem d_OP_needYear_10 : decode b_OP_needYear 10 = .ok (.new 146, 3) := by decide +kernel
theorem d_OP_needYear_13 : decode b_OP_needYear 13 = .ok (.dup, 1) := by decide +kernel
theorem d_OP_needYear_14 : decode b_OP_needYear 14 = .ok (.ldc 166, 2) := by decide +kernel
theorem d_OP_needYear_16 : decode b_OP_needYear 16 = .ok (.invokespecial 150, 3) := by decide +kernel
theorem d_OP_needYear_19 : decode b_OP_needYear 19 = .ok (.athrow, 1) := by decide +kernel
theorem d_OP_needYear_20 : decode b_OP_needYear 20 = .ok (.return_, 1) := by decide +kernel
theorem d_OP_outlier_0 : decode b_OP_outlier 0 = .ok (.aload_n 0, 1) := by decide +kernel
theorem d_OP_outlier_1 : decode b_OP_outlier 1 = .ok (.iload_n 1, 1) := by decide +kernel
theorem d_OP_outlier_2 : decode b_OP_outlier 2 = .ok (.invokevirtual 54, 3) := by decide +kernel
theorem d_OP_outlier_5 : decode b_OP_outlier 5 = .ok (.iload_n 3, 1) := by decide +kernel
theorem d_OP_outlier_6 : decode b_OP_outlier 6 = .ok (.iconst 1, 1) := by decide +kernel
theorem d_OP_outlier_7 : decode b_OP_outlier 7 = .ok (.if_icmp .lt 18, 3) := by decide +kernel
theorem d_OP_outlier_10 : decode b_OP_outlier 10 = .ok (.iload_n 3, 1) := by decide +kernel
theorem d_OP_outlier_11 : decode b_OP_outlier 11 = .ok (.bipush 10, 2) := by decide +kernel
theorem d_OP_outlier_13 : decode b_OP_outlier 13 = .ok (.if_icmp .gt 12, 3) := by decide +kernel
theorem d_OP_outlier_16 : decode b_OP_outlier 16 = .ok (.iload_n 2, 1) := by decide +kernel
theorem d_OP_outlier_17 : decode b_OP_outlier 17 = .ok (.ifCond .lt 8, 3) := by decide +kernel
theorem d_OP_outlier_20 : decode b_OP_outlier 20 = .ok (.iload_n 2, 1) := by decide +kernel
theorem d_OP_outlier_21 : decode b_OP_outlier 21 = .ok (.iload_n 3, 1) := by decide +kernel
theorem d_OP_outlier_22 : decode b_OP_outlier 22 = .ok (.if_icmp .le 13, 3) := by decide +kernel
theorem d_OP_outlier_25 : decode b_OP_outlier 25 = .ok (.new 61, 3) := by decide +kernel
theorem d_OP_outlier_28 : decode b_OP_outlier 28 = .ok (.dup, 1) := by decide +kernel
theorem d_OP_outlier_29 : decode b_OP_outlier 29 = .ok (.ldc 70, 2) := by decide +kernel
theorem d_OP_outlier_31 : decode b_OP_outlier 31 = .ok (.invokespecial 65, 3) := by decide +kernel
theorem d_OP_outlier_34 : decode b_OP_outlier 34 = .ok (.athrow, 1) := by decide +kernel
theorem d_OP_outlier_35 : decode b_OP_outlier 35 = .ok (.aload_n 0, 1) := by decide +kernel
theorem d_OP_outlier_36 : decode b_OP_outlier 36 = .ok (.getfield 10, 3) := by decide +kernel
theorem d_OP_outlier_39 : decode b_OP_outlier 39 = .ok (.iload_n 1, 1) := by decide +kernel
theorem d_OP_outlier_40 : decode b_OP_outlier 40 = .ok (.iload_n 2, 1) := by decide +kernel
theorem d_OP_outlier_41 : decode b_OP_outlier 41 = .ok (.iload_n 3, 1) := by decide +kernel
theorem d_OP_outlier_42 : decode b_OP_outlier 42 = .ok (.invokevirtual 72, 3) := by decide +kernel
theorem d_OP_outlier_45 : decode b_OP_outlier 45 = .ok (.return_, 1) := by decide +kernel
theorem d_OP_row_0 : decode b_OP_row 0 = .ok (.aload_n 0, 1) := by decide +kernel
theorem d_OP_row_1 : decode b_OP_row 1 = .ok (.iload_n 1, 1) := by decide +kernel
theorem d_OP_row_2 : decode b_OP_row 2 = .ok (.invokevirtual 54, 3) := by decide +kernel
theorem d_OP_row_5 : decode b_OP_row 5 = .ok (.aload_n 0, 1) := by decide +kernel
theorem d_OP_row_6 : decode b_OP_row 6 = .ok (.iload_n 2, 1) := by decide +kernel
theorem d_OP_row_7 : decode b_OP_row 7 = .ok (.invokevirtual 54, 3) := by decide +kernel
theorem d_OP_row_10 : decode b_OP_row 10 = .ok (.iload_n 3, 1) := by decide +kernel
theorem d_OP_row_11 : decode b_OP_row 11 = .ok (.ifCond .lt 16, 3) := by decide +kernel
theorem d_OP_row_14 : decode b_OP_row 14 = .ok (.iload_n 3, 1) := by decide +kernel
theorem d_OP_row_15 : decode b_OP_row 15 = .ok (.iload 4, 2) := by decide +kernel
theorem d_OP_row_17 : decode b_OP_row 17 = .ok (.if_icmp .gt 10, 3) := by decide +kernel
theorem d_OP_row_20 : decode b_OP_row 20 = .ok (.iload 4, 2) := by decide +kernel
theorem d_OP_row_22 : decode b_OP_row 22 = .ok (.bipush 12, 2) := by decide +kernel
theorem d_OP_row_24 : decode b_OP_row 24 = .ok (.if_icmp .lt 13, 3) := by decide +kernel
theorem d_OP_row_27 : decode b_OP_row 27 = .ok (.new 61, 3) := by decide +kernel
theorem d_OP_row_30 : decode b_OP_row 30 = .ok (.dup, 1) := by decide +kernel
theorem d_OP_row_31 : decode b_OP_row 31 = .ok (.ldc 76, 2) := by decide +kernel
theorem d_OP_row_33 : decode b_OP_row 33 = .ok (.invokespecial 65, 3) := by decide +kernel
theorem d_OP_row_36 : decode b_OP_row 36 = .ok (.athrow, 1) := by decide +kernel
theorem d_OP_row_37 : decode b_OP_row 37 = .ok (.aload_n 0, 1) := by decide +kernel
theorem d_OP_row_38 : decode b_OP_row 38 = .ok (.getfield 19, 3) := by decide +kernel
theorem d_OP_row_41 : decode b_OP_row 41 = .ok (.iload_n 1, 1) := by decide +kernel
theorem d_OP_row_42 : decode b_OP_row 42 = .ok (.iload_n 2, 1) := by decide +kernel
theorem d_OP_row_43 : decode b_OP_row 43 = .ok (.invokevirtual 78, 3) := by decide +kernel
theorem d_OP_row_46 : decode b_OP_row 46 = .ok (.ifCond .ne 5, 3) := by decide +kernel
theorem d_OP_row_49 : decode b_OP_row 49 = .ok (.iconst (-1), 1) := by decide +kernel
theorem d_OP_row_50 : decode b_OP_row 50 = .ok (.ireturn, 1) := by decide +kernel
theorem d_OP_row_51 : decode b_OP_row 51 = .ok (.aload_n 0, 1) := by decide +kernel
theorem d_OP_row_52 : decode b_OP_row 52 = .ok (.getfield 19, 3) := by decide +kernel
theorem d_OP_row_55 : decode b_OP_row 55 = .ok (.iload_n 1, 1) := by decide +kernel
theorem d_OP_row_56 : decode b_OP_row 56 = .ok (.iload_n 2, 1) := by decide +kernel
theorem d_OP_row_57 : decode b_OP_row 57 = .ok (.iload_n 3, 1) := by decide +kernel
theorem d_OP_row_58 : decode b_OP_row 58 = .ok (.iload 4, 2) := by decide +kernel
theorem d_OP_row_60 : decode b_OP_row 60 = .ok (.invokevirtual 82, 3) := by decide +kernel
theorem d_OP_row_63 : decode b_OP_row 63 = .ok (.ireturn, 1) := by decide +kernel
theorem d_OP_member_0 : decode b_OP_member 0 = .ok (.aload_n 0, 1) := by decide +kernel
theorem d_OP_member_1 : decode b_OP_member 1 = .ok (.iload_n 1, 1) := by decide +kernel
theorem d_OP_member_2 : decode b_OP_member 2 = .ok (.invokevirtual 54, 3) := by decide +kernel
theorem d_OP_member_5 : decode b_OP_member 5 = .ok (.aload_n 0, 1) := by decide +kernel
theorem d_OP_member_6 : decode b_OP_member 6 = .ok (.getfield 19, 3) := by decide +kernel
theorem d_OP_member_9 : decode b_OP_member 9 = .ok (.iload_n 1, 1) := by decide +kernel
theorem d_OP_member_10 : decode b_OP_member 10 = .ok (.invokevirtual 86, 3) := by decide +kernel
theorem d_OP_member_13 : decode b_OP_member 13 = .ok (.ifCond .eq 5, 3) := by decide +kernel
theorem d_OP_member_16 : decode b_OP_member 16 = .ok (.iconst (-1), 1) := by decide +kernel
theorem d_OP_member_17 : decode b_OP_member 17 = .ok (.ireturn, 1) := by decide +kernel
theorem d_OP_member_18 : decode b_OP_member 18 = .ok (.aload_n 0, 1) := by decide +kernel
theorem d_OP_member_19 : decode b_OP_member 19 = .ok (.getfield 19, 3) := by decide +kernel
theorem d_OP_member_22 : decode b_OP_member 22 = .ok (.iload_n 1, 1) := by decide +kernel
theorem d_OP_member_23 : decode b_OP_member 23 = .ok (.iconst (-1), 1) := by decide +kernel
theorem d_OP_member_24 : decode b_OP_member 24 = .ok (.iconst 0, 1) := by decide +kernel
theorem d_OP_member_25 : decode b_OP_member 25 = .ok (.iconst 0, 1) := by decide +kernel
theorem d_OP_member_26 : decode b_OP_member 26 = .ok (.invokevirtual 82, 3) := by decide +kernel
theorem d_OP_member_29 : decode b_OP_member 29 = .ok (.ireturn, 1) := by decide +kernel
theorem d_OP_total_0 : decode b_OP_total 0 = .ok (.iload_n 1, 1) := by decide +kernel
theorem d_OP_total_1 : decode b_OP_total 1 = .ok (.invokestatic 90, 3) := by decide +kernel
theorem d_OP_total_4 : decode b_OP_total 4 = .ok (.aload_n 0, 1) := by decide +kernel
theorem d_OP_total_5 : decode b_OP_total 5 = .ok (.invokevirtual 93, 3) := by decide +kernel
theorem d_OP_total_8 : decode b_OP_total 8 = .ok (.aload_n 0, 1) := by decide +kernel
theorem d_OP_total_9 : decode b_OP_total 9 = .ok (.getfield 33, 3) := by decide +kernel
theorem d_OP_total_12 : decode b_OP_total 12 = .ok (.iload_n 1, 1) := by decide +kernel
theorem d_OP_total_13 : decode b_OP_total 13 = .ok (.invokevirtual 96, 3) := by decide +kernel
theorem d_OP_total_16 : decode b_OP_total 16 = .ok (.ireturn, 1) := by decide +kernel
theorem d_OP_needDigit_0 : decode b_OP_needDigit 0 = .ok (.iload_n 0, 1) := by decide +kernel
theorem d_OP_needDigit_1 : decode b_OP_needDigit 1 = .ok (.ifCond .lt 9, 3) := by decide +kernel
theorem d_OP_needDigit_4 : decode b_OP_needDigit 4 = .ok (.iload_n 0, 1) := by decide +kernel
theorem d_OP_needDigit_5 : decode b_OP_needDigit 5 = .ok (.bipush 48, 2) := by decide +kernel
theorem d_OP_needDigit_7 : decode b_OP_needDigit 7 = .ok (.if_icmp .lt 13, 3) := by decide +kernel
theorem d_OP_needDigit_10 : decode b_OP_needDigit 10 = .ok (.new 146, 3) := by decide +kernel
theorem d_OP_needDigit_13 : decode b_OP_needDigit 13 = .ok (.dup, 1) := by decide +kernel
theorem d_OP_needDigit_14 : decode b_OP_needDigit 14 = .ok (.ldc 170, 2) := by decide +kernel
theorem d_OP_needDigit_16 : decode b_OP_needDigit 16 = .ok (.invokespecial 150, 3) := by decide +kernel
theorem d_OP_needDigit_19 : decode b_OP_needDigit 19 = .ok (.athrow, 1) := by decide +kernel
theorem d_OP_needDigit_20 : decode b_OP_needDigit 20 = .ok (.return_, 1) := by decide +kernel
theorem d_OP_answered_0 : decode b_OP_answered 0 = .ok (.aload_n 0, 1) := by decide +kernel
theorem d_OP_answered_1 : decode b_OP_answered 1 = .ok (.iload_n 1, 1) := by decide +kernel
theorem d_OP_answered_2 : decode b_OP_answered 2 = .ok (.invokevirtual 54, 3) := by decide +kernel
theorem d_OP_answered_5 : decode b_OP_answered 5 = .ok (.iload_n 2, 1) := by decide +kernel
theorem d_OP_answered_6 : decode b_OP_answered 6 = .ok (.invokestatic 58, 3) := by decide +kernel
theorem d_OP_answered_9 : decode b_OP_answered 9 = .ok (.iload_n 3, 1) := by decide +kernel
theorem d_OP_answered_10 : decode b_OP_answered 10 = .ok (.invokestatic 90, 3) := by decide +kernel
theorem d_OP_answered_13 : decode b_OP_answered 13 = .ok (.aload_n 0, 1) := by decide +kernel
theorem d_OP_answered_14 : decode b_OP_answered 14 = .ok (.getfield 26, 3) := by decide +kernel
theorem d_OP_answered_17 : decode b_OP_answered 17 = .ok (.iload_n 1, 1) := by decide +kernel
theorem d_OP_answered_18 : decode b_OP_answered 18 = .ok (.aload_n 0, 1) := by decide +kernel
theorem d_OP_answered_19 : decode b_OP_answered 19 = .ok (.getfield 10, 3) := by decide +kernel
theorem d_OP_answered_22 : decode b_OP_answered 22 = .ok (.aload_n 0, 1) := by decide +kernel
theorem d_OP_answered_23 : decode b_OP_answered 23 = .ok (.getfield 19, 3) := by decide +kernel
theorem d_OP_answered_26 : decode b_OP_answered 26 = .ok (.invokevirtual 100, 3) := by decide +kernel
theorem d_OP_answered_29 : decode b_OP_answered 29 = .ok (.aload_n 0, 1) := by decide +kernel
theorem d_OP_answered_30 : decode b_OP_answered 30 = .ok (.getfield 26, 3) := by decide +kernel
theorem d_OP_answered_33 : decode b_OP_answered 33 = .ok (.iload_n 1, 1) := by decide +kernel
theorem d_OP_answered_34 : decode b_OP_answered 34 = .ok (.iload_n 2, 1) := by decide +kernel
theorem d_OP_answered_35 : decode b_OP_answered 35 = .ok (.invokevirtual 104, 3) := by decide +kernel
theorem d_OP_answered_38 : decode b_OP_answered 38 = .ok (.iload_n 3, 1) := by decide +kernel
theorem d_OP_answered_39 : decode b_OP_answered 39 = .ok (.invokevirtual 96, 3) := by decide +kernel
theorem d_OP_answered_42 : decode b_OP_answered 42 = .ok (.ireturn, 1) := by decide +kernel
theorem d_OP_bound_0 : decode b_OP_bound 0 = .ok (.iload_n 1, 1) := by decide +kernel
theorem d_OP_bound_1 : decode b_OP_bound 1 = .ok (.invokestatic 108, 3) := by decide +kernel
theorem d_OP_bound_4 : decode b_OP_bound 4 = .ok (.iload_n 2, 1) := by decide +kernel
theorem d_OP_bound_5 : decode b_OP_bound 5 = .ok (.invokestatic 58, 3) := by decide +kernel
theorem d_OP_bound_8 : decode b_OP_bound 8 = .ok (.iload_n 3, 1) := by decide +kernel
theorem d_OP_bound_9 : decode b_OP_bound 9 = .ok (.invokestatic 90, 3) := by decide +kernel
theorem d_OP_bound_12 : decode b_OP_bound 12 = .ok (.aload_n 0, 1) := by decide +kernel
theorem d_OP_bound_13 : decode b_OP_bound 13 = .ok (.getfield 19, 3) := by decide +kernel
theorem d_OP_bound_16 : decode b_OP_bound 16 = .ok (.invokevirtual 111, 3) := by decide +kernel
theorem d_OP_bound_19 : decode b_OP_bound 19 = .ok (.ifCond .ne 13, 3) := by decide +kernel
theorem d_OP_bound_22 : decode b_OP_bound 22 = .ok (.new 44, 3) := by decide +kernel
theorem d_OP_bound_25 : decode b_OP_bound 25 = .ok (.dup, 1) := by decide +kernel
theorem d_OP_bound_26 : decode b_OP_bound 26 = .ok (.ldc 114, 2) := by decide +kernel
theorem d_OP_bound_28 : decode b_OP_bound 28 = .ok (.invokespecial 48, 3) := by decide +kernel
theorem d_OP_bound_31 : decode b_OP_bound 31 = .ok (.athrow, 1) := by decide +kernel
theorem d_OP_bound_32 : decode b_OP_bound 32 = .ok (.aload_n 0, 1) := by decide +kernel
theorem d_OP_bound_33 : decode b_OP_bound 33 = .ok (.getfield 26, 3) := by decide +kernel
theorem d_OP_bound_36 : decode b_OP_bound 36 = .ok (.iload_n 1, 1) := by decide +kernel
theorem d_OP_bound_37 : decode b_OP_bound 37 = .ok (.iload_n 2, 1) := by decide +kernel
theorem d_OP_bound_38 : decode b_OP_bound 38 = .ok (.invokevirtual 116, 3) := by decide +kernel
theorem d_OP_bound_41 : decode b_OP_bound 41 = .ok (.aload_n 0, 1) := by decide +kernel
theorem d_OP_bound_42 : decode b_OP_bound 42 = .ok (.invokevirtual 93, 3) := by decide +kernel
theorem d_OP_bound_45 : decode b_OP_bound 45 = .ok (.aload_n 0, 1) := by decide +kernel
theorem d_OP_bound_46 : decode b_OP_bound 46 = .ok (.getfield 33, 3) := by decide +kernel
theorem d_OP_bound_49 : decode b_OP_bound 49 = .ok (.iload_n 3, 1) := by decide +kernel
theorem d_OP_bound_50 : decode b_OP_bound 50 = .ok (.invokevirtual 96, 3) := by decide +kernel
theorem d_OP_bound_53 : decode b_OP_bound 53 = .ok (.ireturn, 1) := by decide +kernel
theorem d_OP_needBound_0 : decode b_OP_needBound 0 = .ok (.iload_n 0, 1) := by decide +kernel
theorem d_OP_needBound_1 : decode b_OP_needBound 1 = .ok (.ifCond .lt 8, 3) := by decide +kernel
theorem d_OP_needBound_4 : decode b_OP_needBound 4 = .ok (.iload_n 0, 1) := by decide +kernel
theorem d_OP_needBound_5 : decode b_OP_needBound 5 = .ok (.iconst 2, 1) := by decide +kernel
theorem d_OP_needBound_6 : decode b_OP_needBound 6 = .ok (.if_icmp .lt 13, 3) := by decide +kernel
theorem d_OP_needBound_9 : decode b_OP_needBound 9 = .ok (.new 146, 3) := by decide +kernel
theorem d_OP_needBound_12 : decode b_OP_needBound 12 = .ok (.dup, 1) := by decide +kernel
theorem d_OP_needBound_13 : decode b_OP_needBound 13 = .ok (.ldc 168, 2) := by decide +kernel
theorem d_OP_needBound_15 : decode b_OP_needBound 15 = .ok (.invokespecial 150, 3) := by decide +kernel
theorem d_OP_needBound_18 : decode b_OP_needBound 18 = .ok (.athrow, 1) := by decide +kernel
theorem d_OP_needBound_19 : decode b_OP_needBound 19 = .ok (.return_, 1) := by decide +kernel
theorem d_OP_both_0 : decode b_OP_both 0 = .ok (.aload_n 0, 1) := by decide +kernel
theorem d_OP_both_1 : decode b_OP_both 1 = .ok (.iload_n 1, 1) := by decide +kernel
theorem d_OP_both_2 : decode b_OP_both 2 = .ok (.invokevirtual 54, 3) := by decide +kernel
theorem d_OP_both_5 : decode b_OP_both 5 = .ok (.iload_n 2, 1) := by decide +kernel
theorem d_OP_both_6 : decode b_OP_both 6 = .ok (.invokestatic 58, 3) := by decide +kernel
theorem d_OP_both_9 : decode b_OP_both 9 = .ok (.aload_n 0, 1) := by decide +kernel
theorem d_OP_both_10 : decode b_OP_both 10 = .ok (.iload_n 3, 1) := by decide +kernel
theorem d_OP_both_11 : decode b_OP_both 11 = .ok (.invokevirtual 54, 3) := by decide +kernel
theorem d_OP_both_14 : decode b_OP_both 14 = .ok (.iload 4, 2) := by decide +kernel
theorem d_OP_both_16 : decode b_OP_both 16 = .ok (.invokestatic 58, 3) := by decide +kernel
theorem d_OP_both_19 : decode b_OP_both 19 = .ok (.iload 5, 2) := by decide +kernel
theorem d_OP_both_21 : decode b_OP_both 21 = .ok (.invokestatic 90, 3) := by decide +kernel
theorem d_OP_both_24 : decode b_OP_both 24 = .ok (.aload_n 0, 1) := by decide +kernel
theorem d_OP_both_25 : decode b_OP_both 25 = .ok (.getfield 26, 3) := by decide +kernel
theorem d_OP_both_28 : decode b_OP_both 28 = .ok (.iload_n 1, 1) := by decide +kernel
theorem d_OP_both_29 : decode b_OP_both 29 = .ok (.iload_n 2, 1) := by decide +kernel
theorem d_OP_both_30 : decode b_OP_both 30 = .ok (.invokevirtual 120, 3) := by decide +kernel
theorem d_OP_both_33 : decode b_OP_both 33 = .ok (.aload_n 0, 1) := by decide +kernel
theorem d_OP_both_34 : decode b_OP_both 34 = .ok (.getfield 26, 3) := by decide +kernel
theorem d_OP_both_37 : decode b_OP_both 37 = .ok (.iload_n 3, 1) := by decide +kernel
theorem d_OP_both_38 : decode b_OP_both 38 = .ok (.aload_n 0, 1) := by decide +kernel
theorem d_OP_both_39 : decode b_OP_both 39 = .ok (.getfield 10, 3) := by decide +kernel
theorem d_OP_both_42 : decode b_OP_both 42 = .ok (.aload_n 0, 1) := by decide +kernel
theorem d_OP_both_43 : decode b_OP_both 43 = .ok (.getfield 19, 3) := by decide +kernel
theorem d_OP_both_46 : decode b_OP_both 46 = .ok (.invokevirtual 100, 3) := by decide +kernel
theorem d_OP_both_49 : decode b_OP_both 49 = .ok (.aload_n 0, 1) := by decide +kernel
theorem d_OP_both_50 : decode b_OP_both 50 = .ok (.getfield 26, 3) := by decide +kernel
theorem d_OP_both_53 : decode b_OP_both 53 = .ok (.iload_n 3, 1) := by decide +kernel
theorem d_OP_both_54 : decode b_OP_both 54 = .ok (.iload 4, 2) := by decide +kernel
theorem d_OP_both_56 : decode b_OP_both 56 = .ok (.invokevirtual 104, 3) := by decide +kernel
theorem d_OP_both_59 : decode b_OP_both 59 = .ok (.iload 5, 2) := by decide +kernel
theorem d_OP_both_61 : decode b_OP_both 61 = .ok (.invokevirtual 96, 3) := by decide +kernel
theorem d_OP_both_64 : decode b_OP_both 64 = .ok (.ireturn, 1) := by decide +kernel
theorem d_OP_span_0 : decode b_OP_span 0 = .ok (.aload_n 0, 1) := by decide +kernel
theorem d_OP_span_1 : decode b_OP_span 1 = .ok (.iload_n 1, 1) := by decide +kernel
theorem d_OP_span_2 : decode b_OP_span 2 = .ok (.invokevirtual 54, 3) := by decide +kernel
theorem d_OP_span_5 : decode b_OP_span 5 = .ok (.iload_n 2, 1) := by decide +kernel
theorem d_OP_span_6 : decode b_OP_span 6 = .ok (.invokestatic 108, 3) := by decide +kernel
theorem d_OP_span_9 : decode b_OP_span 9 = .ok (.aload_n 0, 1) := by decide +kernel
theorem d_OP_span_10 : decode b_OP_span 10 = .ok (.getfield 26, 3) := by decide +kernel
theorem d_OP_span_13 : decode b_OP_span 13 = .ok (.iload_n 1, 1) := by decide +kernel
theorem d_OP_span_14 : decode b_OP_span 14 = .ok (.aload_n 0, 1) := by decide +kernel
theorem d_OP_span_15 : decode b_OP_span 15 = .ok (.getfield 10, 3) := by decide +kernel
theorem d_OP_span_18 : decode b_OP_span 18 = .ok (.aload_n 0, 1) := by decide +kernel
theorem d_OP_span_19 : decode b_OP_span 19 = .ok (.getfield 19, 3) := by decide +kernel
theorem d_OP_span_22 : decode b_OP_span 22 = .ok (.invokevirtual 100, 3) := by decide +kernel
theorem d_OP_span_25 : decode b_OP_span 25 = .ok (.iconst 0, 1) := by decide +kernel
theorem d_OP_span_26 : decode b_OP_span 26 = .ok (.istore_n 3, 1) := by decide +kernel
theorem d_OP_span_27 : decode b_OP_span 27 = .ok (.iload_n 3, 1) := by decide +kernel
theorem d_OP_span_28 : decode b_OP_span 28 = .ok (.bipush 12, 2) := by decide +kernel
theorem d_OP_span_30 : decode b_OP_span 30 = .ok (.if_icmp .ge 42, 3) := by decide +kernel
theorem d_OP_span_33 : decode b_OP_span 33 = .ok (.iload_n 2, 1) := by decide +kernel
theorem d_OP_span_34 : decode b_OP_span 34 = .ok (.ifCond .ne 7, 3) := by decide +kernel
theorem d_OP_span_37 : decode b_OP_span 37 = .ok (.iload_n 3, 1) := by decide +kernel
theorem d_OP_span_38 : decode b_OP_span 38 = .ok (.goto 7, 3) := by decide +kernel
theorem d_OP_span_41 : decode b_OP_span 41 = .ok (.bipush 11, 2) := by decide +kernel
theorem d_OP_span_43 : decode b_OP_span 43 = .ok (.iload_n 3, 1) := by decide +kernel
theorem d_OP_span_44 : decode b_OP_span 44 = .ok (.isub, 1) := by decide +kernel
theorem d_OP_span_45 : decode b_OP_span 45 = .ok (.istore 4, 2) := by decide +kernel
theorem d_OP_span_47 : decode b_OP_span 47 = .ok (.aload_n 0, 1) := by decide +kernel
theorem d_OP_span_48 : decode b_OP_span 48 = .ok (.getfield 26, 3) := by decide +kernel
theorem d_OP_span_51 : decode b_OP_span 51 = .ok (.iload_n 1, 1) := by decide +kernel
theorem d_OP_span_52 : decode b_OP_span 52 = .ok (.iload 4, 2) := by decide +kernel
theorem d_OP_span_54 : decode b_OP_span 54 = .ok (.invokevirtual 104, 3) := by decide +kernel
theorem d_OP_span_57 : decode b_OP_span 57 = .ok (.invokevirtual 123, 3) := by decide +kernel
theorem d_OP_span_60 : decode b_OP_span 60 = .ok (.ifCond .ne 6, 3) := by decide +kernel
theorem d_OP_span_63 : decode b_OP_span 63 = .ok (.iload 4, 2) := by decide +kernel
theorem d_OP_span_65 : decode b_OP_span 65 = .ok (.ireturn, 1) := by decide +kernel
theorem d_OP_span_66 : decode b_OP_span 66 = .ok (.iinc 3 1, 3) := by decide +kernel
theorem d_OP_span_69 : decode b_OP_span 69 = .ok (.goto (-42), 3) := by decide +kernel
theorem d_OP_span_72 : decode b_OP_span 72 = .ok (.iconst (-1), 1) := by decide +kernel
theorem d_OP_span_73 : decode b_OP_span 73 = .ok (.ireturn, 1) := by decide +kernel
theorem d_OP_narrow_0 : decode b_OP_narrow 0 = .ok (.aload_n 0, 1) := by decide +kernel
theorem d_OP_narrow_1 : decode b_OP_narrow 1 = .ok (.iload_n 1, 1) := by decide +kernel
theorem d_OP_narrow_2 : decode b_OP_narrow 2 = .ok (.invokevirtual 54, 3) := by decide +kernel
theorem d_OP_narrow_5 : decode b_OP_narrow 5 = .ok (.iload_n 2, 1) := by decide +kernel
theorem d_OP_narrow_6 : decode b_OP_narrow 6 = .ok (.iconst 1, 1) := by decide +kernel
theorem d_OP_narrow_7 : decode b_OP_narrow 7 = .ok (.if_icmp .lt 15, 3) := by decide +kernel
theorem d_OP_narrow_10 : decode b_OP_narrow 10 = .ok (.iload_n 2, 1) := by decide +kernel
theorem d_OP_narrow_11 : decode b_OP_narrow 11 = .ok (.iload_n 3, 1) := by decide +kernel
theorem d_OP_narrow_12 : decode b_OP_narrow 12 = .ok (.if_icmp .gt 10, 3) := by decide +kernel
theorem d_OP_narrow_15 : decode b_OP_narrow 15 = .ok (.iload_n 3, 1) := by decide +kernel
theorem d_OP_narrow_16 : decode b_OP_narrow 16 = .ok (.sipush 1000, 3) := by decide +kernel
theorem d_OP_narrow_19 : decode b_OP_narrow 19 = .ok (.if_icmp .le 13, 3) := by decide +kernel
theorem d_OP_narrow_22 : decode b_OP_narrow 22 = .ok (.new 61, 3) := by decide +kernel
theorem d_OP_narrow_25 : decode b_OP_narrow 25 = .ok (.dup, 1) := by decide +kernel
theorem d_OP_narrow_26 : decode b_OP_narrow 26 = .ok (.ldc 127, 2) := by decide +kernel
theorem d_OP_narrow_28 : decode b_OP_narrow 28 = .ok (.invokespecial 65, 3) := by decide +kernel
theorem d_OP_narrow_31 : decode b_OP_narrow 31 = .ok (.athrow, 1) := by decide +kernel
theorem d_OP_narrow_32 : decode b_OP_narrow 32 = .ok (.aload_n 0, 1) := by decide +kernel
theorem d_OP_narrow_33 : decode b_OP_narrow 33 = .ok (.getfield 26, 3) := by decide +kernel
theorem d_OP_narrow_36 : decode b_OP_narrow 36 = .ok (.iload_n 1, 1) := by decide +kernel
theorem d_OP_narrow_37 : decode b_OP_narrow 37 = .ok (.aload_n 0, 1) := by decide +kernel
theorem d_OP_narrow_38 : decode b_OP_narrow 38 = .ok (.getfield 10, 3) := by decide +kernel
theorem d_OP_narrow_41 : decode b_OP_narrow 41 = .ok (.aload_n 0, 1) := by decide +kernel
theorem d_OP_narrow_42 : decode b_OP_narrow 42 = .ok (.getfield 19, 3) := by decide +kernel
theorem d_OP_narrow_45 : decode b_OP_narrow 45 = .ok (.invokevirtual 100, 3) := by decide +kernel
theorem d_OP_narrow_48 : decode b_OP_narrow 48 = .ok (.aload_n 0, 1) := by decide +kernel
theorem d_OP_narrow_49 : decode b_OP_narrow 49 = .ok (.getfield 26, 3) := by decide +kernel
theorem d_OP_narrow_52 : decode b_OP_narrow 52 = .ok (.iload_n 1, 1) := by decide +kernel
theorem d_OP_narrow_53 : decode b_OP_narrow 53 = .ok (.aload_n 0, 1) := by decide +kernel
theorem d_OP_narrow_54 : decode b_OP_narrow 54 = .ok (.getfield 33, 3) := by decide +kernel
theorem d_OP_narrow_57 : decode b_OP_narrow 57 = .ok (.invokevirtual 129, 3) := by decide +kernel
theorem d_OP_narrow_60 : decode b_OP_narrow 60 = .ok (.aload_n 0, 1) := by decide +kernel
theorem d_OP_narrow_61 : decode b_OP_narrow 61 = .ok (.getfield 33, 3) := by decide +kernel
theorem d_OP_narrow_64 : decode b_OP_narrow 64 = .ok (.invokevirtual 123, 3) := by decide +kernel
theorem d_OP_narrow_67 : decode b_OP_narrow 67 = .ok (.ifCond .eq 5, 3) := by decide +kernel
theorem d_OP_narrow_70 : decode b_OP_narrow 70 = .ok (.iconst (-1), 1) := by decide +kernel
theorem d_OP_narrow_71 : decode b_OP_narrow 71 = .ok (.ireturn, 1) := by decide +kernel
theorem d_OP_narrow_72 : decode b_OP_narrow 72 = .ok (.aload_n 0, 1) := by decide +kernel
theorem d_OP_narrow_73 : decode b_OP_narrow 73 = .ok (.getfield 37, 3) := by decide +kernel
theorem d_OP_narrow_76 : decode b_OP_narrow 76 = .ok (.iload_n 2, 1) := by decide +kernel
theorem d_OP_narrow_77 : decode b_OP_narrow 77 = .ok (.invokevirtual 133, 3) := by decide +kernel
theorem d_OP_narrow_80 : decode b_OP_narrow 80 = .ok (.aload_n 0, 1) := by decide +kernel
theorem d_OP_narrow_81 : decode b_OP_narrow 81 = .ok (.getfield 33, 3) := by decide +kernel
theorem d_OP_narrow_84 : decode b_OP_narrow 84 = .ok (.aload_n 0, 1) := by decide +kernel
theorem d_OP_narrow_85 : decode b_OP_narrow 85 = .ok (.getfield 37, 3) := by decide +kernel
theorem d_OP_narrow_88 : decode b_OP_narrow 88 = .ok (.invokevirtual 136, 3) := by decide +kernel
theorem d_OP_narrow_91 : decode b_OP_narrow 91 = .ok (.aload_n 0, 1) := by decide +kernel
theorem d_OP_narrow_92 : decode b_OP_narrow 92 = .ok (.getfield 37, 3) := by decide +kernel
theorem d_OP_narrow_95 : decode b_OP_narrow 95 = .ok (.iload_n 3, 1) := by decide +kernel
theorem d_OP_narrow_96 : decode b_OP_narrow 96 = .ok (.invokevirtual 133, 3) := by decide +kernel
theorem d_OP_narrow_99 : decode b_OP_narrow 99 = .ok (.aload_n 0, 1) := by decide +kernel
theorem d_OP_narrow_100 : decode b_OP_narrow 100 = .ok (.getfield 26, 3) := by decide +kernel
theorem d_OP_narrow_103 : decode b_OP_narrow 103 = .ok (.iload_n 1, 1) := by decide +kernel
theorem d_OP_narrow_104 : decode b_OP_narrow 104 = .ok (.aload_n 0, 1) := by decide +kernel
theorem d_OP_narrow_105 : decode b_OP_narrow 105 = .ok (.getfield 37, 3) := by decide +kernel
theorem d_OP_narrow_108 : decode b_OP_narrow 108 = .ok (.invokevirtual 140, 3) := by decide +kernel
theorem d_OP_narrow_111 : decode b_OP_narrow 111 = .ok (.aload_n 0, 1) := by decide +kernel
theorem d_OP_narrow_112 : decode b_OP_narrow 112 = .ok (.iload_n 1, 1) := by decide +kernel
theorem d_OP_narrow_113 : decode b_OP_narrow 113 = .ok (.invokevirtual 143, 3) := by decide +kernel
theorem d_OP_narrow_116 : decode b_OP_narrow 116 = .ok (.ireturn, 1) := by decide +kernel
theorem d_OP_shortestStretch_0 : decode b_OP_shortestStretch 0 = .ok (.bipush 13, 2) := by decide +kernel
theorem d_OP_shortestStretch_2 : decode b_OP_shortestStretch 2 = .ok (.istore_n 2, 1) := by decide +kernel
theorem d_OP_shortestStretch_3 : decode b_OP_shortestStretch 3 = .ok (.iconst (-1), 1) := by decide +kernel
theorem d_OP_shortestStretch_4 : decode b_OP_shortestStretch 4 = .ok (.istore_n 3, 1) := by decide +kernel
theorem d_OP_shortestStretch_5 : decode b_OP_shortestStretch 5 = .ok (.iconst 0, 1) := by decide +kernel
theorem d_OP_shortestStretch_6 : decode b_OP_shortestStretch 6 = .ok (.istore 4, 2) := by decide +kernel
theorem d_OP_shortestStretch_8 : decode b_OP_shortestStretch 8 = .ok (.iload 4, 2) := by decide +kernel
theorem d_OP_shortestStretch_10 : decode b_OP_shortestStretch 10 = .ok (.bipush 12, 2) := by decide +kernel
theorem d_OP_shortestStretch_12 : decode b_OP_shortestStretch 12 = .ok (.if_icmp .ge 51, 3) := by decide +kernel
theorem d_OP_shortestStretch_15 : decode b_OP_shortestStretch 15 = .ok (.aload_n 0, 1) := by decide +kernel
theorem d_OP_shortestStretch_16 : decode b_OP_shortestStretch 16 = .ok (.iload_n 1, 1) := by decide +kernel
theorem d_OP_shortestStretch_17 : decode b_OP_shortestStretch 17 = .ok (.iload 4, 2) := by decide +kernel
theorem d_OP_shortestStretch_19 : decode b_OP_shortestStretch 19 = .ok (.invokevirtual 172, 3) := by decide +kernel
theorem d_OP_shortestStretch_22 : decode b_OP_shortestStretch 22 = .ok (.istore 5, 2) := by decide +kernel
theorem d_OP_shortestStretch_24 : decode b_OP_shortestStretch 24 = .ok (.iload 5, 2) := by decide +kernel
theorem d_OP_shortestStretch_26 : decode b_OP_shortestStretch 26 = .ok (.iload 4, 2) := by decide +kernel
theorem d_OP_shortestStretch_28 : decode b_OP_shortestStretch 28 = .ok (.isub, 1) := by decide +kernel
theorem d_OP_shortestStretch_29 : decode b_OP_shortestStretch 29 = .ok (.iconst 1, 1) := by decide +kernel
theorem d_OP_shortestStretch_30 : decode b_OP_shortestStretch 30 = .ok (.iadd, 1) := by decide +kernel
theorem d_OP_shortestStretch_31 : decode b_OP_shortestStretch 31 = .ok (.istore 6, 2) := by decide +kernel
theorem d_OP_shortestStretch_33 : decode b_OP_shortestStretch 33 = .ok (.iload 5, 2) := by decide +kernel
theorem d_OP_shortestStretch_35 : decode b_OP_shortestStretch 35 = .ok (.iconst (-1), 1) := by decide +kernel
theorem d_OP_shortestStretch_36 : decode b_OP_shortestStretch 36 = .ok (.if_icmp .eq 21, 3) := by decide +kernel
theorem d_OP_shortestStretch_39 : decode b_OP_shortestStretch 39 = .ok (.iload 6, 2) := by decide +kernel
theorem d_OP_shortestStretch_41 : decode b_OP_shortestStretch 41 = .ok (.iload_n 2, 1) := by decide +kernel
theorem d_OP_shortestStretch_42 : decode b_OP_shortestStretch 42 = .ok (.if_icmp .ge 15, 3) := by decide +kernel
theorem d_OP_shortestStretch_45 : decode b_OP_shortestStretch 45 = .ok (.iload 6, 2) := by decide +kernel
theorem d_OP_shortestStretch_47 : decode b_OP_shortestStretch 47 = .ok (.istore_n 2, 1) := by decide +kernel
theorem d_OP_shortestStretch_48 : decode b_OP_shortestStretch 48 = .ok (.bipush 100, 2) := by decide +kernel
theorem d_OP_shortestStretch_50 : decode b_OP_shortestStretch 50 = .ok (.iload 4, 2) := by decide +kernel
theorem d_OP_shortestStretch_52 : decode b_OP_shortestStretch 52 = .ok (.imul, 1) := by decide +kernel
theorem d_OP_shortestStretch_53 : decode b_OP_shortestStretch 53 = .ok (.iload 5, 2) := by decide +kernel
theorem d_OP_shortestStretch_55 : decode b_OP_shortestStretch 55 = .ok (.iadd, 1) := by decide +kernel
theorem d_OP_shortestStretch_56 : decode b_OP_shortestStretch 56 = .ok (.istore_n 3, 1) := by decide +kernel
theorem d_OP_shortestStretch_57 : decode b_OP_shortestStretch 57 = .ok (.iinc 4 1, 3) := by decide +kernel
theorem d_OP_shortestStretch_60 : decode b_OP_shortestStretch 60 = .ok (.goto (-52), 3) := by decide +kernel
theorem d_OP_shortestStretch_63 : decode b_OP_shortestStretch 63 = .ok (.iload_n 3, 1) := by decide +kernel
theorem d_OP_shortestStretch_64 : decode b_OP_shortestStretch 64 = .ok (.ireturn, 1) := by decide +kernel
theorem d_OP_endOfStretch_0 : decode b_OP_endOfStretch 0 = .ok (.aload_n 0, 1) := by decide +kernel
theorem d_OP_endOfStretch_1 : decode b_OP_endOfStretch 1 = .ok (.getfield 37, 3) := by decide +kernel
theorem d_OP_endOfStretch_4 : decode b_OP_endOfStretch 4 = .ok (.iconst 0, 1) := by decide +kernel
theorem d_OP_endOfStretch_5 : decode b_OP_endOfStretch 5 = .ok (.invokevirtual 133, 3) := by decide +kernel
theorem d_OP_endOfStretch_8 : decode b_OP_endOfStretch 8 = .ok (.iload_n 2, 1) := by decide +kernel
theorem d_OP_endOfStretch_9 : decode b_OP_endOfStretch 9 = .ok (.istore_n 3, 1) := by decide +kernel
theorem d_OP_endOfStretch_10 : decode b_OP_endOfStretch 10 = .ok (.iload_n 3, 1) := by decide +kernel
theorem d_OP_endOfStretch_11 : decode b_OP_endOfStretch 11 = .ok (.bipush 12, 2) := by decide +kernel
theorem d_OP_endOfStretch_13 : decode b_OP_endOfStretch 13 = .ok (.if_icmp .ge 41, 3) := by decide +kernel
theorem d_OP_endOfStretch_16 : decode b_OP_endOfStretch 16 = .ok (.aload_n 0, 1) := by decide +kernel
theorem d_OP_endOfStretch_17 : decode b_OP_endOfStretch 17 = .ok (.getfield 37, 3) := by decide +kernel
theorem d_OP_endOfStretch_20 : decode b_OP_endOfStretch 20 = .ok (.aload_n 0, 1) := by decide +kernel
theorem d_OP_endOfStretch_21 : decode b_OP_endOfStretch 21 = .ok (.getfield 26, 3) := by decide +kernel
theorem d_OP_endOfStretch_24 : decode b_OP_endOfStretch 24 = .ok (.iload_n 1, 1) := by decide +kernel
theorem d_OP_endOfStretch_25 : decode b_OP_endOfStretch 25 = .ok (.iload_n 3, 1) := by decide +kernel
theorem d_OP_endOfStretch_26 : decode b_OP_endOfStretch 26 = .ok (.invokevirtual 104, 3) := by decide +kernel
theorem d_OP_endOfStretch_29 : decode b_OP_endOfStretch 29 = .ok (.invokevirtual 176, 3) := by decide +kernel
theorem d_OP_endOfStretch_32 : decode b_OP_endOfStretch 32 = .ok (.aload_n 0, 1) := by decide +kernel
theorem d_OP_endOfStretch_33 : decode b_OP_endOfStretch 33 = .ok (.getfield 37, 3) := by decide +kernel
theorem d_OP_endOfStretch_36 : decode b_OP_endOfStretch 36 = .ok (.aload_n 0, 1) := by decide +kernel
theorem d_OP_endOfStretch_37 : decode b_OP_endOfStretch 37 = .ok (.getfield 33, 3) := by decide +kernel
theorem d_OP_endOfStretch_40 : decode b_OP_endOfStretch 40 = .ok (.invokevirtual 179, 3) := by decide +kernel
theorem d_OP_endOfStretch_43 : decode b_OP_endOfStretch 43 = .ok (.ifCond .eq 5, 3) := by decide +kernel
theorem d_OP_endOfStretch_46 : decode b_OP_endOfStretch 46 = .ok (.iload_n 3, 1) := by decide +kernel
theorem d_OP_endOfStretch_47 : decode b_OP_endOfStretch 47 = .ok (.ireturn, 1) := by decide +kernel
theorem d_OP_endOfStretch_48 : decode b_OP_endOfStretch 48 = .ok (.iinc 3 1, 3) := by decide +kernel
theorem d_OP_endOfStretch_51 : decode b_OP_endOfStretch 51 = .ok (.goto (-41), 3) := by decide +kernel
theorem d_OP_endOfStretch_54 : decode b_OP_endOfStretch 54 = .ok (.iconst (-1), 1) := by decide +kernel
theorem d_OP_endOfStretch_55 : decode b_OP_endOfStretch 55 = .ok (.ireturn, 1) := by decide +kernel
theorem d_OP_fitless_0 : decode b_OP_fitless 0 = .ok (.iload_n 1, 1) := by decide +kernel
theorem d_OP_fitless_1 : decode b_OP_fitless 1 = .ok (.ifCond .ge 13, 3) := by decide +kernel
theorem d_OP_fitless_4 : decode b_OP_fitless 4 = .ok (.new 146, 3) := by decide +kernel
theorem d_OP_fitless_7 : decode b_OP_fitless 7 = .ok (.dup, 1) := by decide +kernel
theorem d_OP_fitless_8 : decode b_OP_fitless 8 = .ok (.ldc 148, 2) := by decide +kernel
theorem d_OP_fitless_10 : decode b_OP_fitless 10 = .ok (.invokespecial 150, 3) := by decide +kernel
theorem d_OP_fitless_13 : decode b_OP_fitless 13 = .ok (.athrow, 1) := by decide +kernel
theorem d_OP_fitless_14 : decode b_OP_fitless 14 = .ok (.aload_n 0, 1) := by decide +kernel
theorem d_OP_fitless_15 : decode b_OP_fitless 15 = .ok (.invokevirtual 93, 3) := by decide +kernel
theorem d_OP_fitless_18 : decode b_OP_fitless 18 = .ok (.aload_n 0, 1) := by decide +kernel
theorem d_OP_fitless_19 : decode b_OP_fitless 19 = .ok (.getfield 33, 3) := by decide +kernel
theorem d_OP_fitless_22 : decode b_OP_fitless 22 = .ok (.invokevirtual 123, 3) := by decide +kernel
theorem d_OP_fitless_25 : decode b_OP_fitless 25 = .ok (.ifCond .ne 5, 3) := by decide +kernel
theorem d_OP_fitless_28 : decode b_OP_fitless 28 = .ok (.iconst (-1), 1) := by decide +kernel
theorem d_OP_fitless_29 : decode b_OP_fitless 29 = .ok (.ireturn, 1) := by decide +kernel
theorem d_OP_fitless_30 : decode b_OP_fitless 30 = .ok (.iconst 0, 1) := by decide +kernel
theorem d_OP_fitless_31 : decode b_OP_fitless 31 = .ok (.istore_n 2, 1) := by decide +kernel
theorem d_OP_fitless_32 : decode b_OP_fitless 32 = .ok (.iload_n 2, 1) := by decide +kernel
theorem d_OP_fitless_33 : decode b_OP_fitless 33 = .ok (.aload_n 0, 1) := by decide +kernel
theorem d_OP_fitless_34 : decode b_OP_fitless 34 = .ok (.getfield 19, 3) := by decide +kernel
theorem d_OP_fitless_37 : decode b_OP_fitless 37 = .ok (.invokevirtual 151, 3) := by decide +kernel
theorem d_OP_fitless_40 : decode b_OP_fitless 40 = .ok (.if_icmp .ge 41, 3) := by decide +kernel
theorem d_OP_fitless_43 : decode b_OP_fitless 43 = .ok (.aload_n 0, 1) := by decide +kernel
theorem d_OP_fitless_44 : decode b_OP_fitless 44 = .ok (.getfield 19, 3) := by decide +kernel
theorem d_OP_fitless_47 : decode b_OP_fitless 47 = .ok (.iload_n 2, 1) := by decide +kernel
theorem d_OP_fitless_48 : decode b_OP_fitless 48 = .ok (.iconst 0, 1) := by decide +kernel
theorem d_OP_fitless_49 : decode b_OP_fitless 49 = .ok (.invokevirtual 152, 3) := by decide +kernel
theorem d_OP_fitless_52 : decode b_OP_fitless 52 = .ok (.aload_n 0, 1) := by decide +kernel
theorem d_OP_fitless_53 : decode b_OP_fitless 53 = .ok (.invokevirtual 93, 3) := by decide +kernel
theorem d_OP_fitless_56 : decode b_OP_fitless 56 = .ok (.aload_n 0, 1) := by decide +kernel
theorem d_OP_fitless_57 : decode b_OP_fitless 57 = .ok (.getfield 33, 3) := by decide +kernel
theorem d_OP_fitless_60 : decode b_OP_fitless 60 = .ok (.invokevirtual 123, 3) := by decide +kernel
theorem d_OP_fitless_63 : decode b_OP_fitless 63 = .ok (.ifCond .ne 12, 3) := by decide +kernel
theorem d_OP_fitless_66 : decode b_OP_fitless 66 = .ok (.aload_n 0, 1) := by decide +kernel
theorem d_OP_fitless_67 : decode b_OP_fitless 67 = .ok (.getfield 19, 3) := by decide +kernel
theorem d_OP_fitless_70 : decode b_OP_fitless 70 = .ok (.iload_n 2, 1) := by decide +kernel
theorem d_OP_fitless_71 : decode b_OP_fitless 71 = .ok (.iconst 1, 1) := by decide +kernel
theorem d_OP_fitless_72 : decode b_OP_fitless 72 = .ok (.invokevirtual 152, 3) := by decide +kernel
theorem d_OP_fitless_75 : decode b_OP_fitless 75 = .ok (.iinc 2 1, 3) := by decide +kernel
theorem d_OP_fitless_78 : decode b_OP_fitless 78 = .ok (.goto (-46), 3) := by decide +kernel
theorem d_OP_fitless_81 : decode b_OP_fitless 81 = .ok (.aload_n 0, 1) := by decide +kernel
theorem d_OP_fitless_82 : decode b_OP_fitless 82 = .ok (.getfield 19, 3) := by decide +kernel
theorem d_OP_fitless_85 : decode b_OP_fitless 85 = .ok (.iload_n 1, 1) := by decide +kernel
theorem d_OP_fitless_86 : decode b_OP_fitless 86 = .ok (.invokevirtual 156, 3) := by decide +kernel
theorem d_OP_fitless_89 : decode b_OP_fitless 89 = .ok (.istore_n 2, 1) := by decide +kernel
theorem d_OP_fitless_90 : decode b_OP_fitless 90 = .ok (.aload_n 0, 1) := by decide +kernel
theorem d_OP_fitless_91 : decode b_OP_fitless 91 = .ok (.getfield 19, 3) := by decide +kernel
theorem d_OP_fitless_94 : decode b_OP_fitless 94 = .ok (.invokevirtual 159, 3) := by decide +kernel
theorem d_OP_fitless_97 : decode b_OP_fitless 97 = .ok (.iload_n 2, 1) := by decide +kernel
theorem d_OP_fitless_98 : decode b_OP_fitless 98 = .ok (.ireturn, 1) := by decide +kernel
theorem d_OP_count_0 : decode b_OP_count 0 = .ok (.iload_n 1, 1) := by decide +kernel
theorem d_OP_count_1 : decode b_OP_count 1 = .ok (.tableswitch 59 0 2 #[27, 35, 51], 27) := by decide +kernel
theorem d_OP_count_28 : decode b_OP_count 28 = .ok (.aload_n 0, 1) := by decide +kernel
theorem d_OP_count_29 : decode b_OP_count 29 = .ok (.getfield 10, 3) := by decide +kernel
theorem d_OP_count_32 : decode b_OP_count 32 = .ok (.invokevirtual 40, 3) := by decide +kernel
theorem d_OP_count_35 : decode b_OP_count 35 = .ok (.ireturn, 1) := by decide +kernel
theorem d_OP_count_36 : decode b_OP_count 36 = .ok (.aload_n 0, 1) := by decide +kernel
theorem d_OP_count_37 : decode b_OP_count 37 = .ok (.getfield 19, 3) := by decide +kernel
theorem d_OP_count_40 : decode b_OP_count 40 = .ok (.invokevirtual 151, 3) := by decide +kernel
theorem d_OP_count_43 : decode b_OP_count 43 = .ok (.aload_n 0, 1) := by decide +kernel
theorem d_OP_count_44 : decode b_OP_count 44 = .ok (.getfield 19, 3) := by decide +kernel
theorem d_OP_count_47 : decode b_OP_count 47 = .ok (.invokevirtual 111, 3) := by decide +kernel
theorem d_OP_count_50 : decode b_OP_count 50 = .ok (.isub, 1) := by decide +kernel
theorem d_OP_count_51 : decode b_OP_count 51 = .ok (.ireturn, 1) := by decide +kernel
theorem d_OP_count_52 : decode b_OP_count 52 = .ok (.aload_n 0, 1) := by decide +kernel
theorem d_OP_count_53 : decode b_OP_count 53 = .ok (.getfield 19, 3) := by decide +kernel
theorem d_OP_count_56 : decode b_OP_count 56 = .ok (.invokevirtual 111, 3) := by decide +kernel
theorem d_OP_count_59 : decode b_OP_count 59 = .ok (.ireturn, 1) := by decide +kernel
theorem d_OP_count_60 : decode b_OP_count 60 = .ok (.new 146, 3) := by decide +kernel
theorem d_OP_count_63 : decode b_OP_count 63 = .ok (.dup, 1) := by decide +kernel
theorem d_OP_count_64 : decode b_OP_count 64 = .ok (.ldc 162, 2) := by decide +kernel
theorem d_OP_count_66 : decode b_OP_count 66 = .ok (.invokespecial 150, 3) := by decide +kernel
theorem d_OP_count_69 : decode b_OP_count 69 = .ok (.athrow, 1) := by decide +kernel
