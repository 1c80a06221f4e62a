theorem d_MO_init_0 : decode b_MO_init 0 = .ok (.aload_n 0, 1) := by decide +kernel
theorem d_MO_init_1 : decode b_MO_init 1 = .ok (.invokespecial 1, 3) := by decide +kernel
theorem d_MO_init_4 : decode b_MO_init 4 = .ok (.aload_n 0, 1) := by decide +kernel
theorem d_MO_init_5 : decode b_MO_init 5 = .ok (.bipush 72, 2) := by decide +kernel
theorem d_MO_init_7 : decode b_MO_init 7 = .ok (.newarray .int, 2) := by decide +kernel
theorem d_MO_init_9 : decode b_MO_init 9 = .ok (.putfield 7, 3) := by decide +kernel
theorem d_MO_init_12 : decode b_MO_init 12 = .ok (.aload_n 0, 1) := by decide +kernel
theorem d_MO_init_13 : decode b_MO_init 13 = .ok (.bipush 6, 2) := by decide +kernel
theorem d_MO_init_15 : decode b_MO_init 15 = .ok (.newarray .int, 2) := by decide +kernel
theorem d_MO_init_17 : decode b_MO_init 17 = .ok (.putfield 13, 3) := by decide +kernel
theorem d_MO_init_20 : decode b_MO_init 20 = .ok (.aload_n 0, 1) := by decide +kernel
theorem d_MO_init_21 : decode b_MO_init 21 = .ok (.bipush 6, 2) := by decide +kernel
theorem d_MO_init_23 : decode b_MO_init 23 = .ok (.newarray .int, 2) := by decide +kernel
theorem d_MO_init_25 : decode b_MO_init 25 = .ok (.putfield 16, 3) := by decide +kernel
theorem d_MO_init_28 : decode b_MO_init 28 = .ok (.aload_n 0, 1) := by decide +kernel
theorem d_MO_init_29 : decode b_MO_init 29 = .ok (.bipush 6, 2) := by decide +kernel
theorem d_MO_init_31 : decode b_MO_init 31 = .ok (.newarray .int, 2) := by decide +kernel
theorem d_MO_init_33 : decode b_MO_init 33 = .ok (.putfield 19, 3) := by decide +kernel
theorem d_MO_init_36 : decode b_MO_init 36 = .ok (.aload_n 0, 1) := by decide +kernel
theorem d_MO_init_37 : decode b_MO_init 37 = .ok (.bipush 6, 2) := by decide +kernel
theorem d_MO_init_39 : decode b_MO_init 39 = .ok (.newarray .int, 2) := by decide +kernel
theorem d_MO_init_41 : decode b_MO_init 41 = .ok (.putfield 22, 3) := by decide +kernel
theorem d_MO_init_44 : decode b_MO_init 44 = .ok (.aload_n 0, 1) := by decide +kernel
theorem d_MO_init_45 : decode b_MO_init 45 = .ok (.bipush 6, 2) := by decide +kernel
theorem d_MO_init_47 : decode b_MO_init 47 = .ok (.newarray .int, 2) := by decide +kernel
theorem d_MO_init_49 : decode b_MO_init 49 = .ok (.putfield 25, 3) := by decide +kernel
theorem d_MO_init_52 : decode b_MO_init 52 = .ok (.aload_n 0, 1) := by decide +kernel
theorem d_MO_init_53 : decode b_MO_init 53 = .ok (.bipush 6, 2) := by decide +kernel
theorem d_MO_init_55 : decode b_MO_init 55 = .ok (.newarray .int, 2) := by decide +kernel
theorem d_MO_init_57 : decode b_MO_init 57 = .ok (.putfield 28, 3) := by decide +kernel
theorem d_MO_init_60 : decode b_MO_init 60 = .ok (.aload_n 0, 1) := by decide +kernel
theorem d_MO_init_61 : decode b_MO_init 61 = .ok (.sipush 1092, 3) := by decide +kernel
theorem d_MO_init_64 : decode b_MO_init 64 = .ok (.newarray .int, 2) := by decide +kernel
theorem d_MO_init_66 : decode b_MO_init 66 = .ok (.putfield 31, 3) := by decide +kernel
theorem d_MO_init_69 : decode b_MO_init 69 = .ok (.aload_n 0, 1) := by decide +kernel
theorem d_MO_init_70 : decode b_MO_init 70 = .ok (.bipush 25, 2) := by decide +kernel
theorem d_MO_init_72 : decode b_MO_init 72 = .ok (.newarray .int, 2) := by decide +kernel
theorem d_MO_init_74 : decode b_MO_init 74 = .ok (.putfield 34, 3) := by decide +kernel
theorem d_MO_init_77 : decode b_MO_init 77 = .ok (.aload_n 0, 1) := by decide +kernel
theorem d_MO_init_78 : decode b_MO_init 78 = .ok (.bipush 6, 2) := by decide +kernel
theorem d_MO_init_80 : decode b_MO_init 80 = .ok (.newarray .int, 2) := by decide +kernel
theorem d_MO_init_82 : decode b_MO_init 82 = .ok (.putfield 37, 3) := by decide +kernel
theorem d_MO_init_85 : decode b_MO_init 85 = .ok (.return_, 1) := by decide +kernel
theorem d_MO_thrown_0 : decode b_MO_thrown 0 = .ok (.aload_n 0, 1) := by decide +kernel
theorem d_MO_thrown_1 : decode b_MO_thrown 1 = .ok (.getfield 40, 3) := by decide +kernel
theorem d_MO_thrown_4 : decode b_MO_thrown 4 = .ok (.ireturn, 1) := by decide +kernel
theorem d_MO_date_0 : decode b_MO_date 0 = .ok (.aload_n 0, 1) := by decide +kernel
theorem d_MO_date_1 : decode b_MO_date 1 = .ok (.aload_n 0, 1) := by decide +kernel
theorem d_MO_date_2 : decode b_MO_date 2 = .ok (.getfield 44, 3) := by decide +kernel
theorem d_MO_date_5 : decode b_MO_date 5 = .ok (.bipush 6, 2) := by decide +kernel
theorem d_MO_date_7 : decode b_MO_date 7 = .ok (.if_icmp .ge 7, 3) := by decide +kernel
theorem d_MO_date_10 : decode b_MO_date 10 = .ok (.iconst 1, 1) := by decide +kernel
theorem d_MO_date_11 : decode b_MO_date 11 = .ok (.goto 4, 3) := by decide +kernel
theorem d_MO_date_14 : decode b_MO_date 14 = .ok (.iconst 0, 1) := by decide +kernel
theorem d_MO_date_15 : decode b_MO_date 15 = .ok (.iconst 1, 1) := by decide +kernel
theorem d_MO_date_16 : decode b_MO_date 16 = .ok (.iconst 1, 1) := by decide +kernel
theorem d_MO_date_17 : decode b_MO_date 17 = .ok (.invokevirtual 51, 3) := by decide +kernel
theorem d_MO_date_20 : decode b_MO_date 20 = .ok (.ifCond .ne 5, 3) := by decide +kernel
theorem d_MO_date_23 : decode b_MO_date 23 = .ok (.iconst 0, 1) := by decide +kernel
theorem d_MO_date_24 : decode b_MO_date 24 = .ok (.ireturn, 1) := by decide +kernel
theorem d_MO_date_25 : decode b_MO_date 25 = .ok (.aload_n 0, 1) := by decide +kernel
theorem d_MO_date_26 : decode b_MO_date 26 = .ok (.getfield 16, 3) := by decide +kernel
theorem d_MO_date_29 : decode b_MO_date 29 = .ok (.aload_n 0, 1) := by decide +kernel
theorem d_MO_date_30 : decode b_MO_date 30 = .ok (.getfield 44, 3) := by decide +kernel
theorem d_MO_date_33 : decode b_MO_date 33 = .ok (.iconst 1, 1) := by decide +kernel
theorem d_MO_date_34 : decode b_MO_date 34 = .ok (.iastore, 1) := by decide +kernel
theorem d_MO_date_35 : decode b_MO_date 35 = .ok (.aload_n 0, 1) := by decide +kernel
theorem d_MO_date_36 : decode b_MO_date 36 = .ok (.dup, 1) := by decide +kernel
theorem d_MO_date_37 : decode b_MO_date 37 = .ok (.getfield 44, 3) := by decide +kernel
theorem d_MO_date_40 : decode b_MO_date 40 = .ok (.iconst 1, 1) := by decide +kernel
theorem d_MO_date_41 : decode b_MO_date 41 = .ok (.iadd, 1) := by decide +kernel
theorem d_MO_date_42 : decode b_MO_date 42 = .ok (.putfield 44, 3) := by decide +kernel
theorem d_MO_date_45 : decode b_MO_date 45 = .ok (.aload_n 0, 1) := by decide +kernel
theorem d_MO_date_46 : decode b_MO_date 46 = .ok (.getfield 44, 3) := by decide +kernel
theorem d_MO_date_49 : decode b_MO_date 49 = .ok (.iconst 1, 1) := by decide +kernel
theorem d_MO_date_50 : decode b_MO_date 50 = .ok (.isub, 1) := by decide +kernel
theorem d_MO_date_51 : decode b_MO_date 51 = .ok (.ireturn, 1) := by decide +kernel
theorem d_MO_goes_0 : decode b_MO_goes 0 = .ok (.aload_n 0, 1) := by decide +kernel
theorem d_MO_goes_1 : decode b_MO_goes 1 = .ok (.iload_n 1, 1) := by decide +kernel
theorem d_MO_goes_2 : decode b_MO_goes 2 = .ok (.ifCond .ne 7, 3) := by decide +kernel
theorem d_MO_goes_5 : decode b_MO_goes 5 = .ok (.iconst 1, 1) := by decide +kernel
theorem d_MO_goes_6 : decode b_MO_goes 6 = .ok (.goto 20, 3) := by decide +kernel
theorem d_MO_goes_9 : decode b_MO_goes 9 = .ok (.iload_n 2, 1) := by decide +kernel
theorem d_MO_goes_10 : decode b_MO_goes 10 = .ok (.ifCond .ne 7, 3) := by decide +kernel
theorem d_MO_goes_13 : decode b_MO_goes 13 = .ok (.iconst 2, 1) := by decide +kernel
theorem d_MO_goes_14 : decode b_MO_goes 14 = .ok (.goto 12, 3) := by decide +kernel
theorem d_MO_goes_17 : decode b_MO_goes 17 = .ok (.iload_n 3, 1) := by decide +kernel
theorem d_MO_goes_18 : decode b_MO_goes 18 = .ok (.ifCond .ne 7, 3) := by decide +kernel
theorem d_MO_goes_21 : decode b_MO_goes 21 = .ok (.iconst 3, 1) := by decide +kernel
theorem d_MO_goes_22 : decode b_MO_goes 22 = .ok (.goto 4, 3) := by decide +kernel
theorem d_MO_goes_25 : decode b_MO_goes 25 = .ok (.iconst 0, 1) := by decide +kernel
theorem d_MO_goes_26 : decode b_MO_goes 26 = .ok (.putfield 40, 3) := by decide +kernel
theorem d_MO_goes_29 : decode b_MO_goes 29 = .ok (.aload_n 0, 1) := by decide +kernel
theorem d_MO_goes_30 : decode b_MO_goes 30 = .ok (.getfield 40, 3) := by decide +kernel
theorem d_MO_goes_33 : decode b_MO_goes 33 = .ok (.ifCond .ne 7, 3) := by decide +kernel
theorem d_MO_goes_36 : decode b_MO_goes 36 = .ok (.iconst 1, 1) := by decide +kernel
theorem d_MO_goes_37 : decode b_MO_goes 37 = .ok (.goto 4, 3) := by decide +kernel
theorem d_MO_goes_40 : decode b_MO_goes 40 = .ok (.iconst 0, 1) := by decide +kernel
theorem d_MO_goes_41 : decode b_MO_goes 41 = .ok (.ireturn, 1) := by decide +kernel
theorem d_MO_weight_0 : decode b_MO_weight 0 = .ok (.aload_n 0, 1) := by decide +kernel
theorem d_MO_weight_1 : decode b_MO_weight 1 = .ok (.aload_n 0, 1) := by decide +kernel
theorem d_MO_weight_2 : decode b_MO_weight 2 = .ok (.iload_n 1, 1) := by decide +kernel
theorem d_MO_weight_3 : decode b_MO_weight 3 = .ok (.invokevirtual 55, 3) := by decide +kernel
theorem d_MO_weight_6 : decode b_MO_weight 6 = .ok (.ifCond .eq 16, 3) := by decide +kernel
theorem d_MO_weight_9 : decode b_MO_weight 9 = .ok (.iload_n 2, 1) := by decide +kernel
theorem d_MO_weight_10 : decode b_MO_weight 10 = .ok (.bipush 12, 2) := by decide +kernel
theorem d_MO_weight_12 : decode b_MO_weight 12 = .ok (.invokestatic 47, 3) := by decide +kernel
theorem d_MO_weight_15 : decode b_MO_weight 15 = .ok (.ifCond .eq 7, 3) := by decide +kernel
theorem d_MO_weight_18 : decode b_MO_weight 18 = .ok (.iconst 1, 1) := by decide +kernel
theorem d_MO_weight_19 : decode b_MO_weight 19 = .ok (.goto 4, 3) := by decide +kernel
theorem d_MO_weight_22 : decode b_MO_weight 22 = .ok (.iconst 0, 1) := by decide +kernel
theorem d_MO_weight_23 : decode b_MO_weight 23 = .ok (.iload_n 3, 1) := by decide +kernel
theorem d_MO_weight_24 : decode b_MO_weight 24 = .ok (.sipush 1000, 3) := by decide +kernel
theorem d_MO_weight_27 : decode b_MO_weight 27 = .ok (.invokestatic 47, 3) := by decide +kernel
theorem d_MO_weight_30 : decode b_MO_weight 30 = .ok (.iconst 1, 1) := by decide +kernel
theorem d_MO_weight_31 : decode b_MO_weight 31 = .ok (.invokevirtual 51, 3) := by decide +kernel
theorem d_MO_weight_34 : decode b_MO_weight 34 = .ok (.ifCond .ne 5, 3) := by decide +kernel
theorem d_MO_weight_37 : decode b_MO_weight 37 = .ok (.iconst 0, 1) := by decide +kernel
theorem d_MO_weight_38 : decode b_MO_weight 38 = .ok (.ireturn, 1) := by decide +kernel
theorem d_MO_weight_39 : decode b_MO_weight 39 = .ok (.aload_n 0, 1) := by decide +kernel
theorem d_MO_weight_40 : decode b_MO_weight 40 = .ok (.getfield 7, 3) := by decide +kernel
theorem d_MO_weight_43 : decode b_MO_weight 43 = .ok (.bipush 12, 2) := by decide +kernel
theorem d_MO_weight_45 : decode b_MO_weight 45 = .ok (.iload_n 1, 1) := by decide +kernel
theorem d_MO_weight_46 : decode b_MO_weight 46 = .ok (.imul, 1) := by decide +kernel
theorem d_MO_weight_47 : decode b_MO_weight 47 = .ok (.iload_n 2, 1) := by decide +kernel
theorem d_MO_weight_48 : decode b_MO_weight 48 = .ok (.iadd, 1) := by decide +kernel
theorem d_MO_weight_49 : decode b_MO_weight 49 = .ok (.iaload, 1) := by decide +kernel
theorem d_MO_weight_50 : decode b_MO_weight 50 = .ok (.istore 4, 2) := by decide +kernel
theorem d_MO_weight_52 : decode b_MO_weight 52 = .ok (.aload_n 0, 1) := by decide +kernel
theorem d_MO_weight_53 : decode b_MO_weight 53 = .ok (.getfield 7, 3) := by decide +kernel
theorem d_MO_weight_56 : decode b_MO_weight 56 = .ok (.bipush 12, 2) := by decide +kernel
theorem d_MO_weight_58 : decode b_MO_weight 58 = .ok (.iload_n 1, 1) := by decide +kernel
theorem d_MO_weight_59 : decode b_MO_weight 59 = .ok (.imul, 1) := by decide +kernel
theorem d_MO_weight_60 : decode b_MO_weight 60 = .ok (.iload_n 2, 1) := by decide +kernel
theorem d_MO_weight_61 : decode b_MO_weight 61 = .ok (.iadd, 1) := by decide +kernel
theorem d_MO_weight_62 : decode b_MO_weight 62 = .ok (.iload_n 3, 1) := by decide +kernel
theorem d_MO_weight_63 : decode b_MO_weight 63 = .ok (.iastore, 1) := by decide +kernel
theorem d_MO_weight_64 : decode b_MO_weight 64 = .ok (.iload 4, 2) := by decide +kernel
theorem d_MO_weight_66 : decode b_MO_weight 66 = .ok (.ireturn, 1) := by decide +kernel
theorem d_MO_isDate_0 : decode b_MO_isDate 0 = .ok (.iload_n 1, 1) := by decide +kernel
theorem d_MO_isDate_1 : decode b_MO_isDate 1 = .ok (.aload_n 0, 1) := by decide +kernel
theorem d_MO_isDate_2 : decode b_MO_isDate 2 = .ok (.getfield 44, 3) := by decide +kernel
theorem d_MO_isDate_5 : decode b_MO_isDate 5 = .ok (.invokestatic 47, 3) := by decide +kernel
theorem d_MO_isDate_8 : decode b_MO_isDate 8 = .ok (.ireturn, 1) := by decide +kernel
theorem d_MO_below_0 : decode b_MO_below 0 = .ok (.iload_n 0, 1) := by decide +kernel
theorem d_MO_below_1 : decode b_MO_below 1 = .ok (.ifCond .lt 12, 3) := by decide +kernel
theorem d_MO_below_4 : decode b_MO_below 4 = .ok (.iload_n 0, 1) := by decide +kernel
theorem d_MO_below_5 : decode b_MO_below 5 = .ok (.iload_n 1, 1) := by decide +kernel
theorem d_MO_below_6 : decode b_MO_below 6 = .ok (.if_icmp .ge 7, 3) := by decide +kernel
theorem d_MO_below_9 : decode b_MO_below 9 = .ok (.iconst 1, 1) := by decide +kernel
theorem d_MO_below_10 : decode b_MO_below 10 = .ok (.goto 4, 3) := by decide +kernel
theorem d_MO_below_13 : decode b_MO_below 13 = .ok (.iconst 0, 1) := by decide +kernel
theorem d_MO_below_14 : decode b_MO_below 14 = .ok (.ireturn, 1) := by decide +kernel
theorem d_MO_outlier_0 : decode b_MO_outlier 0 = .ok (.aload_n 0, 1) := by decide +kernel
theorem d_MO_outlier_1 : decode b_MO_outlier 1 = .ok (.aload_n 0, 1) := by decide +kernel
theorem d_MO_outlier_2 : decode b_MO_outlier 2 = .ok (.iload_n 1, 1) := by decide +kernel
theorem d_MO_outlier_3 : decode b_MO_outlier 3 = .ok (.invokevirtual 55, 3) := by decide +kernel
theorem d_MO_outlier_6 : decode b_MO_outlier 6 = .ok (.iload_n 3, 1) := by decide +kernel
theorem d_MO_outlier_7 : decode b_MO_outlier 7 = .ok (.iconst 1, 1) := by decide +kernel
theorem d_MO_outlier_8 : decode b_MO_outlier 8 = .ok (.if_icmp .lt 22, 3) := by decide +kernel
theorem d_MO_outlier_11 : decode b_MO_outlier 11 = .ok (.iload_n 3, 1) := by decide +kernel
theorem d_MO_outlier_12 : decode b_MO_outlier 12 = .ok (.bipush 10, 2) := by decide +kernel
theorem d_MO_outlier_14 : decode b_MO_outlier 14 = .ok (.if_icmp .gt 16, 3) := by decide +kernel
theorem d_MO_outlier_17 : decode b_MO_outlier 17 = .ok (.iload_n 2, 1) := by decide +kernel
theorem d_MO_outlier_18 : decode b_MO_outlier 18 = .ok (.ifCond .lt 12, 3) := by decide +kernel
theorem d_MO_outlier_21 : decode b_MO_outlier 21 = .ok (.iload_n 2, 1) := by decide +kernel
theorem d_MO_outlier_22 : decode b_MO_outlier 22 = .ok (.iload_n 3, 1) := by decide +kernel
theorem d_MO_outlier_23 : decode b_MO_outlier 23 = .ok (.if_icmp .gt 7, 3) := by decide +kernel
theorem d_MO_outlier_26 : decode b_MO_outlier 26 = .ok (.iconst 1, 1) := by decide +kernel
theorem d_MO_outlier_27 : decode b_MO_outlier 27 = .ok (.goto 4, 3) := by decide +kernel
theorem d_MO_outlier_30 : decode b_MO_outlier 30 = .ok (.iconst 0, 1) := by decide +kernel
theorem d_MO_outlier_31 : decode b_MO_outlier 31 = .ok (.iconst 1, 1) := by decide +kernel
theorem d_MO_outlier_32 : decode b_MO_outlier 32 = .ok (.invokevirtual 51, 3) := by decide +kernel
theorem d_MO_outlier_35 : decode b_MO_outlier 35 = .ok (.ifCond .eq 17, 3) := by decide +kernel
theorem d_MO_outlier_38 : decode b_MO_outlier 38 = .ok (.aload_n 0, 1) := by decide +kernel
theorem d_MO_outlier_39 : decode b_MO_outlier 39 = .ok (.getfield 13, 3) := by decide +kernel
theorem d_MO_outlier_42 : decode b_MO_outlier 42 = .ok (.iload_n 1, 1) := by decide +kernel
theorem d_MO_outlier_43 : decode b_MO_outlier 43 = .ok (.iload_n 2, 1) := by decide +kernel
theorem d_MO_outlier_44 : decode b_MO_outlier 44 = .ok (.iastore, 1) := by decide +kernel
theorem d_MO_outlier_45 : decode b_MO_outlier 45 = .ok (.aload_n 0, 1) := by decide +kernel
theorem d_MO_outlier_46 : decode b_MO_outlier 46 = .ok (.getfield 16, 3) := by decide +kernel
theorem d_MO_outlier_49 : decode b_MO_outlier 49 = .ok (.iload_n 1, 1) := by decide +kernel
theorem d_MO_outlier_50 : decode b_MO_outlier 50 = .ok (.iload_n 3, 1) := by decide +kernel
theorem d_MO_outlier_51 : decode b_MO_outlier 51 = .ok (.iastore, 1) := by decide +kernel
theorem d_MO_outlier_52 : decode b_MO_outlier 52 = .ok (.return_, 1) := by decide +kernel
theorem d_MO_row_0 : decode b_MO_row 0 = .ok (.aload_n 0, 1) := by decide +kernel
theorem d_MO_row_1 : decode b_MO_row 1 = .ok (.aload_n 0, 1) := by decide +kernel
theorem d_MO_row_2 : decode b_MO_row 2 = .ok (.iload_n 1, 1) := by decide +kernel
theorem d_MO_row_3 : decode b_MO_row 3 = .ok (.invokevirtual 55, 3) := by decide +kernel
theorem d_MO_row_6 : decode b_MO_row 6 = .ok (.ifCond .eq 15, 3) := by decide +kernel
theorem d_MO_row_9 : decode b_MO_row 9 = .ok (.aload_n 0, 1) := by decide +kernel
theorem d_MO_row_10 : decode b_MO_row 10 = .ok (.iload_n 2, 1) := by decide +kernel
theorem d_MO_row_11 : decode b_MO_row 11 = .ok (.invokevirtual 55, 3) := by decide +kernel
theorem d_MO_row_14 : decode b_MO_row 14 = .ok (.ifCond .eq 7, 3) := by decide +kernel
theorem d_MO_row_17 : decode b_MO_row 17 = .ok (.iconst 1, 1) := by decide +kernel
theorem d_MO_row_18 : decode b_MO_row 18 = .ok (.goto 4, 3) := by decide +kernel
theorem d_MO_row_21 : decode b_MO_row 21 = .ok (.iconst 0, 1) := by decide +kernel
theorem d_MO_row_22 : decode b_MO_row 22 = .ok (.iload_n 3, 1) := by decide +kernel
theorem d_MO_row_23 : decode b_MO_row 23 = .ok (.ifCond .lt 20, 3) := by decide +kernel
theorem d_MO_row_26 : decode b_MO_row 26 = .ok (.iload_n 3, 1) := by decide +kernel
theorem d_MO_row_27 : decode b_MO_row 27 = .ok (.iload 4, 2) := by decide +kernel
theorem d_MO_row_29 : decode b_MO_row 29 = .ok (.if_icmp .gt 14, 3) := by decide +kernel
theorem d_MO_row_32 : decode b_MO_row 32 = .ok (.iload 4, 2) := by decide +kernel
theorem d_MO_row_34 : decode b_MO_row 34 = .ok (.bipush 12, 2) := by decide +kernel
theorem d_MO_row_36 : decode b_MO_row 36 = .ok (.if_icmp .ge 7, 3) := by decide +kernel
theorem d_MO_row_39 : decode b_MO_row 39 = .ok (.iconst 1, 1) := by decide +kernel
theorem d_MO_row_40 : decode b_MO_row 40 = .ok (.goto 4, 3) := by decide +kernel
theorem d_MO_row_43 : decode b_MO_row 43 = .ok (.iconst 0, 1) := by decide +kernel
theorem d_MO_row_44 : decode b_MO_row 44 = .ok (.iconst 1, 1) := by decide +kernel
theorem d_MO_row_45 : decode b_MO_row 45 = .ok (.invokevirtual 51, 3) := by decide +kernel
theorem d_MO_row_48 : decode b_MO_row 48 = .ok (.ifCond .ne 5, 3) := by decide +kernel
theorem d_MO_row_51 : decode b_MO_row 51 = .ok (.iconst 0, 1) := by decide +kernel
theorem d_MO_row_52 : decode b_MO_row 52 = .ok (.ireturn, 1) := by decide +kernel
theorem d_MO_row_53 : decode b_MO_row 53 = .ok (.aload_n 0, 1) := by decide +kernel
theorem d_MO_row_54 : decode b_MO_row 54 = .ok (.iload_n 1, 1) := by decide +kernel
theorem d_MO_row_55 : decode b_MO_row 55 = .ok (.invokevirtual 65, 3) := by decide +kernel
theorem d_MO_row_58 : decode b_MO_row 58 = .ok (.istore 5, 2) := by decide +kernel
theorem d_MO_row_60 : decode b_MO_row 60 = .ok (.aload_n 0, 1) := by decide +kernel
theorem d_MO_row_61 : decode b_MO_row 61 = .ok (.iload_n 2, 1) := by decide +kernel
theorem d_MO_row_62 : decode b_MO_row 62 = .ok (.invokevirtual 65, 3) := by decide +kernel
theorem d_MO_row_65 : decode b_MO_row 65 = .ok (.istore 6, 2) := by decide +kernel
theorem d_MO_row_67 : decode b_MO_row 67 = .ok (.iload 5, 2) := by decide +kernel
theorem d_MO_row_69 : decode b_MO_row 69 = .ok (.iload 6, 2) := by decide +kernel
theorem d_MO_row_71 : decode b_MO_row 71 = .ok (.if_icmp .eq 21, 3) := by decide +kernel
theorem d_MO_row_74 : decode b_MO_row 74 = .ok (.aload_n 0, 1) := by decide +kernel
theorem d_MO_row_75 : decode b_MO_row 75 = .ok (.iload 5, 2) := by decide +kernel
theorem d_MO_row_77 : decode b_MO_row 77 = .ok (.invokevirtual 69, 3) := by decide +kernel
theorem d_MO_row_80 : decode b_MO_row 80 = .ok (.ifCond .eq 14, 3) := by decide +kernel
theorem d_MO_row_83 : decode b_MO_row 83 = .ok (.aload_n 0, 1) := by decide +kernel
theorem d_MO_row_84 : decode b_MO_row 84 = .ok (.iload 6, 2) := by decide +kernel
theorem d_MO_row_86 : decode b_MO_row 86 = .ok (.invokevirtual 69, 3) := by decide +kernel
theorem d_MO_row_89 : decode b_MO_row 89 = .ok (.ifCond .eq 5, 3) := by decide +kernel
theorem d_MO_row_92 : decode b_MO_row 92 = .ok (.iconst (-1), 1) := by decide +kernel
theorem d_MO_row_93 : decode b_MO_row 93 = .ok (.ireturn, 1) := by decide +kernel
theorem d_MO_row_94 : decode b_MO_row 94 = .ok (.aload_n 0, 1) := by decide +kernel
theorem d_MO_row_95 : decode b_MO_row 95 = .ok (.iload_n 1, 1) := by decide +kernel
theorem d_MO_row_96 : decode b_MO_row 96 = .ok (.iload_n 2, 1) := by decide +kernel
theorem d_MO_row_97 : decode b_MO_row 97 = .ok (.iload_n 3, 1) := by decide +kernel
theorem d_MO_row_98 : decode b_MO_row 98 = .ok (.iload 4, 2) := by decide +kernel
theorem d_MO_row_100 : decode b_MO_row 100 = .ok (.invokevirtual 72, 3) := by decide +kernel
theorem d_MO_row_103 : decode b_MO_row 103 = .ok (.ireturn, 1) := by decide +kernel
theorem d_MO_treeOf_0 : decode b_MO_treeOf 0 = .ok (.iconst 1, 1) := by decide +kernel
theorem d_MO_treeOf_1 : decode b_MO_treeOf 1 = .ok (.iload_n 1, 1) := by decide +kernel
theorem d_MO_treeOf_2 : decode b_MO_treeOf 2 = .ok (.ishl, 1) := by decide +kernel
theorem d_MO_treeOf_3 : decode b_MO_treeOf 3 = .ok (.istore_n 2, 1) := by decide +kernel
theorem d_MO_treeOf_4 : decode b_MO_treeOf 4 = .ok (.iconst 0, 1) := by decide +kernel
theorem d_MO_treeOf_5 : decode b_MO_treeOf 5 = .ok (.istore_n 3, 1) := by decide +kernel
theorem d_MO_treeOf_6 : decode b_MO_treeOf 6 = .ok (.iload_n 3, 1) := by decide +kernel
theorem d_MO_treeOf_7 : decode b_MO_treeOf 7 = .ok (.bipush 6, 2) := by decide +kernel
theorem d_MO_treeOf_9 : decode b_MO_treeOf 9 = .ok (.if_icmp .ge 64, 3) := by decide +kernel
theorem d_MO_treeOf_12 : decode b_MO_treeOf 12 = .ok (.iconst 0, 1) := by decide +kernel
theorem d_MO_treeOf_13 : decode b_MO_treeOf 13 = .ok (.istore 4, 2) := by decide +kernel
theorem d_MO_treeOf_15 : decode b_MO_treeOf 15 = .ok (.iload 4, 2) := by decide +kernel
theorem d_MO_treeOf_17 : decode b_MO_treeOf 17 = .ok (.aload_n 0, 1) := by decide +kernel
theorem d_MO_treeOf_18 : decode b_MO_treeOf 18 = .ok (.getfield 59, 3) := by decide +kernel
theorem d_MO_treeOf_21 : decode b_MO_treeOf 21 = .ok (.if_icmp .ge 46, 3) := by decide +kernel
theorem d_MO_treeOf_24 : decode b_MO_treeOf 24 = .ok (.iconst 1, 1) := by decide +kernel
theorem d_MO_treeOf_25 : decode b_MO_treeOf 25 = .ok (.aload_n 0, 1) := by decide +kernel
theorem d_MO_treeOf_26 : decode b_MO_treeOf 26 = .ok (.getfield 19, 3) := by decide +kernel
theorem d_MO_treeOf_29 : decode b_MO_treeOf 29 = .ok (.iload 4, 2) := by decide +kernel
theorem d_MO_treeOf_31 : decode b_MO_treeOf 31 = .ok (.iaload, 1) := by decide +kernel
theorem d_MO_treeOf_32 : decode b_MO_treeOf 32 = .ok (.ishl, 1) := by decide +kernel
theorem d_MO_treeOf_33 : decode b_MO_treeOf 33 = .ok (.iconst 1, 1) := by decide +kernel
theorem d_MO_treeOf_34 : decode b_MO_treeOf 34 = .ok (.aload_n 0, 1) := by decide +kernel
theorem d_MO_treeOf_35 : decode b_MO_treeOf 35 = .ok (.getfield 22, 3) := by decide +kernel
theorem d_MO_treeOf_38 : decode b_MO_treeOf 38 = .ok (.iload 4, 2) := by decide +kernel
theorem d_MO_treeOf_40 : decode b_MO_treeOf 40 = .ok (.iaload, 1) := by decide +kernel
theorem d_MO_treeOf_41 : decode b_MO_treeOf 41 = .ok (.ishl, 1) := by decide +kernel
theorem d_MO_treeOf_42 : decode b_MO_treeOf 42 = .ok (.ior, 1) := by decide +kernel
theorem d_MO_treeOf_43 : decode b_MO_treeOf 43 = .ok (.istore 5, 2) := by decide +kernel
theorem d_MO_treeOf_45 : decode b_MO_treeOf 45 = .ok (.iload_n 2, 1) := by decide +kernel
theorem d_MO_treeOf_46 : decode b_MO_treeOf 46 = .ok (.iload 5, 2) := by decide +kernel
theorem d_MO_treeOf_48 : decode b_MO_treeOf 48 = .ok (.iand, 1) := by decide +kernel
theorem d_MO_treeOf_49 : decode b_MO_treeOf 49 = .ok (.ifCond .eq 10, 3) := by decide +kernel
theorem d_MO_treeOf_52 : decode b_MO_treeOf 52 = .ok (.iload_n 2, 1) := by decide +kernel
theorem d_MO_treeOf_53 : decode b_MO_treeOf 53 = .ok (.iload 5, 2) := by decide +kernel
theorem d_MO_treeOf_55 : decode b_MO_treeOf 55 = .ok (.ior, 1) := by decide +kernel
theorem d_MO_treeOf_56 : decode b_MO_treeOf 56 = .ok (.goto 4, 3) := by decide +kernel
theorem d_MO_treeOf_59 : decode b_MO_treeOf 59 = .ok (.iload_n 2, 1) := by decide +kernel
theorem d_MO_treeOf_60 : decode b_MO_treeOf 60 = .ok (.istore_n 2, 1) := by decide +kernel
theorem d_MO_treeOf_61 : decode b_MO_treeOf 61 = .ok (.iinc 4 1, 3) := by decide +kernel
theorem d_MO_treeOf_64 : decode b_MO_treeOf 64 = .ok (.goto (-49), 3) := by decide +kernel
theorem d_MO_treeOf_67 : decode b_MO_treeOf 67 = .ok (.iinc 3 1, 3) := by decide +kernel
theorem d_MO_treeOf_70 : decode b_MO_treeOf 70 = .ok (.goto (-64), 3) := by decide +kernel
theorem d_MO_treeOf_73 : decode b_MO_treeOf 73 = .ok (.iload_n 2, 1) := by decide +kernel
theorem d_MO_treeOf_74 : decode b_MO_treeOf 74 = .ok (.ireturn, 1) := by decide +kernel
theorem d_MO_hasMember_0 : decode b_MO_hasMember 0 = .ok (.iconst 0, 1) := by decide +kernel
theorem d_MO_hasMember_1 : decode b_MO_hasMember 1 = .ok (.istore_n 2, 1) := by decide +kernel
theorem d_MO_hasMember_2 : decode b_MO_hasMember 2 = .ok (.iconst 0, 1) := by decide +kernel
theorem d_MO_hasMember_3 : decode b_MO_hasMember 3 = .ok (.istore_n 3, 1) := by decide +kernel
theorem d_MO_hasMember_4 : decode b_MO_hasMember 4 = .ok (.iload_n 3, 1) := by decide +kernel
theorem d_MO_hasMember_5 : decode b_MO_hasMember 5 = .ok (.aload_n 0, 1) := by decide +kernel
theorem d_MO_hasMember_6 : decode b_MO_hasMember 6 = .ok (.getfield 59, 3) := by decide +kernel
theorem d_MO_hasMember_9 : decode b_MO_hasMember 9 = .ok (.if_icmp .ge 41, 3) := by decide +kernel
theorem d_MO_hasMember_12 : decode b_MO_hasMember 12 = .ok (.iload_n 2, 1) := by decide +kernel
theorem d_MO_hasMember_13 : decode b_MO_hasMember 13 = .ok (.ifCond .ne 25, 3) := by decide +kernel
theorem d_MO_hasMember_16 : decode b_MO_hasMember 16 = .ok (.aload_n 0, 1) := by decide +kernel
theorem d_MO_hasMember_17 : decode b_MO_hasMember 17 = .ok (.iload_n 3, 1) := by decide +kernel
theorem d_MO_hasMember_18 : decode b_MO_hasMember 18 = .ok (.invokevirtual 62, 3) := by decide +kernel
theorem d_MO_hasMember_21 : decode b_MO_hasMember 21 = .ok (.ifCond .eq 21, 3) := by decide +kernel
theorem d_MO_hasMember_24 : decode b_MO_hasMember 24 = .ok (.iload_n 1, 1) := by decide +kernel
theorem d_MO_hasMember_25 : decode b_MO_hasMember 25 = .ok (.aload_n 0, 1) := by decide +kernel
theorem d_MO_hasMember_26 : decode b_MO_hasMember 26 = .ok (.getfield 19, 3) := by decide +kernel
theorem d_MO_hasMember_29 : decode b_MO_hasMember 29 = .ok (.iload_n 3, 1) := by decide +kernel
theorem d_MO_hasMember_30 : decode b_MO_hasMember 30 = .ok (.iaload, 1) := by decide +kernel
theorem d_MO_hasMember_31 : decode b_MO_hasMember 31 = .ok (.ishr, 1) := by decide +kernel
theorem d_MO_hasMember_32 : decode b_MO_hasMember 32 = .ok (.iconst 1, 1) := by decide +kernel
theorem d_MO_hasMember_33 : decode b_MO_hasMember 33 = .ok (.iand, 1) := by decide +kernel
theorem d_MO_hasMember_34 : decode b_MO_hasMember 34 = .ok (.iconst 1, 1) := by decide +kernel
theorem d_MO_hasMember_35 : decode b_MO_hasMember 35 = .ok (.if_icmp .ne 7, 3) := by decide +kernel
theorem d_MO_hasMember_38 : decode b_MO_hasMember 38 = .ok (.iconst 1, 1) := by decide +kernel
theorem d_MO_hasMember_39 : decode b_MO_hasMember 39 = .ok (.goto 4, 3) := by decide +kernel
theorem d_MO_hasMember_42 : decode b_MO_hasMember 42 = .ok (.iconst 0, 1) := by decide +kernel
theorem d_MO_hasMember_43 : decode b_MO_hasMember 43 = .ok (.istore_n 2, 1) := by decide +kernel
theorem d_MO_hasMember_44 : decode b_MO_hasMember 44 = .ok (.iinc 3 1, 3) := by decide +kernel
theorem d_MO_hasMember_47 : decode b_MO_hasMember 47 = .ok (.goto (-43), 3) := by decide +kernel
theorem d_MO_hasMember_50 : decode b_MO_hasMember 50 = .ok (.iload_n 2, 1) := by decide +kernel
theorem d_MO_hasMember_51 : decode b_MO_hasMember 51 = .ok (.ireturn, 1) := by decide +kernel
theorem d_MO_isMember_0 : decode b_MO_isMember 0 = .ok (.aload_n 0, 1) := by decide +kernel
theorem d_MO_isMember_1 : decode b_MO_isMember 1 = .ok (.getfield 19, 3) := by decide +kernel
theorem d_MO_isMember_4 : decode b_MO_isMember 4 = .ok (.iload_n 1, 1) := by decide +kernel
theorem d_MO_isMember_5 : decode b_MO_isMember 5 = .ok (.iaload, 1) := by decide +kernel
theorem d_MO_isMember_6 : decode b_MO_isMember 6 = .ok (.aload_n 0, 1) := by decide +kernel
theorem d_MO_isMember_7 : decode b_MO_isMember 7 = .ok (.getfield 22, 3) := by decide +kernel
theorem d_MO_isMember_10 : decode b_MO_isMember 10 = .ok (.iload_n 1, 1) := by decide +kernel
theorem d_MO_isMember_11 : decode b_MO_isMember 11 = .ok (.iaload, 1) := by decide +kernel
theorem d_MO_isMember_12 : decode b_MO_isMember 12 = .ok (.if_icmp .ne 7, 3) := by decide +kernel
theorem d_MO_isMember_15 : decode b_MO_isMember 15 = .ok (.iconst 1, 1) := by decide +kernel
theorem d_MO_isMember_16 : decode b_MO_isMember 16 = .ok (.goto 4, 3) := by decide +kernel
theorem d_MO_isMember_19 : decode b_MO_isMember 19 = .ok (.iconst 0, 1) := by decide +kernel
theorem d_MO_isMember_20 : decode b_MO_isMember 20 = .ok (.ireturn, 1) := by decide +kernel
theorem d_MO_tell_0 : decode b_MO_tell 0 = .ok (.aload_n 0, 1) := by decide +kernel
theorem d_MO_tell_1 : decode b_MO_tell 1 = .ok (.getfield 19, 3) := by decide +kernel
theorem d_MO_tell_4 : decode b_MO_tell 4 = .ok (.aload_n 0, 1) := by decide +kernel
theorem d_MO_tell_5 : decode b_MO_tell 5 = .ok (.getfield 59, 3) := by decide +kernel
theorem d_MO_tell_8 : decode b_MO_tell 8 = .ok (.iload_n 1, 1) := by decide +kernel
theorem d_MO_tell_9 : decode b_MO_tell 9 = .ok (.iastore, 1) := by decide +kernel
theorem d_MO_tell_10 : decode b_MO_tell 10 = .ok (.aload_n 0, 1) := by decide +kernel
theorem d_MO_tell_11 : decode b_MO_tell 11 = .ok (.getfield 22, 3) := by decide +kernel
theorem d_MO_tell_14 : decode b_MO_tell 14 = .ok (.aload_n 0, 1) := by decide +kernel
theorem d_MO_tell_15 : decode b_MO_tell 15 = .ok (.getfield 59, 3) := by decide +kernel
theorem d_MO_tell_18 : decode b_MO_tell 18 = .ok (.iload_n 2, 1) := by decide +kernel
theorem d_MO_tell_19 : decode b_MO_tell 19 = .ok (.iastore, 1) := by decide +kernel
theorem d_MO_tell_20 : decode b_MO_tell 20 = .ok (.aload_n 0, 1) := by decide +kernel
theorem d_MO_tell_21 : decode b_MO_tell 21 = .ok (.getfield 25, 3) := by decide +kernel
theorem d_MO_tell_24 : decode b_MO_tell 24 = .ok (.aload_n 0, 1) := by decide +kernel
theorem d_MO_tell_25 : decode b_MO_tell 25 = .ok (.getfield 59, 3) := by decide +kernel
theorem d_MO_tell_28 : decode b_MO_tell 28 = .ok (.iload_n 3, 1) := by decide +kernel
theorem d_MO_tell_29 : decode b_MO_tell 29 = .ok (.iastore, 1) := by decide +kernel
theorem d_MO_tell_30 : decode b_MO_tell 30 = .ok (.aload_n 0, 1) := by decide +kernel
theorem d_MO_tell_31 : decode b_MO_tell 31 = .ok (.getfield 28, 3) := by decide +kernel
theorem d_MO_tell_34 : decode b_MO_tell 34 = .ok (.aload_n 0, 1) := by decide +kernel
theorem d_MO_tell_35 : decode b_MO_tell 35 = .ok (.getfield 59, 3) := by decide +kernel
theorem d_MO_tell_38 : decode b_MO_tell 38 = .ok (.iload 4, 2) := by decide +kernel
theorem d_MO_tell_40 : decode b_MO_tell 40 = .ok (.iastore, 1) := by decide +kernel
theorem d_MO_tell_41 : decode b_MO_tell 41 = .ok (.aload_n 0, 1) := by decide +kernel
theorem d_MO_tell_42 : decode b_MO_tell 42 = .ok (.dup, 1) := by decide +kernel
theorem d_MO_tell_43 : decode b_MO_tell 43 = .ok (.getfield 59, 3) := by decide +kernel
theorem d_MO_tell_46 : decode b_MO_tell 46 = .ok (.iconst 1, 1) := by decide +kernel
theorem d_MO_tell_47 : decode b_MO_tell 47 = .ok (.iadd, 1) := by decide +kernel
theorem d_MO_tell_48 : decode b_MO_tell 48 = .ok (.putfield 59, 3) := by decide +kernel
theorem d_MO_tell_51 : decode b_MO_tell 51 = .ok (.aload_n 0, 1) := by decide +kernel
theorem d_MO_tell_52 : decode b_MO_tell 52 = .ok (.getfield 59, 3) := by decide +kernel
theorem d_MO_tell_55 : decode b_MO_tell 55 = .ok (.iconst 1, 1) := by decide +kernel
theorem d_MO_tell_56 : decode b_MO_tell 56 = .ok (.isub, 1) := by decide +kernel
theorem d_MO_tell_57 : decode b_MO_tell 57 = .ok (.ireturn, 1) := by decide +kernel
theorem d_MO_member_0 : decode b_MO_member 0 = .ok (.aload_n 0, 1) := by decide +kernel
theorem d_MO_member_1 : decode b_MO_member 1 = .ok (.aload_n 0, 1) := by decide +kernel
theorem d_MO_member_2 : decode b_MO_member 2 = .ok (.iload_n 1, 1) := by decide +kernel
theorem d_MO_member_3 : decode b_MO_member 3 = .ok (.invokevirtual 55, 3) := by decide +kernel
theorem d_MO_member_6 : decode b_MO_member 6 = .ok (.iconst 1, 1) := by decide +kernel
theorem d_MO_member_7 : decode b_MO_member 7 = .ok (.iconst 1, 1) := by decide +kernel
theorem d_MO_member_8 : decode b_MO_member 8 = .ok (.invokevirtual 51, 3) := by decide +kernel
theorem d_MO_member_11 : decode b_MO_member 11 = .ok (.ifCond .ne 5, 3) := by decide +kernel
theorem d_MO_member_14 : decode b_MO_member 14 = .ok (.iconst 0, 1) := by decide +kernel
theorem d_MO_member_15 : decode b_MO_member 15 = .ok (.ireturn, 1) := by decide +kernel
theorem d_MO_member_16 : decode b_MO_member 16 = .ok (.aload_n 0, 1) := by decide +kernel
theorem d_MO_member_17 : decode b_MO_member 17 = .ok (.aload_n 0, 1) := by decide +kernel
theorem d_MO_member_18 : decode b_MO_member 18 = .ok (.iload_n 1, 1) := by decide +kernel
theorem d_MO_member_19 : decode b_MO_member 19 = .ok (.invokevirtual 65, 3) := by decide +kernel
theorem d_MO_member_22 : decode b_MO_member 22 = .ok (.invokevirtual 69, 3) := by decide +kernel
theorem d_MO_member_25 : decode b_MO_member 25 = .ok (.ifCond .eq 7, 3) := by decide +kernel
theorem d_MO_member_28 : decode b_MO_member 28 = .ok (.iconst (-1), 1) := by decide +kernel
theorem d_MO_member_29 : decode b_MO_member 29 = .ok (.goto 11, 3) := by decide +kernel
theorem d_MO_member_32 : decode b_MO_member 32 = .ok (.aload_n 0, 1) := by decide +kernel
theorem d_MO_member_33 : decode b_MO_member 33 = .ok (.iload_n 1, 1) := by decide +kernel
theorem d_MO_member_34 : decode b_MO_member 34 = .ok (.iload_n 1, 1) := by decide +kernel
theorem d_MO_member_35 : decode b_MO_member 35 = .ok (.iconst 0, 1) := by decide +kernel
theorem d_MO_member_36 : decode b_MO_member 36 = .ok (.iconst 0, 1) := by decide +kernel
theorem d_MO_member_37 : decode b_MO_member 37 = .ok (.invokevirtual 72, 3) := by decide +kernel
theorem d_MO_member_40 : decode b_MO_member 40 = .ok (.ireturn, 1) := by decide +kernel
theorem d_MO_total_0 : decode b_MO_total 0 = .ok (.aload_n 0, 1) := by decide +kernel
theorem d_MO_total_1 : decode b_MO_total 1 = .ok (.iload_n 1, 1) := by decide +kernel
theorem d_MO_total_2 : decode b_MO_total 2 = .ok (.invokestatic 131, 3) := by decide +kernel
theorem d_MO_total_5 : decode b_MO_total 5 = .ok (.iconst 1, 1) := by decide +kernel
theorem d_MO_total_6 : decode b_MO_total 6 = .ok (.iconst 1, 1) := by decide +kernel
theorem d_MO_total_7 : decode b_MO_total 7 = .ok (.invokevirtual 51, 3) := by decide +kernel
theorem d_MO_total_10 : decode b_MO_total 10 = .ok (.ifCond .ne 5, 3) := by decide +kernel
theorem d_MO_total_13 : decode b_MO_total 13 = .ok (.iconst 0, 1) := by decide +kernel
theorem d_MO_total_14 : decode b_MO_total 14 = .ok (.ireturn, 1) := by decide +kernel
theorem d_MO_total_15 : decode b_MO_total 15 = .ok (.aload_n 0, 1) := by decide +kernel
theorem d_MO_total_16 : decode b_MO_total 16 = .ok (.invokevirtual 134, 3) := by decide +kernel
theorem d_MO_total_19 : decode b_MO_total 19 = .ok (.aload_n 0, 1) := by decide +kernel
theorem d_MO_total_20 : decode b_MO_total 20 = .ok (.invokevirtual 137, 3) := by decide +kernel
theorem d_MO_total_23 : decode b_MO_total 23 = .ok (.aload_n 0, 1) := by decide +kernel
theorem d_MO_total_24 : decode b_MO_total 24 = .ok (.bipush 74, 2) := by decide +kernel
theorem d_MO_total_26 : decode b_MO_total 26 = .ok (.iload_n 1, 1) := by decide +kernel
theorem d_MO_total_27 : decode b_MO_total 27 = .ok (.invokevirtual 140, 3) := by decide +kernel
theorem d_MO_total_30 : decode b_MO_total 30 = .ok (.ireturn, 1) := by decide +kernel
theorem d_MO_isDigit_0 : decode b_MO_isDigit 0 = .ok (.iload_n 0, 1) := by decide +kernel
theorem d_MO_isDigit_1 : decode b_MO_isDigit 1 = .ok (.bipush 48, 2) := by decide +kernel
theorem d_MO_isDigit_3 : decode b_MO_isDigit 3 = .ok (.invokestatic 47, 3) := by decide +kernel
theorem d_MO_isDigit_6 : decode b_MO_isDigit 6 = .ok (.ireturn, 1) := by decide +kernel
theorem d_MO_open_0 : decode b_MO_open 0 = .ok (.iconst 0, 1) := by decide +kernel
theorem d_MO_open_1 : decode b_MO_open 1 = .ok (.istore_n 1, 1) := by decide +kernel
theorem d_MO_open_2 : decode b_MO_open 2 = .ok (.iload_n 1, 1) := by decide +kernel
theorem d_MO_open_3 : decode b_MO_open 3 = .ok (.bipush 6, 2) := by decide +kernel
theorem d_MO_open_5 : decode b_MO_open 5 = .ok (.if_icmp .ge 18, 3) := by decide +kernel
theorem d_MO_open_8 : decode b_MO_open 8 = .ok (.aload_n 0, 1) := by decide +kernel
theorem d_MO_open_9 : decode b_MO_open 9 = .ok (.getfield 37, 3) := by decide +kernel
theorem d_MO_open_12 : decode b_MO_open 12 = .ok (.iload_n 1, 1) := by decide +kernel
theorem d_MO_open_13 : decode b_MO_open 13 = .ok (.sipush 4095, 3) := by decide +kernel
theorem d_MO_open_16 : decode b_MO_open 16 = .ok (.iastore, 1) := by decide +kernel
theorem d_MO_open_17 : decode b_MO_open 17 = .ok (.iinc 1 1, 3) := by decide +kernel
theorem d_MO_open_20 : decode b_MO_open 20 = .ok (.goto (-18), 3) := by decide +kernel
theorem d_MO_open_23 : decode b_MO_open 23 = .ok (.aload_n 0, 1) := by decide +kernel
theorem d_MO_open_24 : decode b_MO_open 24 = .ok (.sipush 4095, 3) := by decide +kernel
theorem d_MO_open_27 : decode b_MO_open 27 = .ok (.putfield 122, 3) := by decide +kernel
theorem d_MO_open_30 : decode b_MO_open 30 = .ok (.aload_n 0, 1) := by decide +kernel
theorem d_MO_open_31 : decode b_MO_open 31 = .ok (.sipush 4095, 3) := by decide +kernel
theorem d_MO_open_34 : decode b_MO_open 34 = .ok (.putfield 125, 3) := by decide +kernel
theorem d_MO_open_37 : decode b_MO_open 37 = .ok (.aload_n 0, 1) := by decide +kernel
theorem d_MO_open_38 : decode b_MO_open 38 = .ok (.iconst 1, 1) := by decide +kernel
theorem d_MO_open_39 : decode b_MO_open 39 = .ok (.aload_n 0, 1) := by decide +kernel
theorem d_MO_open_40 : decode b_MO_open 40 = .ok (.getfield 59, 3) := by decide +kernel
theorem d_MO_open_43 : decode b_MO_open 43 = .ok (.ishl, 1) := by decide +kernel
theorem d_MO_open_44 : decode b_MO_open 44 = .ok (.iconst 1, 1) := by decide +kernel
theorem d_MO_open_45 : decode b_MO_open 45 = .ok (.isub, 1) := by decide +kernel
theorem d_MO_open_46 : decode b_MO_open 46 = .ok (.putfield 76, 3) := by decide +kernel
theorem d_MO_open_49 : decode b_MO_open 49 = .ok (.return_, 1) := by decide +kernel
theorem d_MO_sum_0 : decode b_MO_sum 0 = .ok (.aload_n 0, 1) := by decide +kernel
theorem d_MO_sum_1 : decode b_MO_sum 1 = .ok (.invokevirtual 111, 3) := by decide +kernel
theorem d_MO_sum_4 : decode b_MO_sum 4 = .ok (.aload_n 0, 1) := by decide +kernel
theorem d_MO_sum_5 : decode b_MO_sum 5 = .ok (.invokevirtual 114, 3) := by decide +kernel
theorem d_MO_sum_8 : decode b_MO_sum 8 = .ok (.istore_n 1, 1) := by decide +kernel
theorem d_MO_sum_9 : decode b_MO_sum 9 = .ok (.aload_n 0, 1) := by decide +kernel
theorem d_MO_sum_10 : decode b_MO_sum 10 = .ok (.bipush 77, 2) := by decide +kernel
theorem d_MO_sum_12 : decode b_MO_sum 12 = .ok (.iconst 1, 1) := by decide +kernel
theorem d_MO_sum_13 : decode b_MO_sum 13 = .ok (.invokevirtual 92, 3) := by decide +kernel
theorem d_MO_sum_16 : decode b_MO_sum 16 = .ok (.iconst 0, 1) := by decide +kernel
theorem d_MO_sum_17 : decode b_MO_sum 17 = .ok (.istore_n 2, 1) := by decide +kernel
theorem d_MO_sum_18 : decode b_MO_sum 18 = .ok (.iload_n 2, 1) := by decide +kernel
theorem d_MO_sum_19 : decode b_MO_sum 19 = .ok (.aload_n 0, 1) := by decide +kernel
theorem d_MO_sum_20 : decode b_MO_sum 20 = .ok (.getfield 44, 3) := by decide +kernel
theorem d_MO_sum_23 : decode b_MO_sum 23 = .ok (.if_icmp .ge 39, 3) := by decide +kernel
theorem d_MO_sum_26 : decode b_MO_sum 26 = .ok (.iload_n 1, 1) := by decide +kernel
theorem d_MO_sum_27 : decode b_MO_sum 27 = .ok (.iload_n 2, 1) := by decide +kernel
theorem d_MO_sum_28 : decode b_MO_sum 28 = .ok (.ishr, 1) := by decide +kernel
theorem d_MO_sum_29 : decode b_MO_sum 29 = .ok (.iconst 1, 1) := by decide +kernel
theorem d_MO_sum_30 : decode b_MO_sum 30 = .ok (.iand, 1) := by decide +kernel
theorem d_MO_sum_31 : decode b_MO_sum 31 = .ok (.iconst 1, 1) := by decide +kernel
theorem d_MO_sum_32 : decode b_MO_sum 32 = .ok (.if_icmp .ne 24, 3) := by decide +kernel
theorem d_MO_sum_35 : decode b_MO_sum 35 = .ok (.aload_n 0, 1) := by decide +kernel
theorem d_MO_sum_36 : decode b_MO_sum 36 = .ok (.getfield 85, 3) := by decide +kernel
theorem d_MO_sum_39 : decode b_MO_sum 39 = .ok (.iload_n 2, 1) := by decide +kernel
theorem d_MO_sum_40 : decode b_MO_sum 40 = .ok (.ishr, 1) := by decide +kernel
theorem d_MO_sum_41 : decode b_MO_sum 41 = .ok (.iconst 1, 1) := by decide +kernel
theorem d_MO_sum_42 : decode b_MO_sum 42 = .ok (.iand, 1) := by decide +kernel
theorem d_MO_sum_43 : decode b_MO_sum 43 = .ok (.ifCond .ne 13, 3) := by decide +kernel
theorem d_MO_sum_46 : decode b_MO_sum 46 = .ok (.aload_n 0, 1) := by decide +kernel
theorem d_MO_sum_47 : decode b_MO_sum 47 = .ok (.bipush 77, 2) := by decide +kernel
theorem d_MO_sum_49 : decode b_MO_sum 49 = .ok (.iload_n 2, 1) := by decide +kernel
theorem d_MO_sum_50 : decode b_MO_sum 50 = .ok (.iconst 0, 1) := by decide +kernel
theorem d_MO_sum_51 : decode b_MO_sum 51 = .ok (.bipush 11, 2) := by decide +kernel
theorem d_MO_sum_53 : decode b_MO_sum 53 = .ok (.invokevirtual 118, 3) := by decide +kernel
theorem d_MO_sum_56 : decode b_MO_sum 56 = .ok (.iinc 2 1, 3) := by decide +kernel
theorem d_MO_sum_59 : decode b_MO_sum 59 = .ok (.goto (-41), 3) := by decide +kernel
theorem d_MO_sum_62 : decode b_MO_sum 62 = .ok (.aload_n 0, 1) := by decide +kernel
theorem d_MO_sum_63 : decode b_MO_sum 63 = .ok (.bipush 74, 2) := by decide +kernel
theorem d_MO_sum_65 : decode b_MO_sum 65 = .ok (.iconst 0, 1) := by decide +kernel
theorem d_MO_sum_66 : decode b_MO_sum 66 = .ok (.invokevirtual 92, 3) := by decide +kernel
theorem d_MO_sum_69 : decode b_MO_sum 69 = .ok (.iconst 0, 1) := by decide +kernel
theorem d_MO_sum_70 : decode b_MO_sum 70 = .ok (.istore_n 2, 1) := by decide +kernel
theorem d_MO_sum_71 : decode b_MO_sum 71 = .ok (.iload_n 2, 1) := by decide +kernel
theorem d_MO_sum_72 : decode b_MO_sum 72 = .ok (.sipush 144, 3) := by decide +kernel
theorem d_MO_sum_75 : decode b_MO_sum 75 = .ok (.if_icmp .ge 137, 3) := by decide +kernel
theorem d_MO_sum_78 : decode b_MO_sum 78 = .ok (.iload_n 2, 1) := by decide +kernel
theorem d_MO_sum_79 : decode b_MO_sum 79 = .ok (.bipush 12, 2) := by decide +kernel
theorem d_MO_sum_81 : decode b_MO_sum 81 = .ok (.idiv, 1) := by decide +kernel
theorem d_MO_sum_82 : decode b_MO_sum 82 = .ok (.iload_n 2, 1) := by decide +kernel
theorem d_MO_sum_83 : decode b_MO_sum 83 = .ok (.bipush 12, 2) := by decide +kernel
theorem d_MO_sum_85 : decode b_MO_sum 85 = .ok (.irem, 1) := by decide +kernel
theorem d_MO_sum_86 : decode b_MO_sum 86 = .ok (.if_icmp .gt 37, 3) := by decide +kernel
theorem d_MO_sum_89 : decode b_MO_sum 89 = .ok (.aload_n 0, 1) := by decide +kernel
theorem d_MO_sum_90 : decode b_MO_sum 90 = .ok (.getfield 122, 3) := by decide +kernel
theorem d_MO_sum_93 : decode b_MO_sum 93 = .ok (.iload_n 2, 1) := by decide +kernel
theorem d_MO_sum_94 : decode b_MO_sum 94 = .ok (.bipush 12, 2) := by decide +kernel
theorem d_MO_sum_96 : decode b_MO_sum 96 = .ok (.idiv, 1) := by decide +kernel
theorem d_MO_sum_97 : decode b_MO_sum 97 = .ok (.ishr, 1) := by decide +kernel
theorem d_MO_sum_98 : decode b_MO_sum 98 = .ok (.iconst 1, 1) := by decide +kernel
theorem d_MO_sum_99 : decode b_MO_sum 99 = .ok (.iand, 1) := by decide +kernel
theorem d_MO_sum_100 : decode b_MO_sum 100 = .ok (.iconst 1, 1) := by decide +kernel
theorem d_MO_sum_101 : decode b_MO_sum 101 = .ok (.if_icmp .ne 22, 3) := by decide +kernel
theorem d_MO_sum_104 : decode b_MO_sum 104 = .ok (.aload_n 0, 1) := by decide +kernel
theorem d_MO_sum_105 : decode b_MO_sum 105 = .ok (.getfield 125, 3) := by decide +kernel
theorem d_MO_sum_108 : decode b_MO_sum 108 = .ok (.iload_n 2, 1) := by decide +kernel
theorem d_MO_sum_109 : decode b_MO_sum 109 = .ok (.bipush 12, 2) := by decide +kernel
theorem d_MO_sum_111 : decode b_MO_sum 111 = .ok (.irem, 1) := by decide +kernel
theorem d_MO_sum_112 : decode b_MO_sum 112 = .ok (.ishr, 1) := by decide +kernel
theorem d_MO_sum_113 : decode b_MO_sum 113 = .ok (.iconst 1, 1) := by decide +kernel
theorem d_MO_sum_114 : decode b_MO_sum 114 = .ok (.iand, 1) := by decide +kernel
theorem d_MO_sum_115 : decode b_MO_sum 115 = .ok (.iconst 1, 1) := by decide +kernel
theorem d_MO_sum_116 : decode b_MO_sum 116 = .ok (.if_icmp .ne 7, 3) := by decide +kernel
theorem d_MO_sum_119 : decode b_MO_sum 119 = .ok (.iconst 1, 1) := by decide +kernel
theorem d_MO_sum_120 : decode b_MO_sum 120 = .ok (.goto 4, 3) := by decide +kernel
theorem d_MO_sum_123 : decode b_MO_sum 123 = .ok (.iconst 0, 1) := by decide +kernel
theorem d_MO_sum_124 : decode b_MO_sum 124 = .ok (.istore_n 3, 1) := by decide +kernel
theorem d_MO_sum_125 : decode b_MO_sum 125 = .ok (.aload_n 0, 1) := by decide +kernel
theorem d_MO_sum_126 : decode b_MO_sum 126 = .ok (.getfield 85, 3) := by decide +kernel
theorem d_MO_sum_129 : decode b_MO_sum 129 = .ok (.ifCond .ne 10, 3) := by decide +kernel
theorem d_MO_sum_132 : decode b_MO_sum 132 = .ok (.iload_n 2, 1) := by decide +kernel
theorem d_MO_sum_133 : decode b_MO_sum 133 = .ok (.ifCond .ne 73, 3) := by decide +kernel
theorem d_MO_sum_136 : decode b_MO_sum 136 = .ok (.goto 7, 3) := by decide +kernel
theorem d_MO_sum_139 : decode b_MO_sum 139 = .ok (.iload_n 3, 1) := by decide +kernel
theorem d_MO_sum_140 : decode b_MO_sum 140 = .ok (.ifCond .eq 66, 3) := by decide +kernel
theorem d_MO_sum_143 : decode b_MO_sum 143 = .ok (.aload_n 0, 1) := by decide +kernel
theorem d_MO_sum_144 : decode b_MO_sum 144 = .ok (.bipush 73, 2) := by decide +kernel
theorem d_MO_sum_146 : decode b_MO_sum 146 = .ok (.bipush 77, 2) := by decide +kernel
theorem d_MO_sum_148 : decode b_MO_sum 148 = .ok (.invokevirtual 128, 3) := by decide +kernel
theorem d_MO_sum_151 : decode b_MO_sum 151 = .ok (.iconst 0, 1) := by decide +kernel
theorem d_MO_sum_152 : decode b_MO_sum 152 = .ok (.istore 4, 2) := by decide +kernel
theorem d_MO_sum_154 : decode b_MO_sum 154 = .ok (.iload 4, 2) := by decide +kernel
theorem d_MO_sum_156 : decode b_MO_sum 156 = .ok (.aload_n 0, 1) := by decide +kernel
theorem d_MO_sum_157 : decode b_MO_sum 157 = .ok (.getfield 44, 3) := by decide +kernel
theorem d_MO_sum_160 : decode b_MO_sum 160 = .ok (.if_icmp .ge 38, 3) := by decide +kernel
theorem d_MO_sum_163 : decode b_MO_sum 163 = .ok (.aload_n 0, 1) := by decide +kernel
theorem d_MO_sum_164 : decode b_MO_sum 164 = .ok (.getfield 85, 3) := by decide +kernel
theorem d_MO_sum_167 : decode b_MO_sum 167 = .ok (.iload 4, 2) := by decide +kernel
theorem d_MO_sum_169 : decode b_MO_sum 169 = .ok (.ishr, 1) := by decide +kernel
theorem d_MO_sum_170 : decode b_MO_sum 170 = .ok (.iconst 1, 1) := by decide +kernel
theorem d_MO_sum_171 : decode b_MO_sum 171 = .ok (.iand, 1) := by decide +kernel
theorem d_MO_sum_172 : decode b_MO_sum 172 = .ok (.iconst 1, 1) := by decide +kernel
theorem d_MO_sum_173 : decode b_MO_sum 173 = .ok (.if_icmp .ne 19, 3) := by decide +kernel
theorem d_MO_sum_176 : decode b_MO_sum 176 = .ok (.aload_n 0, 1) := by decide +kernel
theorem d_MO_sum_177 : decode b_MO_sum 177 = .ok (.bipush 73, 2) := by decide +kernel
theorem d_MO_sum_179 : decode b_MO_sum 179 = .ok (.iload 4, 2) := by decide +kernel
theorem d_MO_sum_181 : decode b_MO_sum 181 = .ok (.iload_n 2, 1) := by decide +kernel
theorem d_MO_sum_182 : decode b_MO_sum 182 = .ok (.bipush 12, 2) := by decide +kernel
theorem d_MO_sum_184 : decode b_MO_sum 184 = .ok (.idiv, 1) := by decide +kernel
theorem d_MO_sum_185 : decode b_MO_sum 185 = .ok (.iload_n 2, 1) := by decide +kernel
theorem d_MO_sum_186 : decode b_MO_sum 186 = .ok (.bipush 12, 2) := by decide +kernel
theorem d_MO_sum_188 : decode b_MO_sum 188 = .ok (.irem, 1) := by decide +kernel
theorem d_MO_sum_189 : decode b_MO_sum 189 = .ok (.invokevirtual 118, 3) := by decide +kernel
theorem d_MO_sum_192 : decode b_MO_sum 192 = .ok (.iinc 4 1, 3) := by decide +kernel
theorem d_MO_sum_195 : decode b_MO_sum 195 = .ok (.goto (-41), 3) := by decide +kernel
theorem d_MO_sum_198 : decode b_MO_sum 198 = .ok (.aload_n 0, 1) := by decide +kernel
theorem d_MO_sum_199 : decode b_MO_sum 199 = .ok (.bipush 74, 2) := by decide +kernel
theorem d_MO_sum_201 : decode b_MO_sum 201 = .ok (.bipush 73, 2) := by decide +kernel
theorem d_MO_sum_203 : decode b_MO_sum 203 = .ok (.invokevirtual 96, 3) := by decide +kernel
theorem d_MO_sum_206 : decode b_MO_sum 206 = .ok (.iinc 2 1, 3) := by decide +kernel
theorem d_MO_sum_209 : decode b_MO_sum 209 = .ok (.goto (-138), 3) := by decide +kernel
theorem d_MO_sum_212 : decode b_MO_sum 212 = .ok (.return_, 1) := by decide +kernel
theorem d_MO_lay_0 : decode b_MO_lay 0 = .ok (.aload_n 0, 1) := by decide +kernel
theorem d_MO_lay_1 : decode b_MO_lay 1 = .ok (.iconst 0, 1) := by decide +kernel
theorem d_MO_lay_2 : decode b_MO_lay 2 = .ok (.putfield 82, 3) := by decide +kernel
theorem d_MO_lay_5 : decode b_MO_lay 5 = .ok (.aload_n 0, 1) := by decide +kernel
theorem d_MO_lay_6 : decode b_MO_lay 6 = .ok (.iconst 0, 1) := by decide +kernel
theorem d_MO_lay_7 : decode b_MO_lay 7 = .ok (.putfield 85, 3) := by decide +kernel
theorem d_MO_lay_10 : decode b_MO_lay 10 = .ok (.iconst 0, 1) := by decide +kernel
theorem d_MO_lay_11 : decode b_MO_lay 11 = .ok (.istore_n 1, 1) := by decide +kernel
theorem d_MO_lay_12 : decode b_MO_lay 12 = .ok (.iload_n 1, 1) := by decide +kernel
theorem d_MO_lay_13 : decode b_MO_lay 13 = .ok (.aload_n 0, 1) := by decide +kernel
theorem d_MO_lay_14 : decode b_MO_lay 14 = .ok (.getfield 44, 3) := by decide +kernel
theorem d_MO_lay_17 : decode b_MO_lay 17 = .ok (.if_icmp .ge 57, 3) := by decide +kernel
theorem d_MO_lay_20 : decode b_MO_lay 20 = .ok (.iconst 0, 1) := by decide +kernel
theorem d_MO_lay_21 : decode b_MO_lay 21 = .ok (.istore_n 2, 1) := by decide +kernel
theorem d_MO_lay_22 : decode b_MO_lay 22 = .ok (.iload_n 2, 1) := by decide +kernel
theorem d_MO_lay_23 : decode b_MO_lay 23 = .ok (.bipush 12, 2) := by decide +kernel
theorem d_MO_lay_25 : decode b_MO_lay 25 = .ok (.if_icmp .ge 43, 3) := by decide +kernel
theorem d_MO_lay_28 : decode b_MO_lay 28 = .ok (.aload_n 0, 1) := by decide +kernel
theorem d_MO_lay_29 : decode b_MO_lay 29 = .ok (.bipush 12, 2) := by decide +kernel
theorem d_MO_lay_31 : decode b_MO_lay 31 = .ok (.iload_n 1, 1) := by decide +kernel
theorem d_MO_lay_32 : decode b_MO_lay 32 = .ok (.imul, 1) := by decide +kernel
theorem d_MO_lay_33 : decode b_MO_lay 33 = .ok (.iload_n 2, 1) := by decide +kernel
theorem d_MO_lay_34 : decode b_MO_lay 34 = .ok (.iadd, 1) := by decide +kernel
theorem d_MO_lay_35 : decode b_MO_lay 35 = .ok (.aload_n 0, 1) := by decide +kernel
theorem d_MO_lay_36 : decode b_MO_lay 36 = .ok (.getfield 37, 3) := by decide +kernel
theorem d_MO_lay_39 : decode b_MO_lay 39 = .ok (.iload_n 1, 1) := by decide +kernel
theorem d_MO_lay_40 : decode b_MO_lay 40 = .ok (.iaload, 1) := by decide +kernel
theorem d_MO_lay_41 : decode b_MO_lay 41 = .ok (.iload_n 2, 1) := by decide +kernel
theorem d_MO_lay_42 : decode b_MO_lay 42 = .ok (.ishr, 1) := by decide +kernel
theorem d_MO_lay_43 : decode b_MO_lay 43 = .ok (.iconst 1, 1) := by decide +kernel
theorem d_MO_lay_44 : decode b_MO_lay 44 = .ok (.iand, 1) := by decide +kernel
theorem d_MO_lay_45 : decode b_MO_lay 45 = .ok (.iconst 1, 1) := by decide +kernel
theorem d_MO_lay_46 : decode b_MO_lay 46 = .ok (.if_icmp .ne 12, 3) := by decide +kernel
theorem d_MO_lay_49 : decode b_MO_lay 49 = .ok (.aload_n 0, 1) := by decide +kernel
theorem d_MO_lay_50 : decode b_MO_lay 50 = .ok (.iload_n 1, 1) := by decide +kernel
theorem d_MO_lay_51 : decode b_MO_lay 51 = .ok (.iload_n 2, 1) := by decide +kernel
theorem d_MO_lay_52 : decode b_MO_lay 52 = .ok (.invokevirtual 88, 3) := by decide +kernel
theorem d_MO_lay_55 : decode b_MO_lay 55 = .ok (.goto 4, 3) := by decide +kernel
theorem d_MO_lay_58 : decode b_MO_lay 58 = .ok (.iconst 0, 1) := by decide +kernel
theorem d_MO_lay_59 : decode b_MO_lay 59 = .ok (.invokevirtual 92, 3) := by decide +kernel
theorem d_MO_lay_62 : decode b_MO_lay 62 = .ok (.iinc 2 1, 3) := by decide +kernel
theorem d_MO_lay_65 : decode b_MO_lay 65 = .ok (.goto (-43), 3) := by decide +kernel
theorem d_MO_lay_68 : decode b_MO_lay 68 = .ok (.iinc 1 1, 3) := by decide +kernel
theorem d_MO_lay_71 : decode b_MO_lay 71 = .ok (.goto (-59), 3) := by decide +kernel
theorem d_MO_lay_74 : decode b_MO_lay 74 = .ok (.iconst 0, 1) := by decide +kernel
theorem d_MO_lay_75 : decode b_MO_lay 75 = .ok (.istore_n 1, 1) := by decide +kernel
theorem d_MO_lay_76 : decode b_MO_lay 76 = .ok (.iload_n 1, 1) := by decide +kernel
theorem d_MO_lay_77 : decode b_MO_lay 77 = .ok (.aload_n 0, 1) := by decide +kernel
theorem d_MO_lay_78 : decode b_MO_lay 78 = .ok (.getfield 59, 3) := by decide +kernel
theorem d_MO_lay_81 : decode b_MO_lay 81 = .ok (.if_icmp .ge 84, 3) := by decide +kernel
theorem d_MO_lay_84 : decode b_MO_lay 84 = .ok (.aload_n 0, 1) := by decide +kernel
theorem d_MO_lay_85 : decode b_MO_lay 85 = .ok (.aload_n 0, 1) := by decide +kernel
theorem d_MO_lay_86 : decode b_MO_lay 86 = .ok (.iload_n 1, 1) := by decide +kernel
theorem d_MO_lay_87 : decode b_MO_lay 87 = .ok (.invokevirtual 79, 3) := by decide +kernel
theorem d_MO_lay_90 : decode b_MO_lay 90 = .ok (.ifCond .eq 22, 3) := by decide +kernel
theorem d_MO_lay_93 : decode b_MO_lay 93 = .ok (.aload_n 0, 1) := by decide +kernel
theorem d_MO_lay_94 : decode b_MO_lay 94 = .ok (.iload_n 1, 1) := by decide +kernel
theorem d_MO_lay_95 : decode b_MO_lay 95 = .ok (.invokevirtual 62, 3) := by decide +kernel
theorem d_MO_lay_98 : decode b_MO_lay 98 = .ok (.ifCond .ne 14, 3) := by decide +kernel
theorem d_MO_lay_101 : decode b_MO_lay 101 = .ok (.aload_n 0, 1) := by decide +kernel
theorem d_MO_lay_102 : decode b_MO_lay 102 = .ok (.getfield 82, 3) := by decide +kernel
theorem d_MO_lay_105 : decode b_MO_lay 105 = .ok (.iconst 1, 1) := by decide +kernel
theorem d_MO_lay_106 : decode b_MO_lay 106 = .ok (.iload_n 1, 1) := by decide +kernel
theorem d_MO_lay_107 : decode b_MO_lay 107 = .ok (.ishl, 1) := by decide +kernel
theorem d_MO_lay_108 : decode b_MO_lay 108 = .ok (.ior, 1) := by decide +kernel
theorem d_MO_lay_109 : decode b_MO_lay 109 = .ok (.goto 7, 3) := by decide +kernel
theorem d_MO_lay_112 : decode b_MO_lay 112 = .ok (.aload_n 0, 1) := by decide +kernel
theorem d_MO_lay_113 : decode b_MO_lay 113 = .ok (.getfield 82, 3) := by decide +kernel
theorem d_MO_lay_116 : decode b_MO_lay 116 = .ok (.putfield 82, 3) := by decide +kernel
theorem d_MO_lay_119 : decode b_MO_lay 119 = .ok (.aload_n 0, 1) := by decide +kernel
theorem d_MO_lay_120 : decode b_MO_lay 120 = .ok (.aload_n 0, 1) := by decide +kernel
theorem d_MO_lay_121 : decode b_MO_lay 121 = .ok (.iload_n 1, 1) := by decide +kernel
theorem d_MO_lay_122 : decode b_MO_lay 122 = .ok (.invokevirtual 79, 3) := by decide +kernel
theorem d_MO_lay_125 : decode b_MO_lay 125 = .ok (.ifCond .eq 27, 3) := by decide +kernel
theorem d_MO_lay_128 : decode b_MO_lay 128 = .ok (.aload_n 0, 1) := by decide +kernel
theorem d_MO_lay_129 : decode b_MO_lay 129 = .ok (.iload_n 1, 1) := by decide +kernel
theorem d_MO_lay_130 : decode b_MO_lay 130 = .ok (.invokevirtual 62, 3) := by decide +kernel
theorem d_MO_lay_133 : decode b_MO_lay 133 = .ok (.ifCond .eq 19, 3) := by decide +kernel
theorem d_MO_lay_136 : decode b_MO_lay 136 = .ok (.aload_n 0, 1) := by decide +kernel
theorem d_MO_lay_137 : decode b_MO_lay 137 = .ok (.getfield 85, 3) := by decide +kernel
theorem d_MO_lay_140 : decode b_MO_lay 140 = .ok (.iconst 1, 1) := by decide +kernel
theorem d_MO_lay_141 : decode b_MO_lay 141 = .ok (.aload_n 0, 1) := by decide +kernel
theorem d_MO_lay_142 : decode b_MO_lay 142 = .ok (.getfield 19, 3) := by decide +kernel
theorem d_MO_lay_145 : decode b_MO_lay 145 = .ok (.iload_n 1, 1) := by decide +kernel
theorem d_MO_lay_146 : decode b_MO_lay 146 = .ok (.iaload, 1) := by decide +kernel
theorem d_MO_lay_147 : decode b_MO_lay 147 = .ok (.ishl, 1) := by decide +kernel
theorem d_MO_lay_148 : decode b_MO_lay 148 = .ok (.ior, 1) := by decide +kernel
theorem d_MO_lay_149 : decode b_MO_lay 149 = .ok (.goto 7, 3) := by decide +kernel
theorem d_MO_lay_152 : decode b_MO_lay 152 = .ok (.aload_n 0, 1) := by decide +kernel
theorem d_MO_lay_153 : decode b_MO_lay 153 = .ok (.getfield 85, 3) := by decide +kernel
theorem d_MO_lay_156 : decode b_MO_lay 156 = .ok (.putfield 85, 3) := by decide +kernel
theorem d_MO_lay_159 : decode b_MO_lay 159 = .ok (.iinc 1 1, 3) := by decide +kernel
theorem d_MO_lay_162 : decode b_MO_lay 162 = .ok (.goto (-86), 3) := by decide +kernel
theorem d_MO_lay_165 : decode b_MO_lay 165 = .ok (.return_, 1) := by decide +kernel
theorem d_MO_worth_0 : decode b_MO_worth 0 = .ok (.iconst 0, 1) := by decide +kernel
theorem d_MO_worth_1 : decode b_MO_worth 1 = .ok (.istore_n 3, 1) := by decide +kernel
theorem d_MO_worth_2 : decode b_MO_worth 2 = .ok (.iconst 0, 1) := by decide +kernel
theorem d_MO_worth_3 : decode b_MO_worth 3 = .ok (.istore 4, 2) := by decide +kernel
theorem d_MO_worth_5 : decode b_MO_worth 5 = .ok (.iload 4, 2) := by decide +kernel
theorem d_MO_worth_7 : decode b_MO_worth 7 = .ok (.bipush 12, 2) := by decide +kernel
theorem d_MO_worth_9 : decode b_MO_worth 9 = .ok (.if_icmp .ge 24, 3) := by decide +kernel
theorem d_MO_worth_12 : decode b_MO_worth 12 = .ok (.iload_n 3, 1) := by decide +kernel
theorem d_MO_worth_13 : decode b_MO_worth 13 = .ok (.aload_n 0, 1) := by decide +kernel
theorem d_MO_worth_14 : decode b_MO_worth 14 = .ok (.getfield 7, 3) := by decide +kernel
theorem d_MO_worth_17 : decode b_MO_worth 17 = .ok (.bipush 12, 2) := by decide +kernel
theorem d_MO_worth_19 : decode b_MO_worth 19 = .ok (.iload_n 1, 1) := by decide +kernel
theorem d_MO_worth_20 : decode b_MO_worth 20 = .ok (.imul, 1) := by decide +kernel
theorem d_MO_worth_21 : decode b_MO_worth 21 = .ok (.iload 4, 2) := by decide +kernel
theorem d_MO_worth_23 : decode b_MO_worth 23 = .ok (.iadd, 1) := by decide +kernel
theorem d_MO_worth_24 : decode b_MO_worth 24 = .ok (.iaload, 1) := by decide +kernel
theorem d_MO_worth_25 : decode b_MO_worth 25 = .ok (.iadd, 1) := by decide +kernel
theorem d_MO_worth_26 : decode b_MO_worth 26 = .ok (.istore_n 3, 1) := by decide +kernel
theorem d_MO_worth_27 : decode b_MO_worth 27 = .ok (.iinc 4 1, 3) := by decide +kernel
theorem d_MO_worth_30 : decode b_MO_worth 30 = .ok (.goto (-25), 3) := by decide +kernel
theorem d_MO_worth_33 : decode b_MO_worth 33 = .ok (.aload_n 0, 1) := by decide +kernel
theorem d_MO_worth_34 : decode b_MO_worth 34 = .ok (.getfield 16, 3) := by decide +kernel
theorem d_MO_worth_37 : decode b_MO_worth 37 = .ok (.iload_n 1, 1) := by decide +kernel
theorem d_MO_worth_38 : decode b_MO_worth 38 = .ok (.iaload, 1) := by decide +kernel
theorem d_MO_worth_39 : decode b_MO_worth 39 = .ok (.aload_n 0, 1) := by decide +kernel
theorem d_MO_worth_40 : decode b_MO_worth 40 = .ok (.getfield 13, 3) := by decide +kernel
theorem d_MO_worth_43 : decode b_MO_worth 43 = .ok (.iload_n 1, 1) := by decide +kernel
theorem d_MO_worth_44 : decode b_MO_worth 44 = .ok (.iaload, 1) := by decide +kernel
theorem d_MO_worth_45 : decode b_MO_worth 45 = .ok (.isub, 1) := by decide +kernel
theorem d_MO_worth_46 : decode b_MO_worth 46 = .ok (.bipush 12, 2) := by decide +kernel
theorem d_MO_worth_48 : decode b_MO_worth 48 = .ok (.imul, 1) := by decide +kernel
theorem d_MO_worth_49 : decode b_MO_worth 49 = .ok (.aload_n 0, 1) := by decide +kernel
theorem d_MO_worth_50 : decode b_MO_worth 50 = .ok (.getfield 7, 3) := by decide +kernel
theorem d_MO_worth_53 : decode b_MO_worth 53 = .ok (.bipush 12, 2) := by decide +kernel
theorem d_MO_worth_55 : decode b_MO_worth 55 = .ok (.iload_n 1, 1) := by decide +kernel
theorem d_MO_worth_56 : decode b_MO_worth 56 = .ok (.imul, 1) := by decide +kernel
theorem d_MO_worth_57 : decode b_MO_worth 57 = .ok (.iload_n 2, 1) := by decide +kernel
theorem d_MO_worth_58 : decode b_MO_worth 58 = .ok (.iadd, 1) := by decide +kernel
theorem d_MO_worth_59 : decode b_MO_worth 59 = .ok (.iaload, 1) := by decide +kernel
theorem d_MO_worth_60 : decode b_MO_worth 60 = .ok (.imul, 1) := by decide +kernel
theorem d_MO_worth_61 : decode b_MO_worth 61 = .ok (.aload_n 0, 1) := by decide +kernel
theorem d_MO_worth_62 : decode b_MO_worth 62 = .ok (.getfield 13, 3) := by decide +kernel
theorem d_MO_worth_65 : decode b_MO_worth 65 = .ok (.iload_n 1, 1) := by decide +kernel
theorem d_MO_worth_66 : decode b_MO_worth 66 = .ok (.iaload, 1) := by decide +kernel
theorem d_MO_worth_67 : decode b_MO_worth 67 = .ok (.iload_n 3, 1) := by decide +kernel
theorem d_MO_worth_68 : decode b_MO_worth 68 = .ok (.imul, 1) := by decide +kernel
theorem d_MO_worth_69 : decode b_MO_worth 69 = .ok (.iadd, 1) := by decide +kernel
theorem d_MO_worth_70 : decode b_MO_worth 70 = .ok (.ireturn, 1) := by decide +kernel
theorem d_MO_set_0 : decode b_MO_set 0 = .ok (.iload_n 2, 1) := by decide +kernel
theorem d_MO_set_1 : decode b_MO_set 1 = .ok (.istore_n 3, 1) := by decide +kernel
theorem d_MO_set_2 : decode b_MO_set 2 = .ok (.iconst 0, 1) := by decide +kernel
theorem d_MO_set_3 : decode b_MO_set 3 = .ok (.istore 4, 2) := by decide +kernel
theorem d_MO_set_5 : decode b_MO_set 5 = .ok (.iload 4, 2) := by decide +kernel
theorem d_MO_set_7 : decode b_MO_set 7 = .ok (.bipush 12, 2) := by decide +kernel
theorem d_MO_set_9 : decode b_MO_set 9 = .ok (.if_icmp .ge 32, 3) := by decide +kernel
theorem d_MO_set_12 : decode b_MO_set 12 = .ok (.aload_n 0, 1) := by decide +kernel
theorem d_MO_set_13 : decode b_MO_set 13 = .ok (.getfield 31, 3) := by decide +kernel
theorem d_MO_set_16 : decode b_MO_set 16 = .ok (.bipush 12, 2) := by decide +kernel
theorem d_MO_set_18 : decode b_MO_set 18 = .ok (.iload_n 1, 1) := by decide +kernel
theorem d_MO_set_19 : decode b_MO_set 19 = .ok (.imul, 1) := by decide +kernel
theorem d_MO_set_20 : decode b_MO_set 20 = .ok (.iload 4, 2) := by decide +kernel
theorem d_MO_set_22 : decode b_MO_set 22 = .ok (.iadd, 1) := by decide +kernel
theorem d_MO_set_23 : decode b_MO_set 23 = .ok (.iload_n 3, 1) := by decide +kernel
theorem d_MO_set_24 : decode b_MO_set 24 = .ok (.sipush 10000, 3) := by decide +kernel
theorem d_MO_set_27 : decode b_MO_set 27 = .ok (.irem, 1) := by decide +kernel
theorem d_MO_set_28 : decode b_MO_set 28 = .ok (.iastore, 1) := by decide +kernel
theorem d_MO_set_29 : decode b_MO_set 29 = .ok (.iload_n 3, 1) := by decide +kernel
theorem d_MO_set_30 : decode b_MO_set 30 = .ok (.sipush 10000, 3) := by decide +kernel
theorem d_MO_set_33 : decode b_MO_set 33 = .ok (.idiv, 1) := by decide +kernel
theorem d_MO_set_34 : decode b_MO_set 34 = .ok (.istore_n 3, 1) := by decide +kernel
theorem d_MO_set_35 : decode b_MO_set 35 = .ok (.iinc 4 1, 3) := by decide +kernel
theorem d_MO_set_38 : decode b_MO_set 38 = .ok (.goto (-33), 3) := by decide +kernel
theorem d_MO_set_41 : decode b_MO_set 41 = .ok (.return_, 1) := by decide +kernel
theorem d_MO_counted_0 : decode b_MO_counted 0 = .ok (.aload_n 0, 1) := by decide +kernel
theorem d_MO_counted_1 : decode b_MO_counted 1 = .ok (.getfield 76, 3) := by decide +kernel
theorem d_MO_counted_4 : decode b_MO_counted 4 = .ok (.iload_n 1, 1) := by decide +kernel
theorem d_MO_counted_5 : decode b_MO_counted 5 = .ok (.ishr, 1) := by decide +kernel
theorem d_MO_counted_6 : decode b_MO_counted 6 = .ok (.iconst 1, 1) := by decide +kernel
theorem d_MO_counted_7 : decode b_MO_counted 7 = .ok (.iand, 1) := by decide +kernel
theorem d_MO_counted_8 : decode b_MO_counted 8 = .ok (.iconst 1, 1) := by decide +kernel
theorem d_MO_counted_9 : decode b_MO_counted 9 = .ok (.if_icmp .ne 7, 3) := by decide +kernel
theorem d_MO_counted_12 : decode b_MO_counted 12 = .ok (.iconst 1, 1) := by decide +kernel
theorem d_MO_counted_13 : decode b_MO_counted 13 = .ok (.goto 4, 3) := by decide +kernel
theorem d_MO_counted_16 : decode b_MO_counted 16 = .ok (.iconst 0, 1) := by decide +kernel
theorem d_MO_counted_17 : decode b_MO_counted 17 = .ok (.ireturn, 1) := by decide +kernel
theorem d_MO_roots_0 : decode b_MO_roots 0 = .ok (.iconst 1, 1) := by decide +kernel
theorem d_MO_roots_1 : decode b_MO_roots 1 = .ok (.aload_n 0, 1) := by decide +kernel
theorem d_MO_roots_2 : decode b_MO_roots 2 = .ok (.getfield 44, 3) := by decide +kernel
theorem d_MO_roots_5 : decode b_MO_roots 5 = .ok (.ishl, 1) := by decide +kernel
theorem d_MO_roots_6 : decode b_MO_roots 6 = .ok (.iconst 1, 1) := by decide +kernel
theorem d_MO_roots_7 : decode b_MO_roots 7 = .ok (.isub, 1) := by decide +kernel
theorem d_MO_roots_8 : decode b_MO_roots 8 = .ok (.istore_n 1, 1) := by decide +kernel
theorem d_MO_roots_9 : decode b_MO_roots 9 = .ok (.aload_n 0, 1) := by decide +kernel
theorem d_MO_roots_10 : decode b_MO_roots 10 = .ok (.getfield 82, 3) := by decide +kernel
theorem d_MO_roots_13 : decode b_MO_roots 13 = .ok (.ifCond .eq 120, 3) := by decide +kernel
theorem d_MO_roots_16 : decode b_MO_roots 16 = .ok (.iconst 0, 1) := by decide +kernel
theorem d_MO_roots_17 : decode b_MO_roots 17 = .ok (.istore_n 2, 1) := by decide +kernel
theorem d_MO_roots_18 : decode b_MO_roots 18 = .ok (.iconst (-1), 1) := by decide +kernel
theorem d_MO_roots_19 : decode b_MO_roots 19 = .ok (.istore_n 3, 1) := by decide +kernel
theorem d_MO_roots_20 : decode b_MO_roots 20 = .ok (.iload_n 3, 1) := by decide +kernel
theorem d_MO_roots_21 : decode b_MO_roots 21 = .ok (.iconst (-1), 1) := by decide +kernel
theorem d_MO_roots_22 : decode b_MO_roots 22 = .ok (.if_icmp .ne 94, 3) := by decide +kernel
theorem d_MO_roots_25 : decode b_MO_roots 25 = .ok (.aload_n 0, 1) := by decide +kernel
theorem d_MO_roots_26 : decode b_MO_roots 26 = .ok (.getfield 82, 3) := by decide +kernel
theorem d_MO_roots_29 : decode b_MO_roots 29 = .ok (.iload_n 2, 1) := by decide +kernel
theorem d_MO_roots_30 : decode b_MO_roots 30 = .ok (.ishr, 1) := by decide +kernel
theorem d_MO_roots_31 : decode b_MO_roots 31 = .ok (.iconst 1, 1) := by decide +kernel
theorem d_MO_roots_32 : decode b_MO_roots 32 = .ok (.iand, 1) := by decide +kernel
theorem d_MO_roots_33 : decode b_MO_roots 33 = .ok (.iconst 1, 1) := by decide +kernel
theorem d_MO_roots_34 : decode b_MO_roots 34 = .ok (.if_icmp .ne 7, 3) := by decide +kernel
theorem d_MO_roots_37 : decode b_MO_roots 37 = .ok (.iconst 1, 1) := by decide +kernel
theorem d_MO_roots_38 : decode b_MO_roots 38 = .ok (.goto 4, 3) := by decide +kernel
theorem d_MO_roots_41 : decode b_MO_roots 41 = .ok (.iconst 0, 1) := by decide +kernel
theorem d_MO_roots_42 : decode b_MO_roots 42 = .ok (.istore 4, 2) := by decide +kernel
theorem d_MO_roots_44 : decode b_MO_roots 44 = .ok (.iload 4, 2) := by decide +kernel
theorem d_MO_roots_46 : decode b_MO_roots 46 = .ok (.ifCond .eq 25, 3) := by decide +kernel
theorem d_MO_roots_49 : decode b_MO_roots 49 = .ok (.aload_n 0, 1) := by decide +kernel
theorem d_MO_roots_50 : decode b_MO_roots 50 = .ok (.aload_n 0, 1) := by decide +kernel
theorem d_MO_roots_51 : decode b_MO_roots 51 = .ok (.getfield 19, 3) := by decide +kernel
theorem d_MO_roots_54 : decode b_MO_roots 54 = .ok (.iload_n 2, 1) := by decide +kernel
theorem d_MO_roots_55 : decode b_MO_roots 55 = .ok (.iaload, 1) := by decide +kernel
theorem d_MO_roots_56 : decode b_MO_roots 56 = .ok (.invokevirtual 105, 3) := by decide +kernel
theorem d_MO_roots_59 : decode b_MO_roots 59 = .ok (.ifCond .eq 12, 3) := by decide +kernel
theorem d_MO_roots_62 : decode b_MO_roots 62 = .ok (.aload_n 0, 1) := by decide +kernel
theorem d_MO_roots_63 : decode b_MO_roots 63 = .ok (.getfield 19, 3) := by decide +kernel
theorem d_MO_roots_66 : decode b_MO_roots 66 = .ok (.iload_n 2, 1) := by decide +kernel
theorem d_MO_roots_67 : decode b_MO_roots 67 = .ok (.iaload, 1) := by decide +kernel
theorem d_MO_roots_68 : decode b_MO_roots 68 = .ok (.goto 31, 3) := by decide +kernel
theorem d_MO_roots_71 : decode b_MO_roots 71 = .ok (.iload 4, 2) := by decide +kernel
theorem d_MO_roots_73 : decode b_MO_roots 73 = .ok (.ifCond .eq 25, 3) := by decide +kernel
theorem d_MO_roots_76 : decode b_MO_roots 76 = .ok (.aload_n 0, 1) := by decide +kernel
theorem d_MO_roots_77 : decode b_MO_roots 77 = .ok (.aload_n 0, 1) := by decide +kernel
theorem d_MO_roots_78 : decode b_MO_roots 78 = .ok (.getfield 22, 3) := by decide +kernel
theorem d_MO_roots_81 : decode b_MO_roots 81 = .ok (.iload_n 2, 1) := by decide +kernel
theorem d_MO_roots_82 : decode b_MO_roots 82 = .ok (.iaload, 1) := by decide +kernel
theorem d_MO_roots_83 : decode b_MO_roots 83 = .ok (.invokevirtual 105, 3) := by decide +kernel
theorem d_MO_roots_86 : decode b_MO_roots 86 = .ok (.ifCond .eq 12, 3) := by decide +kernel
theorem d_MO_roots_89 : decode b_MO_roots 89 = .ok (.aload_n 0, 1) := by decide +kernel
theorem d_MO_roots_90 : decode b_MO_roots 90 = .ok (.getfield 22, 3) := by decide +kernel
theorem d_MO_roots_93 : decode b_MO_roots 93 = .ok (.iload_n 2, 1) := by decide +kernel
theorem d_MO_roots_94 : decode b_MO_roots 94 = .ok (.iaload, 1) := by decide +kernel
theorem d_MO_roots_95 : decode b_MO_roots 95 = .ok (.goto 4, 3) := by decide +kernel
theorem d_MO_roots_98 : decode b_MO_roots 98 = .ok (.iconst (-1), 1) := by decide +kernel
theorem d_MO_roots_99 : decode b_MO_roots 99 = .ok (.istore_n 3, 1) := by decide +kernel
theorem d_MO_roots_100 : decode b_MO_roots 100 = .ok (.iload_n 3, 1) := by decide +kernel
theorem d_MO_roots_101 : decode b_MO_roots 101 = .ok (.iconst (-1), 1) := by decide +kernel
theorem d_MO_roots_102 : decode b_MO_roots 102 = .ok (.if_icmp .ne 9, 3) := by decide +kernel
theorem d_MO_roots_105 : decode b_MO_roots 105 = .ok (.iload_n 2, 1) := by decide +kernel
theorem d_MO_roots_106 : decode b_MO_roots 106 = .ok (.iconst 1, 1) := by decide +kernel
theorem d_MO_roots_107 : decode b_MO_roots 107 = .ok (.iadd, 1) := by decide +kernel
theorem d_MO_roots_108 : decode b_MO_roots 108 = .ok (.goto 4, 3) := by decide +kernel
theorem d_MO_roots_111 : decode b_MO_roots 111 = .ok (.iload_n 2, 1) := by decide +kernel
theorem d_MO_roots_112 : decode b_MO_roots 112 = .ok (.istore_n 2, 1) := by decide +kernel
theorem d_MO_roots_113 : decode b_MO_roots 113 = .ok (.goto (-93), 3) := by decide +kernel
theorem d_MO_roots_116 : decode b_MO_roots 116 = .ok (.aload_n 0, 1) := by decide +kernel
theorem d_MO_roots_117 : decode b_MO_roots 117 = .ok (.iload_n 2, 1) := by decide +kernel
theorem d_MO_roots_118 : decode b_MO_roots 118 = .ok (.iload_n 3, 1) := by decide +kernel
theorem d_MO_roots_119 : decode b_MO_roots 119 = .ok (.invokevirtual 108, 3) := by decide +kernel
theorem d_MO_roots_122 : decode b_MO_roots 122 = .ok (.iload_n 1, 1) := by decide +kernel
theorem d_MO_roots_123 : decode b_MO_roots 123 = .ok (.iconst 1, 1) := by decide +kernel
theorem d_MO_roots_124 : decode b_MO_roots 124 = .ok (.iload_n 3, 1) := by decide +kernel
theorem d_MO_roots_125 : decode b_MO_roots 125 = .ok (.ishl, 1) := by decide +kernel
theorem d_MO_roots_126 : decode b_MO_roots 126 = .ok (.iconst (-1), 1) := by decide +kernel
theorem d_MO_roots_127 : decode b_MO_roots 127 = .ok (.ixor, 1) := by decide +kernel
theorem d_MO_roots_128 : decode b_MO_roots 128 = .ok (.iand, 1) := by decide +kernel
theorem d_MO_roots_129 : decode b_MO_roots 129 = .ok (.istore_n 1, 1) := by decide +kernel
theorem d_MO_roots_130 : decode b_MO_roots 130 = .ok (.goto (-121), 3) := by decide +kernel
theorem d_MO_roots_133 : decode b_MO_roots 133 = .ok (.iload_n 1, 1) := by decide +kernel
theorem d_MO_roots_134 : decode b_MO_roots 134 = .ok (.ireturn, 1) := by decide +kernel
theorem d_MO_isLeaf_0 : decode b_MO_isLeaf 0 = .ok (.aload_n 0, 1) := by decide +kernel
theorem d_MO_isLeaf_1 : decode b_MO_isLeaf 1 = .ok (.iload_n 1, 1) := by decide +kernel
theorem d_MO_isLeaf_2 : decode b_MO_isLeaf 2 = .ok (.invokevirtual 102, 3) := by decide +kernel
theorem d_MO_isLeaf_5 : decode b_MO_isLeaf 5 = .ok (.iconst 1, 1) := by decide +kernel
theorem d_MO_isLeaf_6 : decode b_MO_isLeaf 6 = .ok (.if_icmp .ne 18, 3) := by decide +kernel
theorem d_MO_isLeaf_9 : decode b_MO_isLeaf 9 = .ok (.aload_n 0, 1) := by decide +kernel
theorem d_MO_isLeaf_10 : decode b_MO_isLeaf 10 = .ok (.getfield 85, 3) := by decide +kernel
theorem d_MO_isLeaf_13 : decode b_MO_isLeaf 13 = .ok (.iload_n 1, 1) := by decide +kernel
theorem d_MO_isLeaf_14 : decode b_MO_isLeaf 14 = .ok (.ishr, 1) := by decide +kernel
theorem d_MO_isLeaf_15 : decode b_MO_isLeaf 15 = .ok (.iconst 1, 1) := by decide +kernel
theorem d_MO_isLeaf_16 : decode b_MO_isLeaf 16 = .ok (.iand, 1) := by decide +kernel
theorem d_MO_isLeaf_17 : decode b_MO_isLeaf 17 = .ok (.ifCond .ne 7, 3) := by decide +kernel
theorem d_MO_isLeaf_20 : decode b_MO_isLeaf 20 = .ok (.iconst 1, 1) := by decide +kernel
theorem d_MO_isLeaf_21 : decode b_MO_isLeaf 21 = .ok (.goto 4, 3) := by decide +kernel
theorem d_MO_isLeaf_24 : decode b_MO_isLeaf 24 = .ok (.iconst 0, 1) := by decide +kernel
theorem d_MO_isLeaf_25 : decode b_MO_isLeaf 25 = .ok (.ireturn, 1) := by decide +kernel
theorem d_MO_rowsOf_0 : decode b_MO_rowsOf 0 = .ok (.iconst 0, 1) := by decide +kernel
theorem d_MO_rowsOf_1 : decode b_MO_rowsOf 1 = .ok (.istore_n 2, 1) := by decide +kernel
theorem d_MO_rowsOf_2 : decode b_MO_rowsOf 2 = .ok (.iconst 0, 1) := by decide +kernel
theorem d_MO_rowsOf_3 : decode b_MO_rowsOf 3 = .ok (.istore_n 3, 1) := by decide +kernel
theorem d_MO_rowsOf_4 : decode b_MO_rowsOf 4 = .ok (.iload_n 3, 1) := by decide +kernel
theorem d_MO_rowsOf_5 : decode b_MO_rowsOf 5 = .ok (.aload_n 0, 1) := by decide +kernel
theorem d_MO_rowsOf_6 : decode b_MO_rowsOf 6 = .ok (.getfield 59, 3) := by decide +kernel
theorem d_MO_rowsOf_9 : decode b_MO_rowsOf 9 = .ok (.if_icmp .ge 49, 3) := by decide +kernel
theorem d_MO_rowsOf_12 : decode b_MO_rowsOf 12 = .ok (.aload_n 0, 1) := by decide +kernel
theorem d_MO_rowsOf_13 : decode b_MO_rowsOf 13 = .ok (.getfield 82, 3) := by decide +kernel
theorem d_MO_rowsOf_16 : decode b_MO_rowsOf 16 = .ok (.iload_n 3, 1) := by decide +kernel
theorem d_MO_rowsOf_17 : decode b_MO_rowsOf 17 = .ok (.ishr, 1) := by decide +kernel
theorem d_MO_rowsOf_18 : decode b_MO_rowsOf 18 = .ok (.iconst 1, 1) := by decide +kernel
theorem d_MO_rowsOf_19 : decode b_MO_rowsOf 19 = .ok (.iand, 1) := by decide +kernel
theorem d_MO_rowsOf_20 : decode b_MO_rowsOf 20 = .ok (.iconst 1, 1) := by decide +kernel
theorem d_MO_rowsOf_21 : decode b_MO_rowsOf 21 = .ok (.if_icmp .ne 29, 3) := by decide +kernel
theorem d_MO_rowsOf_24 : decode b_MO_rowsOf 24 = .ok (.aload_n 0, 1) := by decide +kernel
theorem d_MO_rowsOf_25 : decode b_MO_rowsOf 25 = .ok (.getfield 19, 3) := by decide +kernel
theorem d_MO_rowsOf_28 : decode b_MO_rowsOf 28 = .ok (.iload_n 3, 1) := by decide +kernel
theorem d_MO_rowsOf_29 : decode b_MO_rowsOf 29 = .ok (.iaload, 1) := by decide +kernel
theorem d_MO_rowsOf_30 : decode b_MO_rowsOf 30 = .ok (.iload_n 1, 1) := by decide +kernel
theorem d_MO_rowsOf_31 : decode b_MO_rowsOf 31 = .ok (.if_icmp .eq 13, 3) := by decide +kernel
theorem d_MO_rowsOf_34 : decode b_MO_rowsOf 34 = .ok (.aload_n 0, 1) := by decide +kernel
theorem d_MO_rowsOf_35 : decode b_MO_rowsOf 35 = .ok (.getfield 22, 3) := by decide +kernel
theorem d_MO_rowsOf_38 : decode b_MO_rowsOf 38 = .ok (.iload_n 3, 1) := by decide +kernel
theorem d_MO_rowsOf_39 : decode b_MO_rowsOf 39 = .ok (.iaload, 1) := by decide +kernel
theorem d_MO_rowsOf_40 : decode b_MO_rowsOf 40 = .ok (.iload_n 1, 1) := by decide +kernel
theorem d_MO_rowsOf_41 : decode b_MO_rowsOf 41 = .ok (.if_icmp .ne 9, 3) := by decide +kernel
theorem d_MO_rowsOf_44 : decode b_MO_rowsOf 44 = .ok (.iload_n 2, 1) := by decide +kernel
theorem d_MO_rowsOf_45 : decode b_MO_rowsOf 45 = .ok (.iconst 1, 1) := by decide +kernel
theorem d_MO_rowsOf_46 : decode b_MO_rowsOf 46 = .ok (.iadd, 1) := by decide +kernel
theorem d_MO_rowsOf_47 : decode b_MO_rowsOf 47 = .ok (.goto 4, 3) := by decide +kernel
theorem d_MO_rowsOf_50 : decode b_MO_rowsOf 50 = .ok (.iload_n 2, 1) := by decide +kernel
theorem d_MO_rowsOf_51 : decode b_MO_rowsOf 51 = .ok (.istore_n 2, 1) := by decide +kernel
theorem d_MO_rowsOf_52 : decode b_MO_rowsOf 52 = .ok (.iinc 3 1, 3) := by decide +kernel
theorem d_MO_rowsOf_55 : decode b_MO_rowsOf 55 = .ok (.goto (-51), 3) := by decide +kernel
theorem d_MO_rowsOf_58 : decode b_MO_rowsOf 58 = .ok (.iload_n 2, 1) := by decide +kernel
theorem d_MO_rowsOf_59 : decode b_MO_rowsOf 59 = .ok (.ireturn, 1) := by decide +kernel
theorem d_MO_take_0 : decode b_MO_take 0 = .ok (.aload_n 0, 1) := by decide +kernel
theorem d_MO_take_1 : decode b_MO_take 1 = .ok (.getfield 19, 3) := by decide +kernel
theorem d_MO_take_4 : decode b_MO_take 4 = .ok (.iload_n 1, 1) := by decide +kernel
theorem d_MO_take_5 : decode b_MO_take 5 = .ok (.iaload, 1) := by decide +kernel
theorem d_MO_take_6 : decode b_MO_take 6 = .ok (.iload_n 2, 1) := by decide +kernel
theorem d_MO_take_7 : decode b_MO_take 7 = .ok (.if_icmp .ne 12, 3) := by decide +kernel
theorem d_MO_take_10 : decode b_MO_take 10 = .ok (.aload_n 0, 1) := by decide +kernel
theorem d_MO_take_11 : decode b_MO_take 11 = .ok (.getfield 22, 3) := by decide +kernel
theorem d_MO_take_14 : decode b_MO_take 14 = .ok (.iload_n 1, 1) := by decide +kernel
theorem d_MO_take_15 : decode b_MO_take 15 = .ok (.iaload, 1) := by decide +kernel
theorem d_MO_take_16 : decode b_MO_take 16 = .ok (.goto 9, 3) := by decide +kernel
theorem d_MO_take_19 : decode b_MO_take 19 = .ok (.aload_n 0, 1) := by decide +kernel
theorem d_MO_take_20 : decode b_MO_take 20 = .ok (.getfield 19, 3) := by decide +kernel
theorem d_MO_take_23 : decode b_MO_take 23 = .ok (.iload_n 1, 1) := by decide +kernel
theorem d_MO_take_24 : decode b_MO_take 24 = .ok (.iaload, 1) := by decide +kernel
theorem d_MO_take_25 : decode b_MO_take 25 = .ok (.istore_n 3, 1) := by decide +kernel
theorem d_MO_take_26 : decode b_MO_take 26 = .ok (.iconst 0, 1) := by decide +kernel
theorem d_MO_take_27 : decode b_MO_take 27 = .ok (.istore 4, 2) := by decide +kernel
theorem d_MO_take_29 : decode b_MO_take 29 = .ok (.iload 4, 2) := by decide +kernel
theorem d_MO_take_31 : decode b_MO_take 31 = .ok (.bipush 12, 2) := by decide +kernel
theorem d_MO_take_33 : decode b_MO_take 33 = .ok (.if_icmp .ge 105, 3) := by decide +kernel
theorem d_MO_take_36 : decode b_MO_take 36 = .ok (.aload_n 0, 1) := by decide +kernel
theorem d_MO_take_37 : decode b_MO_take 37 = .ok (.bipush 72, 2) := by decide +kernel
theorem d_MO_take_39 : decode b_MO_take 39 = .ok (.iconst 0, 1) := by decide +kernel
theorem d_MO_take_40 : decode b_MO_take 40 = .ok (.invokevirtual 92, 3) := by decide +kernel
theorem d_MO_take_43 : decode b_MO_take 43 = .ok (.iconst 0, 1) := by decide +kernel
theorem d_MO_take_44 : decode b_MO_take 44 = .ok (.istore 5, 2) := by decide +kernel
theorem d_MO_take_46 : decode b_MO_take 46 = .ok (.iload 5, 2) := by decide +kernel
theorem d_MO_take_48 : decode b_MO_take 48 = .ok (.bipush 12, 2) := by decide +kernel
theorem d_MO_take_50 : decode b_MO_take 50 = .ok (.if_icmp .ge 69, 3) := by decide +kernel
theorem d_MO_take_53 : decode b_MO_take 53 = .ok (.aload_n 0, 1) := by decide +kernel
theorem d_MO_take_54 : decode b_MO_take 54 = .ok (.getfield 19, 3) := by decide +kernel
theorem d_MO_take_57 : decode b_MO_take 57 = .ok (.iload_n 1, 1) := by decide +kernel
theorem d_MO_take_58 : decode b_MO_take 58 = .ok (.iaload, 1) := by decide +kernel
theorem d_MO_take_59 : decode b_MO_take 59 = .ok (.iload_n 2, 1) := by decide +kernel
theorem d_MO_take_60 : decode b_MO_take 60 = .ok (.if_icmp .ne 11, 3) := by decide +kernel
theorem d_MO_take_63 : decode b_MO_take 63 = .ok (.iload 4, 2) := by decide +kernel
theorem d_MO_take_65 : decode b_MO_take 65 = .ok (.iload 5, 2) := by decide +kernel
theorem d_MO_take_67 : decode b_MO_take 67 = .ok (.isub, 1) := by decide +kernel
theorem d_MO_take_68 : decode b_MO_take 68 = .ok (.goto 8, 3) := by decide +kernel
theorem d_MO_take_71 : decode b_MO_take 71 = .ok (.iload 5, 2) := by decide +kernel
theorem d_MO_take_73 : decode b_MO_take 73 = .ok (.iload 4, 2) := by decide +kernel
theorem d_MO_take_75 : decode b_MO_take 75 = .ok (.isub, 1) := by decide +kernel
theorem d_MO_take_76 : decode b_MO_take 76 = .ok (.istore 6, 2) := by decide +kernel
theorem d_MO_take_78 : decode b_MO_take 78 = .ok (.iload 6, 2) := by decide +kernel
theorem d_MO_take_80 : decode b_MO_take 80 = .ok (.aload_n 0, 1) := by decide +kernel
theorem d_MO_take_81 : decode b_MO_take 81 = .ok (.getfield 25, 3) := by decide +kernel
theorem d_MO_take_84 : decode b_MO_take 84 = .ok (.iload_n 1, 1) := by decide +kernel
theorem d_MO_take_85 : decode b_MO_take 85 = .ok (.iaload, 1) := by decide +kernel
theorem d_MO_take_86 : decode b_MO_take 86 = .ok (.if_icmp .lt 27, 3) := by decide +kernel
theorem d_MO_take_89 : decode b_MO_take 89 = .ok (.iload 6, 2) := by decide +kernel
theorem d_MO_take_91 : decode b_MO_take 91 = .ok (.aload_n 0, 1) := by decide +kernel
theorem d_MO_take_92 : decode b_MO_take 92 = .ok (.getfield 28, 3) := by decide +kernel
theorem d_MO_take_95 : decode b_MO_take 95 = .ok (.iload_n 1, 1) := by decide +kernel
theorem d_MO_take_96 : decode b_MO_take 96 = .ok (.iaload, 1) := by decide +kernel
theorem d_MO_take_97 : decode b_MO_take 97 = .ok (.if_icmp .gt 16, 3) := by decide +kernel
theorem d_MO_take_100 : decode b_MO_take 100 = .ok (.aload_n 0, 1) := by decide +kernel
theorem d_MO_take_101 : decode b_MO_take 101 = .ok (.bipush 72, 2) := by decide +kernel
theorem d_MO_take_103 : decode b_MO_take 103 = .ok (.bipush 12, 2) := by decide +kernel
theorem d_MO_take_105 : decode b_MO_take 105 = .ok (.iload_n 2, 1) := by decide +kernel
theorem d_MO_take_106 : decode b_MO_take 106 = .ok (.imul, 1) := by decide +kernel
theorem d_MO_take_107 : decode b_MO_take 107 = .ok (.iload 5, 2) := by decide +kernel
theorem d_MO_take_109 : decode b_MO_take 109 = .ok (.iadd, 1) := by decide +kernel
theorem d_MO_take_110 : decode b_MO_take 110 = .ok (.invokevirtual 96, 3) := by decide +kernel
theorem d_MO_take_113 : decode b_MO_take 113 = .ok (.iinc 5 1, 3) := by decide +kernel
theorem d_MO_take_116 : decode b_MO_take 116 = .ok (.goto (-70), 3) := by decide +kernel
theorem d_MO_take_119 : decode b_MO_take 119 = .ok (.aload_n 0, 1) := by decide +kernel
theorem d_MO_take_120 : decode b_MO_take 120 = .ok (.bipush 12, 2) := by decide +kernel
theorem d_MO_take_122 : decode b_MO_take 122 = .ok (.iload_n 3, 1) := by decide +kernel
theorem d_MO_take_123 : decode b_MO_take 123 = .ok (.imul, 1) := by decide +kernel
theorem d_MO_take_124 : decode b_MO_take 124 = .ok (.iload 4, 2) := by decide +kernel
theorem d_MO_take_126 : decode b_MO_take 126 = .ok (.iadd, 1) := by decide +kernel
theorem d_MO_take_127 : decode b_MO_take 127 = .ok (.bipush 72, 2) := by decide +kernel
theorem d_MO_take_129 : decode b_MO_take 129 = .ok (.invokevirtual 99, 3) := by decide +kernel
theorem d_MO_take_132 : decode b_MO_take 132 = .ok (.iinc 4 1, 3) := by decide +kernel
theorem d_MO_take_135 : decode b_MO_take 135 = .ok (.goto (-106), 3) := by decide +kernel
theorem d_MO_take_138 : decode b_MO_take 138 = .ok (.aload_n 0, 1) := by decide +kernel
theorem d_MO_take_139 : decode b_MO_take 139 = .ok (.aload_n 0, 1) := by decide +kernel
theorem d_MO_take_140 : decode b_MO_take 140 = .ok (.getfield 82, 3) := by decide +kernel
theorem d_MO_take_143 : decode b_MO_take 143 = .ok (.iconst 1, 1) := by decide +kernel
theorem d_MO_take_144 : decode b_MO_take 144 = .ok (.iload_n 1, 1) := by decide +kernel
theorem d_MO_take_145 : decode b_MO_take 145 = .ok (.ishl, 1) := by decide +kernel
theorem d_MO_take_146 : decode b_MO_take 146 = .ok (.iconst (-1), 1) := by decide +kernel
theorem d_MO_take_147 : decode b_MO_take 147 = .ok (.ixor, 1) := by decide +kernel
theorem d_MO_take_148 : decode b_MO_take 148 = .ok (.iand, 1) := by decide +kernel
theorem d_MO_take_149 : decode b_MO_take 149 = .ok (.putfield 82, 3) := by decide +kernel
theorem d_MO_take_152 : decode b_MO_take 152 = .ok (.return_, 1) := by decide +kernel
theorem d_MO_add_0 : decode b_MO_add 0 = .ok (.iconst 0, 1) := by decide +kernel
theorem d_MO_add_1 : decode b_MO_add 1 = .ok (.istore_n 3, 1) := by decide +kernel
theorem d_MO_add_2 : decode b_MO_add 2 = .ok (.iconst 0, 1) := by decide +kernel
theorem d_MO_add_3 : decode b_MO_add 3 = .ok (.istore 4, 2) := by decide +kernel
theorem d_MO_add_5 : decode b_MO_add 5 = .ok (.iload 4, 2) := by decide +kernel
theorem d_MO_add_7 : decode b_MO_add 7 = .ok (.bipush 12, 2) := by decide +kernel
theorem d_MO_add_9 : decode b_MO_add 9 = .ok (.if_icmp .ge 63, 3) := by decide +kernel
theorem d_MO_add_12 : decode b_MO_add 12 = .ok (.aload_n 0, 1) := by decide +kernel
theorem d_MO_add_13 : decode b_MO_add 13 = .ok (.getfield 31, 3) := by decide +kernel
theorem d_MO_add_16 : decode b_MO_add 16 = .ok (.bipush 12, 2) := by decide +kernel
theorem d_MO_add_18 : decode b_MO_add 18 = .ok (.iload_n 1, 1) := by decide +kernel
theorem d_MO_add_19 : decode b_MO_add 19 = .ok (.imul, 1) := by decide +kernel
theorem d_MO_add_20 : decode b_MO_add 20 = .ok (.iload 4, 2) := by decide +kernel
theorem d_MO_add_22 : decode b_MO_add 22 = .ok (.iadd, 1) := by decide +kernel
theorem d_MO_add_23 : decode b_MO_add 23 = .ok (.iaload, 1) := by decide +kernel
theorem d_MO_add_24 : decode b_MO_add 24 = .ok (.aload_n 0, 1) := by decide +kernel
theorem d_MO_add_25 : decode b_MO_add 25 = .ok (.getfield 31, 3) := by decide +kernel
theorem d_MO_add_28 : decode b_MO_add 28 = .ok (.bipush 12, 2) := by decide +kernel
theorem d_MO_add_30 : decode b_MO_add 30 = .ok (.iload_n 2, 1) := by decide +kernel
theorem d_MO_add_31 : decode b_MO_add 31 = .ok (.imul, 1) := by decide +kernel
theorem d_MO_add_32 : decode b_MO_add 32 = .ok (.iload 4, 2) := by decide +kernel
theorem d_MO_add_34 : decode b_MO_add 34 = .ok (.iadd, 1) := by decide +kernel
theorem d_MO_add_35 : decode b_MO_add 35 = .ok (.iaload, 1) := by decide +kernel
theorem d_MO_add_36 : decode b_MO_add 36 = .ok (.iadd, 1) := by decide +kernel
theorem d_MO_add_37 : decode b_MO_add 37 = .ok (.iload_n 3, 1) := by decide +kernel
theorem d_MO_add_38 : decode b_MO_add 38 = .ok (.iadd, 1) := by decide +kernel
theorem d_MO_add_39 : decode b_MO_add 39 = .ok (.istore 5, 2) := by decide +kernel
theorem d_MO_add_41 : decode b_MO_add 41 = .ok (.aload_n 0, 1) := by decide +kernel
theorem d_MO_add_42 : decode b_MO_add 42 = .ok (.getfield 31, 3) := by decide +kernel
theorem d_MO_add_45 : decode b_MO_add 45 = .ok (.bipush 12, 2) := by decide +kernel
theorem d_MO_add_47 : decode b_MO_add 47 = .ok (.iload_n 1, 1) := by decide +kernel
theorem d_MO_add_48 : decode b_MO_add 48 = .ok (.imul, 1) := by decide +kernel
theorem d_MO_add_49 : decode b_MO_add 49 = .ok (.iload 4, 2) := by decide +kernel
theorem d_MO_add_51 : decode b_MO_add 51 = .ok (.iadd, 1) := by decide +kernel
theorem d_MO_add_52 : decode b_MO_add 52 = .ok (.iload 5, 2) := by decide +kernel
theorem d_MO_add_54 : decode b_MO_add 54 = .ok (.sipush 10000, 3) := by decide +kernel
theorem d_MO_add_57 : decode b_MO_add 57 = .ok (.irem, 1) := by decide +kernel
theorem d_MO_add_58 : decode b_MO_add 58 = .ok (.iastore, 1) := by decide +kernel
theorem d_MO_add_59 : decode b_MO_add 59 = .ok (.iload 5, 2) := by decide +kernel
theorem d_MO_add_61 : decode b_MO_add 61 = .ok (.sipush 10000, 3) := by decide +kernel
theorem d_MO_add_64 : decode b_MO_add 64 = .ok (.idiv, 1) := by decide +kernel
theorem d_MO_add_65 : decode b_MO_add 65 = .ok (.istore_n 3, 1) := by decide +kernel
theorem d_MO_add_66 : decode b_MO_add 66 = .ok (.iinc 4 1, 3) := by decide +kernel
theorem d_MO_add_69 : decode b_MO_add 69 = .ok (.goto (-64), 3) := by decide +kernel
theorem d_MO_add_72 : decode b_MO_add 72 = .ok (.return_, 1) := by decide +kernel
theorem d_MO_times_0 : decode b_MO_times 0 = .ok (.iconst 0, 1) := by decide +kernel
theorem d_MO_times_1 : decode b_MO_times 1 = .ok (.istore_n 3, 1) := by decide +kernel
theorem d_MO_times_2 : decode b_MO_times 2 = .ok (.iload_n 3, 1) := by decide +kernel
theorem d_MO_times_3 : decode b_MO_times 3 = .ok (.bipush 25, 2) := by decide +kernel
theorem d_MO_times_5 : decode b_MO_times 5 = .ok (.if_icmp .ge 16, 3) := by decide +kernel
theorem d_MO_times_8 : decode b_MO_times 8 = .ok (.aload_n 0, 1) := by decide +kernel
theorem d_MO_times_9 : decode b_MO_times 9 = .ok (.getfield 34, 3) := by decide +kernel
theorem d_MO_times_12 : decode b_MO_times 12 = .ok (.iload_n 3, 1) := by decide +kernel
theorem d_MO_times_13 : decode b_MO_times 13 = .ok (.iconst 0, 1) := by decide +kernel
theorem d_MO_times_14 : decode b_MO_times 14 = .ok (.iastore, 1) := by decide +kernel
theorem d_MO_times_15 : decode b_MO_times 15 = .ok (.iinc 3 1, 3) := by decide +kernel
theorem d_MO_times_18 : decode b_MO_times 18 = .ok (.goto (-16), 3) := by decide +kernel
theorem d_MO_times_21 : decode b_MO_times 21 = .ok (.iconst 0, 1) := by decide +kernel
theorem d_MO_times_22 : decode b_MO_times 22 = .ok (.istore_n 3, 1) := by decide +kernel
theorem d_MO_times_23 : decode b_MO_times 23 = .ok (.iload_n 3, 1) := by decide +kernel
theorem d_MO_times_24 : decode b_MO_times 24 = .ok (.bipush 12, 2) := by decide +kernel
theorem d_MO_times_26 : decode b_MO_times 26 = .ok (.if_icmp .ge 111, 3) := by decide +kernel
theorem d_MO_times_29 : decode b_MO_times 29 = .ok (.iconst 0, 1) := by decide +kernel
theorem d_MO_times_30 : decode b_MO_times 30 = .ok (.istore 4, 2) := by decide +kernel
theorem d_MO_times_32 : decode b_MO_times 32 = .ok (.iconst 0, 1) := by decide +kernel
theorem d_MO_times_33 : decode b_MO_times 33 = .ok (.istore 5, 2) := by decide +kernel
theorem d_MO_times_35 : decode b_MO_times 35 = .ok (.iload 5, 2) := by decide +kernel
theorem d_MO_times_37 : decode b_MO_times 37 = .ok (.bipush 12, 2) := by decide +kernel
theorem d_MO_times_39 : decode b_MO_times 39 = .ok (.if_icmp .ge 71, 3) := by decide +kernel
theorem d_MO_times_42 : decode b_MO_times 42 = .ok (.aload_n 0, 1) := by decide +kernel
theorem d_MO_times_43 : decode b_MO_times 43 = .ok (.getfield 34, 3) := by decide +kernel
theorem d_MO_times_46 : decode b_MO_times 46 = .ok (.iload_n 3, 1) := by decide +kernel
theorem d_MO_times_47 : decode b_MO_times 47 = .ok (.iload 5, 2) := by decide +kernel
theorem d_MO_times_49 : decode b_MO_times 49 = .ok (.iadd, 1) := by decide +kernel
theorem d_MO_times_50 : decode b_MO_times 50 = .ok (.iaload, 1) := by decide +kernel
theorem d_MO_times_51 : decode b_MO_times 51 = .ok (.aload_n 0, 1) := by decide +kernel
theorem d_MO_times_52 : decode b_MO_times 52 = .ok (.getfield 31, 3) := by decide +kernel
theorem d_MO_times_55 : decode b_MO_times 55 = .ok (.bipush 12, 2) := by decide +kernel
theorem d_MO_times_57 : decode b_MO_times 57 = .ok (.iload_n 1, 1) := by decide +kernel
theorem d_MO_times_58 : decode b_MO_times 58 = .ok (.imul, 1) := by decide +kernel
theorem d_MO_times_59 : decode b_MO_times 59 = .ok (.iload_n 3, 1) := by decide +kernel
theorem d_MO_times_60 : decode b_MO_times 60 = .ok (.iadd, 1) := by decide +kernel
theorem d_MO_times_61 : decode b_MO_times 61 = .ok (.iaload, 1) := by decide +kernel
theorem d_MO_times_62 : decode b_MO_times 62 = .ok (.aload_n 0, 1) := by decide +kernel
theorem d_MO_times_63 : decode b_MO_times 63 = .ok (.getfield 31, 3) := by decide +kernel
theorem d_MO_times_66 : decode b_MO_times 66 = .ok (.bipush 12, 2) := by decide +kernel
theorem d_MO_times_68 : decode b_MO_times 68 = .ok (.iload_n 2, 1) := by decide +kernel
theorem d_MO_times_69 : decode b_MO_times 69 = .ok (.imul, 1) := by decide +kernel
theorem d_MO_times_70 : decode b_MO_times 70 = .ok (.iload 5, 2) := by decide +kernel
theorem d_MO_times_72 : decode b_MO_times 72 = .ok (.iadd, 1) := by decide +kernel
theorem d_MO_times_73 : decode b_MO_times 73 = .ok (.iaload, 1) := by decide +kernel
theorem d_MO_times_74 : decode b_MO_times 74 = .ok (.imul, 1) := by decide +kernel
theorem d_MO_times_75 : decode b_MO_times 75 = .ok (.iadd, 1) := by decide +kernel
theorem d_MO_times_76 : decode b_MO_times 76 = .ok (.iload 4, 2) := by decide +kernel
theorem d_MO_times_78 : decode b_MO_times 78 = .ok (.iadd, 1) := by decide +kernel
theorem d_MO_times_79 : decode b_MO_times 79 = .ok (.istore 6, 2) := by decide +kernel
theorem d_MO_times_81 : decode b_MO_times 81 = .ok (.aload_n 0, 1) := by decide +kernel
theorem d_MO_times_82 : decode b_MO_times 82 = .ok (.getfield 34, 3) := by decide +kernel
theorem d_MO_times_85 : decode b_MO_times 85 = .ok (.iload_n 3, 1) := by decide +kernel
theorem d_MO_times_86 : decode b_MO_times 86 = .ok (.iload 5, 2) := by decide +kernel
theorem d_MO_times_88 : decode b_MO_times 88 = .ok (.iadd, 1) := by decide +kernel
theorem d_MO_times_89 : decode b_MO_times 89 = .ok (.iload 6, 2) := by decide +kernel
theorem d_MO_times_91 : decode b_MO_times 91 = .ok (.sipush 10000, 3) := by decide +kernel
theorem d_MO_times_94 : decode b_MO_times 94 = .ok (.irem, 1) := by decide +kernel
theorem d_MO_times_95 : decode b_MO_times 95 = .ok (.iastore, 1) := by decide +kernel
theorem d_MO_times_96 : decode b_MO_times 96 = .ok (.iload 6, 2) := by decide +kernel
theorem d_MO_times_98 : decode b_MO_times 98 = .ok (.sipush 10000, 3) := by decide +kernel
theorem d_MO_times_101 : decode b_MO_times 101 = .ok (.idiv, 1) := by decide +kernel
theorem d_MO_times_102 : decode b_MO_times 102 = .ok (.istore 4, 2) := by decide +kernel
theorem d_MO_times_104 : decode b_MO_times 104 = .ok (.iinc 5 1, 3) := by decide +kernel
theorem d_MO_times_107 : decode b_MO_times 107 = .ok (.goto (-72), 3) := by decide +kernel
theorem d_MO_times_110 : decode b_MO_times 110 = .ok (.aload_n 0, 1) := by decide +kernel
theorem d_MO_times_111 : decode b_MO_times 111 = .ok (.getfield 34, 3) := by decide +kernel
theorem d_MO_times_114 : decode b_MO_times 114 = .ok (.iload_n 3, 1) := by decide +kernel
theorem d_MO_times_115 : decode b_MO_times 115 = .ok (.bipush 12, 2) := by decide +kernel
theorem d_MO_times_117 : decode b_MO_times 117 = .ok (.iadd, 1) := by decide +kernel
theorem d_MO_times_118 : decode b_MO_times 118 = .ok (.aload_n 0, 1) := by decide +kernel
theorem d_MO_times_119 : decode b_MO_times 119 = .ok (.getfield 34, 3) := by decide +kernel
theorem d_MO_times_122 : decode b_MO_times 122 = .ok (.iload_n 3, 1) := by decide +kernel
theorem d_MO_times_123 : decode b_MO_times 123 = .ok (.bipush 12, 2) := by decide +kernel
theorem d_MO_times_125 : decode b_MO_times 125 = .ok (.iadd, 1) := by decide +kernel
theorem d_MO_times_126 : decode b_MO_times 126 = .ok (.iaload, 1) := by decide +kernel
theorem d_MO_times_127 : decode b_MO_times 127 = .ok (.iload 4, 2) := by decide +kernel
theorem d_MO_times_129 : decode b_MO_times 129 = .ok (.iadd, 1) := by decide +kernel
theorem d_MO_times_130 : decode b_MO_times 130 = .ok (.iastore, 1) := by decide +kernel
theorem d_MO_times_131 : decode b_MO_times 131 = .ok (.iinc 3 1, 3) := by decide +kernel
theorem d_MO_times_134 : decode b_MO_times 134 = .ok (.goto (-111), 3) := by decide +kernel
theorem d_MO_times_137 : decode b_MO_times 137 = .ok (.iconst 0, 1) := by decide +kernel
theorem d_MO_times_138 : decode b_MO_times 138 = .ok (.istore_n 3, 1) := by decide +kernel
theorem d_MO_times_139 : decode b_MO_times 139 = .ok (.iload_n 3, 1) := by decide +kernel
theorem d_MO_times_140 : decode b_MO_times 140 = .ok (.bipush 12, 2) := by decide +kernel
theorem d_MO_times_142 : decode b_MO_times 142 = .ok (.if_icmp .ge 26, 3) := by decide +kernel
theorem d_MO_times_145 : decode b_MO_times 145 = .ok (.aload_n 0, 1) := by decide +kernel
theorem d_MO_times_146 : decode b_MO_times 146 = .ok (.getfield 31, 3) := by decide +kernel
theorem d_MO_times_149 : decode b_MO_times 149 = .ok (.bipush 12, 2) := by decide +kernel
theorem d_MO_times_151 : decode b_MO_times 151 = .ok (.iload_n 1, 1) := by decide +kernel
theorem d_MO_times_152 : decode b_MO_times 152 = .ok (.imul, 1) := by decide +kernel
theorem d_MO_times_153 : decode b_MO_times 153 = .ok (.iload_n 3, 1) := by decide +kernel
theorem d_MO_times_154 : decode b_MO_times 154 = .ok (.iadd, 1) := by decide +kernel
theorem d_MO_times_155 : decode b_MO_times 155 = .ok (.aload_n 0, 1) := by decide +kernel
theorem d_MO_times_156 : decode b_MO_times 156 = .ok (.getfield 34, 3) := by decide +kernel
theorem d_MO_times_159 : decode b_MO_times 159 = .ok (.iload_n 3, 1) := by decide +kernel
theorem d_MO_times_160 : decode b_MO_times 160 = .ok (.iaload, 1) := by decide +kernel
theorem d_MO_times_161 : decode b_MO_times 161 = .ok (.iastore, 1) := by decide +kernel
theorem d_MO_times_162 : decode b_MO_times 162 = .ok (.iinc 3 1, 3) := by decide +kernel
theorem d_MO_times_165 : decode b_MO_times 165 = .ok (.goto (-26), 3) := by decide +kernel
theorem d_MO_times_168 : decode b_MO_times 168 = .ok (.return_, 1) := by decide +kernel
theorem d_MO_multiply_0 : decode b_MO_multiply 0 = .ok (.aload_n 0, 1) := by decide +kernel
theorem d_MO_multiply_1 : decode b_MO_multiply 1 = .ok (.bipush 72, 2) := by decide +kernel
theorem d_MO_multiply_3 : decode b_MO_multiply 3 = .ok (.iconst 0, 1) := by decide +kernel
theorem d_MO_multiply_4 : decode b_MO_multiply 4 = .ok (.invokevirtual 92, 3) := by decide +kernel
theorem d_MO_multiply_7 : decode b_MO_multiply 7 = .ok (.iload_n 3, 1) := by decide +kernel
theorem d_MO_multiply_8 : decode b_MO_multiply 8 = .ok (.istore 5, 2) := by decide +kernel
theorem d_MO_multiply_10 : decode b_MO_multiply 10 = .ok (.iload 5, 2) := by decide +kernel
theorem d_MO_multiply_12 : decode b_MO_multiply 12 = .ok (.iload 4, 2) := by decide +kernel
theorem d_MO_multiply_14 : decode b_MO_multiply 14 = .ok (.if_icmp .gt 22, 3) := by decide +kernel
theorem d_MO_multiply_17 : decode b_MO_multiply 17 = .ok (.aload_n 0, 1) := by decide +kernel
theorem d_MO_multiply_18 : decode b_MO_multiply 18 = .ok (.bipush 72, 2) := by decide +kernel
theorem d_MO_multiply_20 : decode b_MO_multiply 20 = .ok (.bipush 12, 2) := by decide +kernel
theorem d_MO_multiply_22 : decode b_MO_multiply 22 = .ok (.iload_n 2, 1) := by decide +kernel
theorem d_MO_multiply_23 : decode b_MO_multiply 23 = .ok (.imul, 1) := by decide +kernel
theorem d_MO_multiply_24 : decode b_MO_multiply 24 = .ok (.iload 5, 2) := by decide +kernel
theorem d_MO_multiply_26 : decode b_MO_multiply 26 = .ok (.iadd, 1) := by decide +kernel
theorem d_MO_multiply_27 : decode b_MO_multiply 27 = .ok (.invokevirtual 96, 3) := by decide +kernel
theorem d_MO_multiply_30 : decode b_MO_multiply 30 = .ok (.iinc 5 1, 3) := by decide +kernel
theorem d_MO_multiply_33 : decode b_MO_multiply 33 = .ok (.goto (-23), 3) := by decide +kernel
theorem d_MO_multiply_36 : decode b_MO_multiply 36 = .ok (.aload_n 0, 1) := by decide +kernel
theorem d_MO_multiply_37 : decode b_MO_multiply 37 = .ok (.iload_n 1, 1) := by decide +kernel
theorem d_MO_multiply_38 : decode b_MO_multiply 38 = .ok (.bipush 72, 2) := by decide +kernel
theorem d_MO_multiply_40 : decode b_MO_multiply 40 = .ok (.invokevirtual 99, 3) := by decide +kernel
theorem d_MO_multiply_43 : decode b_MO_multiply 43 = .ok (.return_, 1) := by decide +kernel
theorem d_MO_copy_0 : decode b_MO_copy 0 = .ok (.iconst 0, 1) := by decide +kernel
theorem d_MO_copy_1 : decode b_MO_copy 1 = .ok (.istore_n 3, 1) := by decide +kernel
theorem d_MO_copy_2 : decode b_MO_copy 2 = .ok (.iload_n 3, 1) := by decide +kernel
theorem d_MO_copy_3 : decode b_MO_copy 3 = .ok (.bipush 12, 2) := by decide +kernel
theorem d_MO_copy_5 : decode b_MO_copy 5 = .ok (.if_icmp .ge 31, 3) := by decide +kernel
theorem d_MO_copy_8 : decode b_MO_copy 8 = .ok (.aload_n 0, 1) := by decide +kernel
theorem d_MO_copy_9 : decode b_MO_copy 9 = .ok (.getfield 31, 3) := by decide +kernel
theorem d_MO_copy_12 : decode b_MO_copy 12 = .ok (.bipush 12, 2) := by decide +kernel
theorem d_MO_copy_14 : decode b_MO_copy 14 = .ok (.iload_n 1, 1) := by decide +kernel
theorem d_MO_copy_15 : decode b_MO_copy 15 = .ok (.imul, 1) := by decide +kernel
theorem d_MO_copy_16 : decode b_MO_copy 16 = .ok (.iload_n 3, 1) := by decide +kernel
theorem d_MO_copy_17 : decode b_MO_copy 17 = .ok (.iadd, 1) := by decide +kernel
theorem d_MO_copy_18 : decode b_MO_copy 18 = .ok (.aload_n 0, 1) := by decide +kernel
theorem d_MO_copy_19 : decode b_MO_copy 19 = .ok (.getfield 31, 3) := by decide +kernel
theorem d_MO_copy_22 : decode b_MO_copy 22 = .ok (.bipush 12, 2) := by decide +kernel
theorem d_MO_copy_24 : decode b_MO_copy 24 = .ok (.iload_n 2, 1) := by decide +kernel
theorem d_MO_copy_25 : decode b_MO_copy 25 = .ok (.imul, 1) := by decide +kernel
theorem d_MO_copy_26 : decode b_MO_copy 26 = .ok (.iload_n 3, 1) := by decide +kernel
theorem d_MO_copy_27 : decode b_MO_copy 27 = .ok (.iadd, 1) := by decide +kernel
theorem d_MO_copy_28 : decode b_MO_copy 28 = .ok (.iaload, 1) := by decide +kernel
theorem d_MO_copy_29 : decode b_MO_copy 29 = .ok (.iastore, 1) := by decide +kernel
theorem d_MO_copy_30 : decode b_MO_copy 30 = .ok (.iinc 3 1, 3) := by decide +kernel
theorem d_MO_copy_33 : decode b_MO_copy 33 = .ok (.goto (-31), 3) := by decide +kernel
theorem d_MO_copy_36 : decode b_MO_copy 36 = .ok (.return_, 1) := by decide +kernel
theorem d_MO_digitOf_0 : decode b_MO_digitOf 0 = .ok (.aload_n 0, 1) := by decide +kernel
theorem d_MO_digitOf_1 : decode b_MO_digitOf 1 = .ok (.getfield 31, 3) := by decide +kernel
theorem d_MO_digitOf_4 : decode b_MO_digitOf 4 = .ok (.bipush 12, 2) := by decide +kernel
theorem d_MO_digitOf_6 : decode b_MO_digitOf 6 = .ok (.iload_n 1, 1) := by decide +kernel
theorem d_MO_digitOf_7 : decode b_MO_digitOf 7 = .ok (.imul, 1) := by decide +kernel
theorem d_MO_digitOf_8 : decode b_MO_digitOf 8 = .ok (.iload_n 2, 1) := by decide +kernel
theorem d_MO_digitOf_9 : decode b_MO_digitOf 9 = .ok (.iconst 4, 1) := by decide +kernel
theorem d_MO_digitOf_10 : decode b_MO_digitOf 10 = .ok (.idiv, 1) := by decide +kernel
theorem d_MO_digitOf_11 : decode b_MO_digitOf 11 = .ok (.iadd, 1) := by decide +kernel
theorem d_MO_digitOf_12 : decode b_MO_digitOf 12 = .ok (.iaload, 1) := by decide +kernel
theorem d_MO_digitOf_13 : decode b_MO_digitOf 13 = .ok (.istore_n 3, 1) := by decide +kernel
theorem d_MO_digitOf_14 : decode b_MO_digitOf 14 = .ok (.iload_n 2, 1) := by decide +kernel
theorem d_MO_digitOf_15 : decode b_MO_digitOf 15 = .ok (.iconst 4, 1) := by decide +kernel
theorem d_MO_digitOf_16 : decode b_MO_digitOf 16 = .ok (.irem, 1) := by decide +kernel
theorem d_MO_digitOf_17 : decode b_MO_digitOf 17 = .ok (.ifCond .ne 7, 3) := by decide +kernel
theorem d_MO_digitOf_20 : decode b_MO_digitOf 20 = .ok (.iconst 1, 1) := by decide +kernel
theorem d_MO_digitOf_21 : decode b_MO_digitOf 21 = .ok (.goto 30, 3) := by decide +kernel
theorem d_MO_digitOf_24 : decode b_MO_digitOf 24 = .ok (.iload_n 2, 1) := by decide +kernel
theorem d_MO_digitOf_25 : decode b_MO_digitOf 25 = .ok (.iconst 4, 1) := by decide +kernel
theorem d_MO_digitOf_26 : decode b_MO_digitOf 26 = .ok (.irem, 1) := by decide +kernel
theorem d_MO_digitOf_27 : decode b_MO_digitOf 27 = .ok (.iconst 1, 1) := by decide +kernel
theorem d_MO_digitOf_28 : decode b_MO_digitOf 28 = .ok (.if_icmp .ne 8, 3) := by decide +kernel
theorem d_MO_digitOf_31 : decode b_MO_digitOf 31 = .ok (.bipush 10, 2) := by decide +kernel
theorem d_MO_digitOf_33 : decode b_MO_digitOf 33 = .ok (.goto 18, 3) := by decide +kernel
theorem d_MO_digitOf_36 : decode b_MO_digitOf 36 = .ok (.iload_n 2, 1) := by decide +kernel
theorem d_MO_digitOf_37 : decode b_MO_digitOf 37 = .ok (.iconst 4, 1) := by decide +kernel
theorem d_MO_digitOf_38 : decode b_MO_digitOf 38 = .ok (.irem, 1) := by decide +kernel
theorem d_MO_digitOf_39 : decode b_MO_digitOf 39 = .ok (.iconst 2, 1) := by decide +kernel
theorem d_MO_digitOf_40 : decode b_MO_digitOf 40 = .ok (.if_icmp .ne 8, 3) := by decide +kernel
theorem d_MO_digitOf_43 : decode b_MO_digitOf 43 = .ok (.bipush 100, 2) := by decide +kernel
theorem d_MO_digitOf_45 : decode b_MO_digitOf 45 = .ok (.goto 6, 3) := by decide +kernel
theorem d_MO_digitOf_48 : decode b_MO_digitOf 48 = .ok (.sipush 1000, 3) := by decide +kernel
theorem d_MO_digitOf_51 : decode b_MO_digitOf 51 = .ok (.istore 4, 2) := by decide +kernel
theorem d_MO_digitOf_53 : decode b_MO_digitOf 53 = .ok (.iload_n 3, 1) := by decide +kernel
theorem d_MO_digitOf_54 : decode b_MO_digitOf 54 = .ok (.iload 4, 2) := by decide +kernel
theorem d_MO_digitOf_56 : decode b_MO_digitOf 56 = .ok (.idiv, 1) := by decide +kernel
theorem d_MO_digitOf_57 : decode b_MO_digitOf 57 = .ok (.bipush 10, 2) := by decide +kernel
theorem d_MO_digitOf_59 : decode b_MO_digitOf 59 = .ok (.irem, 1) := by decide +kernel
theorem d_MO_digitOf_60 : decode b_MO_digitOf 60 = .ok (.ireturn, 1) := by decide +kernel
theorem d_MO_answered_0 : decode b_MO_answered 0 = .ok (.aload_n 0, 1) := by decide +kernel
theorem d_MO_answered_1 : decode b_MO_answered 1 = .ok (.aload_n 0, 1) := by decide +kernel
theorem d_MO_answered_2 : decode b_MO_answered 2 = .ok (.iload_n 1, 1) := by decide +kernel
theorem d_MO_answered_3 : decode b_MO_answered 3 = .ok (.invokevirtual 55, 3) := by decide +kernel
theorem d_MO_answered_6 : decode b_MO_answered 6 = .ok (.ifCond .eq 23, 3) := by decide +kernel
theorem d_MO_answered_9 : decode b_MO_answered 9 = .ok (.iload_n 2, 1) := by decide +kernel
theorem d_MO_answered_10 : decode b_MO_answered 10 = .ok (.bipush 12, 2) := by decide +kernel
theorem d_MO_answered_12 : decode b_MO_answered 12 = .ok (.invokestatic 47, 3) := by decide +kernel
theorem d_MO_answered_15 : decode b_MO_answered 15 = .ok (.ifCond .eq 14, 3) := by decide +kernel
theorem d_MO_answered_18 : decode b_MO_answered 18 = .ok (.iload_n 3, 1) := by decide +kernel
theorem d_MO_answered_19 : decode b_MO_answered 19 = .ok (.invokestatic 131, 3) := by decide +kernel
theorem d_MO_answered_22 : decode b_MO_answered 22 = .ok (.ifCond .eq 7, 3) := by decide +kernel
theorem d_MO_answered_25 : decode b_MO_answered 25 = .ok (.iconst 1, 1) := by decide +kernel
theorem d_MO_answered_26 : decode b_MO_answered 26 = .ok (.goto 4, 3) := by decide +kernel
theorem d_MO_answered_29 : decode b_MO_answered 29 = .ok (.iconst 0, 1) := by decide +kernel
theorem d_MO_answered_30 : decode b_MO_answered 30 = .ok (.iconst 1, 1) := by decide +kernel
theorem d_MO_answered_31 : decode b_MO_answered 31 = .ok (.iconst 1, 1) := by decide +kernel
theorem d_MO_answered_32 : decode b_MO_answered 32 = .ok (.invokevirtual 51, 3) := by decide +kernel
theorem d_MO_answered_35 : decode b_MO_answered 35 = .ok (.ifCond .ne 5, 3) := by decide +kernel
theorem d_MO_answered_38 : decode b_MO_answered 38 = .ok (.iconst 0, 1) := by decide +kernel
theorem d_MO_answered_39 : decode b_MO_answered 39 = .ok (.ireturn, 1) := by decide +kernel
theorem d_MO_answered_40 : decode b_MO_answered 40 = .ok (.aload_n 0, 1) := by decide +kernel
theorem d_MO_answered_41 : decode b_MO_answered 41 = .ok (.invokevirtual 134, 3) := by decide +kernel
theorem d_MO_answered_44 : decode b_MO_answered 44 = .ok (.aload_n 0, 1) := by decide +kernel
theorem d_MO_answered_45 : decode b_MO_answered 45 = .ok (.getfield 37, 3) := by decide +kernel
theorem d_MO_answered_48 : decode b_MO_answered 48 = .ok (.iload_n 1, 1) := by decide +kernel
theorem d_MO_answered_49 : decode b_MO_answered 49 = .ok (.iconst 1, 1) := by decide +kernel
theorem d_MO_answered_50 : decode b_MO_answered 50 = .ok (.iload_n 2, 1) := by decide +kernel
theorem d_MO_answered_51 : decode b_MO_answered 51 = .ok (.ishl, 1) := by decide +kernel
theorem d_MO_answered_52 : decode b_MO_answered 52 = .ok (.iastore, 1) := by decide +kernel
theorem d_MO_answered_53 : decode b_MO_answered 53 = .ok (.aload_n 0, 1) := by decide +kernel
theorem d_MO_answered_54 : decode b_MO_answered 54 = .ok (.invokevirtual 137, 3) := by decide +kernel
theorem d_MO_answered_57 : decode b_MO_answered 57 = .ok (.aload_n 0, 1) := by decide +kernel
theorem d_MO_answered_58 : decode b_MO_answered 58 = .ok (.bipush 74, 2) := by decide +kernel
theorem d_MO_answered_60 : decode b_MO_answered 60 = .ok (.iload_n 3, 1) := by decide +kernel
theorem d_MO_answered_61 : decode b_MO_answered 61 = .ok (.invokevirtual 140, 3) := by decide +kernel
theorem d_MO_answered_64 : decode b_MO_answered 64 = .ok (.ireturn, 1) := by decide +kernel
theorem d_MO_bound_0 : decode b_MO_bound 0 = .ok (.aload_n 0, 1) := by decide +kernel
theorem d_MO_bound_1 : decode b_MO_bound 1 = .ok (.iconst 1, 1) := by decide +kernel
theorem d_MO_bound_2 : decode b_MO_bound 2 = .ok (.aload_n 0, 1) := by decide +kernel
theorem d_MO_bound_3 : decode b_MO_bound 3 = .ok (.getfield 59, 3) := by decide +kernel
theorem d_MO_bound_6 : decode b_MO_bound 6 = .ok (.ishl, 1) := by decide +kernel
theorem d_MO_bound_7 : decode b_MO_bound 7 = .ok (.iconst 1, 1) := by decide +kernel
theorem d_MO_bound_8 : decode b_MO_bound 8 = .ok (.isub, 1) := by decide +kernel
theorem d_MO_bound_9 : decode b_MO_bound 9 = .ok (.putfield 76, 3) := by decide +kernel
theorem d_MO_bound_12 : decode b_MO_bound 12 = .ok (.aload_n 0, 1) := by decide +kernel
theorem d_MO_bound_13 : decode b_MO_bound 13 = .ok (.iload_n 1, 1) := by decide +kernel
theorem d_MO_bound_14 : decode b_MO_bound 14 = .ok (.iconst 2, 1) := by decide +kernel
theorem d_MO_bound_15 : decode b_MO_bound 15 = .ok (.invokestatic 47, 3) := by decide +kernel
theorem d_MO_bound_18 : decode b_MO_bound 18 = .ok (.ifCond .eq 23, 3) := by decide +kernel
theorem d_MO_bound_21 : decode b_MO_bound 21 = .ok (.iload_n 2, 1) := by decide +kernel
theorem d_MO_bound_22 : decode b_MO_bound 22 = .ok (.bipush 12, 2) := by decide +kernel
theorem d_MO_bound_24 : decode b_MO_bound 24 = .ok (.invokestatic 47, 3) := by decide +kernel
theorem d_MO_bound_27 : decode b_MO_bound 27 = .ok (.ifCond .eq 14, 3) := by decide +kernel
theorem d_MO_bound_30 : decode b_MO_bound 30 = .ok (.iload_n 3, 1) := by decide +kernel
theorem d_MO_bound_31 : decode b_MO_bound 31 = .ok (.invokestatic 131, 3) := by decide +kernel
theorem d_MO_bound_34 : decode b_MO_bound 34 = .ok (.ifCond .eq 7, 3) := by decide +kernel
theorem d_MO_bound_37 : decode b_MO_bound 37 = .ok (.iconst 1, 1) := by decide +kernel
theorem d_MO_bound_38 : decode b_MO_bound 38 = .ok (.goto 4, 3) := by decide +kernel
theorem d_MO_bound_41 : decode b_MO_bound 41 = .ok (.iconst 0, 1) := by decide +kernel
theorem d_MO_bound_42 : decode b_MO_bound 42 = .ok (.aload_n 0, 1) := by decide +kernel
theorem d_MO_bound_43 : decode b_MO_bound 43 = .ok (.invokevirtual 143, 3) := by decide +kernel
theorem d_MO_bound_46 : decode b_MO_bound 46 = .ok (.iconst 1, 1) := by decide +kernel
theorem d_MO_bound_47 : decode b_MO_bound 47 = .ok (.invokevirtual 51, 3) := by decide +kernel
theorem d_MO_bound_50 : decode b_MO_bound 50 = .ok (.ifCond .ne 5, 3) := by decide +kernel
theorem d_MO_bound_53 : decode b_MO_bound 53 = .ok (.iconst 0, 1) := by decide +kernel
theorem d_MO_bound_54 : decode b_MO_bound 54 = .ok (.ireturn, 1) := by decide +kernel
theorem d_MO_bound_55 : decode b_MO_bound 55 = .ok (.aload_n 0, 1) := by decide +kernel
theorem d_MO_bound_56 : decode b_MO_bound 56 = .ok (.invokevirtual 134, 3) := by decide +kernel
theorem d_MO_bound_59 : decode b_MO_bound 59 = .ok (.aload_n 0, 1) := by decide +kernel
theorem d_MO_bound_60 : decode b_MO_bound 60 = .ok (.iload_n 1, 1) := by decide +kernel
theorem d_MO_bound_61 : decode b_MO_bound 61 = .ok (.ifCond .ne 9, 3) := by decide +kernel
theorem d_MO_bound_64 : decode b_MO_bound 64 = .ok (.iconst 1, 1) := by decide +kernel
theorem d_MO_bound_65 : decode b_MO_bound 65 = .ok (.iload_n 2, 1) := by decide +kernel
theorem d_MO_bound_66 : decode b_MO_bound 66 = .ok (.ishl, 1) := by decide +kernel
theorem d_MO_bound_67 : decode b_MO_bound 67 = .ok (.goto 6, 3) := by decide +kernel
theorem d_MO_bound_70 : decode b_MO_bound 70 = .ok (.sipush 4095, 3) := by decide +kernel
theorem d_MO_bound_73 : decode b_MO_bound 73 = .ok (.putfield 122, 3) := by decide +kernel
theorem d_MO_bound_76 : decode b_MO_bound 76 = .ok (.aload_n 0, 1) := by decide +kernel
theorem d_MO_bound_77 : decode b_MO_bound 77 = .ok (.iload_n 1, 1) := by decide +kernel
theorem d_MO_bound_78 : decode b_MO_bound 78 = .ok (.iconst 1, 1) := by decide +kernel
theorem d_MO_bound_79 : decode b_MO_bound 79 = .ok (.if_icmp .ne 9, 3) := by decide +kernel
theorem d_MO_bound_82 : decode b_MO_bound 82 = .ok (.iconst 1, 1) := by decide +kernel
theorem d_MO_bound_83 : decode b_MO_bound 83 = .ok (.iload_n 2, 1) := by decide +kernel
theorem d_MO_bound_84 : decode b_MO_bound 84 = .ok (.ishl, 1) := by decide +kernel
theorem d_MO_bound_85 : decode b_MO_bound 85 = .ok (.goto 6, 3) := by decide +kernel
theorem d_MO_bound_88 : decode b_MO_bound 88 = .ok (.sipush 4095, 3) := by decide +kernel
theorem d_MO_bound_91 : decode b_MO_bound 91 = .ok (.putfield 125, 3) := by decide +kernel
theorem d_MO_bound_94 : decode b_MO_bound 94 = .ok (.aload_n 0, 1) := by decide +kernel
theorem d_MO_bound_95 : decode b_MO_bound 95 = .ok (.invokevirtual 137, 3) := by decide +kernel
theorem d_MO_bound_98 : decode b_MO_bound 98 = .ok (.aload_n 0, 1) := by decide +kernel
theorem d_MO_bound_99 : decode b_MO_bound 99 = .ok (.bipush 74, 2) := by decide +kernel
theorem d_MO_bound_101 : decode b_MO_bound 101 = .ok (.iload_n 3, 1) := by decide +kernel
theorem d_MO_bound_102 : decode b_MO_bound 102 = .ok (.invokevirtual 140, 3) := by decide +kernel
theorem d_MO_bound_105 : decode b_MO_bound 105 = .ok (.ireturn, 1) := by decide +kernel
theorem d_MO_hasMembers_0 : decode b_MO_hasMembers 0 = .ok (.iconst 0, 1) := by decide +kernel
theorem d_MO_hasMembers_1 : decode b_MO_hasMembers 1 = .ok (.istore_n 1, 1) := by decide +kernel
theorem d_MO_hasMembers_2 : decode b_MO_hasMembers 2 = .ok (.iconst 0, 1) := by decide +kernel
theorem d_MO_hasMembers_3 : decode b_MO_hasMembers 3 = .ok (.istore_n 2, 1) := by decide +kernel
theorem d_MO_hasMembers_4 : decode b_MO_hasMembers 4 = .ok (.iload_n 2, 1) := by decide +kernel
theorem d_MO_hasMembers_5 : decode b_MO_hasMembers 5 = .ok (.aload_n 0, 1) := by decide +kernel
theorem d_MO_hasMembers_6 : decode b_MO_hasMembers 6 = .ok (.getfield 59, 3) := by decide +kernel
theorem d_MO_hasMembers_9 : decode b_MO_hasMembers 9 = .ok (.if_icmp .ge 35, 3) := by decide +kernel
theorem d_MO_hasMembers_12 : decode b_MO_hasMembers 12 = .ok (.iload_n 1, 1) := by decide +kernel
theorem d_MO_hasMembers_13 : decode b_MO_hasMembers 13 = .ok (.ifCond .ne 19, 3) := by decide +kernel
theorem d_MO_hasMembers_16 : decode b_MO_hasMembers 16 = .ok (.aload_n 0, 1) := by decide +kernel
theorem d_MO_hasMembers_17 : decode b_MO_hasMembers 17 = .ok (.iload_n 2, 1) := by decide +kernel
theorem d_MO_hasMembers_18 : decode b_MO_hasMembers 18 = .ok (.invokevirtual 79, 3) := by decide +kernel
theorem d_MO_hasMembers_21 : decode b_MO_hasMembers 21 = .ok (.ifCond .eq 15, 3) := by decide +kernel
theorem d_MO_hasMembers_24 : decode b_MO_hasMembers 24 = .ok (.aload_n 0, 1) := by decide +kernel
theorem d_MO_hasMembers_25 : decode b_MO_hasMembers 25 = .ok (.iload_n 2, 1) := by decide +kernel
theorem d_MO_hasMembers_26 : decode b_MO_hasMembers 26 = .ok (.invokevirtual 62, 3) := by decide +kernel
theorem d_MO_hasMembers_29 : decode b_MO_hasMembers 29 = .ok (.ifCond .eq 7, 3) := by decide +kernel
theorem d_MO_hasMembers_32 : decode b_MO_hasMembers 32 = .ok (.iconst 1, 1) := by decide +kernel
theorem d_MO_hasMembers_33 : decode b_MO_hasMembers 33 = .ok (.goto 4, 3) := by decide +kernel
theorem d_MO_hasMembers_36 : decode b_MO_hasMembers 36 = .ok (.iconst 0, 1) := by decide +kernel
theorem d_MO_hasMembers_37 : decode b_MO_hasMembers 37 = .ok (.istore_n 1, 1) := by decide +kernel
theorem d_MO_hasMembers_38 : decode b_MO_hasMembers 38 = .ok (.iinc 2 1, 3) := by decide +kernel
theorem d_MO_hasMembers_41 : decode b_MO_hasMembers 41 = .ok (.goto (-37), 3) := by decide +kernel
theorem d_MO_hasMembers_44 : decode b_MO_hasMembers 44 = .ok (.iload_n 1, 1) := by decide +kernel
theorem d_MO_hasMembers_45 : decode b_MO_hasMembers 45 = .ok (.ireturn, 1) := by decide +kernel
theorem d_MO_both_0 : decode b_MO_both 0 = .ok (.aload_n 0, 1) := by decide +kernel
theorem d_MO_both_1 : decode b_MO_both 1 = .ok (.aload_n 0, 1) := by decide +kernel
theorem d_MO_both_2 : decode b_MO_both 2 = .ok (.iload_n 1, 1) := by decide +kernel
theorem d_MO_both_3 : decode b_MO_both 3 = .ok (.invokevirtual 55, 3) := by decide +kernel
theorem d_MO_both_6 : decode b_MO_both 6 = .ok (.ifCond .eq 42, 3) := by decide +kernel
theorem d_MO_both_9 : decode b_MO_both 9 = .ok (.iload_n 2, 1) := by decide +kernel
theorem d_MO_both_10 : decode b_MO_both 10 = .ok (.bipush 12, 2) := by decide +kernel
theorem d_MO_both_12 : decode b_MO_both 12 = .ok (.invokestatic 47, 3) := by decide +kernel
theorem d_MO_both_15 : decode b_MO_both 15 = .ok (.ifCond .eq 33, 3) := by decide +kernel
theorem d_MO_both_18 : decode b_MO_both 18 = .ok (.aload_n 0, 1) := by decide +kernel
theorem d_MO_both_19 : decode b_MO_both 19 = .ok (.iload_n 3, 1) := by decide +kernel
theorem d_MO_both_20 : decode b_MO_both 20 = .ok (.invokevirtual 55, 3) := by decide +kernel
theorem d_MO_both_23 : decode b_MO_both 23 = .ok (.ifCond .eq 25, 3) := by decide +kernel
theorem d_MO_both_26 : decode b_MO_both 26 = .ok (.iload 4, 2) := by decide +kernel
theorem d_MO_both_28 : decode b_MO_both 28 = .ok (.bipush 12, 2) := by decide +kernel
theorem d_MO_both_30 : decode b_MO_both 30 = .ok (.invokestatic 47, 3) := by decide +kernel
theorem d_MO_both_33 : decode b_MO_both 33 = .ok (.ifCond .eq 15, 3) := by decide +kernel
theorem d_MO_both_36 : decode b_MO_both 36 = .ok (.iload 5, 2) := by decide +kernel
theorem d_MO_both_38 : decode b_MO_both 38 = .ok (.invokestatic 131, 3) := by decide +kernel
theorem d_MO_both_41 : decode b_MO_both 41 = .ok (.ifCond .eq 7, 3) := by decide +kernel
theorem d_MO_both_44 : decode b_MO_both 44 = .ok (.iconst 1, 1) := by decide +kernel
theorem d_MO_both_45 : decode b_MO_both 45 = .ok (.goto 4, 3) := by decide +kernel
theorem d_MO_both_48 : decode b_MO_both 48 = .ok (.iconst 0, 1) := by decide +kernel
theorem d_MO_both_49 : decode b_MO_both 49 = .ok (.iconst 1, 1) := by decide +kernel
theorem d_MO_both_50 : decode b_MO_both 50 = .ok (.iconst 1, 1) := by decide +kernel
theorem d_MO_both_51 : decode b_MO_both 51 = .ok (.invokevirtual 51, 3) := by decide +kernel
theorem d_MO_both_54 : decode b_MO_both 54 = .ok (.ifCond .ne 5, 3) := by decide +kernel
theorem d_MO_both_57 : decode b_MO_both 57 = .ok (.iconst 0, 1) := by decide +kernel
theorem d_MO_both_58 : decode b_MO_both 58 = .ok (.ireturn, 1) := by decide +kernel
theorem d_MO_both_59 : decode b_MO_both 59 = .ok (.aload_n 0, 1) := by decide +kernel
theorem d_MO_both_60 : decode b_MO_both 60 = .ok (.invokevirtual 134, 3) := by decide +kernel
theorem d_MO_both_63 : decode b_MO_both 63 = .ok (.aload_n 0, 1) := by decide +kernel
theorem d_MO_both_64 : decode b_MO_both 64 = .ok (.getfield 37, 3) := by decide +kernel
theorem d_MO_both_67 : decode b_MO_both 67 = .ok (.iload_n 1, 1) := by decide +kernel
theorem d_MO_both_68 : decode b_MO_both 68 = .ok (.iconst 1, 1) := by decide +kernel
theorem d_MO_both_69 : decode b_MO_both 69 = .ok (.iload_n 2, 1) := by decide +kernel
theorem d_MO_both_70 : decode b_MO_both 70 = .ok (.ishl, 1) := by decide +kernel
theorem d_MO_both_71 : decode b_MO_both 71 = .ok (.iastore, 1) := by decide +kernel
theorem d_MO_both_72 : decode b_MO_both 72 = .ok (.aload_n 0, 1) := by decide +kernel
theorem d_MO_both_73 : decode b_MO_both 73 = .ok (.getfield 37, 3) := by decide +kernel
theorem d_MO_both_76 : decode b_MO_both 76 = .ok (.iload_n 3, 1) := by decide +kernel
theorem d_MO_both_77 : decode b_MO_both 77 = .ok (.aload_n 0, 1) := by decide +kernel
theorem d_MO_both_78 : decode b_MO_both 78 = .ok (.getfield 37, 3) := by decide +kernel
theorem d_MO_both_81 : decode b_MO_both 81 = .ok (.iload_n 3, 1) := by decide +kernel
theorem d_MO_both_82 : decode b_MO_both 82 = .ok (.iaload, 1) := by decide +kernel
theorem d_MO_both_83 : decode b_MO_both 83 = .ok (.iconst 1, 1) := by decide +kernel
theorem d_MO_both_84 : decode b_MO_both 84 = .ok (.iload 4, 2) := by decide +kernel
theorem d_MO_both_86 : decode b_MO_both 86 = .ok (.ishl, 1) := by decide +kernel
theorem d_MO_both_87 : decode b_MO_both 87 = .ok (.iand, 1) := by decide +kernel
theorem d_MO_both_88 : decode b_MO_both 88 = .ok (.iastore, 1) := by decide +kernel
theorem d_MO_both_89 : decode b_MO_both 89 = .ok (.aload_n 0, 1) := by decide +kernel
theorem d_MO_both_90 : decode b_MO_both 90 = .ok (.invokevirtual 137, 3) := by decide +kernel
theorem d_MO_both_93 : decode b_MO_both 93 = .ok (.aload_n 0, 1) := by decide +kernel
theorem d_MO_both_94 : decode b_MO_both 94 = .ok (.bipush 74, 2) := by decide +kernel
theorem d_MO_both_96 : decode b_MO_both 96 = .ok (.iload 5, 2) := by decide +kernel
theorem d_MO_both_98 : decode b_MO_both 98 = .ok (.invokevirtual 140, 3) := by decide +kernel
theorem d_MO_both_101 : decode b_MO_both 101 = .ok (.ireturn, 1) := by decide +kernel
theorem d_MO_span_0 : decode b_MO_span 0 = .ok (.aload_n 0, 1) := by decide +kernel
theorem d_MO_span_1 : decode b_MO_span 1 = .ok (.aload_n 0, 1) := by decide +kernel
theorem d_MO_span_2 : decode b_MO_span 2 = .ok (.iload_n 1, 1) := by decide +kernel
theorem d_MO_span_3 : decode b_MO_span 3 = .ok (.invokevirtual 55, 3) := by decide +kernel
theorem d_MO_span_6 : decode b_MO_span 6 = .ok (.ifCond .eq 15, 3) := by decide +kernel
theorem d_MO_span_9 : decode b_MO_span 9 = .ok (.iload_n 2, 1) := by decide +kernel
theorem d_MO_span_10 : decode b_MO_span 10 = .ok (.iconst 2, 1) := by decide +kernel
theorem d_MO_span_11 : decode b_MO_span 11 = .ok (.invokestatic 47, 3) := by decide +kernel
theorem d_MO_span_14 : decode b_MO_span 14 = .ok (.ifCond .eq 7, 3) := by decide +kernel
theorem d_MO_span_17 : decode b_MO_span 17 = .ok (.iconst 1, 1) := by decide +kernel
theorem d_MO_span_18 : decode b_MO_span 18 = .ok (.goto 4, 3) := by decide +kernel
theorem d_MO_span_21 : decode b_MO_span 21 = .ok (.iconst 0, 1) := by decide +kernel
theorem d_MO_span_22 : decode b_MO_span 22 = .ok (.iconst 1, 1) := by decide +kernel
theorem d_MO_span_23 : decode b_MO_span 23 = .ok (.iconst 1, 1) := by decide +kernel
theorem d_MO_span_24 : decode b_MO_span 24 = .ok (.invokevirtual 51, 3) := by decide +kernel
theorem d_MO_span_27 : decode b_MO_span 27 = .ok (.ifCond .ne 5, 3) := by decide +kernel
theorem d_MO_span_30 : decode b_MO_span 30 = .ok (.iconst 0, 1) := by decide +kernel
theorem d_MO_span_31 : decode b_MO_span 31 = .ok (.ireturn, 1) := by decide +kernel
theorem d_MO_span_32 : decode b_MO_span 32 = .ok (.iconst (-1), 1) := by decide +kernel
theorem d_MO_span_33 : decode b_MO_span 33 = .ok (.istore_n 3, 1) := by decide +kernel
theorem d_MO_span_34 : decode b_MO_span 34 = .ok (.iconst 0, 1) := by decide +kernel
theorem d_MO_span_35 : decode b_MO_span 35 = .ok (.istore 4, 2) := by decide +kernel
theorem d_MO_span_37 : decode b_MO_span 37 = .ok (.iload 4, 2) := by decide +kernel
theorem d_MO_span_39 : decode b_MO_span 39 = .ok (.bipush 12, 2) := by decide +kernel
theorem d_MO_span_41 : decode b_MO_span 41 = .ok (.if_icmp .ge 64, 3) := by decide +kernel
theorem d_MO_span_44 : decode b_MO_span 44 = .ok (.iload_n 3, 1) := by decide +kernel
theorem d_MO_span_45 : decode b_MO_span 45 = .ok (.iconst (-1), 1) := by decide +kernel
theorem d_MO_span_46 : decode b_MO_span 46 = .ok (.if_icmp .ne 59, 3) := by decide +kernel
theorem d_MO_span_49 : decode b_MO_span 49 = .ok (.iload_n 2, 1) := by decide +kernel
theorem d_MO_span_50 : decode b_MO_span 50 = .ok (.ifCond .ne 8, 3) := by decide +kernel
theorem d_MO_span_53 : decode b_MO_span 53 = .ok (.iload 4, 2) := by decide +kernel
theorem d_MO_span_55 : decode b_MO_span 55 = .ok (.goto 8, 3) := by decide +kernel
theorem d_MO_span_58 : decode b_MO_span 58 = .ok (.bipush 11, 2) := by decide +kernel
theorem d_MO_span_60 : decode b_MO_span 60 = .ok (.iload 4, 2) := by decide +kernel
theorem d_MO_span_62 : decode b_MO_span 62 = .ok (.isub, 1) := by decide +kernel
theorem d_MO_span_63 : decode b_MO_span 63 = .ok (.istore 5, 2) := by decide +kernel
theorem d_MO_span_65 : decode b_MO_span 65 = .ok (.aload_n 0, 1) := by decide +kernel
theorem d_MO_span_66 : decode b_MO_span 66 = .ok (.invokevirtual 134, 3) := by decide +kernel
theorem d_MO_span_69 : decode b_MO_span 69 = .ok (.aload_n 0, 1) := by decide +kernel
theorem d_MO_span_70 : decode b_MO_span 70 = .ok (.getfield 37, 3) := by decide +kernel
theorem d_MO_span_73 : decode b_MO_span 73 = .ok (.iload_n 1, 1) := by decide +kernel
theorem d_MO_span_74 : decode b_MO_span 74 = .ok (.iconst 1, 1) := by decide +kernel
theorem d_MO_span_75 : decode b_MO_span 75 = .ok (.iload 5, 2) := by decide +kernel
theorem d_MO_span_77 : decode b_MO_span 77 = .ok (.ishl, 1) := by decide +kernel
theorem d_MO_span_78 : decode b_MO_span 78 = .ok (.iastore, 1) := by decide +kernel
theorem d_MO_span_79 : decode b_MO_span 79 = .ok (.aload_n 0, 1) := by decide +kernel
theorem d_MO_span_80 : decode b_MO_span 80 = .ok (.invokevirtual 137, 3) := by decide +kernel
theorem d_MO_span_83 : decode b_MO_span 83 = .ok (.aload_n 0, 1) := by decide +kernel
theorem d_MO_span_84 : decode b_MO_span 84 = .ok (.bipush 74, 2) := by decide +kernel
theorem d_MO_span_86 : decode b_MO_span 86 = .ok (.invokevirtual 147, 3) := by decide +kernel
theorem d_MO_span_89 : decode b_MO_span 89 = .ok (.ifCond .eq 7, 3) := by decide +kernel
theorem d_MO_span_92 : decode b_MO_span 92 = .ok (.iconst (-1), 1) := by decide +kernel
theorem d_MO_span_93 : decode b_MO_span 93 = .ok (.goto 5, 3) := by decide +kernel
theorem d_MO_span_96 : decode b_MO_span 96 = .ok (.iload 5, 2) := by decide +kernel
theorem d_MO_span_98 : decode b_MO_span 98 = .ok (.istore_n 3, 1) := by decide +kernel
theorem d_MO_span_99 : decode b_MO_span 99 = .ok (.iinc 4 1, 3) := by decide +kernel
theorem d_MO_span_102 : decode b_MO_span 102 = .ok (.goto (-65), 3) := by decide +kernel
theorem d_MO_span_105 : decode b_MO_span 105 = .ok (.iload_n 3, 1) := by decide +kernel
theorem d_MO_span_106 : decode b_MO_span 106 = .ok (.ireturn, 1) := by decide +kernel
theorem d_MO_isNothing_0 : decode b_MO_isNothing 0 = .ok (.iconst 1, 1) := by decide +kernel
theorem d_MO_isNothing_1 : decode b_MO_isNothing 1 = .ok (.istore_n 2, 1) := by decide +kernel
theorem d_MO_isNothing_2 : decode b_MO_isNothing 2 = .ok (.iconst 0, 1) := by decide +kernel
theorem d_MO_isNothing_3 : decode b_MO_isNothing 3 = .ok (.istore_n 3, 1) := by decide +kernel
theorem d_MO_isNothing_4 : decode b_MO_isNothing 4 = .ok (.iload_n 3, 1) := by decide +kernel
theorem d_MO_isNothing_5 : decode b_MO_isNothing 5 = .ok (.bipush 12, 2) := by decide +kernel
theorem d_MO_isNothing_7 : decode b_MO_isNothing 7 = .ok (.if_icmp .ge 33, 3) := by decide +kernel
theorem d_MO_isNothing_10 : decode b_MO_isNothing 10 = .ok (.iload_n 2, 1) := by decide +kernel
theorem d_MO_isNothing_11 : decode b_MO_isNothing 11 = .ok (.ifCond .eq 21, 3) := by decide +kernel
theorem d_MO_isNothing_14 : decode b_MO_isNothing 14 = .ok (.aload_n 0, 1) := by decide +kernel
theorem d_MO_isNothing_15 : decode b_MO_isNothing 15 = .ok (.getfield 31, 3) := by decide +kernel
theorem d_MO_isNothing_18 : decode b_MO_isNothing 18 = .ok (.bipush 12, 2) := by decide +kernel
theorem d_MO_isNothing_20 : decode b_MO_isNothing 20 = .ok (.iload_n 1, 1) := by decide +kernel
theorem d_MO_isNothing_21 : decode b_MO_isNothing 21 = .ok (.imul, 1) := by decide +kernel
theorem d_MO_isNothing_22 : decode b_MO_isNothing 22 = .ok (.iload_n 3, 1) := by decide +kernel
theorem d_MO_isNothing_23 : decode b_MO_isNothing 23 = .ok (.iadd, 1) := by decide +kernel
theorem d_MO_isNothing_24 : decode b_MO_isNothing 24 = .ok (.iaload, 1) := by decide +kernel
theorem d_MO_isNothing_25 : decode b_MO_isNothing 25 = .ok (.ifCond .ne 7, 3) := by decide +kernel
theorem d_MO_isNothing_28 : decode b_MO_isNothing 28 = .ok (.iconst 1, 1) := by decide +kernel
theorem d_MO_isNothing_29 : decode b_MO_isNothing 29 = .ok (.goto 4, 3) := by decide +kernel
theorem d_MO_isNothing_32 : decode b_MO_isNothing 32 = .ok (.iconst 0, 1) := by decide +kernel
theorem d_MO_isNothing_33 : decode b_MO_isNothing 33 = .ok (.istore_n 2, 1) := by decide +kernel
theorem d_MO_isNothing_34 : decode b_MO_isNothing 34 = .ok (.iinc 3 1, 3) := by decide +kernel
theorem d_MO_isNothing_37 : decode b_MO_isNothing 37 = .ok (.goto (-33), 3) := by decide +kernel
theorem d_MO_isNothing_40 : decode b_MO_isNothing 40 = .ok (.iload_n 2, 1) := by decide +kernel
theorem d_MO_isNothing_41 : decode b_MO_isNothing 41 = .ok (.ireturn, 1) := by decide +kernel
theorem d_MO_narrow_0 : decode b_MO_narrow 0 = .ok (.aload_n 0, 1) := by decide +kernel
theorem d_MO_narrow_1 : decode b_MO_narrow 1 = .ok (.aload_n 0, 1) := by decide +kernel
theorem d_MO_narrow_2 : decode b_MO_narrow 2 = .ok (.iload_n 1, 1) := by decide +kernel
theorem d_MO_narrow_3 : decode b_MO_narrow 3 = .ok (.invokevirtual 55, 3) := by decide +kernel
theorem d_MO_narrow_6 : decode b_MO_narrow 6 = .ok (.iload_n 2, 1) := by decide +kernel
theorem d_MO_narrow_7 : decode b_MO_narrow 7 = .ok (.iconst 1, 1) := by decide +kernel
theorem d_MO_narrow_8 : decode b_MO_narrow 8 = .ok (.if_icmp .lt 19, 3) := by decide +kernel
theorem d_MO_narrow_11 : decode b_MO_narrow 11 = .ok (.iload_n 2, 1) := by decide +kernel
theorem d_MO_narrow_12 : decode b_MO_narrow 12 = .ok (.iload_n 3, 1) := by decide +kernel
theorem d_MO_narrow_13 : decode b_MO_narrow 13 = .ok (.if_icmp .gt 14, 3) := by decide +kernel
theorem d_MO_narrow_16 : decode b_MO_narrow 16 = .ok (.iload_n 3, 1) := by decide +kernel
theorem d_MO_narrow_17 : decode b_MO_narrow 17 = .ok (.sipush 1000, 3) := by decide +kernel
theorem d_MO_narrow_20 : decode b_MO_narrow 20 = .ok (.if_icmp .gt 7, 3) := by decide +kernel
theorem d_MO_narrow_23 : decode b_MO_narrow 23 = .ok (.iconst 1, 1) := by decide +kernel
theorem d_MO_narrow_24 : decode b_MO_narrow 24 = .ok (.goto 4, 3) := by decide +kernel
theorem d_MO_narrow_27 : decode b_MO_narrow 27 = .ok (.iconst 0, 1) := by decide +kernel
theorem d_MO_narrow_28 : decode b_MO_narrow 28 = .ok (.iconst 1, 1) := by decide +kernel
theorem d_MO_narrow_29 : decode b_MO_narrow 29 = .ok (.invokevirtual 51, 3) := by decide +kernel
theorem d_MO_narrow_32 : decode b_MO_narrow 32 = .ok (.ifCond .ne 5, 3) := by decide +kernel
theorem d_MO_narrow_35 : decode b_MO_narrow 35 = .ok (.iconst 0, 1) := by decide +kernel
theorem d_MO_narrow_36 : decode b_MO_narrow 36 = .ok (.ireturn, 1) := by decide +kernel
theorem d_MO_narrow_37 : decode b_MO_narrow 37 = .ok (.aload_n 0, 1) := by decide +kernel
theorem d_MO_narrow_38 : decode b_MO_narrow 38 = .ok (.invokevirtual 134, 3) := by decide +kernel
theorem d_MO_narrow_41 : decode b_MO_narrow 41 = .ok (.aload_n 0, 1) := by decide +kernel
theorem d_MO_narrow_42 : decode b_MO_narrow 42 = .ok (.invokevirtual 137, 3) := by decide +kernel
theorem d_MO_narrow_45 : decode b_MO_narrow 45 = .ok (.aload_n 0, 1) := by decide +kernel
theorem d_MO_narrow_46 : decode b_MO_narrow 46 = .ok (.bipush 74, 2) := by decide +kernel
theorem d_MO_narrow_48 : decode b_MO_narrow 48 = .ok (.invokevirtual 147, 3) := by decide +kernel
theorem d_MO_narrow_51 : decode b_MO_narrow 51 = .ok (.ifCond .eq 5, 3) := by decide +kernel
theorem d_MO_narrow_54 : decode b_MO_narrow 54 = .ok (.iconst (-1), 1) := by decide +kernel
theorem d_MO_narrow_55 : decode b_MO_narrow 55 = .ok (.ireturn, 1) := by decide +kernel
theorem d_MO_narrow_56 : decode b_MO_narrow 56 = .ok (.aload_n 0, 1) := by decide +kernel
theorem d_MO_narrow_57 : decode b_MO_narrow 57 = .ok (.bipush 75, 2) := by decide +kernel
theorem d_MO_narrow_59 : decode b_MO_narrow 59 = .ok (.bipush 74, 2) := by decide +kernel
theorem d_MO_narrow_61 : decode b_MO_narrow 61 = .ok (.invokevirtual 128, 3) := by decide +kernel
theorem d_MO_narrow_64 : decode b_MO_narrow 64 = .ok (.aload_n 0, 1) := by decide +kernel
theorem d_MO_narrow_65 : decode b_MO_narrow 65 = .ok (.bipush 76, 2) := by decide +kernel
theorem d_MO_narrow_67 : decode b_MO_narrow 67 = .ok (.iload_n 2, 1) := by decide +kernel
theorem d_MO_narrow_68 : decode b_MO_narrow 68 = .ok (.invokevirtual 92, 3) := by decide +kernel
theorem d_MO_narrow_71 : decode b_MO_narrow 71 = .ok (.aload_n 0, 1) := by decide +kernel
theorem d_MO_narrow_72 : decode b_MO_narrow 72 = .ok (.bipush 75, 2) := by decide +kernel
theorem d_MO_narrow_74 : decode b_MO_narrow 74 = .ok (.bipush 76, 2) := by decide +kernel
theorem d_MO_narrow_76 : decode b_MO_narrow 76 = .ok (.invokevirtual 99, 3) := by decide +kernel
theorem d_MO_narrow_79 : decode b_MO_narrow 79 = .ok (.aload_n 0, 1) := by decide +kernel
theorem d_MO_narrow_80 : decode b_MO_narrow 80 = .ok (.bipush 76, 2) := by decide +kernel
theorem d_MO_narrow_82 : decode b_MO_narrow 82 = .ok (.iload_n 3, 1) := by decide +kernel
theorem d_MO_narrow_83 : decode b_MO_narrow 83 = .ok (.invokevirtual 92, 3) := by decide +kernel
theorem d_MO_narrow_86 : decode b_MO_narrow 86 = .ok (.iconst 0, 1) := by decide +kernel
theorem d_MO_narrow_87 : decode b_MO_narrow 87 = .ok (.istore 4, 2) := by decide +kernel
theorem d_MO_narrow_89 : decode b_MO_narrow 89 = .ok (.iload 4, 2) := by decide +kernel
theorem d_MO_narrow_91 : decode b_MO_narrow 91 = .ok (.bipush 12, 2) := by decide +kernel
theorem d_MO_narrow_93 : decode b_MO_narrow 93 = .ok (.if_icmp .ge 46, 3) := by decide +kernel
theorem d_MO_narrow_96 : decode b_MO_narrow 96 = .ok (.aload_n 0, 1) := by decide +kernel
theorem d_MO_narrow_97 : decode b_MO_narrow 97 = .ok (.invokevirtual 134, 3) := by decide +kernel
theorem d_MO_narrow_100 : decode b_MO_narrow 100 = .ok (.aload_n 0, 1) := by decide +kernel
theorem d_MO_narrow_101 : decode b_MO_narrow 101 = .ok (.getfield 37, 3) := by decide +kernel
theorem d_MO_narrow_104 : decode b_MO_narrow 104 = .ok (.iload_n 1, 1) := by decide +kernel
theorem d_MO_narrow_105 : decode b_MO_narrow 105 = .ok (.iconst 1, 1) := by decide +kernel
theorem d_MO_narrow_106 : decode b_MO_narrow 106 = .ok (.iload 4, 2) := by decide +kernel
theorem d_MO_narrow_108 : decode b_MO_narrow 108 = .ok (.ishl, 1) := by decide +kernel
theorem d_MO_narrow_109 : decode b_MO_narrow 109 = .ok (.iastore, 1) := by decide +kernel
theorem d_MO_narrow_110 : decode b_MO_narrow 110 = .ok (.aload_n 0, 1) := by decide +kernel
theorem d_MO_narrow_111 : decode b_MO_narrow 111 = .ok (.invokevirtual 137, 3) := by decide +kernel
theorem d_MO_narrow_114 : decode b_MO_narrow 114 = .ok (.aload_n 0, 1) := by decide +kernel
theorem d_MO_narrow_115 : decode b_MO_narrow 115 = .ok (.bipush 74, 2) := by decide +kernel
theorem d_MO_narrow_117 : decode b_MO_narrow 117 = .ok (.bipush 76, 2) := by decide +kernel
theorem d_MO_narrow_119 : decode b_MO_narrow 119 = .ok (.invokevirtual 99, 3) := by decide +kernel
theorem d_MO_narrow_122 : decode b_MO_narrow 122 = .ok (.aload_n 0, 1) := by decide +kernel
theorem d_MO_narrow_123 : decode b_MO_narrow 123 = .ok (.bipush 79, 2) := by decide +kernel
theorem d_MO_narrow_125 : decode b_MO_narrow 125 = .ok (.iload 4, 2) := by decide +kernel
theorem d_MO_narrow_127 : decode b_MO_narrow 127 = .ok (.iadd, 1) := by decide +kernel
theorem d_MO_narrow_128 : decode b_MO_narrow 128 = .ok (.bipush 74, 2) := by decide +kernel
theorem d_MO_narrow_130 : decode b_MO_narrow 130 = .ok (.invokevirtual 128, 3) := by decide +kernel
theorem d_MO_narrow_133 : decode b_MO_narrow 133 = .ok (.iinc 4 1, 3) := by decide +kernel
theorem d_MO_narrow_136 : decode b_MO_narrow 136 = .ok (.goto (-47), 3) := by decide +kernel
theorem d_MO_narrow_139 : decode b_MO_narrow 139 = .ok (.iconst 0, 1) := by decide +kernel
theorem d_MO_narrow_140 : decode b_MO_narrow 140 = .ok (.istore 4, 2) := by decide +kernel
theorem d_MO_narrow_142 : decode b_MO_narrow 142 = .ok (.iload 4, 2) := by decide +kernel
theorem d_MO_narrow_144 : decode b_MO_narrow 144 = .ok (.bipush 12, 2) := by decide +kernel
theorem d_MO_narrow_146 : decode b_MO_narrow 146 = .ok (.if_icmp .ge 89, 3) := by decide +kernel
theorem d_MO_narrow_149 : decode b_MO_narrow 149 = .ok (.iconst 0, 1) := by decide +kernel
theorem d_MO_narrow_150 : decode b_MO_narrow 150 = .ok (.istore 5, 2) := by decide +kernel
theorem d_MO_narrow_152 : decode b_MO_narrow 152 = .ok (.iload 5, 2) := by decide +kernel
theorem d_MO_narrow_154 : decode b_MO_narrow 154 = .ok (.iload 4, 2) := by decide +kernel
theorem d_MO_narrow_156 : decode b_MO_narrow 156 = .ok (.iadd, 1) := by decide +kernel
theorem d_MO_narrow_157 : decode b_MO_narrow 157 = .ok (.bipush 12, 2) := by decide +kernel
theorem d_MO_narrow_159 : decode b_MO_narrow 159 = .ok (.if_icmp .ge 70, 3) := by decide +kernel
theorem d_MO_narrow_162 : decode b_MO_narrow 162 = .ok (.aload_n 0, 1) := by decide +kernel
theorem d_MO_narrow_163 : decode b_MO_narrow 163 = .ok (.bipush 78, 2) := by decide +kernel
theorem d_MO_narrow_165 : decode b_MO_narrow 165 = .ok (.iconst 0, 1) := by decide +kernel
theorem d_MO_narrow_166 : decode b_MO_narrow 166 = .ok (.invokevirtual 92, 3) := by decide +kernel
theorem d_MO_narrow_169 : decode b_MO_narrow 169 = .ok (.iload 5, 2) := by decide +kernel
theorem d_MO_narrow_171 : decode b_MO_narrow 171 = .ok (.istore 6, 2) := by decide +kernel
theorem d_MO_narrow_173 : decode b_MO_narrow 173 = .ok (.iload 6, 2) := by decide +kernel
theorem d_MO_narrow_175 : decode b_MO_narrow 175 = .ok (.iload 5, 2) := by decide +kernel
theorem d_MO_narrow_177 : decode b_MO_narrow 177 = .ok (.iload 4, 2) := by decide +kernel
theorem d_MO_narrow_179 : decode b_MO_narrow 179 = .ok (.iadd, 1) := by decide +kernel
theorem d_MO_narrow_180 : decode b_MO_narrow 180 = .ok (.if_icmp .gt 20, 3) := by decide +kernel
theorem d_MO_narrow_183 : decode b_MO_narrow 183 = .ok (.aload_n 0, 1) := by decide +kernel
theorem d_MO_narrow_184 : decode b_MO_narrow 184 = .ok (.bipush 78, 2) := by decide +kernel
theorem d_MO_narrow_186 : decode b_MO_narrow 186 = .ok (.bipush 79, 2) := by decide +kernel
theorem d_MO_narrow_188 : decode b_MO_narrow 188 = .ok (.iload 6, 2) := by decide +kernel
theorem d_MO_narrow_190 : decode b_MO_narrow 190 = .ok (.iadd, 1) := by decide +kernel
theorem d_MO_narrow_191 : decode b_MO_narrow 191 = .ok (.invokevirtual 96, 3) := by decide +kernel
theorem d_MO_narrow_194 : decode b_MO_narrow 194 = .ok (.iinc 6 1, 3) := by decide +kernel
theorem d_MO_narrow_197 : decode b_MO_narrow 197 = .ok (.goto (-24), 3) := by decide +kernel
theorem d_MO_narrow_200 : decode b_MO_narrow 200 = .ok (.aload_n 0, 1) := by decide +kernel
theorem d_MO_narrow_201 : decode b_MO_narrow 201 = .ok (.bipush 78, 2) := by decide +kernel
theorem d_MO_narrow_203 : decode b_MO_narrow 203 = .ok (.bipush 75, 2) := by decide +kernel
theorem d_MO_narrow_205 : decode b_MO_narrow 205 = .ok (.invokevirtual 150, 3) := by decide +kernel
theorem d_MO_narrow_208 : decode b_MO_narrow 208 = .ok (.ifCond .ne 15, 3) := by decide +kernel
theorem d_MO_narrow_211 : decode b_MO_narrow 211 = .ok (.bipush 100, 2) := by decide +kernel
theorem d_MO_narrow_213 : decode b_MO_narrow 213 = .ok (.iload 5, 2) := by decide +kernel
theorem d_MO_narrow_215 : decode b_MO_narrow 215 = .ok (.imul, 1) := by decide +kernel
theorem d_MO_narrow_216 : decode b_MO_narrow 216 = .ok (.iload 5, 2) := by decide +kernel
theorem d_MO_narrow_218 : decode b_MO_narrow 218 = .ok (.iadd, 1) := by decide +kernel
theorem d_MO_narrow_219 : decode b_MO_narrow 219 = .ok (.iload 4, 2) := by decide +kernel
theorem d_MO_narrow_221 : decode b_MO_narrow 221 = .ok (.iadd, 1) := by decide +kernel
theorem d_MO_narrow_222 : decode b_MO_narrow 222 = .ok (.ireturn, 1) := by decide +kernel
theorem d_MO_narrow_223 : decode b_MO_narrow 223 = .ok (.iinc 5 1, 3) := by decide +kernel
theorem d_MO_narrow_226 : decode b_MO_narrow 226 = .ok (.goto (-74), 3) := by decide +kernel
theorem d_MO_narrow_229 : decode b_MO_narrow 229 = .ok (.iinc 4 1, 3) := by decide +kernel
theorem d_MO_narrow_232 : decode b_MO_narrow 232 = .ok (.goto (-90), 3) := by decide +kernel
theorem d_MO_narrow_235 : decode b_MO_narrow 235 = .ok (.iconst (-1), 1) := by decide +kernel
theorem d_MO_narrow_236 : decode b_MO_narrow 236 = .ok (.ireturn, 1) := by decide +kernel
theorem d_MO_isLess_0 : decode b_MO_isLess 0 = .ok (.iconst 0, 1) := by decide +kernel
theorem d_MO_isLess_1 : decode b_MO_isLess 1 = .ok (.istore_n 3, 1) := by decide +kernel
theorem d_MO_isLess_2 : decode b_MO_isLess 2 = .ok (.iconst 0, 1) := by decide +kernel
theorem d_MO_isLess_3 : decode b_MO_isLess 3 = .ok (.istore 4, 2) := by decide +kernel
theorem d_MO_isLess_5 : decode b_MO_isLess 5 = .ok (.iload 4, 2) := by decide +kernel
theorem d_MO_isLess_7 : decode b_MO_isLess 7 = .ok (.bipush 12, 2) := by decide +kernel
theorem d_MO_isLess_9 : decode b_MO_isLess 9 = .ok (.if_icmp .ge 61, 3) := by decide +kernel
theorem d_MO_isLess_12 : decode b_MO_isLess 12 = .ok (.aload_n 0, 1) := by decide +kernel
theorem d_MO_isLess_13 : decode b_MO_isLess 13 = .ok (.getfield 31, 3) := by decide +kernel
theorem d_MO_isLess_16 : decode b_MO_isLess 16 = .ok (.bipush 12, 2) := by decide +kernel
theorem d_MO_isLess_18 : decode b_MO_isLess 18 = .ok (.iload_n 1, 1) := by decide +kernel
theorem d_MO_isLess_19 : decode b_MO_isLess 19 = .ok (.imul, 1) := by decide +kernel
theorem d_MO_isLess_20 : decode b_MO_isLess 20 = .ok (.iload 4, 2) := by decide +kernel
theorem d_MO_isLess_22 : decode b_MO_isLess 22 = .ok (.iadd, 1) := by decide +kernel
theorem d_MO_isLess_23 : decode b_MO_isLess 23 = .ok (.iaload, 1) := by decide +kernel
theorem d_MO_isLess_24 : decode b_MO_isLess 24 = .ok (.istore 5, 2) := by decide +kernel
theorem d_MO_isLess_26 : decode b_MO_isLess 26 = .ok (.aload_n 0, 1) := by decide +kernel
theorem d_MO_isLess_27 : decode b_MO_isLess 27 = .ok (.getfield 31, 3) := by decide +kernel
theorem d_MO_isLess_30 : decode b_MO_isLess 30 = .ok (.bipush 12, 2) := by decide +kernel
theorem d_MO_isLess_32 : decode b_MO_isLess 32 = .ok (.iload_n 2, 1) := by decide +kernel
theorem d_MO_isLess_33 : decode b_MO_isLess 33 = .ok (.imul, 1) := by decide +kernel
theorem d_MO_isLess_34 : decode b_MO_isLess 34 = .ok (.iload 4, 2) := by decide +kernel
theorem d_MO_isLess_36 : decode b_MO_isLess 36 = .ok (.iadd, 1) := by decide +kernel
theorem d_MO_isLess_37 : decode b_MO_isLess 37 = .ok (.iaload, 1) := by decide +kernel
theorem d_MO_isLess_38 : decode b_MO_isLess 38 = .ok (.istore 6, 2) := by decide +kernel
theorem d_MO_isLess_40 : decode b_MO_isLess 40 = .ok (.iload 5, 2) := by decide +kernel
theorem d_MO_isLess_42 : decode b_MO_isLess 42 = .ok (.iload 6, 2) := by decide +kernel
theorem d_MO_isLess_44 : decode b_MO_isLess 44 = .ok (.if_icmp .ne 7, 3) := by decide +kernel
theorem d_MO_isLess_47 : decode b_MO_isLess 47 = .ok (.iload_n 3, 1) := by decide +kernel
theorem d_MO_isLess_48 : decode b_MO_isLess 48 = .ok (.goto 15, 3) := by decide +kernel
theorem d_MO_isLess_51 : decode b_MO_isLess 51 = .ok (.iload 5, 2) := by decide +kernel
theorem d_MO_isLess_53 : decode b_MO_isLess 53 = .ok (.iload 6, 2) := by decide +kernel
theorem d_MO_isLess_55 : decode b_MO_isLess 55 = .ok (.if_icmp .ge 7, 3) := by decide +kernel
theorem d_MO_isLess_58 : decode b_MO_isLess 58 = .ok (.iconst 1, 1) := by decide +kernel
theorem d_MO_isLess_59 : decode b_MO_isLess 59 = .ok (.goto 4, 3) := by decide +kernel
theorem d_MO_isLess_62 : decode b_MO_isLess 62 = .ok (.iconst 0, 1) := by decide +kernel
theorem d_MO_isLess_63 : decode b_MO_isLess 63 = .ok (.istore_n 3, 1) := by decide +kernel
theorem d_MO_isLess_64 : decode b_MO_isLess 64 = .ok (.iinc 4 1, 3) := by decide +kernel
theorem d_MO_isLess_67 : decode b_MO_isLess 67 = .ok (.goto (-62), 3) := by decide +kernel
theorem d_MO_isLess_70 : decode b_MO_isLess 70 = .ok (.iload_n 3, 1) := by decide +kernel
theorem d_MO_isLess_71 : decode b_MO_isLess 71 = .ok (.ireturn, 1) := by decide +kernel
theorem d_MO_fits_0 : decode b_MO_fits 0 = .ok (.aload_n 0, 1) := by decide +kernel
theorem d_MO_fits_1 : decode b_MO_fits 1 = .ok (.iconst 0, 1) := by decide +kernel
theorem d_MO_fits_2 : decode b_MO_fits 2 = .ok (.putfield 40, 3) := by decide +kernel
theorem d_MO_fits_5 : decode b_MO_fits 5 = .ok (.aload_n 0, 1) := by decide +kernel
theorem d_MO_fits_6 : decode b_MO_fits 6 = .ok (.invokevirtual 134, 3) := by decide +kernel
theorem d_MO_fits_9 : decode b_MO_fits 9 = .ok (.aload_n 0, 1) := by decide +kernel
theorem d_MO_fits_10 : decode b_MO_fits 10 = .ok (.invokevirtual 137, 3) := by decide +kernel
theorem d_MO_fits_13 : decode b_MO_fits 13 = .ok (.aload_n 0, 1) := by decide +kernel
theorem d_MO_fits_14 : decode b_MO_fits 14 = .ok (.bipush 74, 2) := by decide +kernel
theorem d_MO_fits_16 : decode b_MO_fits 16 = .ok (.invokevirtual 147, 3) := by decide +kernel
theorem d_MO_fits_19 : decode b_MO_fits 19 = .ok (.ifCond .ne 7, 3) := by decide +kernel
theorem d_MO_fits_22 : decode b_MO_fits 22 = .ok (.iconst 1, 1) := by decide +kernel
theorem d_MO_fits_23 : decode b_MO_fits 23 = .ok (.goto 4, 3) := by decide +kernel
theorem d_MO_fits_26 : decode b_MO_fits 26 = .ok (.iconst 0, 1) := by decide +kernel
theorem d_MO_fits_27 : decode b_MO_fits 27 = .ok (.ireturn, 1) := by decide +kernel
theorem d_MO_fitless_0 : decode b_MO_fitless 0 = .ok (.aload_n 0, 1) := by decide +kernel
theorem d_MO_fitless_1 : decode b_MO_fitless 1 = .ok (.iload_n 1, 1) := by decide +kernel
theorem d_MO_fitless_2 : decode b_MO_fitless 2 = .ok (.ifCond .lt 7, 3) := by decide +kernel
theorem d_MO_fitless_5 : decode b_MO_fitless 5 = .ok (.iconst 1, 1) := by decide +kernel
theorem d_MO_fitless_6 : decode b_MO_fitless 6 = .ok (.goto 4, 3) := by decide +kernel
theorem d_MO_fitless_9 : decode b_MO_fitless 9 = .ok (.iconst 0, 1) := by decide +kernel
theorem d_MO_fitless_10 : decode b_MO_fitless 10 = .ok (.iconst 1, 1) := by decide +kernel
theorem d_MO_fitless_11 : decode b_MO_fitless 11 = .ok (.iconst 1, 1) := by decide +kernel
theorem d_MO_fitless_12 : decode b_MO_fitless 12 = .ok (.invokevirtual 51, 3) := by decide +kernel
theorem d_MO_fitless_15 : decode b_MO_fitless 15 = .ok (.ifCond .ne 5, 3) := by decide +kernel
theorem d_MO_fitless_18 : decode b_MO_fitless 18 = .ok (.iconst 0, 1) := by decide +kernel
theorem d_MO_fitless_19 : decode b_MO_fitless 19 = .ok (.ireturn, 1) := by decide +kernel
theorem d_MO_fitless_20 : decode b_MO_fitless 20 = .ok (.aload_n 0, 1) := by decide +kernel
theorem d_MO_fitless_21 : decode b_MO_fitless 21 = .ok (.invokevirtual 134, 3) := by decide +kernel
theorem d_MO_fitless_24 : decode b_MO_fitless 24 = .ok (.aload_n 0, 1) := by decide +kernel
theorem d_MO_fitless_25 : decode b_MO_fitless 25 = .ok (.invokevirtual 137, 3) := by decide +kernel
theorem d_MO_fitless_28 : decode b_MO_fitless 28 = .ok (.aload_n 0, 1) := by decide +kernel
theorem d_MO_fitless_29 : decode b_MO_fitless 29 = .ok (.bipush 74, 2) := by decide +kernel
theorem d_MO_fitless_31 : decode b_MO_fitless 31 = .ok (.invokevirtual 147, 3) := by decide +kernel
theorem d_MO_fitless_34 : decode b_MO_fitless 34 = .ok (.ifCond .ne 5, 3) := by decide +kernel
theorem d_MO_fitless_37 : decode b_MO_fitless 37 = .ok (.iconst (-1), 1) := by decide +kernel
theorem d_MO_fitless_38 : decode b_MO_fitless 38 = .ok (.ireturn, 1) := by decide +kernel
theorem d_MO_fitless_39 : decode b_MO_fitless 39 = .ok (.aload_n 0, 1) := by decide +kernel
theorem d_MO_fitless_40 : decode b_MO_fitless 40 = .ok (.getfield 76, 3) := by decide +kernel
theorem d_MO_fitless_43 : decode b_MO_fitless 43 = .ok (.istore_n 2, 1) := by decide +kernel
theorem d_MO_fitless_44 : decode b_MO_fitless 44 = .ok (.iconst 0, 1) := by decide +kernel
theorem d_MO_fitless_45 : decode b_MO_fitless 45 = .ok (.istore_n 3, 1) := by decide +kernel
theorem d_MO_fitless_46 : decode b_MO_fitless 46 = .ok (.iload_n 3, 1) := by decide +kernel
theorem d_MO_fitless_47 : decode b_MO_fitless 47 = .ok (.aload_n 0, 1) := by decide +kernel
theorem d_MO_fitless_48 : decode b_MO_fitless 48 = .ok (.getfield 59, 3) := by decide +kernel
theorem d_MO_fitless_51 : decode b_MO_fitless 51 = .ok (.if_icmp .ge 42, 3) := by decide +kernel
theorem d_MO_fitless_54 : decode b_MO_fitless 54 = .ok (.aload_n 0, 1) := by decide +kernel
theorem d_MO_fitless_55 : decode b_MO_fitless 55 = .ok (.iload_n 2, 1) := by decide +kernel
theorem d_MO_fitless_56 : decode b_MO_fitless 56 = .ok (.iconst 1, 1) := by decide +kernel
theorem d_MO_fitless_57 : decode b_MO_fitless 57 = .ok (.iload_n 3, 1) := by decide +kernel
theorem d_MO_fitless_58 : decode b_MO_fitless 58 = .ok (.ishl, 1) := by decide +kernel
theorem d_MO_fitless_59 : decode b_MO_fitless 59 = .ok (.iconst (-1), 1) := by decide +kernel
theorem d_MO_fitless_60 : decode b_MO_fitless 60 = .ok (.ixor, 1) := by decide +kernel
theorem d_MO_fitless_61 : decode b_MO_fitless 61 = .ok (.iand, 1) := by decide +kernel
theorem d_MO_fitless_62 : decode b_MO_fitless 62 = .ok (.putfield 76, 3) := by decide +kernel
theorem d_MO_fitless_65 : decode b_MO_fitless 65 = .ok (.aload_n 0, 1) := by decide +kernel
theorem d_MO_fitless_66 : decode b_MO_fitless 66 = .ok (.invokevirtual 137, 3) := by decide +kernel
theorem d_MO_fitless_69 : decode b_MO_fitless 69 = .ok (.aload_n 0, 1) := by decide +kernel
theorem d_MO_fitless_70 : decode b_MO_fitless 70 = .ok (.bipush 74, 2) := by decide +kernel
theorem d_MO_fitless_72 : decode b_MO_fitless 72 = .ok (.invokevirtual 147, 3) := by decide +kernel
theorem d_MO_fitless_75 : decode b_MO_fitless 75 = .ok (.ifCond .eq 10, 3) := by decide +kernel
theorem d_MO_fitless_78 : decode b_MO_fitless 78 = .ok (.aload_n 0, 1) := by decide +kernel
theorem d_MO_fitless_79 : decode b_MO_fitless 79 = .ok (.getfield 76, 3) := by decide +kernel
theorem d_MO_fitless_82 : decode b_MO_fitless 82 = .ok (.goto 4, 3) := by decide +kernel
theorem d_MO_fitless_85 : decode b_MO_fitless 85 = .ok (.iload_n 2, 1) := by decide +kernel
theorem d_MO_fitless_86 : decode b_MO_fitless 86 = .ok (.istore_n 2, 1) := by decide +kernel
theorem d_MO_fitless_87 : decode b_MO_fitless 87 = .ok (.iinc 3 1, 3) := by decide +kernel
theorem d_MO_fitless_90 : decode b_MO_fitless 90 = .ok (.goto (-44), 3) := by decide +kernel
theorem d_MO_fitless_93 : decode b_MO_fitless 93 = .ok (.iload_n 1, 1) := by decide +kernel
theorem d_MO_fitless_94 : decode b_MO_fitless 94 = .ok (.istore_n 3, 1) := by decide +kernel
theorem d_MO_fitless_95 : decode b_MO_fitless 95 = .ok (.iconst 0, 1) := by decide +kernel
theorem d_MO_fitless_96 : decode b_MO_fitless 96 = .ok (.istore 4, 2) := by decide +kernel
theorem d_MO_fitless_98 : decode b_MO_fitless 98 = .ok (.iload 4, 2) := by decide +kernel
theorem d_MO_fitless_100 : decode b_MO_fitless 100 = .ok (.aload_n 0, 1) := by decide +kernel
theorem d_MO_fitless_101 : decode b_MO_fitless 101 = .ok (.getfield 59, 3) := by decide +kernel
theorem d_MO_fitless_104 : decode b_MO_fitless 104 = .ok (.if_icmp .ge 29, 3) := by decide +kernel
theorem d_MO_fitless_107 : decode b_MO_fitless 107 = .ok (.iload_n 2, 1) := by decide +kernel
theorem d_MO_fitless_108 : decode b_MO_fitless 108 = .ok (.iload 4, 2) := by decide +kernel
theorem d_MO_fitless_110 : decode b_MO_fitless 110 = .ok (.ishr, 1) := by decide +kernel
theorem d_MO_fitless_111 : decode b_MO_fitless 111 = .ok (.iconst 1, 1) := by decide +kernel
theorem d_MO_fitless_112 : decode b_MO_fitless 112 = .ok (.iand, 1) := by decide +kernel
theorem d_MO_fitless_113 : decode b_MO_fitless 113 = .ok (.iconst 1, 1) := by decide +kernel
theorem d_MO_fitless_114 : decode b_MO_fitless 114 = .ok (.if_icmp .ne 13, 3) := by decide +kernel
theorem d_MO_fitless_117 : decode b_MO_fitless 117 = .ok (.iload_n 3, 1) := by decide +kernel
theorem d_MO_fitless_118 : decode b_MO_fitless 118 = .ok (.ifCond .ne 6, 3) := by decide +kernel
theorem d_MO_fitless_121 : decode b_MO_fitless 121 = .ok (.iload 4, 2) := by decide +kernel
theorem d_MO_fitless_123 : decode b_MO_fitless 123 = .ok (.ireturn, 1) := by decide +kernel
theorem d_MO_fitless_124 : decode b_MO_fitless 124 = .ok (.iinc 3 (-1), 3) := by decide +kernel
theorem d_MO_fitless_127 : decode b_MO_fitless 127 = .ok (.iinc 4 1, 3) := by decide +kernel
theorem d_MO_fitless_130 : decode b_MO_fitless 130 = .ok (.goto (-32), 3) := by decide +kernel
theorem d_MO_fitless_133 : decode b_MO_fitless 133 = .ok (.iconst (-1), 1) := by decide +kernel
theorem d_MO_fitless_134 : decode b_MO_fitless 134 = .ok (.ireturn, 1) := by decide +kernel
theorem d_MO_count_0 : decode b_MO_count 0 = .ok (.aload_n 0, 1) := by decide +kernel
theorem d_MO_count_1 : decode b_MO_count 1 = .ok (.iload_n 1, 1) := by decide +kernel
theorem d_MO_count_2 : decode b_MO_count 2 = .ok (.iconst 3, 1) := by decide +kernel
theorem d_MO_count_3 : decode b_MO_count 3 = .ok (.invokestatic 47, 3) := by decide +kernel
theorem d_MO_count_6 : decode b_MO_count 6 = .ok (.iconst 1, 1) := by decide +kernel
theorem d_MO_count_7 : decode b_MO_count 7 = .ok (.iconst 1, 1) := by decide +kernel
theorem d_MO_count_8 : decode b_MO_count 8 = .ok (.invokevirtual 51, 3) := by decide +kernel
theorem d_MO_count_11 : decode b_MO_count 11 = .ok (.ifCond .ne 5, 3) := by decide +kernel
theorem d_MO_count_14 : decode b_MO_count 14 = .ok (.iconst 0, 1) := by decide +kernel
theorem d_MO_count_15 : decode b_MO_count 15 = .ok (.ireturn, 1) := by decide +kernel
theorem d_MO_count_16 : decode b_MO_count 16 = .ok (.iconst 0, 1) := by decide +kernel
theorem d_MO_count_17 : decode b_MO_count 17 = .ok (.istore_n 2, 1) := by decide +kernel
theorem d_MO_count_18 : decode b_MO_count 18 = .ok (.iconst 0, 1) := by decide +kernel
theorem d_MO_count_19 : decode b_MO_count 19 = .ok (.istore_n 3, 1) := by decide +kernel
theorem d_MO_count_20 : decode b_MO_count 20 = .ok (.iload_n 3, 1) := by decide +kernel
theorem d_MO_count_21 : decode b_MO_count 21 = .ok (.aload_n 0, 1) := by decide +kernel
theorem d_MO_count_22 : decode b_MO_count 22 = .ok (.getfield 59, 3) := by decide +kernel
theorem d_MO_count_25 : decode b_MO_count 25 = .ok (.if_icmp .ge 25, 3) := by decide +kernel
theorem d_MO_count_28 : decode b_MO_count 28 = .ok (.aload_n 0, 1) := by decide +kernel
theorem d_MO_count_29 : decode b_MO_count 29 = .ok (.iload_n 3, 1) := by decide +kernel
theorem d_MO_count_30 : decode b_MO_count 30 = .ok (.invokevirtual 62, 3) := by decide +kernel
theorem d_MO_count_33 : decode b_MO_count 33 = .ok (.ifCond .eq 9, 3) := by decide +kernel
theorem d_MO_count_36 : decode b_MO_count 36 = .ok (.iload_n 2, 1) := by decide +kernel
theorem d_MO_count_37 : decode b_MO_count 37 = .ok (.iconst 1, 1) := by decide +kernel
theorem d_MO_count_38 : decode b_MO_count 38 = .ok (.iadd, 1) := by decide +kernel
theorem d_MO_count_39 : decode b_MO_count 39 = .ok (.goto 4, 3) := by decide +kernel
theorem d_MO_count_42 : decode b_MO_count 42 = .ok (.iload_n 2, 1) := by decide +kernel
theorem d_MO_count_43 : decode b_MO_count 43 = .ok (.istore_n 2, 1) := by decide +kernel
theorem d_MO_count_44 : decode b_MO_count 44 = .ok (.iinc 3 1, 3) := by decide +kernel
theorem d_MO_count_47 : decode b_MO_count 47 = .ok (.goto (-27), 3) := by decide +kernel
theorem d_MO_count_50 : decode b_MO_count 50 = .ok (.iload_n 1, 1) := by decide +kernel
theorem d_MO_count_51 : decode b_MO_count 51 = .ok (.ifCond .ne 10, 3) := by decide +kernel
theorem d_MO_count_54 : decode b_MO_count 54 = .ok (.aload_n 0, 1) := by decide +kernel
theorem d_MO_count_55 : decode b_MO_count 55 = .ok (.getfield 44, 3) := by decide +kernel
theorem d_MO_count_58 : decode b_MO_count 58 = .ok (.goto 18, 3) := by decide +kernel
theorem d_MO_count_61 : decode b_MO_count 61 = .ok (.iload_n 1, 1) := by decide +kernel
theorem d_MO_count_62 : decode b_MO_count 62 = .ok (.iconst 1, 1) := by decide +kernel
theorem d_MO_count_63 : decode b_MO_count 63 = .ok (.if_icmp .ne 12, 3) := by decide +kernel
theorem d_MO_count_66 : decode b_MO_count 66 = .ok (.aload_n 0, 1) := by decide +kernel
theorem d_MO_count_67 : decode b_MO_count 67 = .ok (.getfield 59, 3) := by decide +kernel
theorem d_MO_count_70 : decode b_MO_count 70 = .ok (.iload_n 2, 1) := by decide +kernel
theorem d_MO_count_71 : decode b_MO_count 71 = .ok (.isub, 1) := by decide +kernel
theorem d_MO_count_72 : decode b_MO_count 72 = .ok (.goto 4, 3) := by decide +kernel
theorem d_MO_count_75 : decode b_MO_count 75 = .ok (.iload_n 2, 1) := by decide +kernel
theorem d_MO_count_76 : decode b_MO_count 76 = .ok (.ireturn, 1) := by decide +kernel
