theorem d_LA_date_0 : decode b_LA_date 0 = .ok (.aload_n 1, 1) := by decide +kernel
theorem d_LA_date_1 : decode b_LA_date 1 = .ok (.iconst 0, 1) := by decide +kernel
theorem d_LA_date_2 : decode b_LA_date 2 = .ok (.aload_n 0, 1) := by decide +kernel
theorem d_LA_date_3 : decode b_LA_date 3 = .ok (.invokevirtual 7, 3) := by decide +kernel
theorem d_LA_date_6 : decode b_LA_date 6 = .ok (.i2l, 1) := by decide +kernel
theorem d_LA_date_7 : decode b_LA_date 7 = .ok (.lastore, 1) := by decide +kernel
theorem d_LA_date_8 : decode b_LA_date 8 = .ok (.goto 6, 3) := by decide +kernel
theorem d_LA_date_11 : decode b_LA_date 11 = .ok (.astore_n 2, 1) := by decide +kernel
theorem d_LA_date_12 : decode b_LA_date 12 = .ok (.iconst 1, 1) := by decide +kernel
theorem d_LA_date_13 : decode b_LA_date 13 = .ok (.ireturn, 1) := by decide +kernel
theorem d_LA_date_14 : decode b_LA_date 14 = .ok (.iconst 0, 1) := by decide +kernel
theorem d_LA_date_15 : decode b_LA_date 15 = .ok (.ireturn, 1) := by decide +kernel
theorem d_LA_weight_0 : decode b_LA_weight 0 = .ok (.aload 4, 2) := by decide +kernel
theorem d_LA_weight_2 : decode b_LA_weight 2 = .ok (.iconst 0, 1) := by decide +kernel
theorem d_LA_weight_3 : decode b_LA_weight 3 = .ok (.aload_n 0, 1) := by decide +kernel
theorem d_LA_weight_4 : decode b_LA_weight 4 = .ok (.iload_n 1, 1) := by decide +kernel
theorem d_LA_weight_5 : decode b_LA_weight 5 = .ok (.iload_n 2, 1) := by decide +kernel
theorem d_LA_weight_6 : decode b_LA_weight 6 = .ok (.iload_n 3, 1) := by decide +kernel
theorem d_LA_weight_7 : decode b_LA_weight 7 = .ok (.invokevirtual 15, 3) := by decide +kernel
theorem d_LA_weight_10 : decode b_LA_weight 10 = .ok (.i2l, 1) := by decide +kernel
theorem d_LA_weight_11 : decode b_LA_weight 11 = .ok (.lastore, 1) := by decide +kernel
theorem d_LA_weight_12 : decode b_LA_weight 12 = .ok (.goto 11, 3) := by decide +kernel
theorem d_LA_weight_15 : decode b_LA_weight 15 = .ok (.astore 5, 2) := by decide +kernel
theorem d_LA_weight_17 : decode b_LA_weight 17 = .ok (.iconst 1, 1) := by decide +kernel
theorem d_LA_weight_18 : decode b_LA_weight 18 = .ok (.ireturn, 1) := by decide +kernel
theorem d_LA_weight_19 : decode b_LA_weight 19 = .ok (.astore 5, 2) := by decide +kernel
theorem d_LA_weight_21 : decode b_LA_weight 21 = .ok (.iconst 2, 1) := by decide +kernel
theorem d_LA_weight_22 : decode b_LA_weight 22 = .ok (.ireturn, 1) := by decide +kernel
theorem d_LA_weight_23 : decode b_LA_weight 23 = .ok (.iconst 0, 1) := by decide +kernel
theorem d_LA_weight_24 : decode b_LA_weight 24 = .ok (.ireturn, 1) := by decide +kernel
theorem d_LA_outlier_0 : decode b_LA_outlier 0 = .ok (.aload_n 0, 1) := by decide +kernel
theorem d_LA_outlier_1 : decode b_LA_outlier 1 = .ok (.iload_n 1, 1) := by decide +kernel
theorem d_LA_outlier_2 : decode b_LA_outlier 2 = .ok (.iload_n 2, 1) := by decide +kernel
theorem d_LA_outlier_3 : decode b_LA_outlier 3 = .ok (.iload_n 3, 1) := by decide +kernel
theorem d_LA_outlier_4 : decode b_LA_outlier 4 = .ok (.invokevirtual 23, 3) := by decide +kernel
theorem d_LA_outlier_7 : decode b_LA_outlier 7 = .ok (.goto 11, 3) := by decide +kernel
theorem d_LA_outlier_10 : decode b_LA_outlier 10 = .ok (.astore 4, 2) := by decide +kernel
theorem d_LA_outlier_12 : decode b_LA_outlier 12 = .ok (.iconst 1, 1) := by decide +kernel
theorem d_LA_outlier_13 : decode b_LA_outlier 13 = .ok (.ireturn, 1) := by decide +kernel
theorem d_LA_outlier_14 : decode b_LA_outlier 14 = .ok (.astore 4, 2) := by decide +kernel
theorem d_LA_outlier_16 : decode b_LA_outlier 16 = .ok (.iconst 2, 1) := by decide +kernel
theorem d_LA_outlier_17 : decode b_LA_outlier 17 = .ok (.ireturn, 1) := by decide +kernel
theorem d_LA_outlier_18 : decode b_LA_outlier 18 = .ok (.iconst 0, 1) := by decide +kernel
theorem d_LA_outlier_19 : decode b_LA_outlier 19 = .ok (.ireturn, 1) := by decide +kernel
theorem d_LA_row_0 : decode b_LA_row 0 = .ok (.aload 5, 2) := by decide +kernel
theorem d_LA_row_2 : decode b_LA_row 2 = .ok (.iconst 0, 1) := by decide +kernel
theorem d_LA_row_3 : decode b_LA_row 3 = .ok (.aload_n 0, 1) := by decide +kernel
theorem d_LA_row_4 : decode b_LA_row 4 = .ok (.iload_n 1, 1) := by decide +kernel
theorem d_LA_row_5 : decode b_LA_row 5 = .ok (.iload_n 2, 1) := by decide +kernel
theorem d_LA_row_6 : decode b_LA_row 6 = .ok (.iload_n 3, 1) := by decide +kernel
theorem d_LA_row_7 : decode b_LA_row 7 = .ok (.iload 4, 2) := by decide +kernel
theorem d_LA_row_9 : decode b_LA_row 9 = .ok (.invokevirtual 27, 3) := by decide +kernel
theorem d_LA_row_12 : decode b_LA_row 12 = .ok (.i2l, 1) := by decide +kernel
theorem d_LA_row_13 : decode b_LA_row 13 = .ok (.lastore, 1) := by decide +kernel
theorem d_LA_row_14 : decode b_LA_row 14 = .ok (.goto 11, 3) := by decide +kernel
theorem d_LA_row_17 : decode b_LA_row 17 = .ok (.astore 6, 2) := by decide +kernel
theorem d_LA_row_19 : decode b_LA_row 19 = .ok (.iconst 1, 1) := by decide +kernel
theorem d_LA_row_20 : decode b_LA_row 20 = .ok (.ireturn, 1) := by decide +kernel
theorem d_LA_row_21 : decode b_LA_row 21 = .ok (.astore 6, 2) := by decide +kernel
theorem d_LA_row_23 : decode b_LA_row 23 = .ok (.iconst 2, 1) := by decide +kernel
theorem d_LA_row_24 : decode b_LA_row 24 = .ok (.ireturn, 1) := by decide +kernel
theorem d_LA_row_25 : decode b_LA_row 25 = .ok (.iconst 0, 1) := by decide +kernel
theorem d_LA_row_26 : decode b_LA_row 26 = .ok (.ireturn, 1) := by decide +kernel
theorem d_LA_member_0 : decode b_LA_member 0 = .ok (.aload_n 2, 1) := by decide +kernel
theorem d_LA_member_1 : decode b_LA_member 1 = .ok (.iconst 0, 1) := by decide +kernel
theorem d_LA_member_2 : decode b_LA_member 2 = .ok (.aload_n 0, 1) := by decide +kernel
theorem d_LA_member_3 : decode b_LA_member 3 = .ok (.iload_n 1, 1) := by decide +kernel
theorem d_LA_member_4 : decode b_LA_member 4 = .ok (.invokevirtual 31, 3) := by decide +kernel
theorem d_LA_member_7 : decode b_LA_member 7 = .ok (.i2l, 1) := by decide +kernel
theorem d_LA_member_8 : decode b_LA_member 8 = .ok (.lastore, 1) := by decide +kernel
theorem d_LA_member_9 : decode b_LA_member 9 = .ok (.goto 6, 3) := by decide +kernel
theorem d_LA_member_12 : decode b_LA_member 12 = .ok (.astore_n 3, 1) := by decide +kernel
theorem d_LA_member_13 : decode b_LA_member 13 = .ok (.iconst 1, 1) := by decide +kernel
theorem d_LA_member_14 : decode b_LA_member 14 = .ok (.ireturn, 1) := by decide +kernel
theorem d_LA_member_15 : decode b_LA_member 15 = .ok (.iconst 0, 1) := by decide +kernel
theorem d_LA_member_16 : decode b_LA_member 16 = .ok (.ireturn, 1) := by decide +kernel
theorem d_LA_total_0 : decode b_LA_total 0 = .ok (.aload_n 2, 1) := by decide +kernel
theorem d_LA_total_1 : decode b_LA_total 1 = .ok (.iconst 0, 1) := by decide +kernel
theorem d_LA_total_2 : decode b_LA_total 2 = .ok (.aload_n 0, 1) := by decide +kernel
theorem d_LA_total_3 : decode b_LA_total 3 = .ok (.iload_n 1, 1) := by decide +kernel
theorem d_LA_total_4 : decode b_LA_total 4 = .ok (.invokevirtual 35, 3) := by decide +kernel
theorem d_LA_total_7 : decode b_LA_total 7 = .ok (.i2l, 1) := by decide +kernel
theorem d_LA_total_8 : decode b_LA_total 8 = .ok (.lastore, 1) := by decide +kernel
theorem d_LA_total_9 : decode b_LA_total 9 = .ok (.goto 6, 3) := by decide +kernel
theorem d_LA_total_12 : decode b_LA_total 12 = .ok (.astore_n 3, 1) := by decide +kernel
theorem d_LA_total_13 : decode b_LA_total 13 = .ok (.iconst 1, 1) := by decide +kernel
theorem d_LA_total_14 : decode b_LA_total 14 = .ok (.ireturn, 1) := by decide +kernel
theorem d_LA_total_15 : decode b_LA_total 15 = .ok (.iconst 0, 1) := by decide +kernel
theorem d_LA_total_16 : decode b_LA_total 16 = .ok (.ireturn, 1) := by decide +kernel
theorem d_LA_answered_0 : decode b_LA_answered 0 = .ok (.aload 4, 2) := by decide +kernel
theorem d_LA_answered_2 : decode b_LA_answered 2 = .ok (.iconst 0, 1) := by decide +kernel
theorem d_LA_answered_3 : decode b_LA_answered 3 = .ok (.aload_n 0, 1) := by decide +kernel
theorem d_LA_answered_4 : decode b_LA_answered 4 = .ok (.iload_n 1, 1) := by decide +kernel
theorem d_LA_answered_5 : decode b_LA_answered 5 = .ok (.iload_n 2, 1) := by decide +kernel
theorem d_LA_answered_6 : decode b_LA_answered 6 = .ok (.iload_n 3, 1) := by decide +kernel
theorem d_LA_answered_7 : decode b_LA_answered 7 = .ok (.invokevirtual 38, 3) := by decide +kernel
theorem d_LA_answered_10 : decode b_LA_answered 10 = .ok (.i2l, 1) := by decide +kernel
theorem d_LA_answered_11 : decode b_LA_answered 11 = .ok (.lastore, 1) := by decide +kernel
theorem d_LA_answered_12 : decode b_LA_answered 12 = .ok (.goto 7, 3) := by decide +kernel
theorem d_LA_answered_15 : decode b_LA_answered 15 = .ok (.astore 5, 2) := by decide +kernel
theorem d_LA_answered_17 : decode b_LA_answered 17 = .ok (.iconst 1, 1) := by decide +kernel
theorem d_LA_answered_18 : decode b_LA_answered 18 = .ok (.ireturn, 1) := by decide +kernel
theorem d_LA_answered_19 : decode b_LA_answered 19 = .ok (.iconst 0, 1) := by decide +kernel
theorem d_LA_answered_20 : decode b_LA_answered 20 = .ok (.ireturn, 1) := by decide +kernel
theorem d_LA_bound_0 : decode b_LA_bound 0 = .ok (.aload 4, 2) := by decide +kernel
theorem d_LA_bound_2 : decode b_LA_bound 2 = .ok (.iconst 0, 1) := by decide +kernel
theorem d_LA_bound_3 : decode b_LA_bound 3 = .ok (.aload_n 0, 1) := by decide +kernel
theorem d_LA_bound_4 : decode b_LA_bound 4 = .ok (.iload_n 1, 1) := by decide +kernel
theorem d_LA_bound_5 : decode b_LA_bound 5 = .ok (.iload_n 2, 1) := by decide +kernel
theorem d_LA_bound_6 : decode b_LA_bound 6 = .ok (.iload_n 3, 1) := by decide +kernel
theorem d_LA_bound_7 : decode b_LA_bound 7 = .ok (.invokevirtual 41, 3) := by decide +kernel
theorem d_LA_bound_10 : decode b_LA_bound 10 = .ok (.i2l, 1) := by decide +kernel
theorem d_LA_bound_11 : decode b_LA_bound 11 = .ok (.lastore, 1) := by decide +kernel
theorem d_LA_bound_12 : decode b_LA_bound 12 = .ok (.goto 11, 3) := by decide +kernel
theorem d_LA_bound_15 : decode b_LA_bound 15 = .ok (.astore 5, 2) := by decide +kernel
theorem d_LA_bound_17 : decode b_LA_bound 17 = .ok (.iconst 1, 1) := by decide +kernel
theorem d_LA_bound_18 : decode b_LA_bound 18 = .ok (.ireturn, 1) := by decide +kernel
theorem d_LA_bound_19 : decode b_LA_bound 19 = .ok (.astore 5, 2) := by decide +kernel
theorem d_LA_bound_21 : decode b_LA_bound 21 = .ok (.iconst 2, 1) := by decide +kernel
theorem d_LA_bound_22 : decode b_LA_bound 22 = .ok (.ireturn, 1) := by decide +kernel
theorem d_LA_bound_23 : decode b_LA_bound 23 = .ok (.iconst 0, 1) := by decide +kernel
theorem d_LA_bound_24 : decode b_LA_bound 24 = .ok (.ireturn, 1) := by decide +kernel
theorem d_LA_both_0 : decode b_LA_both 0 = .ok (.aload 6, 2) := by decide +kernel
theorem d_LA_both_2 : decode b_LA_both 2 = .ok (.iconst 0, 1) := by decide +kernel
theorem d_LA_both_3 : decode b_LA_both 3 = .ok (.aload_n 0, 1) := by decide +kernel
theorem d_LA_both_4 : decode b_LA_both 4 = .ok (.iload_n 1, 1) := by decide +kernel
theorem d_LA_both_5 : decode b_LA_both 5 = .ok (.iload_n 2, 1) := by decide +kernel
theorem d_LA_both_6 : decode b_LA_both 6 = .ok (.iload_n 3, 1) := by decide +kernel
theorem d_LA_both_7 : decode b_LA_both 7 = .ok (.iload 4, 2) := by decide +kernel
theorem d_LA_both_9 : decode b_LA_both 9 = .ok (.iload 5, 2) := by decide +kernel
theorem d_LA_both_11 : decode b_LA_both 11 = .ok (.invokevirtual 44, 3) := by decide +kernel
theorem d_LA_both_14 : decode b_LA_both 14 = .ok (.i2l, 1) := by decide +kernel
theorem d_LA_both_15 : decode b_LA_both 15 = .ok (.lastore, 1) := by decide +kernel
theorem d_LA_both_16 : decode b_LA_both 16 = .ok (.goto 7, 3) := by decide +kernel
theorem d_LA_both_19 : decode b_LA_both 19 = .ok (.astore 7, 2) := by decide +kernel
theorem d_LA_both_21 : decode b_LA_both 21 = .ok (.iconst 1, 1) := by decide +kernel
theorem d_LA_both_22 : decode b_LA_both 22 = .ok (.ireturn, 1) := by decide +kernel
theorem d_LA_both_23 : decode b_LA_both 23 = .ok (.iconst 0, 1) := by decide +kernel
theorem d_LA_both_24 : decode b_LA_both 24 = .ok (.ireturn, 1) := by decide +kernel
theorem d_LA_span_0 : decode b_LA_span 0 = .ok (.aload_n 3, 1) := by decide +kernel
theorem d_LA_span_1 : decode b_LA_span 1 = .ok (.iconst 0, 1) := by decide +kernel
theorem d_LA_span_2 : decode b_LA_span 2 = .ok (.aload_n 0, 1) := by decide +kernel
theorem d_LA_span_3 : decode b_LA_span 3 = .ok (.iload_n 1, 1) := by decide +kernel
theorem d_LA_span_4 : decode b_LA_span 4 = .ok (.iload_n 2, 1) := by decide +kernel
theorem d_LA_span_5 : decode b_LA_span 5 = .ok (.invokevirtual 48, 3) := by decide +kernel
theorem d_LA_span_8 : decode b_LA_span 8 = .ok (.i2l, 1) := by decide +kernel
theorem d_LA_span_9 : decode b_LA_span 9 = .ok (.lastore, 1) := by decide +kernel
theorem d_LA_span_10 : decode b_LA_span 10 = .ok (.goto 7, 3) := by decide +kernel
theorem d_LA_span_13 : decode b_LA_span 13 = .ok (.astore 4, 2) := by decide +kernel
theorem d_LA_span_15 : decode b_LA_span 15 = .ok (.iconst 1, 1) := by decide +kernel
theorem d_LA_span_16 : decode b_LA_span 16 = .ok (.ireturn, 1) := by decide +kernel
theorem d_LA_span_17 : decode b_LA_span 17 = .ok (.iconst 0, 1) := by decide +kernel
theorem d_LA_span_18 : decode b_LA_span 18 = .ok (.ireturn, 1) := by decide +kernel
theorem d_LA_narrow_0 : decode b_LA_narrow 0 = .ok (.aload 4, 2) := by decide +kernel
theorem d_LA_narrow_2 : decode b_LA_narrow 2 = .ok (.iconst 0, 1) := by decide +kernel
theorem d_LA_narrow_3 : decode b_LA_narrow 3 = .ok (.aload_n 0, 1) := by decide +kernel
theorem d_LA_narrow_4 : decode b_LA_narrow 4 = .ok (.iload_n 1, 1) := by decide +kernel
theorem d_LA_narrow_5 : decode b_LA_narrow 5 = .ok (.iload_n 2, 1) := by decide +kernel
theorem d_LA_narrow_6 : decode b_LA_narrow 6 = .ok (.iload_n 3, 1) := by decide +kernel
theorem d_LA_narrow_7 : decode b_LA_narrow 7 = .ok (.invokevirtual 52, 3) := by decide +kernel
theorem d_LA_narrow_10 : decode b_LA_narrow 10 = .ok (.i2l, 1) := by decide +kernel
theorem d_LA_narrow_11 : decode b_LA_narrow 11 = .ok (.lastore, 1) := by decide +kernel
theorem d_LA_narrow_12 : decode b_LA_narrow 12 = .ok (.goto 11, 3) := by decide +kernel
theorem d_LA_narrow_15 : decode b_LA_narrow 15 = .ok (.astore 5, 2) := by decide +kernel
theorem d_LA_narrow_17 : decode b_LA_narrow 17 = .ok (.iconst 1, 1) := by decide +kernel
theorem d_LA_narrow_18 : decode b_LA_narrow 18 = .ok (.ireturn, 1) := by decide +kernel
theorem d_LA_narrow_19 : decode b_LA_narrow 19 = .ok (.astore 5, 2) := by decide +kernel
theorem d_LA_narrow_21 : decode b_LA_narrow 21 = .ok (.iconst 2, 1) := by decide +kernel
theorem d_LA_narrow_22 : decode b_LA_narrow 22 = .ok (.ireturn, 1) := by decide +kernel
theorem d_LA_narrow_23 : decode b_LA_narrow 23 = .ok (.iconst 0, 1) := by decide +kernel
theorem d_LA_narrow_24 : decode b_LA_narrow 24 = .ok (.ireturn, 1) := by decide +kernel
theorem d_LA_fitless_0 : decode b_LA_fitless 0 = .ok (.aload_n 2, 1) := by decide +kernel
theorem d_LA_fitless_1 : decode b_LA_fitless 1 = .ok (.iconst 0, 1) := by decide +kernel
theorem d_LA_fitless_2 : decode b_LA_fitless 2 = .ok (.aload_n 0, 1) := by decide +kernel
theorem d_LA_fitless_3 : decode b_LA_fitless 3 = .ok (.iload_n 1, 1) := by decide +kernel
theorem d_LA_fitless_4 : decode b_LA_fitless 4 = .ok (.invokevirtual 55, 3) := by decide +kernel
theorem d_LA_fitless_7 : decode b_LA_fitless 7 = .ok (.i2l, 1) := by decide +kernel
theorem d_LA_fitless_8 : decode b_LA_fitless 8 = .ok (.lastore, 1) := by decide +kernel
theorem d_LA_fitless_9 : decode b_LA_fitless 9 = .ok (.goto 6, 3) := by decide +kernel
theorem d_LA_fitless_12 : decode b_LA_fitless 12 = .ok (.astore_n 3, 1) := by decide +kernel
theorem d_LA_fitless_13 : decode b_LA_fitless 13 = .ok (.iconst 1, 1) := by decide +kernel
theorem d_LA_fitless_14 : decode b_LA_fitless 14 = .ok (.ireturn, 1) := by decide +kernel
theorem d_LA_fitless_15 : decode b_LA_fitless 15 = .ok (.iconst 0, 1) := by decide +kernel
theorem d_LA_fitless_16 : decode b_LA_fitless 16 = .ok (.ireturn, 1) := by decide +kernel
theorem d_LA_count_0 : decode b_LA_count 0 = .ok (.aload_n 2, 1) := by decide +kernel
theorem d_LA_count_1 : decode b_LA_count 1 = .ok (.iconst 0, 1) := by decide +kernel
theorem d_LA_count_2 : decode b_LA_count 2 = .ok (.aload_n 0, 1) := by decide +kernel
theorem d_LA_count_3 : decode b_LA_count 3 = .ok (.iload_n 1, 1) := by decide +kernel
theorem d_LA_count_4 : decode b_LA_count 4 = .ok (.invokevirtual 58, 3) := by decide +kernel
theorem d_LA_count_7 : decode b_LA_count 7 = .ok (.i2l, 1) := by decide +kernel
theorem d_LA_count_8 : decode b_LA_count 8 = .ok (.lastore, 1) := by decide +kernel
theorem d_LA_count_9 : decode b_LA_count 9 = .ok (.goto 6, 3) := by decide +kernel
theorem d_LA_count_12 : decode b_LA_count 12 = .ok (.astore_n 3, 1) := by decide +kernel
theorem d_LA_count_13 : decode b_LA_count 13 = .ok (.iconst 1, 1) := by decide +kernel
theorem d_LA_count_14 : decode b_LA_count 14 = .ok (.ireturn, 1) := by decide +kernel
theorem d_LA_count_15 : decode b_LA_count 15 = .ok (.iconst 0, 1) := by decide +kernel
theorem d_LA_count_16 : decode b_LA_count 16 = .ok (.ireturn, 1) := by decide +kernel
