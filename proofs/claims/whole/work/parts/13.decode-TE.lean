theorem d_TE_init_0 : decode b_TE_init 0 = .ok (.aload_n 0, 1) := by decide +kernel
theorem d_TE_init_1 : decode b_TE_init 1 = .ok (.invokespecial 3, 3) := by decide +kernel
theorem d_TE_init_4 : decode b_TE_init 4 = .ok (.aload_n 0, 1) := by decide +kernel
theorem d_TE_init_5 : decode b_TE_init 5 = .ok (.bipush 6, 2) := by decide +kernel
theorem d_TE_init_7 : decode b_TE_init 7 = .ok (.newarray .int, 2) := by decide +kernel
theorem d_TE_init_9 : decode b_TE_init 9 = .ok (.putfield 9, 3) := by decide +kernel
theorem d_TE_init_12 : decode b_TE_init 12 = .ok (.aload_n 0, 1) := by decide +kernel
theorem d_TE_init_13 : decode b_TE_init 13 = .ok (.bipush 6, 2) := by decide +kernel
theorem d_TE_init_15 : decode b_TE_init 15 = .ok (.newarray .int, 2) := by decide +kernel
theorem d_TE_init_17 : decode b_TE_init 17 = .ok (.putfield 15, 3) := by decide +kernel
theorem d_TE_init_20 : decode b_TE_init 20 = .ok (.aload_n 0, 1) := by decide +kernel
theorem d_TE_init_21 : decode b_TE_init 21 = .ok (.bipush 6, 2) := by decide +kernel
theorem d_TE_init_23 : decode b_TE_init 23 = .ok (.newarray .int, 2) := by decide +kernel
theorem d_TE_init_25 : decode b_TE_init 25 = .ok (.putfield 18, 3) := by decide +kernel
theorem d_TE_init_28 : decode b_TE_init 28 = .ok (.aload_n 0, 1) := by decide +kernel
theorem d_TE_init_29 : decode b_TE_init 29 = .ok (.bipush 6, 2) := by decide +kernel
theorem d_TE_init_31 : decode b_TE_init 31 = .ok (.newarray .int, 2) := by decide +kernel
theorem d_TE_init_33 : decode b_TE_init 33 = .ok (.putfield 21, 3) := by decide +kernel
theorem d_TE_init_36 : decode b_TE_init 36 = .ok (.aload_n 0, 1) := by decide +kernel
theorem d_TE_init_37 : decode b_TE_init 37 = .ok (.bipush 6, 2) := by decide +kernel
theorem d_TE_init_39 : decode b_TE_init 39 = .ok (.newarray .boolean, 2) := by decide +kernel
theorem d_TE_init_41 : decode b_TE_init 41 = .ok (.putfield 24, 3) := by decide +kernel
theorem d_TE_init_44 : decode b_TE_init 44 = .ok (.aload_n 0, 1) := by decide +kernel
theorem d_TE_init_45 : decode b_TE_init 45 = .ok (.bipush 6, 2) := by decide +kernel
theorem d_TE_init_47 : decode b_TE_init 47 = .ok (.newarray .int, 2) := by decide +kernel
theorem d_TE_init_49 : decode b_TE_init 49 = .ok (.putfield 28, 3) := by decide +kernel
theorem d_TE_init_52 : decode b_TE_init 52 = .ok (.aload_n 0, 1) := by decide +kernel
theorem d_TE_init_53 : decode b_TE_init 53 = .ok (.iconst 0, 1) := by decide +kernel
theorem d_TE_init_54 : decode b_TE_init 54 = .ok (.putfield 31, 3) := by decide +kernel
theorem d_TE_init_57 : decode b_TE_init 57 = .ok (.aload_n 0, 1) := by decide +kernel
theorem d_TE_init_58 : decode b_TE_init 58 = .ok (.iconst 0, 1) := by decide +kernel
theorem d_TE_init_59 : decode b_TE_init 59 = .ok (.putfield 35, 3) := by decide +kernel
theorem d_TE_init_62 : decode b_TE_init 62 = .ok (.return_, 1) := by decide +kernel
theorem d_TE_number_0 : decode b_TE_number 0 = .ok (.aload_n 0, 1) := by decide +kernel
theorem d_TE_number_1 : decode b_TE_number 1 = .ok (.getfield 31, 3) := by decide +kernel
theorem d_TE_number_4 : decode b_TE_number 4 = .ok (.ireturn, 1) := by decide +kernel
theorem d_TE_otherEnd_0 : decode b_TE_otherEnd 0 = .ok (.aload_n 0, 1) := by decide +kernel
theorem d_TE_otherEnd_1 : decode b_TE_otherEnd 1 = .ok (.getfield 24, 3) := by decide +kernel
theorem d_TE_otherEnd_4 : decode b_TE_otherEnd 4 = .ok (.iload_n 1, 1) := by decide +kernel
theorem d_TE_otherEnd_5 : decode b_TE_otherEnd 5 = .ok (.baload, 1) := by decide +kernel
theorem d_TE_otherEnd_6 : decode b_TE_otherEnd 6 = .ok (.ifCond .eq 13, 3) := by decide +kernel
theorem d_TE_otherEnd_9 : decode b_TE_otherEnd 9 = .ok (.aload_n 0, 1) := by decide +kernel
theorem d_TE_otherEnd_10 : decode b_TE_otherEnd 10 = .ok (.getfield 15, 3) := by decide +kernel
theorem d_TE_otherEnd_13 : decode b_TE_otherEnd 13 = .ok (.iload_n 1, 1) := by decide +kernel
theorem d_TE_otherEnd_14 : decode b_TE_otherEnd 14 = .ok (.iaload, 1) := by decide +kernel
theorem d_TE_otherEnd_15 : decode b_TE_otherEnd 15 = .ok (.iconst (-1), 1) := by decide +kernel
theorem d_TE_otherEnd_16 : decode b_TE_otherEnd 16 = .ok (.if_icmp .ne 5, 3) := by decide +kernel
theorem d_TE_otherEnd_19 : decode b_TE_otherEnd 19 = .ok (.iconst (-1), 1) := by decide +kernel
theorem d_TE_otherEnd_20 : decode b_TE_otherEnd 20 = .ok (.ireturn, 1) := by decide +kernel
theorem d_TE_otherEnd_21 : decode b_TE_otherEnd 21 = .ok (.aload_n 0, 1) := by decide +kernel
theorem d_TE_otherEnd_22 : decode b_TE_otherEnd 22 = .ok (.getfield 9, 3) := by decide +kernel
theorem d_TE_otherEnd_25 : decode b_TE_otherEnd 25 = .ok (.iload_n 1, 1) := by decide +kernel
theorem d_TE_otherEnd_26 : decode b_TE_otherEnd 26 = .ok (.iaload, 1) := by decide +kernel
theorem d_TE_otherEnd_27 : decode b_TE_otherEnd 27 = .ok (.iload_n 2, 1) := by decide +kernel
theorem d_TE_otherEnd_28 : decode b_TE_otherEnd 28 = .ok (.if_icmp .ne 10, 3) := by decide +kernel
theorem d_TE_otherEnd_31 : decode b_TE_otherEnd 31 = .ok (.aload_n 0, 1) := by decide +kernel
theorem d_TE_otherEnd_32 : decode b_TE_otherEnd 32 = .ok (.getfield 15, 3) := by decide +kernel
theorem d_TE_otherEnd_35 : decode b_TE_otherEnd 35 = .ok (.iload_n 1, 1) := by decide +kernel
theorem d_TE_otherEnd_36 : decode b_TE_otherEnd 36 = .ok (.iaload, 1) := by decide +kernel
theorem d_TE_otherEnd_37 : decode b_TE_otherEnd 37 = .ok (.ireturn, 1) := by decide +kernel
theorem d_TE_otherEnd_38 : decode b_TE_otherEnd 38 = .ok (.aload_n 0, 1) := by decide +kernel
theorem d_TE_otherEnd_39 : decode b_TE_otherEnd 39 = .ok (.getfield 15, 3) := by decide +kernel
theorem d_TE_otherEnd_42 : decode b_TE_otherEnd 42 = .ok (.iload_n 1, 1) := by decide +kernel
theorem d_TE_otherEnd_43 : decode b_TE_otherEnd 43 = .ok (.iaload, 1) := by decide +kernel
theorem d_TE_otherEnd_44 : decode b_TE_otherEnd 44 = .ok (.iload_n 2, 1) := by decide +kernel
theorem d_TE_otherEnd_45 : decode b_TE_otherEnd 45 = .ok (.if_icmp .ne 12, 3) := by decide +kernel
theorem d_TE_otherEnd_48 : decode b_TE_otherEnd 48 = .ok (.aload_n 0, 1) := by decide +kernel
theorem d_TE_otherEnd_49 : decode b_TE_otherEnd 49 = .ok (.getfield 9, 3) := by decide +kernel
theorem d_TE_otherEnd_52 : decode b_TE_otherEnd 52 = .ok (.iload_n 1, 1) := by decide +kernel
theorem d_TE_otherEnd_53 : decode b_TE_otherEnd 53 = .ok (.iaload, 1) := by decide +kernel
theorem d_TE_otherEnd_54 : decode b_TE_otherEnd 54 = .ok (.goto 4, 3) := by decide +kernel
theorem d_TE_otherEnd_57 : decode b_TE_otherEnd 57 = .ok (.iconst (-1), 1) := by decide +kernel
theorem d_TE_otherEnd_58 : decode b_TE_otherEnd 58 = .ok (.ireturn, 1) := by decide +kernel
theorem d_TE_memberOf_0 : decode b_TE_memberOf 0 = .ok (.aload_n 0, 1) := by decide +kernel
theorem d_TE_memberOf_1 : decode b_TE_memberOf 1 = .ok (.getfield 24, 3) := by decide +kernel
theorem d_TE_memberOf_4 : decode b_TE_memberOf 4 = .ok (.iload_n 1, 1) := by decide +kernel
theorem d_TE_memberOf_5 : decode b_TE_memberOf 5 = .ok (.baload, 1) := by decide +kernel
theorem d_TE_memberOf_6 : decode b_TE_memberOf 6 = .ok (.ifCond .eq 22, 3) := by decide +kernel
theorem d_TE_memberOf_9 : decode b_TE_memberOf 9 = .ok (.aload_n 0, 1) := by decide +kernel
theorem d_TE_memberOf_10 : decode b_TE_memberOf 10 = .ok (.getfield 15, 3) := by decide +kernel
theorem d_TE_memberOf_13 : decode b_TE_memberOf 13 = .ok (.iload_n 1, 1) := by decide +kernel
theorem d_TE_memberOf_14 : decode b_TE_memberOf 14 = .ok (.iaload, 1) := by decide +kernel
theorem d_TE_memberOf_15 : decode b_TE_memberOf 15 = .ok (.iconst (-1), 1) := by decide +kernel
theorem d_TE_memberOf_16 : decode b_TE_memberOf 16 = .ok (.if_icmp .ne 12, 3) := by decide +kernel
theorem d_TE_memberOf_19 : decode b_TE_memberOf 19 = .ok (.aload_n 0, 1) := by decide +kernel
theorem d_TE_memberOf_20 : decode b_TE_memberOf 20 = .ok (.getfield 9, 3) := by decide +kernel
theorem d_TE_memberOf_23 : decode b_TE_memberOf 23 = .ok (.iload_n 1, 1) := by decide +kernel
theorem d_TE_memberOf_24 : decode b_TE_memberOf 24 = .ok (.iaload, 1) := by decide +kernel
theorem d_TE_memberOf_25 : decode b_TE_memberOf 25 = .ok (.goto 4, 3) := by decide +kernel
theorem d_TE_memberOf_28 : decode b_TE_memberOf 28 = .ok (.iconst (-1), 1) := by decide +kernel
theorem d_TE_memberOf_29 : decode b_TE_memberOf 29 = .ok (.ireturn, 1) := by decide +kernel
theorem d_TE_mostAcross_0 : decode b_TE_mostAcross 0 = .ok (.bipush 11, 2) := by decide +kernel
theorem d_TE_mostAcross_2 : decode b_TE_mostAcross 2 = .ok (.aload_n 0, 1) := by decide +kernel
theorem d_TE_mostAcross_3 : decode b_TE_mostAcross 3 = .ok (.getfield 9, 3) := by decide +kernel
theorem d_TE_mostAcross_6 : decode b_TE_mostAcross 6 = .ok (.iload_n 1, 1) := by decide +kernel
theorem d_TE_mostAcross_7 : decode b_TE_mostAcross 7 = .ok (.iaload, 1) := by decide +kernel
theorem d_TE_mostAcross_8 : decode b_TE_mostAcross 8 = .ok (.iload_n 2, 1) := by decide +kernel
theorem d_TE_mostAcross_9 : decode b_TE_mostAcross 9 = .ok (.if_icmp .ne 14, 3) := by decide +kernel
theorem d_TE_mostAcross_12 : decode b_TE_mostAcross 12 = .ok (.iload_n 3, 1) := by decide +kernel
theorem d_TE_mostAcross_13 : decode b_TE_mostAcross 13 = .ok (.aload_n 0, 1) := by decide +kernel
theorem d_TE_mostAcross_14 : decode b_TE_mostAcross 14 = .ok (.getfield 21, 3) := by decide +kernel
theorem d_TE_mostAcross_17 : decode b_TE_mostAcross 17 = .ok (.iload_n 1, 1) := by decide +kernel
theorem d_TE_mostAcross_18 : decode b_TE_mostAcross 18 = .ok (.iaload, 1) := by decide +kernel
theorem d_TE_mostAcross_19 : decode b_TE_mostAcross 19 = .ok (.iadd, 1) := by decide +kernel
theorem d_TE_mostAcross_20 : decode b_TE_mostAcross 20 = .ok (.goto 11, 3) := by decide +kernel
theorem d_TE_mostAcross_23 : decode b_TE_mostAcross 23 = .ok (.iload_n 3, 1) := by decide +kernel
theorem d_TE_mostAcross_24 : decode b_TE_mostAcross 24 = .ok (.aload_n 0, 1) := by decide +kernel
theorem d_TE_mostAcross_25 : decode b_TE_mostAcross 25 = .ok (.getfield 18, 3) := by decide +kernel
theorem d_TE_mostAcross_28 : decode b_TE_mostAcross 28 = .ok (.iload_n 1, 1) := by decide +kernel
theorem d_TE_mostAcross_29 : decode b_TE_mostAcross 29 = .ok (.iaload, 1) := by decide +kernel
theorem d_TE_mostAcross_30 : decode b_TE_mostAcross 30 = .ok (.isub, 1) := by decide +kernel
theorem d_TE_mostAcross_31 : decode b_TE_mostAcross 31 = .ok (.invokestatic 55, 3) := by decide +kernel
theorem d_TE_mostAcross_34 : decode b_TE_mostAcross 34 = .ok (.ireturn, 1) := by decide +kernel
theorem d_TE_leastAcross_0 : decode b_TE_leastAcross 0 = .ok (.iconst 0, 1) := by decide +kernel
theorem d_TE_leastAcross_1 : decode b_TE_leastAcross 1 = .ok (.aload_n 0, 1) := by decide +kernel
theorem d_TE_leastAcross_2 : decode b_TE_leastAcross 2 = .ok (.getfield 9, 3) := by decide +kernel
theorem d_TE_leastAcross_5 : decode b_TE_leastAcross 5 = .ok (.iload_n 1, 1) := by decide +kernel
theorem d_TE_leastAcross_6 : decode b_TE_leastAcross 6 = .ok (.iaload, 1) := by decide +kernel
theorem d_TE_leastAcross_7 : decode b_TE_leastAcross 7 = .ok (.iload_n 2, 1) := by decide +kernel
theorem d_TE_leastAcross_8 : decode b_TE_leastAcross 8 = .ok (.if_icmp .ne 14, 3) := by decide +kernel
theorem d_TE_leastAcross_11 : decode b_TE_leastAcross 11 = .ok (.iload_n 3, 1) := by decide +kernel
theorem d_TE_leastAcross_12 : decode b_TE_leastAcross 12 = .ok (.aload_n 0, 1) := by decide +kernel
theorem d_TE_leastAcross_13 : decode b_TE_leastAcross 13 = .ok (.getfield 18, 3) := by decide +kernel
theorem d_TE_leastAcross_16 : decode b_TE_leastAcross 16 = .ok (.iload_n 1, 1) := by decide +kernel
theorem d_TE_leastAcross_17 : decode b_TE_leastAcross 17 = .ok (.iaload, 1) := by decide +kernel
theorem d_TE_leastAcross_18 : decode b_TE_leastAcross 18 = .ok (.iadd, 1) := by decide +kernel
theorem d_TE_leastAcross_19 : decode b_TE_leastAcross 19 = .ok (.goto 11, 3) := by decide +kernel
theorem d_TE_leastAcross_22 : decode b_TE_leastAcross 22 = .ok (.iload_n 3, 1) := by decide +kernel
theorem d_TE_leastAcross_23 : decode b_TE_leastAcross 23 = .ok (.aload_n 0, 1) := by decide +kernel
theorem d_TE_leastAcross_24 : decode b_TE_leastAcross 24 = .ok (.getfield 21, 3) := by decide +kernel
theorem d_TE_leastAcross_27 : decode b_TE_leastAcross 27 = .ok (.iload_n 1, 1) := by decide +kernel
theorem d_TE_leastAcross_28 : decode b_TE_leastAcross 28 = .ok (.iaload, 1) := by decide +kernel
theorem d_TE_leastAcross_29 : decode b_TE_leastAcross 29 = .ok (.isub, 1) := by decide +kernel
theorem d_TE_leastAcross_30 : decode b_TE_leastAcross 30 = .ok (.invokestatic 49, 3) := by decide +kernel
theorem d_TE_leastAcross_33 : decode b_TE_leastAcross 33 = .ok (.ireturn, 1) := by decide +kernel
theorem d_TE_mayJoin_0 : decode b_TE_mayJoin 0 = .ok (.aload_n 0, 1) := by decide +kernel
theorem d_TE_mayJoin_1 : decode b_TE_mayJoin 1 = .ok (.invokevirtual 38, 3) := by decide +kernel
theorem d_TE_mayJoin_4 : decode b_TE_mayJoin 4 = .ok (.aload_n 0, 1) := by decide +kernel
theorem d_TE_mayJoin_5 : decode b_TE_mayJoin 5 = .ok (.getfield 28, 3) := by decide +kernel
theorem d_TE_mayJoin_8 : decode b_TE_mayJoin 8 = .ok (.iload_n 1, 1) := by decide +kernel
theorem d_TE_mayJoin_9 : decode b_TE_mayJoin 9 = .ok (.iaload, 1) := by decide +kernel
theorem d_TE_mayJoin_10 : decode b_TE_mayJoin 10 = .ok (.aload_n 0, 1) := by decide +kernel
theorem d_TE_mayJoin_11 : decode b_TE_mayJoin 11 = .ok (.getfield 28, 3) := by decide +kernel
theorem d_TE_mayJoin_14 : decode b_TE_mayJoin 14 = .ok (.iload_n 2, 1) := by decide +kernel
theorem d_TE_mayJoin_15 : decode b_TE_mayJoin 15 = .ok (.iaload, 1) := by decide +kernel
theorem d_TE_mayJoin_16 : decode b_TE_mayJoin 16 = .ok (.if_icmp .eq 33, 3) := by decide +kernel
theorem d_TE_mayJoin_19 : decode b_TE_mayJoin 19 = .ok (.aload_n 0, 1) := by decide +kernel
theorem d_TE_mayJoin_20 : decode b_TE_mayJoin 20 = .ok (.aload_n 0, 1) := by decide +kernel
theorem d_TE_mayJoin_21 : decode b_TE_mayJoin 21 = .ok (.getfield 28, 3) := by decide +kernel
theorem d_TE_mayJoin_24 : decode b_TE_mayJoin 24 = .ok (.iload_n 1, 1) := by decide +kernel
theorem d_TE_mayJoin_25 : decode b_TE_mayJoin 25 = .ok (.iaload, 1) := by decide +kernel
theorem d_TE_mayJoin_26 : decode b_TE_mayJoin 26 = .ok (.invokevirtual 41, 3) := by decide +kernel
theorem d_TE_mayJoin_29 : decode b_TE_mayJoin 29 = .ok (.ifCond .eq 16, 3) := by decide +kernel
theorem d_TE_mayJoin_32 : decode b_TE_mayJoin 32 = .ok (.aload_n 0, 1) := by decide +kernel
theorem d_TE_mayJoin_33 : decode b_TE_mayJoin 33 = .ok (.aload_n 0, 1) := by decide +kernel
theorem d_TE_mayJoin_34 : decode b_TE_mayJoin 34 = .ok (.getfield 28, 3) := by decide +kernel
theorem d_TE_mayJoin_37 : decode b_TE_mayJoin 37 = .ok (.iload_n 2, 1) := by decide +kernel
theorem d_TE_mayJoin_38 : decode b_TE_mayJoin 38 = .ok (.iaload, 1) := by decide +kernel
theorem d_TE_mayJoin_39 : decode b_TE_mayJoin 39 = .ok (.invokevirtual 41, 3) := by decide +kernel
theorem d_TE_mayJoin_42 : decode b_TE_mayJoin 42 = .ok (.ifCond .ne 7, 3) := by decide +kernel
theorem d_TE_mayJoin_45 : decode b_TE_mayJoin 45 = .ok (.iconst 1, 1) := by decide +kernel
theorem d_TE_mayJoin_46 : decode b_TE_mayJoin 46 = .ok (.goto 4, 3) := by decide +kernel
theorem d_TE_mayJoin_49 : decode b_TE_mayJoin 49 = .ok (.iconst 0, 1) := by decide +kernel
theorem d_TE_mayJoin_50 : decode b_TE_mayJoin 50 = .ok (.ireturn, 1) := by decide +kernel
theorem d_TE_nameTrees_0 : decode b_TE_nameTrees 0 = .ok (.iconst 0, 1) := by decide +kernel
theorem d_TE_nameTrees_1 : decode b_TE_nameTrees 1 = .ok (.istore_n 1, 1) := by decide +kernel
theorem d_TE_nameTrees_2 : decode b_TE_nameTrees 2 = .ok (.iload_n 1, 1) := by decide +kernel
theorem d_TE_nameTrees_3 : decode b_TE_nameTrees 3 = .ok (.bipush 6, 2) := by decide +kernel
theorem d_TE_nameTrees_5 : decode b_TE_nameTrees 5 = .ok (.if_icmp .ge 16, 3) := by decide +kernel
theorem d_TE_nameTrees_8 : decode b_TE_nameTrees 8 = .ok (.aload_n 0, 1) := by decide +kernel
theorem d_TE_nameTrees_9 : decode b_TE_nameTrees 9 = .ok (.getfield 28, 3) := by decide +kernel
theorem d_TE_nameTrees_12 : decode b_TE_nameTrees 12 = .ok (.iload_n 1, 1) := by decide +kernel
theorem d_TE_nameTrees_13 : decode b_TE_nameTrees 13 = .ok (.iload_n 1, 1) := by decide +kernel
theorem d_TE_nameTrees_14 : decode b_TE_nameTrees 14 = .ok (.iastore, 1) := by decide +kernel
theorem d_TE_nameTrees_15 : decode b_TE_nameTrees 15 = .ok (.iinc 1 1, 3) := by decide +kernel
theorem d_TE_nameTrees_18 : decode b_TE_nameTrees 18 = .ok (.goto (-16), 3) := by decide +kernel
theorem d_TE_nameTrees_21 : decode b_TE_nameTrees 21 = .ok (.iconst 0, 1) := by decide +kernel
theorem d_TE_nameTrees_22 : decode b_TE_nameTrees 22 = .ok (.istore_n 1, 1) := by decide +kernel
theorem d_TE_nameTrees_23 : decode b_TE_nameTrees 23 = .ok (.iload_n 1, 1) := by decide +kernel
theorem d_TE_nameTrees_24 : decode b_TE_nameTrees 24 = .ok (.aload_n 0, 1) := by decide +kernel
theorem d_TE_nameTrees_25 : decode b_TE_nameTrees 25 = .ok (.getfield 31, 3) := by decide +kernel
theorem d_TE_nameTrees_28 : decode b_TE_nameTrees 28 = .ok (.if_icmp .ge 45, 3) := by decide +kernel
theorem d_TE_nameTrees_31 : decode b_TE_nameTrees 31 = .ok (.aload_n 0, 1) := by decide +kernel
theorem d_TE_nameTrees_32 : decode b_TE_nameTrees 32 = .ok (.getfield 15, 3) := by decide +kernel
theorem d_TE_nameTrees_35 : decode b_TE_nameTrees 35 = .ok (.iload_n 1, 1) := by decide +kernel
theorem d_TE_nameTrees_36 : decode b_TE_nameTrees 36 = .ok (.iaload, 1) := by decide +kernel
theorem d_TE_nameTrees_37 : decode b_TE_nameTrees 37 = .ok (.iconst (-1), 1) := by decide +kernel
theorem d_TE_nameTrees_38 : decode b_TE_nameTrees 38 = .ok (.if_icmp .eq 29, 3) := by decide +kernel
theorem d_TE_nameTrees_41 : decode b_TE_nameTrees 41 = .ok (.aload_n 0, 1) := by decide +kernel
theorem d_TE_nameTrees_42 : decode b_TE_nameTrees 42 = .ok (.aload_n 0, 1) := by decide +kernel
theorem d_TE_nameTrees_43 : decode b_TE_nameTrees 43 = .ok (.getfield 28, 3) := by decide +kernel
theorem d_TE_nameTrees_46 : decode b_TE_nameTrees 46 = .ok (.aload_n 0, 1) := by decide +kernel
theorem d_TE_nameTrees_47 : decode b_TE_nameTrees 47 = .ok (.getfield 9, 3) := by decide +kernel
theorem d_TE_nameTrees_50 : decode b_TE_nameTrees 50 = .ok (.iload_n 1, 1) := by decide +kernel
theorem d_TE_nameTrees_51 : decode b_TE_nameTrees 51 = .ok (.iaload, 1) := by decide +kernel
theorem d_TE_nameTrees_52 : decode b_TE_nameTrees 52 = .ok (.iaload, 1) := by decide +kernel
theorem d_TE_nameTrees_53 : decode b_TE_nameTrees 53 = .ok (.aload_n 0, 1) := by decide +kernel
theorem d_TE_nameTrees_54 : decode b_TE_nameTrees 54 = .ok (.getfield 28, 3) := by decide +kernel
theorem d_TE_nameTrees_57 : decode b_TE_nameTrees 57 = .ok (.aload_n 0, 1) := by decide +kernel
theorem d_TE_nameTrees_58 : decode b_TE_nameTrees 58 = .ok (.getfield 15, 3) := by decide +kernel
theorem d_TE_nameTrees_61 : decode b_TE_nameTrees 61 = .ok (.iload_n 1, 1) := by decide +kernel
theorem d_TE_nameTrees_62 : decode b_TE_nameTrees 62 = .ok (.iaload, 1) := by decide +kernel
theorem d_TE_nameTrees_63 : decode b_TE_nameTrees 63 = .ok (.iaload, 1) := by decide +kernel
theorem d_TE_nameTrees_64 : decode b_TE_nameTrees 64 = .ok (.invokevirtual 45, 3) := by decide +kernel
theorem d_TE_nameTrees_67 : decode b_TE_nameTrees 67 = .ok (.iinc 1 1, 3) := by decide +kernel
theorem d_TE_nameTrees_70 : decode b_TE_nameTrees 70 = .ok (.goto (-47), 3) := by decide +kernel
theorem d_TE_nameTrees_73 : decode b_TE_nameTrees 73 = .ok (.return_, 1) := by decide +kernel
theorem d_TE_renameTree_0 : decode b_TE_renameTree 0 = .ok (.iconst 0, 1) := by decide +kernel
theorem d_TE_renameTree_1 : decode b_TE_renameTree 1 = .ok (.istore_n 3, 1) := by decide +kernel
theorem d_TE_renameTree_2 : decode b_TE_renameTree 2 = .ok (.iload_n 3, 1) := by decide +kernel
theorem d_TE_renameTree_3 : decode b_TE_renameTree 3 = .ok (.bipush 6, 2) := by decide +kernel
theorem d_TE_renameTree_5 : decode b_TE_renameTree 5 = .ok (.if_icmp .ge 26, 3) := by decide +kernel
theorem d_TE_renameTree_8 : decode b_TE_renameTree 8 = .ok (.aload_n 0, 1) := by decide +kernel
theorem d_TE_renameTree_9 : decode b_TE_renameTree 9 = .ok (.getfield 28, 3) := by decide +kernel
theorem d_TE_renameTree_12 : decode b_TE_renameTree 12 = .ok (.iload_n 3, 1) := by decide +kernel
theorem d_TE_renameTree_13 : decode b_TE_renameTree 13 = .ok (.iaload, 1) := by decide +kernel
theorem d_TE_renameTree_14 : decode b_TE_renameTree 14 = .ok (.iload_n 1, 1) := by decide +kernel
theorem d_TE_renameTree_15 : decode b_TE_renameTree 15 = .ok (.if_icmp .ne 10, 3) := by decide +kernel
theorem d_TE_renameTree_18 : decode b_TE_renameTree 18 = .ok (.aload_n 0, 1) := by decide +kernel
theorem d_TE_renameTree_19 : decode b_TE_renameTree 19 = .ok (.getfield 28, 3) := by decide +kernel
theorem d_TE_renameTree_22 : decode b_TE_renameTree 22 = .ok (.iload_n 3, 1) := by decide +kernel
theorem d_TE_renameTree_23 : decode b_TE_renameTree 23 = .ok (.iload_n 2, 1) := by decide +kernel
theorem d_TE_renameTree_24 : decode b_TE_renameTree 24 = .ok (.iastore, 1) := by decide +kernel
theorem d_TE_renameTree_25 : decode b_TE_renameTree 25 = .ok (.iinc 3 1, 3) := by decide +kernel
theorem d_TE_renameTree_28 : decode b_TE_renameTree 28 = .ok (.goto (-26), 3) := by decide +kernel
theorem d_TE_renameTree_31 : decode b_TE_renameTree 31 = .ok (.return_, 1) := by decide +kernel
theorem d_TE_hasMember_0 : decode b_TE_hasMember 0 = .ok (.iconst 0, 1) := by decide +kernel
theorem d_TE_hasMember_1 : decode b_TE_hasMember 1 = .ok (.istore_n 2, 1) := by decide +kernel
theorem d_TE_hasMember_2 : decode b_TE_hasMember 2 = .ok (.iload_n 2, 1) := by decide +kernel
theorem d_TE_hasMember_3 : decode b_TE_hasMember 3 = .ok (.aload_n 0, 1) := by decide +kernel
theorem d_TE_hasMember_4 : decode b_TE_hasMember 4 = .ok (.getfield 31, 3) := by decide +kernel
theorem d_TE_hasMember_7 : decode b_TE_hasMember 7 = .ok (.if_icmp .ge 36, 3) := by decide +kernel
theorem d_TE_hasMember_10 : decode b_TE_hasMember 10 = .ok (.aload_n 0, 1) := by decide +kernel
theorem d_TE_hasMember_11 : decode b_TE_hasMember 11 = .ok (.getfield 15, 3) := by decide +kernel
theorem d_TE_hasMember_14 : decode b_TE_hasMember 14 = .ok (.iload_n 2, 1) := by decide +kernel
theorem d_TE_hasMember_15 : decode b_TE_hasMember 15 = .ok (.iaload, 1) := by decide +kernel
theorem d_TE_hasMember_16 : decode b_TE_hasMember 16 = .ok (.iconst (-1), 1) := by decide +kernel
theorem d_TE_hasMember_17 : decode b_TE_hasMember 17 = .ok (.if_icmp .ne 20, 3) := by decide +kernel
theorem d_TE_hasMember_20 : decode b_TE_hasMember 20 = .ok (.aload_n 0, 1) := by decide +kernel
theorem d_TE_hasMember_21 : decode b_TE_hasMember 21 = .ok (.getfield 28, 3) := by decide +kernel
theorem d_TE_hasMember_24 : decode b_TE_hasMember 24 = .ok (.aload_n 0, 1) := by decide +kernel
theorem d_TE_hasMember_25 : decode b_TE_hasMember 25 = .ok (.getfield 9, 3) := by decide +kernel
theorem d_TE_hasMember_28 : decode b_TE_hasMember 28 = .ok (.iload_n 2, 1) := by decide +kernel
theorem d_TE_hasMember_29 : decode b_TE_hasMember 29 = .ok (.iaload, 1) := by decide +kernel
theorem d_TE_hasMember_30 : decode b_TE_hasMember 30 = .ok (.iaload, 1) := by decide +kernel
theorem d_TE_hasMember_31 : decode b_TE_hasMember 31 = .ok (.iload_n 1, 1) := by decide +kernel
theorem d_TE_hasMember_32 : decode b_TE_hasMember 32 = .ok (.if_icmp .ne 5, 3) := by decide +kernel
theorem d_TE_hasMember_35 : decode b_TE_hasMember 35 = .ok (.iconst 1, 1) := by decide +kernel
theorem d_TE_hasMember_36 : decode b_TE_hasMember 36 = .ok (.ireturn, 1) := by decide +kernel
theorem d_TE_hasMember_37 : decode b_TE_hasMember 37 = .ok (.iinc 2 1, 3) := by decide +kernel
theorem d_TE_hasMember_40 : decode b_TE_hasMember 40 = .ok (.goto (-38), 3) := by decide +kernel
theorem d_TE_hasMember_43 : decode b_TE_hasMember 43 = .ok (.iconst 0, 1) := by decide +kernel
theorem d_TE_hasMember_44 : decode b_TE_hasMember 44 = .ok (.ireturn, 1) := by decide +kernel
theorem d_TE_tell_0 : decode b_TE_tell 0 = .ok (.aload_n 0, 1) := by decide +kernel
theorem d_TE_tell_1 : decode b_TE_tell 1 = .ok (.getfield 31, 3) := by decide +kernel
theorem d_TE_tell_4 : decode b_TE_tell 4 = .ok (.bipush 6, 2) := by decide +kernel
theorem d_TE_tell_6 : decode b_TE_tell 6 = .ok (.if_icmp .lt 5, 3) := by decide +kernel
theorem d_TE_tell_9 : decode b_TE_tell 9 = .ok (.iconst (-1), 1) := by decide +kernel
theorem d_TE_tell_10 : decode b_TE_tell 10 = .ok (.ireturn, 1) := by decide +kernel
theorem d_TE_tell_11 : decode b_TE_tell 11 = .ok (.aload_n 0, 1) := by decide +kernel
theorem d_TE_tell_12 : decode b_TE_tell 12 = .ok (.getfield 9, 3) := by decide +kernel
theorem d_TE_tell_15 : decode b_TE_tell 15 = .ok (.aload_n 0, 1) := by decide +kernel
theorem d_TE_tell_16 : decode b_TE_tell 16 = .ok (.getfield 31, 3) := by decide +kernel
theorem d_TE_tell_19 : decode b_TE_tell 19 = .ok (.iload_n 1, 1) := by decide +kernel
theorem d_TE_tell_20 : decode b_TE_tell 20 = .ok (.iastore, 1) := by decide +kernel
theorem d_TE_tell_21 : decode b_TE_tell 21 = .ok (.aload_n 0, 1) := by decide +kernel
theorem d_TE_tell_22 : decode b_TE_tell 22 = .ok (.getfield 15, 3) := by decide +kernel
theorem d_TE_tell_25 : decode b_TE_tell 25 = .ok (.aload_n 0, 1) := by decide +kernel
theorem d_TE_tell_26 : decode b_TE_tell 26 = .ok (.getfield 31, 3) := by decide +kernel
theorem d_TE_tell_29 : decode b_TE_tell 29 = .ok (.iload_n 2, 1) := by decide +kernel
theorem d_TE_tell_30 : decode b_TE_tell 30 = .ok (.iastore, 1) := by decide +kernel
theorem d_TE_tell_31 : decode b_TE_tell 31 = .ok (.aload_n 0, 1) := by decide +kernel
theorem d_TE_tell_32 : decode b_TE_tell 32 = .ok (.getfield 18, 3) := by decide +kernel
theorem d_TE_tell_35 : decode b_TE_tell 35 = .ok (.aload_n 0, 1) := by decide +kernel
theorem d_TE_tell_36 : decode b_TE_tell 36 = .ok (.getfield 31, 3) := by decide +kernel
theorem d_TE_tell_39 : decode b_TE_tell 39 = .ok (.iload_n 3, 1) := by decide +kernel
theorem d_TE_tell_40 : decode b_TE_tell 40 = .ok (.iastore, 1) := by decide +kernel
theorem d_TE_tell_41 : decode b_TE_tell 41 = .ok (.aload_n 0, 1) := by decide +kernel
theorem d_TE_tell_42 : decode b_TE_tell 42 = .ok (.getfield 21, 3) := by decide +kernel
theorem d_TE_tell_45 : decode b_TE_tell 45 = .ok (.aload_n 0, 1) := by decide +kernel
theorem d_TE_tell_46 : decode b_TE_tell 46 = .ok (.getfield 31, 3) := by decide +kernel
theorem d_TE_tell_49 : decode b_TE_tell 49 = .ok (.iload 4, 2) := by decide +kernel
theorem d_TE_tell_51 : decode b_TE_tell 51 = .ok (.iastore, 1) := by decide +kernel
theorem d_TE_tell_52 : decode b_TE_tell 52 = .ok (.aload_n 0, 1) := by decide +kernel
theorem d_TE_tell_53 : decode b_TE_tell 53 = .ok (.getfield 24, 3) := by decide +kernel
theorem d_TE_tell_56 : decode b_TE_tell 56 = .ok (.aload_n 0, 1) := by decide +kernel
theorem d_TE_tell_57 : decode b_TE_tell 57 = .ok (.getfield 31, 3) := by decide +kernel
theorem d_TE_tell_60 : decode b_TE_tell 60 = .ok (.iconst 1, 1) := by decide +kernel
theorem d_TE_tell_61 : decode b_TE_tell 61 = .ok (.bastore, 1) := by decide +kernel
theorem d_TE_tell_62 : decode b_TE_tell 62 = .ok (.iload_n 2, 1) := by decide +kernel
theorem d_TE_tell_63 : decode b_TE_tell 63 = .ok (.iconst (-1), 1) := by decide +kernel
theorem d_TE_tell_64 : decode b_TE_tell 64 = .ok (.if_icmp .ne 13, 3) := by decide +kernel
theorem d_TE_tell_67 : decode b_TE_tell 67 = .ok (.aload_n 0, 1) := by decide +kernel
theorem d_TE_tell_68 : decode b_TE_tell 68 = .ok (.dup, 1) := by decide +kernel
theorem d_TE_tell_69 : decode b_TE_tell 69 = .ok (.getfield 35, 3) := by decide +kernel
theorem d_TE_tell_72 : decode b_TE_tell 72 = .ok (.iconst 1, 1) := by decide +kernel
theorem d_TE_tell_73 : decode b_TE_tell 73 = .ok (.iadd, 1) := by decide +kernel
theorem d_TE_tell_74 : decode b_TE_tell 74 = .ok (.putfield 35, 3) := by decide +kernel
theorem d_TE_tell_77 : decode b_TE_tell 77 = .ok (.aload_n 0, 1) := by decide +kernel
theorem d_TE_tell_78 : decode b_TE_tell 78 = .ok (.dup, 1) := by decide +kernel
theorem d_TE_tell_79 : decode b_TE_tell 79 = .ok (.getfield 31, 3) := by decide +kernel
theorem d_TE_tell_82 : decode b_TE_tell 82 = .ok (.iconst 1, 1) := by decide +kernel
theorem d_TE_tell_83 : decode b_TE_tell 83 = .ok (.iadd, 1) := by decide +kernel
theorem d_TE_tell_84 : decode b_TE_tell 84 = .ok (.putfield 31, 3) := by decide +kernel
theorem d_TE_tell_87 : decode b_TE_tell 87 = .ok (.aload_n 0, 1) := by decide +kernel
theorem d_TE_tell_88 : decode b_TE_tell 88 = .ok (.getfield 31, 3) := by decide +kernel
theorem d_TE_tell_91 : decode b_TE_tell 91 = .ok (.iconst 1, 1) := by decide +kernel
theorem d_TE_tell_92 : decode b_TE_tell 92 = .ok (.isub, 1) := by decide +kernel
theorem d_TE_tell_93 : decode b_TE_tell 93 = .ok (.ireturn, 1) := by decide +kernel
theorem d_TE_treeHasMember_0 : decode b_TE_treeHasMember 0 = .ok (.aload_n 0, 1) := by decide +kernel
theorem d_TE_treeHasMember_1 : decode b_TE_treeHasMember 1 = .ok (.invokevirtual 38, 3) := by decide +kernel
theorem d_TE_treeHasMember_4 : decode b_TE_treeHasMember 4 = .ok (.aload_n 0, 1) := by decide +kernel
theorem d_TE_treeHasMember_5 : decode b_TE_treeHasMember 5 = .ok (.aload_n 0, 1) := by decide +kernel
theorem d_TE_treeHasMember_6 : decode b_TE_treeHasMember 6 = .ok (.getfield 28, 3) := by decide +kernel
theorem d_TE_treeHasMember_9 : decode b_TE_treeHasMember 9 = .ok (.iload_n 1, 1) := by decide +kernel
theorem d_TE_treeHasMember_10 : decode b_TE_treeHasMember 10 = .ok (.iaload, 1) := by decide +kernel
theorem d_TE_treeHasMember_11 : decode b_TE_treeHasMember 11 = .ok (.invokevirtual 41, 3) := by decide +kernel
theorem d_TE_treeHasMember_14 : decode b_TE_treeHasMember 14 = .ok (.ireturn, 1) := by decide +kernel
theorem d_TE_members_0 : decode b_TE_members 0 = .ok (.aload_n 0, 1) := by decide +kernel
theorem d_TE_members_1 : decode b_TE_members 1 = .ok (.getfield 35, 3) := by decide +kernel
theorem d_TE_members_4 : decode b_TE_members 4 = .ok (.ireturn, 1) := by decide +kernel
theorem d_TE_setInForce_0 : decode b_TE_setInForce 0 = .ok (.aload_n 0, 1) := by decide +kernel
theorem d_TE_setInForce_1 : decode b_TE_setInForce 1 = .ok (.getfield 24, 3) := by decide +kernel
theorem d_TE_setInForce_4 : decode b_TE_setInForce 4 = .ok (.iload_n 1, 1) := by decide +kernel
theorem d_TE_setInForce_5 : decode b_TE_setInForce 5 = .ok (.iload_n 2, 1) := by decide +kernel
theorem d_TE_setInForce_6 : decode b_TE_setInForce 6 = .ok (.bastore, 1) := by decide +kernel
theorem d_TE_setInForce_7 : decode b_TE_setInForce 7 = .ok (.return_, 1) := by decide +kernel
theorem d_TE_inForceAt_0 : decode b_TE_inForceAt 0 = .ok (.iconst 0, 1) := by decide +kernel
theorem d_TE_inForceAt_1 : decode b_TE_inForceAt 1 = .ok (.istore_n 2, 1) := by decide +kernel
theorem d_TE_inForceAt_2 : decode b_TE_inForceAt 2 = .ok (.iconst 0, 1) := by decide +kernel
theorem d_TE_inForceAt_3 : decode b_TE_inForceAt 3 = .ok (.istore_n 3, 1) := by decide +kernel
theorem d_TE_inForceAt_4 : decode b_TE_inForceAt 4 = .ok (.iload_n 3, 1) := by decide +kernel
theorem d_TE_inForceAt_5 : decode b_TE_inForceAt 5 = .ok (.aload_n 0, 1) := by decide +kernel
theorem d_TE_inForceAt_6 : decode b_TE_inForceAt 6 = .ok (.getfield 31, 3) := by decide +kernel
theorem d_TE_inForceAt_9 : decode b_TE_inForceAt 9 = .ok (.if_icmp .ge 28, 3) := by decide +kernel
theorem d_TE_inForceAt_12 : decode b_TE_inForceAt 12 = .ok (.aload_n 0, 1) := by decide +kernel
theorem d_TE_inForceAt_13 : decode b_TE_inForceAt 13 = .ok (.getfield 24, 3) := by decide +kernel
theorem d_TE_inForceAt_16 : decode b_TE_inForceAt 16 = .ok (.iload_n 3, 1) := by decide +kernel
theorem d_TE_inForceAt_17 : decode b_TE_inForceAt 17 = .ok (.baload, 1) := by decide +kernel
theorem d_TE_inForceAt_18 : decode b_TE_inForceAt 18 = .ok (.ifCond .eq 13, 3) := by decide +kernel
theorem d_TE_inForceAt_21 : decode b_TE_inForceAt 21 = .ok (.iload_n 2, 1) := by decide +kernel
theorem d_TE_inForceAt_22 : decode b_TE_inForceAt 22 = .ok (.iload_n 1, 1) := by decide +kernel
theorem d_TE_inForceAt_23 : decode b_TE_inForceAt 23 = .ok (.if_icmp .ne 5, 3) := by decide +kernel
theorem d_TE_inForceAt_26 : decode b_TE_inForceAt 26 = .ok (.iload_n 3, 1) := by decide +kernel
theorem d_TE_inForceAt_27 : decode b_TE_inForceAt 27 = .ok (.ireturn, 1) := by decide +kernel
theorem d_TE_inForceAt_28 : decode b_TE_inForceAt 28 = .ok (.iinc 2 1, 3) := by decide +kernel
theorem d_TE_inForceAt_31 : decode b_TE_inForceAt 31 = .ok (.iinc 3 1, 3) := by decide +kernel
theorem d_TE_inForceAt_34 : decode b_TE_inForceAt 34 = .ok (.goto (-30), 3) := by decide +kernel
theorem d_TE_inForceAt_37 : decode b_TE_inForceAt 37 = .ok (.iconst (-1), 1) := by decide +kernel
theorem d_TE_inForceAt_38 : decode b_TE_inForceAt 38 = .ok (.ireturn, 1) := by decide +kernel
theorem d_TE_putAllBack_0 : decode b_TE_putAllBack 0 = .ok (.iconst 0, 1) := by decide +kernel
theorem d_TE_putAllBack_1 : decode b_TE_putAllBack 1 = .ok (.istore_n 1, 1) := by decide +kernel
theorem d_TE_putAllBack_2 : decode b_TE_putAllBack 2 = .ok (.iload_n 1, 1) := by decide +kernel
theorem d_TE_putAllBack_3 : decode b_TE_putAllBack 3 = .ok (.aload_n 0, 1) := by decide +kernel
theorem d_TE_putAllBack_4 : decode b_TE_putAllBack 4 = .ok (.getfield 31, 3) := by decide +kernel
theorem d_TE_putAllBack_7 : decode b_TE_putAllBack 7 = .ok (.if_icmp .ge 16, 3) := by decide +kernel
theorem d_TE_putAllBack_10 : decode b_TE_putAllBack 10 = .ok (.aload_n 0, 1) := by decide +kernel
theorem d_TE_putAllBack_11 : decode b_TE_putAllBack 11 = .ok (.getfield 24, 3) := by decide +kernel
theorem d_TE_putAllBack_14 : decode b_TE_putAllBack 14 = .ok (.iload_n 1, 1) := by decide +kernel
theorem d_TE_putAllBack_15 : decode b_TE_putAllBack 15 = .ok (.iconst 1, 1) := by decide +kernel
theorem d_TE_putAllBack_16 : decode b_TE_putAllBack 16 = .ok (.bastore, 1) := by decide +kernel
theorem d_TE_putAllBack_17 : decode b_TE_putAllBack 17 = .ok (.iinc 1 1, 3) := by decide +kernel
theorem d_TE_putAllBack_20 : decode b_TE_putAllBack 20 = .ok (.goto (-18), 3) := by decide +kernel
theorem d_TE_putAllBack_23 : decode b_TE_putAllBack 23 = .ok (.return_, 1) := by decide +kernel
