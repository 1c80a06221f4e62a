theorem d_DA_init_0 : decode b_DA_init 0 = .ok (.aload_n 0, 1) := by decide +kernel
theorem d_DA_init_1 : decode b_DA_init 1 = .ok (.invokespecial 3, 3) := by decide +kernel
theorem d_DA_init_4 : decode b_DA_init 4 = .ok (.aload_n 0, 1) := by decide +kernel
theorem d_DA_init_5 : decode b_DA_init 5 = .ok (.bipush 6, 2) := by decide +kernel
theorem d_DA_init_7 : decode b_DA_init 7 = .ok (.bipush 12, 2) := by decide +kernel
theorem d_DA_init_9 : decode b_DA_init 9 = .ok (.multianewarray 9 2, 4) := by decide +kernel
theorem d_DA_init_13 : decode b_DA_init 13 = .ok (.putfield 11, 3) := by decide +kernel
theorem d_DA_init_16 : decode b_DA_init 16 = .ok (.aload_n 0, 1) := by decide +kernel
theorem d_DA_init_17 : decode b_DA_init 17 = .ok (.bipush 6, 2) := by decide +kernel
theorem d_DA_init_19 : decode b_DA_init 19 = .ok (.newarray .int, 2) := by decide +kernel
theorem d_DA_init_21 : decode b_DA_init 21 = .ok (.putfield 16, 3) := by decide +kernel
theorem d_DA_init_24 : decode b_DA_init 24 = .ok (.aload_n 0, 1) := by decide +kernel
theorem d_DA_init_25 : decode b_DA_init 25 = .ok (.bipush 6, 2) := by decide +kernel
theorem d_DA_init_27 : decode b_DA_init 27 = .ok (.newarray .int, 2) := by decide +kernel
theorem d_DA_init_29 : decode b_DA_init 29 = .ok (.putfield 20, 3) := by decide +kernel
theorem d_DA_init_32 : decode b_DA_init 32 = .ok (.aload_n 0, 1) := by decide +kernel
theorem d_DA_init_33 : decode b_DA_init 33 = .ok (.iconst 0, 1) := by decide +kernel
theorem d_DA_init_34 : decode b_DA_init 34 = .ok (.putfield 23, 3) := by decide +kernel
theorem d_DA_init_37 : decode b_DA_init 37 = .ok (.return_, 1) := by decide +kernel
theorem d_DA_number_0 : decode b_DA_number 0 = .ok (.aload_n 0, 1) := by decide +kernel
theorem d_DA_number_1 : decode b_DA_number 1 = .ok (.getfield 23, 3) := by decide +kernel
theorem d_DA_number_4 : decode b_DA_number 4 = .ok (.ireturn, 1) := by decide +kernel
theorem d_DA_outlying_0 : decode b_DA_outlying 0 = .ok (.iconst 0, 1) := by decide +kernel
theorem d_DA_outlying_1 : decode b_DA_outlying 1 = .ok (.istore_n 2, 1) := by decide +kernel
theorem d_DA_outlying_2 : decode b_DA_outlying 2 = .ok (.iconst 0, 1) := by decide +kernel
theorem d_DA_outlying_3 : decode b_DA_outlying 3 = .ok (.istore_n 3, 1) := by decide +kernel
theorem d_DA_outlying_4 : decode b_DA_outlying 4 = .ok (.iload_n 3, 1) := by decide +kernel
theorem d_DA_outlying_5 : decode b_DA_outlying 5 = .ok (.bipush 12, 2) := by decide +kernel
theorem d_DA_outlying_7 : decode b_DA_outlying 7 = .ok (.if_icmp .ge 20, 3) := by decide +kernel
theorem d_DA_outlying_10 : decode b_DA_outlying 10 = .ok (.iload_n 2, 1) := by decide +kernel
theorem d_DA_outlying_11 : decode b_DA_outlying 11 = .ok (.aload_n 0, 1) := by decide +kernel
theorem d_DA_outlying_12 : decode b_DA_outlying 12 = .ok (.getfield 11, 3) := by decide +kernel
theorem d_DA_outlying_15 : decode b_DA_outlying 15 = .ok (.iload_n 1, 1) := by decide +kernel
theorem d_DA_outlying_16 : decode b_DA_outlying 16 = .ok (.aaload, 1) := by decide +kernel
theorem d_DA_outlying_17 : decode b_DA_outlying 17 = .ok (.iload_n 3, 1) := by decide +kernel
theorem d_DA_outlying_18 : decode b_DA_outlying 18 = .ok (.iaload, 1) := by decide +kernel
theorem d_DA_outlying_19 : decode b_DA_outlying 19 = .ok (.iadd, 1) := by decide +kernel
theorem d_DA_outlying_20 : decode b_DA_outlying 20 = .ok (.istore_n 2, 1) := by decide +kernel
theorem d_DA_outlying_21 : decode b_DA_outlying 21 = .ok (.iinc 3 1, 3) := by decide +kernel
theorem d_DA_outlying_24 : decode b_DA_outlying 24 = .ok (.goto (-20), 3) := by decide +kernel
theorem d_DA_outlying_27 : decode b_DA_outlying 27 = .ok (.aload_n 0, 1) := by decide +kernel
theorem d_DA_outlying_28 : decode b_DA_outlying 28 = .ok (.getfield 16, 3) := by decide +kernel
theorem d_DA_outlying_31 : decode b_DA_outlying 31 = .ok (.iload_n 1, 1) := by decide +kernel
theorem d_DA_outlying_32 : decode b_DA_outlying 32 = .ok (.iaload, 1) := by decide +kernel
theorem d_DA_outlying_33 : decode b_DA_outlying 33 = .ok (.iload_n 2, 1) := by decide +kernel
theorem d_DA_outlying_34 : decode b_DA_outlying 34 = .ok (.imul, 1) := by decide +kernel
theorem d_DA_outlying_35 : decode b_DA_outlying 35 = .ok (.ireturn, 1) := by decide +kernel
theorem d_DA_inlying_0 : decode b_DA_inlying 0 = .ok (.aload_n 0, 1) := by decide +kernel
theorem d_DA_inlying_1 : decode b_DA_inlying 1 = .ok (.getfield 20, 3) := by decide +kernel
theorem d_DA_inlying_4 : decode b_DA_inlying 4 = .ok (.iload_n 1, 1) := by decide +kernel
theorem d_DA_inlying_5 : decode b_DA_inlying 5 = .ok (.iaload, 1) := by decide +kernel
theorem d_DA_inlying_6 : decode b_DA_inlying 6 = .ok (.aload_n 0, 1) := by decide +kernel
theorem d_DA_inlying_7 : decode b_DA_inlying 7 = .ok (.getfield 16, 3) := by decide +kernel
theorem d_DA_inlying_10 : decode b_DA_inlying 10 = .ok (.iload_n 1, 1) := by decide +kernel
theorem d_DA_inlying_11 : decode b_DA_inlying 11 = .ok (.iaload, 1) := by decide +kernel
theorem d_DA_inlying_12 : decode b_DA_inlying 12 = .ok (.isub, 1) := by decide +kernel
theorem d_DA_inlying_13 : decode b_DA_inlying 13 = .ok (.bipush 12, 2) := by decide +kernel
theorem d_DA_inlying_15 : decode b_DA_inlying 15 = .ok (.imul, 1) := by decide +kernel
theorem d_DA_inlying_16 : decode b_DA_inlying 16 = .ok (.aload_n 0, 1) := by decide +kernel
theorem d_DA_inlying_17 : decode b_DA_inlying 17 = .ok (.getfield 11, 3) := by decide +kernel
theorem d_DA_inlying_20 : decode b_DA_inlying 20 = .ok (.iload_n 1, 1) := by decide +kernel
theorem d_DA_inlying_21 : decode b_DA_inlying 21 = .ok (.aaload, 1) := by decide +kernel
theorem d_DA_inlying_22 : decode b_DA_inlying 22 = .ok (.iload_n 2, 1) := by decide +kernel
theorem d_DA_inlying_23 : decode b_DA_inlying 23 = .ok (.iaload, 1) := by decide +kernel
theorem d_DA_inlying_24 : decode b_DA_inlying 24 = .ok (.imul, 1) := by decide +kernel
theorem d_DA_inlying_25 : decode b_DA_inlying 25 = .ok (.ireturn, 1) := by decide +kernel
theorem d_DA_open_0 : decode b_DA_open 0 = .ok (.aload_n 0, 1) := by decide +kernel
theorem d_DA_open_1 : decode b_DA_open 1 = .ok (.getfield 23, 3) := by decide +kernel
theorem d_DA_open_4 : decode b_DA_open 4 = .ok (.bipush 6, 2) := by decide +kernel
theorem d_DA_open_6 : decode b_DA_open 6 = .ok (.if_icmp .lt 5, 3) := by decide +kernel
theorem d_DA_open_9 : decode b_DA_open 9 = .ok (.iconst (-1), 1) := by decide +kernel
theorem d_DA_open_10 : decode b_DA_open 10 = .ok (.ireturn, 1) := by decide +kernel
theorem d_DA_open_11 : decode b_DA_open 11 = .ok (.aload_n 0, 1) := by decide +kernel
theorem d_DA_open_12 : decode b_DA_open 12 = .ok (.getfield 20, 3) := by decide +kernel
theorem d_DA_open_15 : decode b_DA_open 15 = .ok (.aload_n 0, 1) := by decide +kernel
theorem d_DA_open_16 : decode b_DA_open 16 = .ok (.getfield 23, 3) := by decide +kernel
theorem d_DA_open_19 : decode b_DA_open 19 = .ok (.iconst 1, 1) := by decide +kernel
theorem d_DA_open_20 : decode b_DA_open 20 = .ok (.iastore, 1) := by decide +kernel
theorem d_DA_open_21 : decode b_DA_open 21 = .ok (.aload_n 0, 1) := by decide +kernel
theorem d_DA_open_22 : decode b_DA_open 22 = .ok (.dup, 1) := by decide +kernel
theorem d_DA_open_23 : decode b_DA_open 23 = .ok (.getfield 23, 3) := by decide +kernel
theorem d_DA_open_26 : decode b_DA_open 26 = .ok (.iconst 1, 1) := by decide +kernel
theorem d_DA_open_27 : decode b_DA_open 27 = .ok (.iadd, 1) := by decide +kernel
theorem d_DA_open_28 : decode b_DA_open 28 = .ok (.putfield 23, 3) := by decide +kernel
theorem d_DA_open_31 : decode b_DA_open 31 = .ok (.aload_n 0, 1) := by decide +kernel
theorem d_DA_open_32 : decode b_DA_open 32 = .ok (.getfield 23, 3) := by decide +kernel
theorem d_DA_open_35 : decode b_DA_open 35 = .ok (.iconst 1, 1) := by decide +kernel
theorem d_DA_open_36 : decode b_DA_open 36 = .ok (.isub, 1) := by decide +kernel
theorem d_DA_open_37 : decode b_DA_open 37 = .ok (.ireturn, 1) := by decide +kernel
theorem d_DA_changeWeight_0 : decode b_DA_changeWeight 0 = .ok (.aload_n 0, 1) := by decide +kernel
theorem d_DA_changeWeight_1 : decode b_DA_changeWeight 1 = .ok (.getfield 11, 3) := by decide +kernel
theorem d_DA_changeWeight_4 : decode b_DA_changeWeight 4 = .ok (.iload_n 1, 1) := by decide +kernel
theorem d_DA_changeWeight_5 : decode b_DA_changeWeight 5 = .ok (.aaload, 1) := by decide +kernel
theorem d_DA_changeWeight_6 : decode b_DA_changeWeight 6 = .ok (.iload_n 2, 1) := by decide +kernel
theorem d_DA_changeWeight_7 : decode b_DA_changeWeight 7 = .ok (.iaload, 1) := by decide +kernel
theorem d_DA_changeWeight_8 : decode b_DA_changeWeight 8 = .ok (.istore 4, 2) := by decide +kernel
theorem d_DA_changeWeight_10 : decode b_DA_changeWeight 10 = .ok (.aload_n 0, 1) := by decide +kernel
theorem d_DA_changeWeight_11 : decode b_DA_changeWeight 11 = .ok (.getfield 11, 3) := by decide +kernel
theorem d_DA_changeWeight_14 : decode b_DA_changeWeight 14 = .ok (.iload_n 1, 1) := by decide +kernel
theorem d_DA_changeWeight_15 : decode b_DA_changeWeight 15 = .ok (.aaload, 1) := by decide +kernel
theorem d_DA_changeWeight_16 : decode b_DA_changeWeight 16 = .ok (.iload_n 2, 1) := by decide +kernel
theorem d_DA_changeWeight_17 : decode b_DA_changeWeight 17 = .ok (.iload_n 3, 1) := by decide +kernel
theorem d_DA_changeWeight_18 : decode b_DA_changeWeight 18 = .ok (.iastore, 1) := by decide +kernel
theorem d_DA_changeWeight_19 : decode b_DA_changeWeight 19 = .ok (.iload 4, 2) := by decide +kernel
theorem d_DA_changeWeight_21 : decode b_DA_changeWeight 21 = .ok (.ireturn, 1) := by decide +kernel
theorem d_DA_changeShare_0 : decode b_DA_changeShare 0 = .ok (.aload_n 0, 1) := by decide +kernel
theorem d_DA_changeShare_1 : decode b_DA_changeShare 1 = .ok (.getfield 16, 3) := by decide +kernel
theorem d_DA_changeShare_4 : decode b_DA_changeShare 4 = .ok (.iload_n 1, 1) := by decide +kernel
theorem d_DA_changeShare_5 : decode b_DA_changeShare 5 = .ok (.iload_n 2, 1) := by decide +kernel
theorem d_DA_changeShare_6 : decode b_DA_changeShare 6 = .ok (.iastore, 1) := by decide +kernel
theorem d_DA_changeShare_7 : decode b_DA_changeShare 7 = .ok (.aload_n 0, 1) := by decide +kernel
theorem d_DA_changeShare_8 : decode b_DA_changeShare 8 = .ok (.getfield 20, 3) := by decide +kernel
theorem d_DA_changeShare_11 : decode b_DA_changeShare 11 = .ok (.iload_n 1, 1) := by decide +kernel
theorem d_DA_changeShare_12 : decode b_DA_changeShare 12 = .ok (.iload_n 3, 1) := by decide +kernel
theorem d_DA_changeShare_13 : decode b_DA_changeShare 13 = .ok (.iastore, 1) := by decide +kernel
theorem d_DA_changeShare_14 : decode b_DA_changeShare 14 = .ok (.return_, 1) := by decide +kernel
