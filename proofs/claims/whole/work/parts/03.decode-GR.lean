theorem d_GR_init_0 : decode b_GR_init 0 = .ok (.aload_n 0, 1) := by decide +kernel
theorem d_GR_init_1 : decode b_GR_init 1 = .ok (.invokespecial 1, 3) := by decide +kernel
theorem d_GR_init_4 : decode b_GR_init 4 = .ok (.aload_n 0, 1) := by decide +kernel
theorem d_GR_init_5 : decode b_GR_init 5 = .ok (.bipush 6, 2) := by decide +kernel
theorem d_GR_init_7 : decode b_GR_init 7 = .ok (.newarray .long, 2) := by decide +kernel
theorem d_GR_init_9 : decode b_GR_init 9 = .ok (.putfield 9, 3) := by decide +kernel
theorem d_GR_init_12 : decode b_GR_init 12 = .ok (.aload_n 0, 1) := by decide +kernel
theorem d_GR_init_13 : decode b_GR_init 13 = .ok (.iconst 0, 1) := by decide +kernel
theorem d_GR_init_14 : decode b_GR_init 14 = .ok (.putfield 13, 3) := by decide +kernel
theorem d_GR_init_17 : decode b_GR_init 17 = .ok (.return_, 1) := by decide +kernel
theorem d_GR_set_0 : decode b_GR_set 0 = .ok (.iconst 0, 1) := by decide +kernel
theorem d_GR_set_1 : decode b_GR_set 1 = .ok (.istore_n 2, 1) := by decide +kernel
theorem d_GR_set_2 : decode b_GR_set 2 = .ok (.iload_n 2, 1) := by decide +kernel
theorem d_GR_set_3 : decode b_GR_set 3 = .ok (.aload_n 0, 1) := by decide +kernel
theorem d_GR_set_4 : decode b_GR_set 4 = .ok (.getfield 13, 3) := by decide +kernel
theorem d_GR_set_7 : decode b_GR_set 7 = .ok (.if_icmp .ge 16, 3) := by decide +kernel
theorem d_GR_set_10 : decode b_GR_set 10 = .ok (.aload_n 0, 1) := by decide +kernel
theorem d_GR_set_11 : decode b_GR_set 11 = .ok (.getfield 9, 3) := by decide +kernel
theorem d_GR_set_14 : decode b_GR_set 14 = .ok (.iload_n 2, 1) := by decide +kernel
theorem d_GR_set_15 : decode b_GR_set 15 = .ok (.lconst 0, 1) := by decide +kernel
theorem d_GR_set_16 : decode b_GR_set 16 = .ok (.lastore, 1) := by decide +kernel
theorem d_GR_set_17 : decode b_GR_set 17 = .ok (.iinc 2 1, 3) := by decide +kernel
theorem d_GR_set_20 : decode b_GR_set 20 = .ok (.goto (-18), 3) := by decide +kernel
theorem d_GR_set_23 : decode b_GR_set 23 = .ok (.aload_n 0, 1) := by decide +kernel
theorem d_GR_set_24 : decode b_GR_set 24 = .ok (.getfield 9, 3) := by decide +kernel
theorem d_GR_set_27 : decode b_GR_set 27 = .ok (.iconst 0, 1) := by decide +kernel
theorem d_GR_set_28 : decode b_GR_set 28 = .ok (.iload_n 1, 1) := by decide +kernel
theorem d_GR_set_29 : decode b_GR_set 29 = .ok (.i2l, 1) := by decide +kernel
theorem d_GR_set_30 : decode b_GR_set 30 = .ok (.lastore, 1) := by decide +kernel
theorem d_GR_set_31 : decode b_GR_set 31 = .ok (.aload_n 0, 1) := by decide +kernel
theorem d_GR_set_32 : decode b_GR_set 32 = .ok (.iload_n 1, 1) := by decide +kernel
theorem d_GR_set_33 : decode b_GR_set 33 = .ok (.ifCond .ne 7, 3) := by decide +kernel
theorem d_GR_set_36 : decode b_GR_set 36 = .ok (.iconst 0, 1) := by decide +kernel
theorem d_GR_set_37 : decode b_GR_set 37 = .ok (.goto 4, 3) := by decide +kernel
theorem d_GR_set_40 : decode b_GR_set 40 = .ok (.iconst 1, 1) := by decide +kernel
theorem d_GR_set_41 : decode b_GR_set 41 = .ok (.putfield 13, 3) := by decide +kernel
theorem d_GR_set_44 : decode b_GR_set 44 = .ok (.return_, 1) := by decide +kernel
theorem d_GR_add_0 : decode b_GR_add 0 = .ok (.lconst 0, 1) := by decide +kernel
theorem d_GR_add_1 : decode b_GR_add 1 = .ok (.lstore_n 2, 1) := by decide +kernel
theorem d_GR_add_2 : decode b_GR_add 2 = .ok (.aload_n 0, 1) := by decide +kernel
theorem d_GR_add_3 : decode b_GR_add 3 = .ok (.getfield 13, 3) := by decide +kernel
theorem d_GR_add_6 : decode b_GR_add 6 = .ok (.aload_n 1, 1) := by decide +kernel
theorem d_GR_add_7 : decode b_GR_add 7 = .ok (.getfield 13, 3) := by decide +kernel
theorem d_GR_add_10 : decode b_GR_add 10 = .ok (.if_icmp .le 10, 3) := by decide +kernel
theorem d_GR_add_13 : decode b_GR_add 13 = .ok (.aload_n 0, 1) := by decide +kernel
theorem d_GR_add_14 : decode b_GR_add 14 = .ok (.getfield 13, 3) := by decide +kernel
theorem d_GR_add_17 : decode b_GR_add 17 = .ok (.goto 7, 3) := by decide +kernel
theorem d_GR_add_20 : decode b_GR_add 20 = .ok (.aload_n 1, 1) := by decide +kernel
theorem d_GR_add_21 : decode b_GR_add 21 = .ok (.getfield 13, 3) := by decide +kernel
theorem d_GR_add_24 : decode b_GR_add 24 = .ok (.istore 4, 2) := by decide +kernel
theorem d_GR_add_26 : decode b_GR_add 26 = .ok (.iconst 0, 1) := by decide +kernel
theorem d_GR_add_27 : decode b_GR_add 27 = .ok (.istore 5, 2) := by decide +kernel
theorem d_GR_add_29 : decode b_GR_add 29 = .ok (.iload 5, 2) := by decide +kernel
theorem d_GR_add_31 : decode b_GR_add 31 = .ok (.bipush 6, 2) := by decide +kernel
theorem d_GR_add_33 : decode b_GR_add 33 = .ok (.if_icmp .ge 71, 3) := by decide +kernel
theorem d_GR_add_36 : decode b_GR_add 36 = .ok (.iload 5, 2) := by decide +kernel
theorem d_GR_add_38 : decode b_GR_add 38 = .ok (.iload 4, 2) := by decide +kernel
theorem d_GR_add_40 : decode b_GR_add 40 = .ok (.if_icmp .lt 9, 3) := by decide +kernel
theorem d_GR_add_43 : decode b_GR_add 43 = .ok (.lload_n 2, 1) := by decide +kernel
theorem d_GR_add_44 : decode b_GR_add 44 = .ok (.lconst 0, 1) := by decide +kernel
theorem d_GR_add_45 : decode b_GR_add 45 = .ok (.lcmp, 1) := by decide +kernel
theorem d_GR_add_46 : decode b_GR_add 46 = .ok (.ifCond .le 58, 3) := by decide +kernel
theorem d_GR_add_49 : decode b_GR_add 49 = .ok (.aload_n 0, 1) := by decide +kernel
theorem d_GR_add_50 : decode b_GR_add 50 = .ok (.getfield 9, 3) := by decide +kernel
theorem d_GR_add_53 : decode b_GR_add 53 = .ok (.iload 5, 2) := by decide +kernel
theorem d_GR_add_55 : decode b_GR_add 55 = .ok (.laload, 1) := by decide +kernel
theorem d_GR_add_56 : decode b_GR_add 56 = .ok (.aload_n 1, 1) := by decide +kernel
theorem d_GR_add_57 : decode b_GR_add 57 = .ok (.getfield 9, 3) := by decide +kernel
theorem d_GR_add_60 : decode b_GR_add 60 = .ok (.iload 5, 2) := by decide +kernel
theorem d_GR_add_62 : decode b_GR_add 62 = .ok (.laload, 1) := by decide +kernel
theorem d_GR_add_63 : decode b_GR_add 63 = .ok (.ladd, 1) := by decide +kernel
theorem d_GR_add_64 : decode b_GR_add 64 = .ok (.lload_n 2, 1) := by decide +kernel
theorem d_GR_add_65 : decode b_GR_add 65 = .ok (.ladd, 1) := by decide +kernel
theorem d_GR_add_66 : decode b_GR_add 66 = .ok (.lstore 6, 2) := by decide +kernel
theorem d_GR_add_68 : decode b_GR_add 68 = .ok (.lload 6, 2) := by decide +kernel
theorem d_GR_add_70 : decode b_GR_add 70 = .ok (.ldc2_w 17, 3) := by decide +kernel
theorem d_GR_add_73 : decode b_GR_add 73 = .ok (.lcmp, 1) := by decide +kernel
theorem d_GR_add_74 : decode b_GR_add 74 = .ok (.ifCond .lt 7, 3) := by decide +kernel
theorem d_GR_add_77 : decode b_GR_add 77 = .ok (.lconst 1, 1) := by decide +kernel
theorem d_GR_add_78 : decode b_GR_add 78 = .ok (.goto 4, 3) := by decide +kernel
theorem d_GR_add_81 : decode b_GR_add 81 = .ok (.lconst 0, 1) := by decide +kernel
theorem d_GR_add_82 : decode b_GR_add 82 = .ok (.lstore_n 2, 1) := by decide +kernel
theorem d_GR_add_83 : decode b_GR_add 83 = .ok (.aload_n 0, 1) := by decide +kernel
theorem d_GR_add_84 : decode b_GR_add 84 = .ok (.getfield 9, 3) := by decide +kernel
theorem d_GR_add_87 : decode b_GR_add 87 = .ok (.iload 5, 2) := by decide +kernel
theorem d_GR_add_89 : decode b_GR_add 89 = .ok (.lload 6, 2) := by decide +kernel
theorem d_GR_add_91 : decode b_GR_add 91 = .ok (.lload_n 2, 1) := by decide +kernel
theorem d_GR_add_92 : decode b_GR_add 92 = .ok (.ldc2_w 17, 3) := by decide +kernel
theorem d_GR_add_95 : decode b_GR_add 95 = .ok (.lmul, 1) := by decide +kernel
theorem d_GR_add_96 : decode b_GR_add 96 = .ok (.lsub, 1) := by decide +kernel
theorem d_GR_add_97 : decode b_GR_add 97 = .ok (.lastore, 1) := by decide +kernel
theorem d_GR_add_98 : decode b_GR_add 98 = .ok (.iinc 5 1, 3) := by decide +kernel
theorem d_GR_add_101 : decode b_GR_add 101 = .ok (.goto (-72), 3) := by decide +kernel
theorem d_GR_add_104 : decode b_GR_add 104 = .ok (.aload_n 0, 1) := by decide +kernel
theorem d_GR_add_105 : decode b_GR_add 105 = .ok (.iload 5, 2) := by decide +kernel
theorem d_GR_add_107 : decode b_GR_add 107 = .ok (.putfield 13, 3) := by decide +kernel
theorem d_GR_add_110 : decode b_GR_add 110 = .ok (.return_, 1) := by decide +kernel
theorem d_GR_multiply_0 : decode b_GR_multiply 0 = .ok (.aload_n 0, 1) := by decide +kernel
theorem d_GR_multiply_1 : decode b_GR_multiply 1 = .ok (.getfield 13, 3) := by decide +kernel
theorem d_GR_multiply_4 : decode b_GR_multiply 4 = .ok (.aload_n 1, 1) := by decide +kernel
theorem d_GR_multiply_5 : decode b_GR_multiply 5 = .ok (.getfield 13, 3) := by decide +kernel
theorem d_GR_multiply_8 : decode b_GR_multiply 8 = .ok (.iadd, 1) := by decide +kernel
theorem d_GR_multiply_9 : decode b_GR_multiply 9 = .ok (.bipush 6, 2) := by decide +kernel
theorem d_GR_multiply_11 : decode b_GR_multiply 11 = .ok (.if_icmp .ge 15, 3) := by decide +kernel
theorem d_GR_multiply_14 : decode b_GR_multiply 14 = .ok (.aload_n 0, 1) := by decide +kernel
theorem d_GR_multiply_15 : decode b_GR_multiply 15 = .ok (.getfield 13, 3) := by decide +kernel
theorem d_GR_multiply_18 : decode b_GR_multiply 18 = .ok (.aload_n 1, 1) := by decide +kernel
theorem d_GR_multiply_19 : decode b_GR_multiply 19 = .ok (.getfield 13, 3) := by decide +kernel
theorem d_GR_multiply_22 : decode b_GR_multiply 22 = .ok (.iadd, 1) := by decide +kernel
theorem d_GR_multiply_23 : decode b_GR_multiply 23 = .ok (.goto 5, 3) := by decide +kernel
theorem d_GR_multiply_26 : decode b_GR_multiply 26 = .ok (.bipush 6, 2) := by decide +kernel
theorem d_GR_multiply_28 : decode b_GR_multiply 28 = .ok (.istore_n 2, 1) := by decide +kernel
theorem d_GR_multiply_29 : decode b_GR_multiply 29 = .ok (.aload_n 0, 1) := by decide +kernel
theorem d_GR_multiply_30 : decode b_GR_multiply 30 = .ok (.getfield 13, 3) := by decide +kernel
theorem d_GR_multiply_33 : decode b_GR_multiply 33 = .ok (.iconst 1, 1) := by decide +kernel
theorem d_GR_multiply_34 : decode b_GR_multiply 34 = .ok (.isub, 1) := by decide +kernel
theorem d_GR_multiply_35 : decode b_GR_multiply 35 = .ok (.istore_n 3, 1) := by decide +kernel
theorem d_GR_multiply_36 : decode b_GR_multiply 36 = .ok (.iload_n 3, 1) := by decide +kernel
theorem d_GR_multiply_37 : decode b_GR_multiply 37 = .ok (.ifCond .lt 112, 3) := by decide +kernel
theorem d_GR_multiply_40 : decode b_GR_multiply 40 = .ok (.aload_n 0, 1) := by decide +kernel
theorem d_GR_multiply_41 : decode b_GR_multiply 41 = .ok (.getfield 9, 3) := by decide +kernel
theorem d_GR_multiply_44 : decode b_GR_multiply 44 = .ok (.iload_n 3, 1) := by decide +kernel
theorem d_GR_multiply_45 : decode b_GR_multiply 45 = .ok (.laload, 1) := by decide +kernel
theorem d_GR_multiply_46 : decode b_GR_multiply 46 = .ok (.lstore 4, 2) := by decide +kernel
theorem d_GR_multiply_48 : decode b_GR_multiply 48 = .ok (.lconst 0, 1) := by decide +kernel
theorem d_GR_multiply_49 : decode b_GR_multiply 49 = .ok (.lstore 6, 2) := by decide +kernel
theorem d_GR_multiply_51 : decode b_GR_multiply 51 = .ok (.aload_n 0, 1) := by decide +kernel
theorem d_GR_multiply_52 : decode b_GR_multiply 52 = .ok (.getfield 9, 3) := by decide +kernel
theorem d_GR_multiply_55 : decode b_GR_multiply 55 = .ok (.iload_n 3, 1) := by decide +kernel
theorem d_GR_multiply_56 : decode b_GR_multiply 56 = .ok (.lconst 0, 1) := by decide +kernel
theorem d_GR_multiply_57 : decode b_GR_multiply 57 = .ok (.lastore, 1) := by decide +kernel
theorem d_GR_multiply_58 : decode b_GR_multiply 58 = .ok (.iconst 0, 1) := by decide +kernel
theorem d_GR_multiply_59 : decode b_GR_multiply 59 = .ok (.istore 8, 2) := by decide +kernel
theorem d_GR_multiply_61 : decode b_GR_multiply 61 = .ok (.iload_n 3, 1) := by decide +kernel
theorem d_GR_multiply_62 : decode b_GR_multiply 62 = .ok (.iload 8, 2) := by decide +kernel
theorem d_GR_multiply_64 : decode b_GR_multiply 64 = .ok (.iadd, 1) := by decide +kernel
theorem d_GR_multiply_65 : decode b_GR_multiply 65 = .ok (.bipush 6, 2) := by decide +kernel
theorem d_GR_multiply_67 : decode b_GR_multiply 67 = .ok (.if_icmp .ge 76, 3) := by decide +kernel
theorem d_GR_multiply_70 : decode b_GR_multiply 70 = .ok (.iload 8, 2) := by decide +kernel
theorem d_GR_multiply_72 : decode b_GR_multiply 72 = .ok (.aload_n 1, 1) := by decide +kernel
theorem d_GR_multiply_73 : decode b_GR_multiply 73 = .ok (.getfield 13, 3) := by decide +kernel
theorem d_GR_multiply_76 : decode b_GR_multiply 76 = .ok (.if_icmp .lt 10, 3) := by decide +kernel
theorem d_GR_multiply_79 : decode b_GR_multiply 79 = .ok (.lload 6, 2) := by decide +kernel
theorem d_GR_multiply_81 : decode b_GR_multiply 81 = .ok (.lconst 0, 1) := by decide +kernel
theorem d_GR_multiply_82 : decode b_GR_multiply 82 = .ok (.lcmp, 1) := by decide +kernel
theorem d_GR_multiply_83 : decode b_GR_multiply 83 = .ok (.ifCond .le 60, 3) := by decide +kernel
theorem d_GR_multiply_86 : decode b_GR_multiply 86 = .ok (.aload_n 0, 1) := by decide +kernel
theorem d_GR_multiply_87 : decode b_GR_multiply 87 = .ok (.getfield 9, 3) := by decide +kernel
theorem d_GR_multiply_90 : decode b_GR_multiply 90 = .ok (.iload_n 3, 1) := by decide +kernel
theorem d_GR_multiply_91 : decode b_GR_multiply 91 = .ok (.iload 8, 2) := by decide +kernel
theorem d_GR_multiply_93 : decode b_GR_multiply 93 = .ok (.iadd, 1) := by decide +kernel
theorem d_GR_multiply_94 : decode b_GR_multiply 94 = .ok (.laload, 1) := by decide +kernel
theorem d_GR_multiply_95 : decode b_GR_multiply 95 = .ok (.lload 4, 2) := by decide +kernel
theorem d_GR_multiply_97 : decode b_GR_multiply 97 = .ok (.aload_n 1, 1) := by decide +kernel
theorem d_GR_multiply_98 : decode b_GR_multiply 98 = .ok (.getfield 9, 3) := by decide +kernel
theorem d_GR_multiply_101 : decode b_GR_multiply 101 = .ok (.iload 8, 2) := by decide +kernel
theorem d_GR_multiply_103 : decode b_GR_multiply 103 = .ok (.laload, 1) := by decide +kernel
theorem d_GR_multiply_104 : decode b_GR_multiply 104 = .ok (.lmul, 1) := by decide +kernel
theorem d_GR_multiply_105 : decode b_GR_multiply 105 = .ok (.ladd, 1) := by decide +kernel
theorem d_GR_multiply_106 : decode b_GR_multiply 106 = .ok (.lload 6, 2) := by decide +kernel
theorem d_GR_multiply_108 : decode b_GR_multiply 108 = .ok (.ladd, 1) := by decide +kernel
theorem d_GR_multiply_109 : decode b_GR_multiply 109 = .ok (.lstore 9, 2) := by decide +kernel
theorem d_GR_multiply_111 : decode b_GR_multiply 111 = .ok (.lload 9, 2) := by decide +kernel
theorem d_GR_multiply_113 : decode b_GR_multiply 113 = .ok (.ldc2_w 17, 3) := by decide +kernel
theorem d_GR_multiply_116 : decode b_GR_multiply 116 = .ok (.ldiv, 1) := by decide +kernel
theorem d_GR_multiply_117 : decode b_GR_multiply 117 = .ok (.lstore 6, 2) := by decide +kernel
theorem d_GR_multiply_119 : decode b_GR_multiply 119 = .ok (.aload_n 0, 1) := by decide +kernel
theorem d_GR_multiply_120 : decode b_GR_multiply 120 = .ok (.getfield 9, 3) := by decide +kernel
theorem d_GR_multiply_123 : decode b_GR_multiply 123 = .ok (.iload_n 3, 1) := by decide +kernel
theorem d_GR_multiply_124 : decode b_GR_multiply 124 = .ok (.iload 8, 2) := by decide +kernel
theorem d_GR_multiply_126 : decode b_GR_multiply 126 = .ok (.iadd, 1) := by decide +kernel
theorem d_GR_multiply_127 : decode b_GR_multiply 127 = .ok (.lload 9, 2) := by decide +kernel
theorem d_GR_multiply_129 : decode b_GR_multiply 129 = .ok (.lload 6, 2) := by decide +kernel
theorem d_GR_multiply_131 : decode b_GR_multiply 131 = .ok (.ldc2_w 17, 3) := by decide +kernel
theorem d_GR_multiply_134 : decode b_GR_multiply 134 = .ok (.lmul, 1) := by decide +kernel
theorem d_GR_multiply_135 : decode b_GR_multiply 135 = .ok (.lsub, 1) := by decide +kernel
theorem d_GR_multiply_136 : decode b_GR_multiply 136 = .ok (.lastore, 1) := by decide +kernel
theorem d_GR_multiply_137 : decode b_GR_multiply 137 = .ok (.iinc 8 1, 3) := by decide +kernel
theorem d_GR_multiply_140 : decode b_GR_multiply 140 = .ok (.goto (-79), 3) := by decide +kernel
theorem d_GR_multiply_143 : decode b_GR_multiply 143 = .ok (.iinc 3 (-1), 3) := by decide +kernel
theorem d_GR_multiply_146 : decode b_GR_multiply 146 = .ok (.goto (-110), 3) := by decide +kernel
theorem d_GR_multiply_149 : decode b_GR_multiply 149 = .ok (.iload_n 2, 1) := by decide +kernel
theorem d_GR_multiply_150 : decode b_GR_multiply 150 = .ok (.ifCond .le 22, 3) := by decide +kernel
theorem d_GR_multiply_153 : decode b_GR_multiply 153 = .ok (.aload_n 0, 1) := by decide +kernel
theorem d_GR_multiply_154 : decode b_GR_multiply 154 = .ok (.getfield 9, 3) := by decide +kernel
theorem d_GR_multiply_157 : decode b_GR_multiply 157 = .ok (.iload_n 2, 1) := by decide +kernel
theorem d_GR_multiply_158 : decode b_GR_multiply 158 = .ok (.iconst 1, 1) := by decide +kernel
theorem d_GR_multiply_159 : decode b_GR_multiply 159 = .ok (.isub, 1) := by decide +kernel
theorem d_GR_multiply_160 : decode b_GR_multiply 160 = .ok (.laload, 1) := by decide +kernel
theorem d_GR_multiply_161 : decode b_GR_multiply 161 = .ok (.lconst 0, 1) := by decide +kernel
theorem d_GR_multiply_162 : decode b_GR_multiply 162 = .ok (.lcmp, 1) := by decide +kernel
theorem d_GR_multiply_163 : decode b_GR_multiply 163 = .ok (.ifCond .ne 9, 3) := by decide +kernel
theorem d_GR_multiply_166 : decode b_GR_multiply 166 = .ok (.iinc 2 (-1), 3) := by decide +kernel
theorem d_GR_multiply_169 : decode b_GR_multiply 169 = .ok (.goto (-20), 3) := by decide +kernel
theorem d_GR_multiply_172 : decode b_GR_multiply 172 = .ok (.aload_n 0, 1) := by decide +kernel
theorem d_GR_multiply_173 : decode b_GR_multiply 173 = .ok (.iload_n 2, 1) := by decide +kernel
theorem d_GR_multiply_174 : decode b_GR_multiply 174 = .ok (.putfield 13, 3) := by decide +kernel
theorem d_GR_multiply_177 : decode b_GR_multiply 177 = .ok (.return_, 1) := by decide +kernel
theorem d_GR_isZero_0 : decode b_GR_isZero 0 = .ok (.aload_n 0, 1) := by decide +kernel
theorem d_GR_isZero_1 : decode b_GR_isZero 1 = .ok (.getfield 13, 3) := by decide +kernel
theorem d_GR_isZero_4 : decode b_GR_isZero 4 = .ok (.ifCond .ne 7, 3) := by decide +kernel
theorem d_GR_isZero_7 : decode b_GR_isZero 7 = .ok (.iconst 1, 1) := by decide +kernel
theorem d_GR_isZero_8 : decode b_GR_isZero 8 = .ok (.goto 4, 3) := by decide +kernel
theorem d_GR_isZero_11 : decode b_GR_isZero 11 = .ok (.iconst 0, 1) := by decide +kernel
theorem d_GR_isZero_12 : decode b_GR_isZero 12 = .ok (.ireturn, 1) := by decide +kernel
theorem d_GR_digitAt_0 : decode b_GR_digitAt 0 = .ok (.iload_n 1, 1) := by decide +kernel
theorem d_GR_digitAt_1 : decode b_GR_digitAt 1 = .ok (.ifCond .lt 9, 3) := by decide +kernel
theorem d_GR_digitAt_4 : decode b_GR_digitAt 4 = .ok (.iload_n 1, 1) := by decide +kernel
theorem d_GR_digitAt_5 : decode b_GR_digitAt 5 = .ok (.bipush 48, 2) := by decide +kernel
theorem d_GR_digitAt_7 : decode b_GR_digitAt 7 = .ok (.if_icmp .lt 5, 3) := by decide +kernel
theorem d_GR_digitAt_10 : decode b_GR_digitAt 10 = .ok (.iconst 0, 1) := by decide +kernel
theorem d_GR_digitAt_11 : decode b_GR_digitAt 11 = .ok (.ireturn, 1) := by decide +kernel
theorem d_GR_digitAt_12 : decode b_GR_digitAt 12 = .ok (.aload_n 0, 1) := by decide +kernel
theorem d_GR_digitAt_13 : decode b_GR_digitAt 13 = .ok (.getfield 9, 3) := by decide +kernel
theorem d_GR_digitAt_16 : decode b_GR_digitAt 16 = .ok (.iload_n 1, 1) := by decide +kernel
theorem d_GR_digitAt_17 : decode b_GR_digitAt 17 = .ok (.bipush 8, 2) := by decide +kernel
theorem d_GR_digitAt_19 : decode b_GR_digitAt 19 = .ok (.idiv, 1) := by decide +kernel
theorem d_GR_digitAt_20 : decode b_GR_digitAt 20 = .ok (.laload, 1) := by decide +kernel
theorem d_GR_digitAt_21 : decode b_GR_digitAt 21 = .ok (.lstore_n 2, 1) := by decide +kernel
theorem d_GR_digitAt_22 : decode b_GR_digitAt 22 = .ok (.iload_n 1, 1) := by decide +kernel
theorem d_GR_digitAt_23 : decode b_GR_digitAt 23 = .ok (.bipush 8, 2) := by decide +kernel
theorem d_GR_digitAt_25 : decode b_GR_digitAt 25 = .ok (.irem, 1) := by decide +kernel
theorem d_GR_digitAt_26 : decode b_GR_digitAt 26 = .ok (.istore 4, 2) := by decide +kernel
theorem d_GR_digitAt_28 : decode b_GR_digitAt 28 = .ok (.iload 4, 2) := by decide +kernel
theorem d_GR_digitAt_30 : decode b_GR_digitAt 30 = .ok (.ifCond .le 15, 3) := by decide +kernel
theorem d_GR_digitAt_33 : decode b_GR_digitAt 33 = .ok (.lload_n 2, 1) := by decide +kernel
theorem d_GR_digitAt_34 : decode b_GR_digitAt 34 = .ok (.ldc2_w 19, 3) := by decide +kernel
theorem d_GR_digitAt_37 : decode b_GR_digitAt 37 = .ok (.ldiv, 1) := by decide +kernel
theorem d_GR_digitAt_38 : decode b_GR_digitAt 38 = .ok (.lstore_n 2, 1) := by decide +kernel
theorem d_GR_digitAt_39 : decode b_GR_digitAt 39 = .ok (.iinc 4 (-1), 3) := by decide +kernel
theorem d_GR_digitAt_42 : decode b_GR_digitAt 42 = .ok (.goto (-14), 3) := by decide +kernel
theorem d_GR_digitAt_45 : decode b_GR_digitAt 45 = .ok (.lload_n 2, 1) := by decide +kernel
theorem d_GR_digitAt_46 : decode b_GR_digitAt 46 = .ok (.ldc2_w 19, 3) := by decide +kernel
theorem d_GR_digitAt_49 : decode b_GR_digitAt 49 = .ok (.lrem, 1) := by decide +kernel
theorem d_GR_digitAt_50 : decode b_GR_digitAt 50 = .ok (.l2i, 1) := by decide +kernel
theorem d_GR_digitAt_51 : decode b_GR_digitAt 51 = .ok (.ireturn, 1) := by decide +kernel
theorem d_GR_isAtLeast_0 : decode b_GR_isAtLeast 0 = .ok (.iconst 5, 1) := by decide +kernel
theorem d_GR_isAtLeast_1 : decode b_GR_isAtLeast 1 = .ok (.istore_n 2, 1) := by decide +kernel
theorem d_GR_isAtLeast_2 : decode b_GR_isAtLeast 2 = .ok (.iload_n 2, 1) := by decide +kernel
theorem d_GR_isAtLeast_3 : decode b_GR_isAtLeast 3 = .ok (.ifCond .lt 47, 3) := by decide +kernel
theorem d_GR_isAtLeast_6 : decode b_GR_isAtLeast 6 = .ok (.aload_n 0, 1) := by decide +kernel
theorem d_GR_isAtLeast_7 : decode b_GR_isAtLeast 7 = .ok (.getfield 9, 3) := by decide +kernel
theorem d_GR_isAtLeast_10 : decode b_GR_isAtLeast 10 = .ok (.iload_n 2, 1) := by decide +kernel
theorem d_GR_isAtLeast_11 : decode b_GR_isAtLeast 11 = .ok (.laload, 1) := by decide +kernel
theorem d_GR_isAtLeast_12 : decode b_GR_isAtLeast 12 = .ok (.aload_n 1, 1) := by decide +kernel
theorem d_GR_isAtLeast_13 : decode b_GR_isAtLeast 13 = .ok (.getfield 9, 3) := by decide +kernel
theorem d_GR_isAtLeast_16 : decode b_GR_isAtLeast 16 = .ok (.iload_n 2, 1) := by decide +kernel
theorem d_GR_isAtLeast_17 : decode b_GR_isAtLeast 17 = .ok (.laload, 1) := by decide +kernel
theorem d_GR_isAtLeast_18 : decode b_GR_isAtLeast 18 = .ok (.lcmp, 1) := by decide +kernel
theorem d_GR_isAtLeast_19 : decode b_GR_isAtLeast 19 = .ok (.ifCond .eq 25, 3) := by decide +kernel
theorem d_GR_isAtLeast_22 : decode b_GR_isAtLeast 22 = .ok (.aload_n 0, 1) := by decide +kernel
theorem d_GR_isAtLeast_23 : decode b_GR_isAtLeast 23 = .ok (.getfield 9, 3) := by decide +kernel
theorem d_GR_isAtLeast_26 : decode b_GR_isAtLeast 26 = .ok (.iload_n 2, 1) := by decide +kernel
theorem d_GR_isAtLeast_27 : decode b_GR_isAtLeast 27 = .ok (.laload, 1) := by decide +kernel
theorem d_GR_isAtLeast_28 : decode b_GR_isAtLeast 28 = .ok (.aload_n 1, 1) := by decide +kernel
theorem d_GR_isAtLeast_29 : decode b_GR_isAtLeast 29 = .ok (.getfield 9, 3) := by decide +kernel
theorem d_GR_isAtLeast_32 : decode b_GR_isAtLeast 32 = .ok (.iload_n 2, 1) := by decide +kernel
theorem d_GR_isAtLeast_33 : decode b_GR_isAtLeast 33 = .ok (.laload, 1) := by decide +kernel
theorem d_GR_isAtLeast_34 : decode b_GR_isAtLeast 34 = .ok (.lcmp, 1) := by decide +kernel
theorem d_GR_isAtLeast_35 : decode b_GR_isAtLeast 35 = .ok (.ifCond .le 7, 3) := by decide +kernel
theorem d_GR_isAtLeast_38 : decode b_GR_isAtLeast 38 = .ok (.iconst 1, 1) := by decide +kernel
theorem d_GR_isAtLeast_39 : decode b_GR_isAtLeast 39 = .ok (.goto 4, 3) := by decide +kernel
theorem d_GR_isAtLeast_42 : decode b_GR_isAtLeast 42 = .ok (.iconst 0, 1) := by decide +kernel
theorem d_GR_isAtLeast_43 : decode b_GR_isAtLeast 43 = .ok (.ireturn, 1) := by decide +kernel
theorem d_GR_isAtLeast_44 : decode b_GR_isAtLeast 44 = .ok (.iinc 2 (-1), 3) := by decide +kernel
theorem d_GR_isAtLeast_47 : decode b_GR_isAtLeast 47 = .ok (.goto (-45), 3) := by decide +kernel
theorem d_GR_isAtLeast_50 : decode b_GR_isAtLeast 50 = .ok (.iconst 1, 1) := by decide +kernel
theorem d_GR_isAtLeast_51 : decode b_GR_isAtLeast 51 = .ok (.ireturn, 1) := by decide +kernel
