theorem d_PA_init_0 : decode b_PA_init 0 = .ok (.aload_n 0, 1) := by decide +kernel
theorem d_PA_init_1 : decode b_PA_init 1 = .ok (.invokespecial 3, 3) := by decide +kernel
theorem d_PA_init_4 : decode b_PA_init 4 = .ok (.aload_n 0, 1) := by decide +kernel
theorem d_PA_init_5 : decode b_PA_init 5 = .ok (.bipush 72, 2) := by decide +kernel
theorem d_PA_init_7 : decode b_PA_init 7 = .ok (.anewarray 9, 3) := by decide +kernel
theorem d_PA_init_10 : decode b_PA_init 10 = .ok (.putfield 11, 3) := by decide +kernel
theorem d_PA_init_13 : decode b_PA_init 13 = .ok (.aload_n 0, 1) := by decide +kernel
theorem d_PA_init_14 : decode b_PA_init 14 = .ok (.bipush 6, 2) := by decide +kernel
theorem d_PA_init_16 : decode b_PA_init 16 = .ok (.anewarray 9, 3) := by decide +kernel
theorem d_PA_init_19 : decode b_PA_init 19 = .ok (.putfield 17, 3) := by decide +kernel
theorem d_PA_init_22 : decode b_PA_init 22 = .ok (.aload_n 0, 1) := by decide +kernel
theorem d_PA_init_23 : decode b_PA_init 23 = .ok (.bipush 12, 2) := by decide +kernel
theorem d_PA_init_25 : decode b_PA_init 25 = .ok (.anewarray 9, 3) := by decide +kernel
theorem d_PA_init_28 : decode b_PA_init 28 = .ok (.putfield 20, 3) := by decide +kernel
theorem d_PA_init_31 : decode b_PA_init 31 = .ok (.aload_n 0, 1) := by decide +kernel
theorem d_PA_init_32 : decode b_PA_init 32 = .ok (.new 9, 3) := by decide +kernel
theorem d_PA_init_35 : decode b_PA_init 35 = .ok (.dup, 1) := by decide +kernel
theorem d_PA_init_36 : decode b_PA_init 36 = .ok (.invokespecial 23, 3) := by decide +kernel
theorem d_PA_init_39 : decode b_PA_init 39 = .ok (.putfield 24, 3) := by decide +kernel
theorem d_PA_init_42 : decode b_PA_init 42 = .ok (.aload_n 0, 1) := by decide +kernel
theorem d_PA_init_43 : decode b_PA_init 43 = .ok (.new 9, 3) := by decide +kernel
theorem d_PA_init_46 : decode b_PA_init 46 = .ok (.dup, 1) := by decide +kernel
theorem d_PA_init_47 : decode b_PA_init 47 = .ok (.invokespecial 23, 3) := by decide +kernel
theorem d_PA_init_50 : decode b_PA_init 50 = .ok (.putfield 28, 3) := by decide +kernel
theorem d_PA_init_53 : decode b_PA_init 53 = .ok (.aload_n 0, 1) := by decide +kernel
theorem d_PA_init_54 : decode b_PA_init 54 = .ok (.new 9, 3) := by decide +kernel
theorem d_PA_init_57 : decode b_PA_init 57 = .ok (.dup, 1) := by decide +kernel
theorem d_PA_init_58 : decode b_PA_init 58 = .ok (.invokespecial 23, 3) := by decide +kernel
theorem d_PA_init_61 : decode b_PA_init 61 = .ok (.putfield 31, 3) := by decide +kernel
theorem d_PA_init_64 : decode b_PA_init 64 = .ok (.aload_n 0, 1) := by decide +kernel
theorem d_PA_init_65 : decode b_PA_init 65 = .ok (.bipush 6, 2) := by decide +kernel
theorem d_PA_init_67 : decode b_PA_init 67 = .ok (.newarray .int, 2) := by decide +kernel
theorem d_PA_init_69 : decode b_PA_init 69 = .ok (.putfield 34, 3) := by decide +kernel
theorem d_PA_init_72 : decode b_PA_init 72 = .ok (.aload_n 0, 1) := by decide +kernel
theorem d_PA_init_73 : decode b_PA_init 73 = .ok (.iconst 2, 1) := by decide +kernel
theorem d_PA_init_74 : decode b_PA_init 74 = .ok (.newarray .int, 2) := by decide +kernel
theorem d_PA_init_76 : decode b_PA_init 76 = .ok (.putfield 38, 3) := by decide +kernel
theorem d_PA_init_79 : decode b_PA_init 79 = .ok (.aload_n 0, 1) := by decide +kernel
theorem d_PA_init_80 : decode b_PA_init 80 = .ok (.bipush 6, 2) := by decide +kernel
theorem d_PA_init_82 : decode b_PA_init 82 = .ok (.newarray .int, 2) := by decide +kernel
theorem d_PA_init_84 : decode b_PA_init 84 = .ok (.putfield 41, 3) := by decide +kernel
theorem d_PA_init_87 : decode b_PA_init 87 = .ok (.aload_n 0, 1) := by decide +kernel
theorem d_PA_init_88 : decode b_PA_init 88 = .ok (.bipush 6, 2) := by decide +kernel
theorem d_PA_init_90 : decode b_PA_init 90 = .ok (.newarray .int, 2) := by decide +kernel
theorem d_PA_init_92 : decode b_PA_init 92 = .ok (.putfield 44, 3) := by decide +kernel
theorem d_PA_init_95 : decode b_PA_init 95 = .ok (.aload_n 0, 1) := by decide +kernel
theorem d_PA_init_96 : decode b_PA_init 96 = .ok (.bipush 6, 2) := by decide +kernel
theorem d_PA_init_98 : decode b_PA_init 98 = .ok (.newarray .int, 2) := by decide +kernel
theorem d_PA_init_100 : decode b_PA_init 100 = .ok (.putfield 47, 3) := by decide +kernel
theorem d_PA_init_103 : decode b_PA_init 103 = .ok (.aload_n 0, 1) := by decide +kernel
theorem d_PA_init_104 : decode b_PA_init 104 = .ok (.bipush 6, 2) := by decide +kernel
theorem d_PA_init_106 : decode b_PA_init 106 = .ok (.newarray .boolean, 2) := by decide +kernel
theorem d_PA_init_108 : decode b_PA_init 108 = .ok (.putfield 50, 3) := by decide +kernel
theorem d_PA_init_111 : decode b_PA_init 111 = .ok (.aload_n 0, 1) := by decide +kernel
theorem d_PA_init_112 : decode b_PA_init 112 = .ok (.bipush 6, 2) := by decide +kernel
theorem d_PA_init_114 : decode b_PA_init 114 = .ok (.newarray .boolean, 2) := by decide +kernel
theorem d_PA_init_116 : decode b_PA_init 116 = .ok (.putfield 54, 3) := by decide +kernel
theorem d_PA_init_119 : decode b_PA_init 119 = .ok (.aload_n 0, 1) := by decide +kernel
theorem d_PA_init_120 : decode b_PA_init 120 = .ok (.iconst 0, 1) := by decide +kernel
theorem d_PA_init_121 : decode b_PA_init 121 = .ok (.putfield 57, 3) := by decide +kernel
theorem d_PA_init_124 : decode b_PA_init 124 = .ok (.aload_n 0, 1) := by decide +kernel
theorem d_PA_init_125 : decode b_PA_init 125 = .ok (.iconst 0, 1) := by decide +kernel
theorem d_PA_init_126 : decode b_PA_init 126 = .ok (.putfield 61, 3) := by decide +kernel
theorem d_PA_init_129 : decode b_PA_init 129 = .ok (.iconst 0, 1) := by decide +kernel
theorem d_PA_init_130 : decode b_PA_init 130 = .ok (.istore_n 1, 1) := by decide +kernel
theorem d_PA_init_131 : decode b_PA_init 131 = .ok (.iload_n 1, 1) := by decide +kernel
theorem d_PA_init_132 : decode b_PA_init 132 = .ok (.bipush 72, 2) := by decide +kernel
theorem d_PA_init_134 : decode b_PA_init 134 = .ok (.if_icmp .ge 22, 3) := by decide +kernel
theorem d_PA_init_137 : decode b_PA_init 137 = .ok (.aload_n 0, 1) := by decide +kernel
theorem d_PA_init_138 : decode b_PA_init 138 = .ok (.getfield 11, 3) := by decide +kernel
theorem d_PA_init_141 : decode b_PA_init 141 = .ok (.iload_n 1, 1) := by decide +kernel
theorem d_PA_init_142 : decode b_PA_init 142 = .ok (.new 9, 3) := by decide +kernel
theorem d_PA_init_145 : decode b_PA_init 145 = .ok (.dup, 1) := by decide +kernel
theorem d_PA_init_146 : decode b_PA_init 146 = .ok (.invokespecial 23, 3) := by decide +kernel
theorem d_PA_init_149 : decode b_PA_init 149 = .ok (.aastore, 1) := by decide +kernel
theorem d_PA_init_150 : decode b_PA_init 150 = .ok (.iinc 1 1, 3) := by decide +kernel
theorem d_PA_init_153 : decode b_PA_init 153 = .ok (.goto (-22), 3) := by decide +kernel
theorem d_PA_init_156 : decode b_PA_init 156 = .ok (.iconst 0, 1) := by decide +kernel
theorem d_PA_init_157 : decode b_PA_init 157 = .ok (.istore_n 1, 1) := by decide +kernel
theorem d_PA_init_158 : decode b_PA_init 158 = .ok (.iload_n 1, 1) := by decide +kernel
theorem d_PA_init_159 : decode b_PA_init 159 = .ok (.bipush 6, 2) := by decide +kernel
theorem d_PA_init_161 : decode b_PA_init 161 = .ok (.if_icmp .ge 22, 3) := by decide +kernel
theorem d_PA_init_164 : decode b_PA_init 164 = .ok (.aload_n 0, 1) := by decide +kernel
theorem d_PA_init_165 : decode b_PA_init 165 = .ok (.getfield 17, 3) := by decide +kernel
theorem d_PA_init_168 : decode b_PA_init 168 = .ok (.iload_n 1, 1) := by decide +kernel
theorem d_PA_init_169 : decode b_PA_init 169 = .ok (.new 9, 3) := by decide +kernel
theorem d_PA_init_172 : decode b_PA_init 172 = .ok (.dup, 1) := by decide +kernel
theorem d_PA_init_173 : decode b_PA_init 173 = .ok (.invokespecial 23, 3) := by decide +kernel
theorem d_PA_init_176 : decode b_PA_init 176 = .ok (.aastore, 1) := by decide +kernel
theorem d_PA_init_177 : decode b_PA_init 177 = .ok (.iinc 1 1, 3) := by decide +kernel
theorem d_PA_init_180 : decode b_PA_init 180 = .ok (.goto (-22), 3) := by decide +kernel
theorem d_PA_init_183 : decode b_PA_init 183 = .ok (.iconst 0, 1) := by decide +kernel
theorem d_PA_init_184 : decode b_PA_init 184 = .ok (.istore_n 1, 1) := by decide +kernel
theorem d_PA_init_185 : decode b_PA_init 185 = .ok (.iload_n 1, 1) := by decide +kernel
theorem d_PA_init_186 : decode b_PA_init 186 = .ok (.bipush 12, 2) := by decide +kernel
theorem d_PA_init_188 : decode b_PA_init 188 = .ok (.if_icmp .ge 22, 3) := by decide +kernel
theorem d_PA_init_191 : decode b_PA_init 191 = .ok (.aload_n 0, 1) := by decide +kernel
theorem d_PA_init_192 : decode b_PA_init 192 = .ok (.getfield 20, 3) := by decide +kernel
theorem d_PA_init_195 : decode b_PA_init 195 = .ok (.iload_n 1, 1) := by decide +kernel
theorem d_PA_init_196 : decode b_PA_init 196 = .ok (.new 9, 3) := by decide +kernel
theorem d_PA_init_199 : decode b_PA_init 199 = .ok (.dup, 1) := by decide +kernel
theorem d_PA_init_200 : decode b_PA_init 200 = .ok (.invokespecial 23, 3) := by decide +kernel
theorem d_PA_init_203 : decode b_PA_init 203 = .ok (.aastore, 1) := by decide +kernel
theorem d_PA_init_204 : decode b_PA_init 204 = .ok (.iinc 1 1, 3) := by decide +kernel
theorem d_PA_init_207 : decode b_PA_init 207 = .ok (.goto (-22), 3) := by decide +kernel
theorem d_PA_init_210 : decode b_PA_init 210 = .ok (.aload_n 0, 1) := by decide +kernel
theorem d_PA_init_211 : decode b_PA_init 211 = .ok (.getfield 34, 3) := by decide +kernel
theorem d_PA_init_214 : decode b_PA_init 214 = .ok (.iconst (-1), 1) := by decide +kernel
theorem d_PA_init_215 : decode b_PA_init 215 = .ok (.invokestatic 64, 3) := by decide +kernel
theorem d_PA_init_218 : decode b_PA_init 218 = .ok (.aload_n 0, 1) := by decide +kernel
theorem d_PA_init_219 : decode b_PA_init 219 = .ok (.getfield 38, 3) := by decide +kernel
theorem d_PA_init_222 : decode b_PA_init 222 = .ok (.iconst (-1), 1) := by decide +kernel
theorem d_PA_init_223 : decode b_PA_init 223 = .ok (.invokestatic 64, 3) := by decide +kernel
theorem d_PA_init_226 : decode b_PA_init 226 = .ok (.return_, 1) := by decide +kernel
theorem d_PA_passTo_0 : decode b_PA_passTo 0 = .ok (.aload_n 0, 1) := by decide +kernel
theorem d_PA_passTo_1 : decode b_PA_passTo 1 = .ok (.aload_n 2, 1) := by decide +kernel
theorem d_PA_passTo_2 : decode b_PA_passTo 2 = .ok (.invokevirtual 85, 3) := by decide +kernel
theorem d_PA_passTo_5 : decode b_PA_passTo 5 = .ok (.aload_n 0, 1) := by decide +kernel
theorem d_PA_passTo_6 : decode b_PA_passTo 6 = .ok (.iload_n 1, 1) := by decide +kernel
theorem d_PA_passTo_7 : decode b_PA_passTo 7 = .ok (.aload_n 2, 1) := by decide +kernel
theorem d_PA_passTo_8 : decode b_PA_passTo 8 = .ok (.invokevirtual 89, 3) := by decide +kernel
theorem d_PA_passTo_11 : decode b_PA_passTo 11 = .ok (.aload_n 3, 1) := by decide +kernel
theorem d_PA_passTo_12 : decode b_PA_passTo 12 = .ok (.invokevirtual 95, 3) := by decide +kernel
theorem d_PA_passTo_15 : decode b_PA_passTo 15 = .ok (.aload_n 0, 1) := by decide +kernel
theorem d_PA_passTo_16 : decode b_PA_passTo 16 = .ok (.getfield 31, 3) := by decide +kernel
theorem d_PA_passTo_19 : decode b_PA_passTo 19 = .ok (.iconst 1, 1) := by decide +kernel
theorem d_PA_passTo_20 : decode b_PA_passTo 20 = .ok (.invokevirtual 70, 3) := by decide +kernel
theorem d_PA_passTo_23 : decode b_PA_passTo 23 = .ok (.aload_n 0, 1) := by decide +kernel
theorem d_PA_passTo_24 : decode b_PA_passTo 24 = .ok (.getfield 57, 3) := by decide +kernel
theorem d_PA_passTo_27 : decode b_PA_passTo 27 = .ok (.iconst 1, 1) := by decide +kernel
theorem d_PA_passTo_28 : decode b_PA_passTo 28 = .ok (.isub, 1) := by decide +kernel
theorem d_PA_passTo_29 : decode b_PA_passTo 29 = .ok (.istore 4, 2) := by decide +kernel
theorem d_PA_passTo_31 : decode b_PA_passTo 31 = .ok (.iload 4, 2) := by decide +kernel
theorem d_PA_passTo_33 : decode b_PA_passTo 33 = .ok (.aload_n 0, 1) := by decide +kernel
theorem d_PA_passTo_34 : decode b_PA_passTo 34 = .ok (.getfield 61, 3) := by decide +kernel
theorem d_PA_passTo_37 : decode b_PA_passTo 37 = .ok (.if_icmp .lt 21, 3) := by decide +kernel
theorem d_PA_passTo_40 : decode b_PA_passTo 40 = .ok (.aload_n 0, 1) := by decide +kernel
theorem d_PA_passTo_41 : decode b_PA_passTo 41 = .ok (.aload_n 0, 1) := by decide +kernel
theorem d_PA_passTo_42 : decode b_PA_passTo 42 = .ok (.getfield 41, 3) := by decide +kernel
theorem d_PA_passTo_45 : decode b_PA_passTo 45 = .ok (.iload 4, 2) := by decide +kernel
theorem d_PA_passTo_47 : decode b_PA_passTo 47 = .ok (.iaload, 1) := by decide +kernel
theorem d_PA_passTo_48 : decode b_PA_passTo 48 = .ok (.aload_n 3, 1) := by decide +kernel
theorem d_PA_passTo_49 : decode b_PA_passTo 49 = .ok (.invokevirtual 99, 3) := by decide +kernel
theorem d_PA_passTo_52 : decode b_PA_passTo 52 = .ok (.iinc 4 (-1), 3) := by decide +kernel
theorem d_PA_passTo_55 : decode b_PA_passTo 55 = .ok (.goto (-24), 3) := by decide +kernel
theorem d_PA_passTo_58 : decode b_PA_passTo 58 = .ok (.aload_n 0, 1) := by decide +kernel
theorem d_PA_passTo_59 : decode b_PA_passTo 59 = .ok (.invokevirtual 103, 3) := by decide +kernel
theorem d_PA_passTo_62 : decode b_PA_passTo 62 = .ok (.aload_n 0, 1) := by decide +kernel
theorem d_PA_passTo_63 : decode b_PA_passTo 63 = .ok (.getfield 61, 3) := by decide +kernel
theorem d_PA_passTo_66 : decode b_PA_passTo 66 = .ok (.iconst 1, 1) := by decide +kernel
theorem d_PA_passTo_67 : decode b_PA_passTo 67 = .ok (.isub, 1) := by decide +kernel
theorem d_PA_passTo_68 : decode b_PA_passTo 68 = .ok (.istore 4, 2) := by decide +kernel
theorem d_PA_passTo_70 : decode b_PA_passTo 70 = .ok (.iload 4, 2) := by decide +kernel
theorem d_PA_passTo_72 : decode b_PA_passTo 72 = .ok (.iconst 1, 1) := by decide +kernel
theorem d_PA_passTo_73 : decode b_PA_passTo 73 = .ok (.if_icmp .lt 21, 3) := by decide +kernel
theorem d_PA_passTo_76 : decode b_PA_passTo 76 = .ok (.aload_n 0, 1) := by decide +kernel
theorem d_PA_passTo_77 : decode b_PA_passTo 77 = .ok (.aload_n 0, 1) := by decide +kernel
theorem d_PA_passTo_78 : decode b_PA_passTo 78 = .ok (.getfield 41, 3) := by decide +kernel
theorem d_PA_passTo_81 : decode b_PA_passTo 81 = .ok (.iload 4, 2) := by decide +kernel
theorem d_PA_passTo_83 : decode b_PA_passTo 83 = .ok (.iaload, 1) := by decide +kernel
theorem d_PA_passTo_84 : decode b_PA_passTo 84 = .ok (.aload_n 3, 1) := by decide +kernel
theorem d_PA_passTo_85 : decode b_PA_passTo 85 = .ok (.invokevirtual 99, 3) := by decide +kernel
theorem d_PA_passTo_88 : decode b_PA_passTo 88 = .ok (.iinc 4 (-1), 3) := by decide +kernel
theorem d_PA_passTo_91 : decode b_PA_passTo 91 = .ok (.goto (-21), 3) := by decide +kernel
theorem d_PA_passTo_94 : decode b_PA_passTo 94 = .ok (.aload_n 0, 1) := by decide +kernel
theorem d_PA_passTo_95 : decode b_PA_passTo 95 = .ok (.iload_n 1, 1) := by decide +kernel
theorem d_PA_passTo_96 : decode b_PA_passTo 96 = .ok (.aload_n 0, 1) := by decide +kernel
theorem d_PA_passTo_97 : decode b_PA_passTo 97 = .ok (.getfield 31, 3) := by decide +kernel
theorem d_PA_passTo_100 : decode b_PA_passTo 100 = .ok (.invokevirtual 106, 3) := by decide +kernel
theorem d_PA_passTo_103 : decode b_PA_passTo 103 = .ok (.aload_n 0, 1) := by decide +kernel
theorem d_PA_passTo_104 : decode b_PA_passTo 104 = .ok (.getfield 34, 3) := by decide +kernel
theorem d_PA_passTo_107 : decode b_PA_passTo 107 = .ok (.iconst (-1), 1) := by decide +kernel
theorem d_PA_passTo_108 : decode b_PA_passTo 108 = .ok (.invokestatic 64, 3) := by decide +kernel
theorem d_PA_passTo_111 : decode b_PA_passTo 111 = .ok (.aload_n 0, 1) := by decide +kernel
theorem d_PA_passTo_112 : decode b_PA_passTo 112 = .ok (.getfield 38, 3) := by decide +kernel
theorem d_PA_passTo_115 : decode b_PA_passTo 115 = .ok (.iconst (-1), 1) := by decide +kernel
theorem d_PA_passTo_116 : decode b_PA_passTo 116 = .ok (.invokestatic 64, 3) := by decide +kernel
theorem d_PA_passTo_119 : decode b_PA_passTo 119 = .ok (.return_, 1) := by decide +kernel
theorem d_PA_startSums_0 : decode b_PA_startSums 0 = .ok (.iconst 0, 1) := by decide +kernel
theorem d_PA_startSums_1 : decode b_PA_startSums 1 = .ok (.istore_n 2, 1) := by decide +kernel
theorem d_PA_startSums_2 : decode b_PA_startSums 2 = .ok (.iload_n 2, 1) := by decide +kernel
theorem d_PA_startSums_3 : decode b_PA_startSums 3 = .ok (.aload_n 1, 1) := by decide +kernel
theorem d_PA_startSums_4 : decode b_PA_startSums 4 = .ok (.invokevirtual 89, 3) := by decide +kernel
theorem d_PA_startSums_7 : decode b_PA_startSums 7 = .ok (.if_icmp .ge 87, 3) := by decide +kernel
theorem d_PA_startSums_10 : decode b_PA_startSums 10 = .ok (.aload_n 1, 1) := by decide +kernel
theorem d_PA_startSums_11 : decode b_PA_startSums 11 = .ok (.iload_n 2, 1) := by decide +kernel
theorem d_PA_startSums_12 : decode b_PA_startSums 12 = .ok (.invokevirtual 110, 3) := by decide +kernel
theorem d_PA_startSums_15 : decode b_PA_startSums 15 = .ok (.istore_n 3, 1) := by decide +kernel
theorem d_PA_startSums_16 : decode b_PA_startSums 16 = .ok (.iconst 0, 1) := by decide +kernel
theorem d_PA_startSums_17 : decode b_PA_startSums 17 = .ok (.istore 4, 2) := by decide +kernel
theorem d_PA_startSums_19 : decode b_PA_startSums 19 = .ok (.iload 4, 2) := by decide +kernel
theorem d_PA_startSums_21 : decode b_PA_startSums 21 = .ok (.bipush 12, 2) := by decide +kernel
theorem d_PA_startSums_23 : decode b_PA_startSums 23 = .ok (.if_icmp .ge 65, 3) := by decide +kernel
theorem d_PA_startSums_26 : decode b_PA_startSums 26 = .ok (.aload_n 0, 1) := by decide +kernel
theorem d_PA_startSums_27 : decode b_PA_startSums 27 = .ok (.getfield 34, 3) := by decide +kernel
theorem d_PA_startSums_30 : decode b_PA_startSums 30 = .ok (.iload_n 2, 1) := by decide +kernel
theorem d_PA_startSums_31 : decode b_PA_startSums 31 = .ok (.iaload, 1) := by decide +kernel
theorem d_PA_startSums_32 : decode b_PA_startSums 32 = .ok (.iconst (-1), 1) := by decide +kernel
theorem d_PA_startSums_33 : decode b_PA_startSums 33 = .ok (.if_icmp .eq 14, 3) := by decide +kernel
theorem d_PA_startSums_36 : decode b_PA_startSums 36 = .ok (.aload_n 0, 1) := by decide +kernel
theorem d_PA_startSums_37 : decode b_PA_startSums 37 = .ok (.getfield 34, 3) := by decide +kernel
theorem d_PA_startSums_40 : decode b_PA_startSums 40 = .ok (.iload_n 2, 1) := by decide +kernel
theorem d_PA_startSums_41 : decode b_PA_startSums 41 = .ok (.iaload, 1) := by decide +kernel
theorem d_PA_startSums_42 : decode b_PA_startSums 42 = .ok (.iload 4, 2) := by decide +kernel
theorem d_PA_startSums_44 : decode b_PA_startSums 44 = .ok (.if_icmp .ne 7, 3) := by decide +kernel
theorem d_PA_startSums_47 : decode b_PA_startSums 47 = .ok (.iconst 1, 1) := by decide +kernel
theorem d_PA_startSums_48 : decode b_PA_startSums 48 = .ok (.goto 4, 3) := by decide +kernel
theorem d_PA_startSums_51 : decode b_PA_startSums 51 = .ok (.iconst 0, 1) := by decide +kernel
theorem d_PA_startSums_52 : decode b_PA_startSums 52 = .ok (.istore 5, 2) := by decide +kernel
theorem d_PA_startSums_54 : decode b_PA_startSums 54 = .ok (.aload_n 0, 1) := by decide +kernel
theorem d_PA_startSums_55 : decode b_PA_startSums 55 = .ok (.iload_n 2, 1) := by decide +kernel
theorem d_PA_startSums_56 : decode b_PA_startSums 56 = .ok (.iload 4, 2) := by decide +kernel
theorem d_PA_startSums_58 : decode b_PA_startSums 58 = .ok (.invokevirtual 74, 3) := by decide +kernel
theorem d_PA_startSums_61 : decode b_PA_startSums 61 = .ok (.iload 5, 2) := by decide +kernel
theorem d_PA_startSums_63 : decode b_PA_startSums 63 = .ok (.ifCond .eq 15, 3) := by decide +kernel
theorem d_PA_startSums_66 : decode b_PA_startSums 66 = .ok (.aload_n 1, 1) := by decide +kernel
theorem d_PA_startSums_67 : decode b_PA_startSums 67 = .ok (.iload_n 2, 1) := by decide +kernel
theorem d_PA_startSums_68 : decode b_PA_startSums 68 = .ok (.iload 4, 2) := by decide +kernel
theorem d_PA_startSums_70 : decode b_PA_startSums 70 = .ok (.invokevirtual 114, 3) := by decide +kernel
theorem d_PA_startSums_73 : decode b_PA_startSums 73 = .ok (.iload_n 3, 1) := by decide +kernel
theorem d_PA_startSums_74 : decode b_PA_startSums 74 = .ok (.iadd, 1) := by decide +kernel
theorem d_PA_startSums_75 : decode b_PA_startSums 75 = .ok (.goto 4, 3) := by decide +kernel
theorem d_PA_startSums_78 : decode b_PA_startSums 78 = .ok (.iconst 0, 1) := by decide +kernel
theorem d_PA_startSums_79 : decode b_PA_startSums 79 = .ok (.invokevirtual 70, 3) := by decide +kernel
theorem d_PA_startSums_82 : decode b_PA_startSums 82 = .ok (.iinc 4 1, 3) := by decide +kernel
theorem d_PA_startSums_85 : decode b_PA_startSums 85 = .ok (.goto (-66), 3) := by decide +kernel
theorem d_PA_startSums_88 : decode b_PA_startSums 88 = .ok (.iinc 2 1, 3) := by decide +kernel
theorem d_PA_startSums_91 : decode b_PA_startSums 91 = .ok (.goto (-89), 3) := by decide +kernel
theorem d_PA_startSums_94 : decode b_PA_startSums 94 = .ok (.return_, 1) := by decide +kernel
theorem d_PA_sumAt_0 : decode b_PA_sumAt 0 = .ok (.aload_n 0, 1) := by decide +kernel
theorem d_PA_sumAt_1 : decode b_PA_sumAt 1 = .ok (.getfield 11, 3) := by decide +kernel
theorem d_PA_sumAt_4 : decode b_PA_sumAt 4 = .ok (.iload_n 1, 1) := by decide +kernel
theorem d_PA_sumAt_5 : decode b_PA_sumAt 5 = .ok (.bipush 12, 2) := by decide +kernel
theorem d_PA_sumAt_7 : decode b_PA_sumAt 7 = .ok (.imul, 1) := by decide +kernel
theorem d_PA_sumAt_8 : decode b_PA_sumAt 8 = .ok (.iload_n 2, 1) := by decide +kernel
theorem d_PA_sumAt_9 : decode b_PA_sumAt 9 = .ok (.iadd, 1) := by decide +kernel
theorem d_PA_sumAt_10 : decode b_PA_sumAt 10 = .ok (.aaload, 1) := by decide +kernel
theorem d_PA_sumAt_11 : decode b_PA_sumAt 11 = .ok (.areturn, 1) := by decide +kernel
theorem d_PA_orderDates_0 : decode b_PA_orderDates 0 = .ok (.aload_n 0, 1) := by decide +kernel
theorem d_PA_orderDates_1 : decode b_PA_orderDates 1 = .ok (.iconst 0, 1) := by decide +kernel
theorem d_PA_orderDates_2 : decode b_PA_orderDates 2 = .ok (.putfield 57, 3) := by decide +kernel
theorem d_PA_orderDates_5 : decode b_PA_orderDates 5 = .ok (.iconst 0, 1) := by decide +kernel
theorem d_PA_orderDates_6 : decode b_PA_orderDates 6 = .ok (.istore 4, 2) := by decide +kernel
theorem d_PA_orderDates_8 : decode b_PA_orderDates 8 = .ok (.iload 4, 2) := by decide +kernel
theorem d_PA_orderDates_10 : decode b_PA_orderDates 10 = .ok (.bipush 6, 2) := by decide +kernel
theorem d_PA_orderDates_12 : decode b_PA_orderDates 12 = .ok (.if_icmp .ge 25, 3) := by decide +kernel
theorem d_PA_orderDates_15 : decode b_PA_orderDates 15 = .ok (.aload_n 0, 1) := by decide +kernel
theorem d_PA_orderDates_16 : decode b_PA_orderDates 16 = .ok (.getfield 50, 3) := by decide +kernel
theorem d_PA_orderDates_19 : decode b_PA_orderDates 19 = .ok (.iload 4, 2) := by decide +kernel
theorem d_PA_orderDates_21 : decode b_PA_orderDates 21 = .ok (.iconst 0, 1) := by decide +kernel
theorem d_PA_orderDates_22 : decode b_PA_orderDates 22 = .ok (.bastore, 1) := by decide +kernel
theorem d_PA_orderDates_23 : decode b_PA_orderDates 23 = .ok (.aload_n 0, 1) := by decide +kernel
theorem d_PA_orderDates_24 : decode b_PA_orderDates 24 = .ok (.getfield 54, 3) := by decide +kernel
theorem d_PA_orderDates_27 : decode b_PA_orderDates 27 = .ok (.iload 4, 2) := by decide +kernel
theorem d_PA_orderDates_29 : decode b_PA_orderDates 29 = .ok (.iconst 0, 1) := by decide +kernel
theorem d_PA_orderDates_30 : decode b_PA_orderDates 30 = .ok (.bastore, 1) := by decide +kernel
theorem d_PA_orderDates_31 : decode b_PA_orderDates 31 = .ok (.iinc 4 1, 3) := by decide +kernel
theorem d_PA_orderDates_34 : decode b_PA_orderDates 34 = .ok (.goto (-26), 3) := by decide +kernel
theorem d_PA_orderDates_37 : decode b_PA_orderDates 37 = .ok (.aload_n 0, 1) := by decide +kernel
theorem d_PA_orderDates_38 : decode b_PA_orderDates 38 = .ok (.iload_n 1, 1) := by decide +kernel
theorem d_PA_orderDates_39 : decode b_PA_orderDates 39 = .ok (.aload_n 3, 1) := by decide +kernel
theorem d_PA_orderDates_40 : decode b_PA_orderDates 40 = .ok (.invokevirtual 118, 3) := by decide +kernel
theorem d_PA_orderDates_43 : decode b_PA_orderDates 43 = .ok (.aload_n 0, 1) := by decide +kernel
theorem d_PA_orderDates_44 : decode b_PA_orderDates 44 = .ok (.aload_n 0, 1) := by decide +kernel
theorem d_PA_orderDates_45 : decode b_PA_orderDates 45 = .ok (.getfield 57, 3) := by decide +kernel
theorem d_PA_orderDates_48 : decode b_PA_orderDates 48 = .ok (.putfield 61, 3) := by decide +kernel
theorem d_PA_orderDates_51 : decode b_PA_orderDates 51 = .ok (.iconst 0, 1) := by decide +kernel
theorem d_PA_orderDates_52 : decode b_PA_orderDates 52 = .ok (.istore 4, 2) := by decide +kernel
theorem d_PA_orderDates_54 : decode b_PA_orderDates 54 = .ok (.iload 4, 2) := by decide +kernel
theorem d_PA_orderDates_56 : decode b_PA_orderDates 56 = .ok (.aload_n 3, 1) := by decide +kernel
theorem d_PA_orderDates_57 : decode b_PA_orderDates 57 = .ok (.invokevirtual 121, 3) := by decide +kernel
theorem d_PA_orderDates_60 : decode b_PA_orderDates 60 = .ok (.if_icmp .ge 38, 3) := by decide +kernel
theorem d_PA_orderDates_63 : decode b_PA_orderDates 63 = .ok (.aload_n 3, 1) := by decide +kernel
theorem d_PA_orderDates_64 : decode b_PA_orderDates 64 = .ok (.iload 4, 2) := by decide +kernel
theorem d_PA_orderDates_66 : decode b_PA_orderDates 66 = .ok (.invokevirtual 124, 3) := by decide +kernel
theorem d_PA_orderDates_69 : decode b_PA_orderDates 69 = .ok (.istore 5, 2) := by decide +kernel
theorem d_PA_orderDates_71 : decode b_PA_orderDates 71 = .ok (.iload 5, 2) := by decide +kernel
theorem d_PA_orderDates_73 : decode b_PA_orderDates 73 = .ok (.iconst (-1), 1) := by decide +kernel
theorem d_PA_orderDates_74 : decode b_PA_orderDates 74 = .ok (.if_icmp .eq 18, 3) := by decide +kernel
theorem d_PA_orderDates_77 : decode b_PA_orderDates 77 = .ok (.aload_n 0, 1) := by decide +kernel
theorem d_PA_orderDates_78 : decode b_PA_orderDates 78 = .ok (.getfield 54, 3) := by decide +kernel
theorem d_PA_orderDates_81 : decode b_PA_orderDates 81 = .ok (.iload 5, 2) := by decide +kernel
theorem d_PA_orderDates_83 : decode b_PA_orderDates 83 = .ok (.iconst 1, 1) := by decide +kernel
theorem d_PA_orderDates_84 : decode b_PA_orderDates 84 = .ok (.bastore, 1) := by decide +kernel
theorem d_PA_orderDates_85 : decode b_PA_orderDates 85 = .ok (.aload_n 0, 1) := by decide +kernel
theorem d_PA_orderDates_86 : decode b_PA_orderDates 86 = .ok (.iload 5, 2) := by decide +kernel
theorem d_PA_orderDates_88 : decode b_PA_orderDates 88 = .ok (.aload_n 3, 1) := by decide +kernel
theorem d_PA_orderDates_89 : decode b_PA_orderDates 89 = .ok (.invokevirtual 118, 3) := by decide +kernel
theorem d_PA_orderDates_92 : decode b_PA_orderDates 92 = .ok (.iinc 4 1, 3) := by decide +kernel
theorem d_PA_orderDates_95 : decode b_PA_orderDates 95 = .ok (.goto (-41), 3) := by decide +kernel
theorem d_PA_orderDates_98 : decode b_PA_orderDates 98 = .ok (.iconst 0, 1) := by decide +kernel
theorem d_PA_orderDates_99 : decode b_PA_orderDates 99 = .ok (.istore 4, 2) := by decide +kernel
theorem d_PA_orderDates_101 : decode b_PA_orderDates 101 = .ok (.iload 4, 2) := by decide +kernel
theorem d_PA_orderDates_103 : decode b_PA_orderDates 103 = .ok (.iload_n 2, 1) := by decide +kernel
theorem d_PA_orderDates_104 : decode b_PA_orderDates 104 = .ok (.if_icmp .ge 16, 3) := by decide +kernel
theorem d_PA_orderDates_107 : decode b_PA_orderDates 107 = .ok (.aload_n 0, 1) := by decide +kernel
theorem d_PA_orderDates_108 : decode b_PA_orderDates 108 = .ok (.iload 4, 2) := by decide +kernel
theorem d_PA_orderDates_110 : decode b_PA_orderDates 110 = .ok (.aload_n 3, 1) := by decide +kernel
theorem d_PA_orderDates_111 : decode b_PA_orderDates 111 = .ok (.invokevirtual 118, 3) := by decide +kernel
theorem d_PA_orderDates_114 : decode b_PA_orderDates 114 = .ok (.iinc 4 1, 3) := by decide +kernel
theorem d_PA_orderDates_117 : decode b_PA_orderDates 117 = .ok (.goto (-16), 3) := by decide +kernel
theorem d_PA_orderDates_120 : decode b_PA_orderDates 120 = .ok (.return_, 1) := by decide +kernel
theorem d_PA_queueTree_0 : decode b_PA_queueTree 0 = .ok (.aload_n 0, 1) := by decide +kernel
theorem d_PA_queueTree_1 : decode b_PA_queueTree 1 = .ok (.getfield 57, 3) := by decide +kernel
theorem d_PA_queueTree_4 : decode b_PA_queueTree 4 = .ok (.istore_n 3, 1) := by decide +kernel
theorem d_PA_queueTree_5 : decode b_PA_queueTree 5 = .ok (.aload_n 0, 1) := by decide +kernel
theorem d_PA_queueTree_6 : decode b_PA_queueTree 6 = .ok (.iload_n 1, 1) := by decide +kernel
theorem d_PA_queueTree_7 : decode b_PA_queueTree 7 = .ok (.iconst (-1), 1) := by decide +kernel
theorem d_PA_queueTree_8 : decode b_PA_queueTree 8 = .ok (.iconst (-1), 1) := by decide +kernel
theorem d_PA_queueTree_9 : decode b_PA_queueTree 9 = .ok (.invokevirtual 127, 3) := by decide +kernel
theorem d_PA_queueTree_12 : decode b_PA_queueTree 12 = .ok (.iload_n 3, 1) := by decide +kernel
theorem d_PA_queueTree_13 : decode b_PA_queueTree 13 = .ok (.istore 4, 2) := by decide +kernel
theorem d_PA_queueTree_15 : decode b_PA_queueTree 15 = .ok (.iload 4, 2) := by decide +kernel
theorem d_PA_queueTree_17 : decode b_PA_queueTree 17 = .ok (.aload_n 0, 1) := by decide +kernel
theorem d_PA_queueTree_18 : decode b_PA_queueTree 18 = .ok (.getfield 57, 3) := by decide +kernel
theorem d_PA_queueTree_21 : decode b_PA_queueTree 21 = .ok (.if_icmp .ge 28, 3) := by decide +kernel
theorem d_PA_queueTree_24 : decode b_PA_queueTree 24 = .ok (.iload 4, 2) := by decide +kernel
theorem d_PA_queueTree_26 : decode b_PA_queueTree 26 = .ok (.bipush 6, 2) := by decide +kernel
theorem d_PA_queueTree_28 : decode b_PA_queueTree 28 = .ok (.if_icmp .ge 21, 3) := by decide +kernel
theorem d_PA_queueTree_31 : decode b_PA_queueTree 31 = .ok (.aload_n 0, 1) := by decide +kernel
theorem d_PA_queueTree_32 : decode b_PA_queueTree 32 = .ok (.aload_n 0, 1) := by decide +kernel
theorem d_PA_queueTree_33 : decode b_PA_queueTree 33 = .ok (.getfield 41, 3) := by decide +kernel
theorem d_PA_queueTree_36 : decode b_PA_queueTree 36 = .ok (.iload 4, 2) := by decide +kernel
theorem d_PA_queueTree_38 : decode b_PA_queueTree 38 = .ok (.iaload, 1) := by decide +kernel
theorem d_PA_queueTree_39 : decode b_PA_queueTree 39 = .ok (.aload_n 2, 1) := by decide +kernel
theorem d_PA_queueTree_40 : decode b_PA_queueTree 40 = .ok (.invokevirtual 131, 3) := by decide +kernel
theorem d_PA_queueTree_43 : decode b_PA_queueTree 43 = .ok (.iinc 4 1, 3) := by decide +kernel
theorem d_PA_queueTree_46 : decode b_PA_queueTree 46 = .ok (.goto (-31), 3) := by decide +kernel
theorem d_PA_queueTree_49 : decode b_PA_queueTree 49 = .ok (.return_, 1) := by decide +kernel
theorem d_PA_queueDate_0 : decode b_PA_queueDate 0 = .ok (.aload_n 0, 1) := by decide +kernel
theorem d_PA_queueDate_1 : decode b_PA_queueDate 1 = .ok (.getfield 50, 3) := by decide +kernel
theorem d_PA_queueDate_4 : decode b_PA_queueDate 4 = .ok (.iload_n 1, 1) := by decide +kernel
theorem d_PA_queueDate_5 : decode b_PA_queueDate 5 = .ok (.baload, 1) := by decide +kernel
theorem d_PA_queueDate_6 : decode b_PA_queueDate 6 = .ok (.ifCond .ne 12, 3) := by decide +kernel
theorem d_PA_queueDate_9 : decode b_PA_queueDate 9 = .ok (.aload_n 0, 1) := by decide +kernel
theorem d_PA_queueDate_10 : decode b_PA_queueDate 10 = .ok (.getfield 57, 3) := by decide +kernel
theorem d_PA_queueDate_13 : decode b_PA_queueDate 13 = .ok (.bipush 6, 2) := by decide +kernel
theorem d_PA_queueDate_15 : decode b_PA_queueDate 15 = .ok (.if_icmp .lt 4, 3) := by decide +kernel
theorem d_PA_queueDate_18 : decode b_PA_queueDate 18 = .ok (.return_, 1) := by decide +kernel
theorem d_PA_queueDate_19 : decode b_PA_queueDate 19 = .ok (.aload_n 0, 1) := by decide +kernel
theorem d_PA_queueDate_20 : decode b_PA_queueDate 20 = .ok (.getfield 50, 3) := by decide +kernel
theorem d_PA_queueDate_23 : decode b_PA_queueDate 23 = .ok (.iload_n 1, 1) := by decide +kernel
theorem d_PA_queueDate_24 : decode b_PA_queueDate 24 = .ok (.iconst 1, 1) := by decide +kernel
theorem d_PA_queueDate_25 : decode b_PA_queueDate 25 = .ok (.bastore, 1) := by decide +kernel
theorem d_PA_queueDate_26 : decode b_PA_queueDate 26 = .ok (.aload_n 0, 1) := by decide +kernel
theorem d_PA_queueDate_27 : decode b_PA_queueDate 27 = .ok (.getfield 44, 3) := by decide +kernel
theorem d_PA_queueDate_30 : decode b_PA_queueDate 30 = .ok (.iload_n 1, 1) := by decide +kernel
theorem d_PA_queueDate_31 : decode b_PA_queueDate 31 = .ok (.iload_n 2, 1) := by decide +kernel
theorem d_PA_queueDate_32 : decode b_PA_queueDate 32 = .ok (.iastore, 1) := by decide +kernel
theorem d_PA_queueDate_33 : decode b_PA_queueDate 33 = .ok (.aload_n 0, 1) := by decide +kernel
theorem d_PA_queueDate_34 : decode b_PA_queueDate 34 = .ok (.getfield 47, 3) := by decide +kernel
theorem d_PA_queueDate_37 : decode b_PA_queueDate 37 = .ok (.iload_n 1, 1) := by decide +kernel
theorem d_PA_queueDate_38 : decode b_PA_queueDate 38 = .ok (.iload_n 3, 1) := by decide +kernel
theorem d_PA_queueDate_39 : decode b_PA_queueDate 39 = .ok (.iastore, 1) := by decide +kernel
theorem d_PA_queueDate_40 : decode b_PA_queueDate 40 = .ok (.aload_n 0, 1) := by decide +kernel
theorem d_PA_queueDate_41 : decode b_PA_queueDate 41 = .ok (.getfield 41, 3) := by decide +kernel
theorem d_PA_queueDate_44 : decode b_PA_queueDate 44 = .ok (.aload_n 0, 1) := by decide +kernel
theorem d_PA_queueDate_45 : decode b_PA_queueDate 45 = .ok (.getfield 57, 3) := by decide +kernel
theorem d_PA_queueDate_48 : decode b_PA_queueDate 48 = .ok (.iload_n 1, 1) := by decide +kernel
theorem d_PA_queueDate_49 : decode b_PA_queueDate 49 = .ok (.iastore, 1) := by decide +kernel
theorem d_PA_queueDate_50 : decode b_PA_queueDate 50 = .ok (.aload_n 0, 1) := by decide +kernel
theorem d_PA_queueDate_51 : decode b_PA_queueDate 51 = .ok (.dup, 1) := by decide +kernel
theorem d_PA_queueDate_52 : decode b_PA_queueDate 52 = .ok (.getfield 57, 3) := by decide +kernel
theorem d_PA_queueDate_55 : decode b_PA_queueDate 55 = .ok (.iconst 1, 1) := by decide +kernel
theorem d_PA_queueDate_56 : decode b_PA_queueDate 56 = .ok (.iadd, 1) := by decide +kernel
theorem d_PA_queueDate_57 : decode b_PA_queueDate 57 = .ok (.putfield 57, 3) := by decide +kernel
theorem d_PA_queueDate_60 : decode b_PA_queueDate 60 = .ok (.return_, 1) := by decide +kernel
theorem d_PA_queueChildren_0 : decode b_PA_queueChildren 0 = .ok (.iconst 0, 1) := by decide +kernel
theorem d_PA_queueChildren_1 : decode b_PA_queueChildren 1 = .ok (.istore_n 3, 1) := by decide +kernel
theorem d_PA_queueChildren_2 : decode b_PA_queueChildren 2 = .ok (.iload_n 3, 1) := by decide +kernel
theorem d_PA_queueChildren_3 : decode b_PA_queueChildren 3 = .ok (.aload_n 2, 1) := by decide +kernel
theorem d_PA_queueChildren_4 : decode b_PA_queueChildren 4 = .ok (.invokevirtual 121, 3) := by decide +kernel
theorem d_PA_queueChildren_7 : decode b_PA_queueChildren 7 = .ok (.if_icmp .ge 31, 3) := by decide +kernel
theorem d_PA_queueChildren_10 : decode b_PA_queueChildren 10 = .ok (.aload_n 2, 1) := by decide +kernel
theorem d_PA_queueChildren_11 : decode b_PA_queueChildren 11 = .ok (.iload_n 3, 1) := by decide +kernel
theorem d_PA_queueChildren_12 : decode b_PA_queueChildren 12 = .ok (.iload_n 1, 1) := by decide +kernel
theorem d_PA_queueChildren_13 : decode b_PA_queueChildren 13 = .ok (.invokevirtual 134, 3) := by decide +kernel
theorem d_PA_queueChildren_16 : decode b_PA_queueChildren 16 = .ok (.istore 4, 2) := by decide +kernel
theorem d_PA_queueChildren_18 : decode b_PA_queueChildren 18 = .ok (.iload 4, 2) := by decide +kernel
theorem d_PA_queueChildren_20 : decode b_PA_queueChildren 20 = .ok (.iconst (-1), 1) := by decide +kernel
theorem d_PA_queueChildren_21 : decode b_PA_queueChildren 21 = .ok (.if_icmp .eq 11, 3) := by decide +kernel
theorem d_PA_queueChildren_24 : decode b_PA_queueChildren 24 = .ok (.aload_n 0, 1) := by decide +kernel
theorem d_PA_queueChildren_25 : decode b_PA_queueChildren 25 = .ok (.iload 4, 2) := by decide +kernel
theorem d_PA_queueChildren_27 : decode b_PA_queueChildren 27 = .ok (.iload_n 1, 1) := by decide +kernel
theorem d_PA_queueChildren_28 : decode b_PA_queueChildren 28 = .ok (.iload_n 3, 1) := by decide +kernel
theorem d_PA_queueChildren_29 : decode b_PA_queueChildren 29 = .ok (.invokevirtual 127, 3) := by decide +kernel
theorem d_PA_queueChildren_32 : decode b_PA_queueChildren 32 = .ok (.iinc 3 1, 3) := by decide +kernel
theorem d_PA_queueChildren_35 : decode b_PA_queueChildren 35 = .ok (.goto (-33), 3) := by decide +kernel
theorem d_PA_queueChildren_38 : decode b_PA_queueChildren 38 = .ok (.return_, 1) := by decide +kernel
theorem d_PA_handOn_0 : decode b_PA_handOn 0 = .ok (.aload_n 0, 1) := by decide +kernel
theorem d_PA_handOn_1 : decode b_PA_handOn 1 = .ok (.getfield 44, 3) := by decide +kernel
theorem d_PA_handOn_4 : decode b_PA_handOn 4 = .ok (.iload_n 1, 1) := by decide +kernel
theorem d_PA_handOn_5 : decode b_PA_handOn 5 = .ok (.iaload, 1) := by decide +kernel
theorem d_PA_handOn_6 : decode b_PA_handOn 6 = .ok (.iconst (-1), 1) := by decide +kernel
theorem d_PA_handOn_7 : decode b_PA_handOn 7 = .ok (.if_icmp .eq 24, 3) := by decide +kernel
theorem d_PA_handOn_10 : decode b_PA_handOn 10 = .ok (.aload_n 0, 1) := by decide +kernel
theorem d_PA_handOn_11 : decode b_PA_handOn 11 = .ok (.iload_n 1, 1) := by decide +kernel
theorem d_PA_handOn_12 : decode b_PA_handOn 12 = .ok (.aload_n 0, 1) := by decide +kernel
theorem d_PA_handOn_13 : decode b_PA_handOn 13 = .ok (.getfield 44, 3) := by decide +kernel
theorem d_PA_handOn_16 : decode b_PA_handOn 16 = .ok (.iload_n 1, 1) := by decide +kernel
theorem d_PA_handOn_17 : decode b_PA_handOn 17 = .ok (.iaload, 1) := by decide +kernel
theorem d_PA_handOn_18 : decode b_PA_handOn 18 = .ok (.aload_n 0, 1) := by decide +kernel
theorem d_PA_handOn_19 : decode b_PA_handOn 19 = .ok (.getfield 47, 3) := by decide +kernel
theorem d_PA_handOn_22 : decode b_PA_handOn 22 = .ok (.iload_n 1, 1) := by decide +kernel
theorem d_PA_handOn_23 : decode b_PA_handOn 23 = .ok (.iaload, 1) := by decide +kernel
theorem d_PA_handOn_24 : decode b_PA_handOn 24 = .ok (.aload_n 2, 1) := by decide +kernel
theorem d_PA_handOn_25 : decode b_PA_handOn 25 = .ok (.invokevirtual 137, 3) := by decide +kernel
theorem d_PA_handOn_28 : decode b_PA_handOn 28 = .ok (.goto 32, 3) := by decide +kernel
theorem d_PA_handOn_31 : decode b_PA_handOn 31 = .ok (.aload_n 0, 1) := by decide +kernel
theorem d_PA_handOn_32 : decode b_PA_handOn 32 = .ok (.getfield 54, 3) := by decide +kernel
theorem d_PA_handOn_35 : decode b_PA_handOn 35 = .ok (.iload_n 1, 1) := by decide +kernel
theorem d_PA_handOn_36 : decode b_PA_handOn 36 = .ok (.baload, 1) := by decide +kernel
theorem d_PA_handOn_37 : decode b_PA_handOn 37 = .ok (.ifCond .ne 23, 3) := by decide +kernel
theorem d_PA_handOn_40 : decode b_PA_handOn 40 = .ok (.aload_n 0, 1) := by decide +kernel
theorem d_PA_handOn_41 : decode b_PA_handOn 41 = .ok (.iload_n 1, 1) := by decide +kernel
theorem d_PA_handOn_42 : decode b_PA_handOn 42 = .ok (.aload_n 0, 1) := by decide +kernel
theorem d_PA_handOn_43 : decode b_PA_handOn 43 = .ok (.getfield 24, 3) := by decide +kernel
theorem d_PA_handOn_46 : decode b_PA_handOn 46 = .ok (.invokevirtual 141, 3) := by decide +kernel
theorem d_PA_handOn_49 : decode b_PA_handOn 49 = .ok (.aload_n 0, 1) := by decide +kernel
theorem d_PA_handOn_50 : decode b_PA_handOn 50 = .ok (.getfield 31, 3) := by decide +kernel
theorem d_PA_handOn_53 : decode b_PA_handOn 53 = .ok (.aload_n 0, 1) := by decide +kernel
theorem d_PA_handOn_54 : decode b_PA_handOn 54 = .ok (.getfield 24, 3) := by decide +kernel
theorem d_PA_handOn_57 : decode b_PA_handOn 57 = .ok (.invokevirtual 82, 3) := by decide +kernel
theorem d_PA_handOn_60 : decode b_PA_handOn 60 = .ok (.return_, 1) := by decide +kernel
theorem d_PA_handToParent_0 : decode b_PA_handToParent 0 = .ok (.iconst 0, 1) := by decide +kernel
theorem d_PA_handToParent_1 : decode b_PA_handToParent 1 = .ok (.istore 5, 2) := by decide +kernel
theorem d_PA_handToParent_3 : decode b_PA_handToParent 3 = .ok (.iload 5, 2) := by decide +kernel
theorem d_PA_handToParent_5 : decode b_PA_handToParent 5 = .ok (.bipush 12, 2) := by decide +kernel
theorem d_PA_handToParent_7 : decode b_PA_handToParent 7 = .ok (.if_icmp .ge 80, 3) := by decide +kernel
theorem d_PA_handToParent_10 : decode b_PA_handToParent 10 = .ok (.aload 4, 2) := by decide +kernel
theorem d_PA_handToParent_12 : decode b_PA_handToParent 12 = .ok (.iload_n 3, 1) := by decide +kernel
theorem d_PA_handToParent_13 : decode b_PA_handToParent 13 = .ok (.iload_n 2, 1) := by decide +kernel
theorem d_PA_handToParent_14 : decode b_PA_handToParent 14 = .ok (.iload 5, 2) := by decide +kernel
theorem d_PA_handToParent_16 : decode b_PA_handToParent 16 = .ok (.invokevirtual 144, 3) := by decide +kernel
theorem d_PA_handToParent_19 : decode b_PA_handToParent 19 = .ok (.istore 6, 2) := by decide +kernel
theorem d_PA_handToParent_21 : decode b_PA_handToParent 21 = .ok (.aload_n 0, 1) := by decide +kernel
theorem d_PA_handToParent_22 : decode b_PA_handToParent 22 = .ok (.getfield 24, 3) := by decide +kernel
theorem d_PA_handToParent_25 : decode b_PA_handToParent 25 = .ok (.iconst 0, 1) := by decide +kernel
theorem d_PA_handToParent_26 : decode b_PA_handToParent 26 = .ok (.invokevirtual 70, 3) := by decide +kernel
theorem d_PA_handToParent_29 : decode b_PA_handToParent 29 = .ok (.aload 4, 2) := by decide +kernel
theorem d_PA_handToParent_31 : decode b_PA_handToParent 31 = .ok (.iload_n 3, 1) := by decide +kernel
theorem d_PA_handToParent_32 : decode b_PA_handToParent 32 = .ok (.iload_n 2, 1) := by decide +kernel
theorem d_PA_handToParent_33 : decode b_PA_handToParent 33 = .ok (.iload 5, 2) := by decide +kernel
theorem d_PA_handToParent_35 : decode b_PA_handToParent 35 = .ok (.invokevirtual 148, 3) := by decide +kernel
theorem d_PA_handToParent_38 : decode b_PA_handToParent 38 = .ok (.istore 7, 2) := by decide +kernel
theorem d_PA_handToParent_40 : decode b_PA_handToParent 40 = .ok (.iload 7, 2) := by decide +kernel
theorem d_PA_handToParent_42 : decode b_PA_handToParent 42 = .ok (.iload 6, 2) := by decide +kernel
theorem d_PA_handToParent_44 : decode b_PA_handToParent 44 = .ok (.if_icmp .gt 23, 3) := by decide +kernel
theorem d_PA_handToParent_47 : decode b_PA_handToParent 47 = .ok (.aload_n 0, 1) := by decide +kernel
theorem d_PA_handToParent_48 : decode b_PA_handToParent 48 = .ok (.getfield 24, 3) := by decide +kernel
theorem d_PA_handToParent_51 : decode b_PA_handToParent 51 = .ok (.aload_n 0, 1) := by decide +kernel
theorem d_PA_handToParent_52 : decode b_PA_handToParent 52 = .ok (.iload_n 1, 1) := by decide +kernel
theorem d_PA_handToParent_53 : decode b_PA_handToParent 53 = .ok (.iload 7, 2) := by decide +kernel
theorem d_PA_handToParent_55 : decode b_PA_handToParent 55 = .ok (.invokevirtual 74, 3) := by decide +kernel
theorem d_PA_handToParent_58 : decode b_PA_handToParent 58 = .ok (.invokevirtual 78, 3) := by decide +kernel
theorem d_PA_handToParent_61 : decode b_PA_handToParent 61 = .ok (.iinc 7 1, 3) := by decide +kernel
theorem d_PA_handToParent_64 : decode b_PA_handToParent 64 = .ok (.goto (-24), 3) := by decide +kernel
theorem d_PA_handToParent_67 : decode b_PA_handToParent 67 = .ok (.aload_n 0, 1) := by decide +kernel
theorem d_PA_handToParent_68 : decode b_PA_handToParent 68 = .ok (.iload_n 2, 1) := by decide +kernel
theorem d_PA_handToParent_69 : decode b_PA_handToParent 69 = .ok (.iload 5, 2) := by decide +kernel
theorem d_PA_handToParent_71 : decode b_PA_handToParent 71 = .ok (.invokevirtual 74, 3) := by decide +kernel
theorem d_PA_handToParent_74 : decode b_PA_handToParent 74 = .ok (.aload_n 0, 1) := by decide +kernel
theorem d_PA_handToParent_75 : decode b_PA_handToParent 75 = .ok (.getfield 24, 3) := by decide +kernel
theorem d_PA_handToParent_78 : decode b_PA_handToParent 78 = .ok (.invokevirtual 82, 3) := by decide +kernel
theorem d_PA_handToParent_81 : decode b_PA_handToParent 81 = .ok (.iinc 5 1, 3) := by decide +kernel
theorem d_PA_handToParent_84 : decode b_PA_handToParent 84 = .ok (.goto (-81), 3) := by decide +kernel
theorem d_PA_handToParent_87 : decode b_PA_handToParent 87 = .ok (.return_, 1) := by decide +kernel
theorem d_PA_addYears_0 : decode b_PA_addYears 0 = .ok (.aload_n 2, 1) := by decide +kernel
theorem d_PA_addYears_1 : decode b_PA_addYears 1 = .ok (.iconst 0, 1) := by decide +kernel
theorem d_PA_addYears_2 : decode b_PA_addYears 2 = .ok (.invokevirtual 70, 3) := by decide +kernel
theorem d_PA_addYears_5 : decode b_PA_addYears 5 = .ok (.iconst 0, 1) := by decide +kernel
theorem d_PA_addYears_6 : decode b_PA_addYears 6 = .ok (.istore_n 3, 1) := by decide +kernel
theorem d_PA_addYears_7 : decode b_PA_addYears 7 = .ok (.iload_n 3, 1) := by decide +kernel
theorem d_PA_addYears_8 : decode b_PA_addYears 8 = .ok (.bipush 12, 2) := by decide +kernel
theorem d_PA_addYears_10 : decode b_PA_addYears 10 = .ok (.if_icmp .ge 19, 3) := by decide +kernel
theorem d_PA_addYears_13 : decode b_PA_addYears 13 = .ok (.aload_n 2, 1) := by decide +kernel
theorem d_PA_addYears_14 : decode b_PA_addYears 14 = .ok (.aload_n 0, 1) := by decide +kernel
theorem d_PA_addYears_15 : decode b_PA_addYears 15 = .ok (.iload_n 1, 1) := by decide +kernel
theorem d_PA_addYears_16 : decode b_PA_addYears 16 = .ok (.iload_n 3, 1) := by decide +kernel
theorem d_PA_addYears_17 : decode b_PA_addYears 17 = .ok (.invokevirtual 74, 3) := by decide +kernel
theorem d_PA_addYears_20 : decode b_PA_addYears 20 = .ok (.invokevirtual 78, 3) := by decide +kernel
theorem d_PA_addYears_23 : decode b_PA_addYears 23 = .ok (.iinc 3 1, 3) := by decide +kernel
theorem d_PA_addYears_26 : decode b_PA_addYears 26 = .ok (.goto (-19), 3) := by decide +kernel
theorem d_PA_addYears_29 : decode b_PA_addYears 29 = .ok (.return_, 1) := by decide +kernel
theorem d_PA_passPhase_0 : decode b_PA_passPhase 0 = .ok (.iconst 0, 1) := by decide +kernel
theorem d_PA_passPhase_1 : decode b_PA_passPhase 1 = .ok (.istore_n 1, 1) := by decide +kernel
theorem d_PA_passPhase_2 : decode b_PA_passPhase 2 = .ok (.iconst (-1), 1) := by decide +kernel
theorem d_PA_passPhase_3 : decode b_PA_passPhase 3 = .ok (.istore_n 2, 1) := by decide +kernel
theorem d_PA_passPhase_4 : decode b_PA_passPhase 4 = .ok (.iconst 0, 1) := by decide +kernel
theorem d_PA_passPhase_5 : decode b_PA_passPhase 5 = .ok (.istore_n 3, 1) := by decide +kernel
theorem d_PA_passPhase_6 : decode b_PA_passPhase 6 = .ok (.iload_n 3, 1) := by decide +kernel
theorem d_PA_passPhase_7 : decode b_PA_passPhase 7 = .ok (.aload_n 0, 1) := by decide +kernel
theorem d_PA_passPhase_8 : decode b_PA_passPhase 8 = .ok (.getfield 57, 3) := by decide +kernel
theorem d_PA_passPhase_11 : decode b_PA_passPhase 11 = .ok (.if_icmp .ge 44, 3) := by decide +kernel
theorem d_PA_passPhase_14 : decode b_PA_passPhase 14 = .ok (.aload_n 0, 1) := by decide +kernel
theorem d_PA_passPhase_15 : decode b_PA_passPhase 15 = .ok (.getfield 54, 3) := by decide +kernel
theorem d_PA_passPhase_18 : decode b_PA_passPhase 18 = .ok (.aload_n 0, 1) := by decide +kernel
theorem d_PA_passPhase_19 : decode b_PA_passPhase 19 = .ok (.getfield 41, 3) := by decide +kernel
theorem d_PA_passPhase_22 : decode b_PA_passPhase 22 = .ok (.iload_n 3, 1) := by decide +kernel
theorem d_PA_passPhase_23 : decode b_PA_passPhase 23 = .ok (.iaload, 1) := by decide +kernel
theorem d_PA_passPhase_24 : decode b_PA_passPhase 24 = .ok (.baload, 1) := by decide +kernel
theorem d_PA_passPhase_25 : decode b_PA_passPhase 25 = .ok (.ifCond .eq 24, 3) := by decide +kernel
theorem d_PA_passPhase_28 : decode b_PA_passPhase 28 = .ok (.iconst 1, 1) := by decide +kernel
theorem d_PA_passPhase_29 : decode b_PA_passPhase 29 = .ok (.istore_n 1, 1) := by decide +kernel
theorem d_PA_passPhase_30 : decode b_PA_passPhase 30 = .ok (.iload_n 3, 1) := by decide +kernel
theorem d_PA_passPhase_31 : decode b_PA_passPhase 31 = .ok (.aload_n 0, 1) := by decide +kernel
theorem d_PA_passPhase_32 : decode b_PA_passPhase 32 = .ok (.getfield 61, 3) := by decide +kernel
theorem d_PA_passPhase_35 : decode b_PA_passPhase 35 = .ok (.if_icmp .ge 12, 3) := by decide +kernel
theorem d_PA_passPhase_38 : decode b_PA_passPhase 38 = .ok (.aload_n 0, 1) := by decide +kernel
theorem d_PA_passPhase_39 : decode b_PA_passPhase 39 = .ok (.getfield 41, 3) := by decide +kernel
theorem d_PA_passPhase_42 : decode b_PA_passPhase 42 = .ok (.iload_n 3, 1) := by decide +kernel
theorem d_PA_passPhase_43 : decode b_PA_passPhase 43 = .ok (.iaload, 1) := by decide +kernel
theorem d_PA_passPhase_44 : decode b_PA_passPhase 44 = .ok (.goto 4, 3) := by decide +kernel
theorem d_PA_passPhase_47 : decode b_PA_passPhase 47 = .ok (.iload_n 2, 1) := by decide +kernel
theorem d_PA_passPhase_48 : decode b_PA_passPhase 48 = .ok (.istore_n 2, 1) := by decide +kernel
theorem d_PA_passPhase_49 : decode b_PA_passPhase 49 = .ok (.iinc 3 1, 3) := by decide +kernel
theorem d_PA_passPhase_52 : decode b_PA_passPhase 52 = .ok (.goto (-46), 3) := by decide +kernel
theorem d_PA_passPhase_55 : decode b_PA_passPhase 55 = .ok (.iload_n 1, 1) := by decide +kernel
theorem d_PA_passPhase_56 : decode b_PA_passPhase 56 = .ok (.ifCond .ne 4, 3) := by decide +kernel
theorem d_PA_passPhase_59 : decode b_PA_passPhase 59 = .ok (.return_, 1) := by decide +kernel
theorem d_PA_passPhase_60 : decode b_PA_passPhase 60 = .ok (.aload_n 0, 1) := by decide +kernel
theorem d_PA_passPhase_61 : decode b_PA_passPhase 61 = .ok (.invokevirtual 151, 3) := by decide +kernel
theorem d_PA_passPhase_64 : decode b_PA_passPhase 64 = .ok (.iload_n 2, 1) := by decide +kernel
theorem d_PA_passPhase_65 : decode b_PA_passPhase 65 = .ok (.iconst (-1), 1) := by decide +kernel
theorem d_PA_passPhase_66 : decode b_PA_passPhase 66 = .ok (.if_icmp .ne 15, 3) := by decide +kernel
theorem d_PA_passPhase_69 : decode b_PA_passPhase 69 = .ok (.aload_n 0, 1) := by decide +kernel
theorem d_PA_passPhase_70 : decode b_PA_passPhase 70 = .ok (.getfield 31, 3) := by decide +kernel
theorem d_PA_passPhase_73 : decode b_PA_passPhase 73 = .ok (.aload_n 0, 1) := by decide +kernel
theorem d_PA_passPhase_74 : decode b_PA_passPhase 74 = .ok (.getfield 28, 3) := by decide +kernel
theorem d_PA_passPhase_77 : decode b_PA_passPhase 77 = .ok (.invokevirtual 82, 3) := by decide +kernel
theorem d_PA_passPhase_80 : decode b_PA_passPhase 80 = .ok (.return_, 1) := by decide +kernel
theorem d_PA_passPhase_81 : decode b_PA_passPhase 81 = .ok (.iconst 0, 1) := by decide +kernel
theorem d_PA_passPhase_82 : decode b_PA_passPhase 82 = .ok (.istore_n 3, 1) := by decide +kernel
theorem d_PA_passPhase_83 : decode b_PA_passPhase 83 = .ok (.iload_n 3, 1) := by decide +kernel
theorem d_PA_passPhase_84 : decode b_PA_passPhase 84 = .ok (.bipush 12, 2) := by decide +kernel
theorem d_PA_passPhase_86 : decode b_PA_passPhase 86 = .ok (.if_icmp .ge 24, 3) := by decide +kernel
theorem d_PA_passPhase_89 : decode b_PA_passPhase 89 = .ok (.aload_n 0, 1) := by decide +kernel
theorem d_PA_passPhase_90 : decode b_PA_passPhase 90 = .ok (.iload_n 2, 1) := by decide +kernel
theorem d_PA_passPhase_91 : decode b_PA_passPhase 91 = .ok (.iload_n 3, 1) := by decide +kernel
theorem d_PA_passPhase_92 : decode b_PA_passPhase 92 = .ok (.invokevirtual 74, 3) := by decide +kernel
theorem d_PA_passPhase_95 : decode b_PA_passPhase 95 = .ok (.aload_n 0, 1) := by decide +kernel
theorem d_PA_passPhase_96 : decode b_PA_passPhase 96 = .ok (.getfield 20, 3) := by decide +kernel
theorem d_PA_passPhase_99 : decode b_PA_passPhase 99 = .ok (.iload_n 3, 1) := by decide +kernel
theorem d_PA_passPhase_100 : decode b_PA_passPhase 100 = .ok (.aaload, 1) := by decide +kernel
theorem d_PA_passPhase_101 : decode b_PA_passPhase 101 = .ok (.invokevirtual 82, 3) := by decide +kernel
theorem d_PA_passPhase_104 : decode b_PA_passPhase 104 = .ok (.iinc 3 1, 3) := by decide +kernel
theorem d_PA_passPhase_107 : decode b_PA_passPhase 107 = .ok (.goto (-24), 3) := by decide +kernel
theorem d_PA_passPhase_110 : decode b_PA_passPhase 110 = .ok (.return_, 1) := by decide +kernel
theorem d_PA_sumOverBounds_0 : decode b_PA_sumOverBounds 0 = .ok (.aload_n 0, 1) := by decide +kernel
theorem d_PA_sumOverBounds_1 : decode b_PA_sumOverBounds 1 = .ok (.getfield 28, 3) := by decide +kernel
theorem d_PA_sumOverBounds_4 : decode b_PA_sumOverBounds 4 = .ok (.iconst 0, 1) := by decide +kernel
theorem d_PA_sumOverBounds_5 : decode b_PA_sumOverBounds 5 = .ok (.invokevirtual 70, 3) := by decide +kernel
theorem d_PA_sumOverBounds_8 : decode b_PA_sumOverBounds 8 = .ok (.iconst 0, 1) := by decide +kernel
theorem d_PA_sumOverBounds_9 : decode b_PA_sumOverBounds 9 = .ok (.istore_n 1, 1) := by decide +kernel
theorem d_PA_sumOverBounds_10 : decode b_PA_sumOverBounds 10 = .ok (.iload_n 1, 1) := by decide +kernel
theorem d_PA_sumOverBounds_11 : decode b_PA_sumOverBounds 11 = .ok (.bipush 12, 2) := by decide +kernel
theorem d_PA_sumOverBounds_13 : decode b_PA_sumOverBounds 13 = .ok (.if_icmp .ge 19, 3) := by decide +kernel
theorem d_PA_sumOverBounds_16 : decode b_PA_sumOverBounds 16 = .ok (.aload_n 0, 1) := by decide +kernel
theorem d_PA_sumOverBounds_17 : decode b_PA_sumOverBounds 17 = .ok (.getfield 20, 3) := by decide +kernel
theorem d_PA_sumOverBounds_20 : decode b_PA_sumOverBounds 20 = .ok (.iload_n 1, 1) := by decide +kernel
theorem d_PA_sumOverBounds_21 : decode b_PA_sumOverBounds 21 = .ok (.aaload, 1) := by decide +kernel
theorem d_PA_sumOverBounds_22 : decode b_PA_sumOverBounds 22 = .ok (.iconst 0, 1) := by decide +kernel
theorem d_PA_sumOverBounds_23 : decode b_PA_sumOverBounds 23 = .ok (.invokevirtual 70, 3) := by decide +kernel
theorem d_PA_sumOverBounds_26 : decode b_PA_sumOverBounds 26 = .ok (.iinc 1 1, 3) := by decide +kernel
theorem d_PA_sumOverBounds_29 : decode b_PA_sumOverBounds 29 = .ok (.goto (-19), 3) := by decide +kernel
theorem d_PA_sumOverBounds_32 : decode b_PA_sumOverBounds 32 = .ok (.iconst 0, 1) := by decide +kernel
theorem d_PA_sumOverBounds_33 : decode b_PA_sumOverBounds 33 = .ok (.istore_n 1, 1) := by decide +kernel
theorem d_PA_sumOverBounds_34 : decode b_PA_sumOverBounds 34 = .ok (.iload_n 1, 1) := by decide +kernel
theorem d_PA_sumOverBounds_35 : decode b_PA_sumOverBounds 35 = .ok (.bipush 12, 2) := by decide +kernel
theorem d_PA_sumOverBounds_37 : decode b_PA_sumOverBounds 37 = .ok (.if_icmp .ge 101, 3) := by decide +kernel
theorem d_PA_sumOverBounds_40 : decode b_PA_sumOverBounds 40 = .ok (.aload_n 0, 1) := by decide +kernel
theorem d_PA_sumOverBounds_41 : decode b_PA_sumOverBounds 41 = .ok (.getfield 38, 3) := by decide +kernel
theorem d_PA_sumOverBounds_44 : decode b_PA_sumOverBounds 44 = .ok (.iconst 0, 1) := by decide +kernel
theorem d_PA_sumOverBounds_45 : decode b_PA_sumOverBounds 45 = .ok (.iaload, 1) := by decide +kernel
theorem d_PA_sumOverBounds_46 : decode b_PA_sumOverBounds 46 = .ok (.iconst (-1), 1) := by decide +kernel
theorem d_PA_sumOverBounds_47 : decode b_PA_sumOverBounds 47 = .ok (.if_icmp .eq 16, 3) := by decide +kernel
theorem d_PA_sumOverBounds_50 : decode b_PA_sumOverBounds 50 = .ok (.aload_n 0, 1) := by decide +kernel
theorem d_PA_sumOverBounds_51 : decode b_PA_sumOverBounds 51 = .ok (.getfield 38, 3) := by decide +kernel
theorem d_PA_sumOverBounds_54 : decode b_PA_sumOverBounds 54 = .ok (.iconst 0, 1) := by decide +kernel
theorem d_PA_sumOverBounds_55 : decode b_PA_sumOverBounds 55 = .ok (.iaload, 1) := by decide +kernel
theorem d_PA_sumOverBounds_56 : decode b_PA_sumOverBounds 56 = .ok (.iload_n 1, 1) := by decide +kernel
theorem d_PA_sumOverBounds_57 : decode b_PA_sumOverBounds 57 = .ok (.if_icmp .eq 6, 3) := by decide +kernel
theorem d_PA_sumOverBounds_60 : decode b_PA_sumOverBounds 60 = .ok (.goto 72, 3) := by decide +kernel
theorem d_PA_sumOverBounds_63 : decode b_PA_sumOverBounds 63 = .ok (.iconst 0, 1) := by decide +kernel
theorem d_PA_sumOverBounds_64 : decode b_PA_sumOverBounds 64 = .ok (.istore_n 2, 1) := by decide +kernel
theorem d_PA_sumOverBounds_65 : decode b_PA_sumOverBounds 65 = .ok (.iload_n 2, 1) := by decide +kernel
theorem d_PA_sumOverBounds_66 : decode b_PA_sumOverBounds 66 = .ok (.bipush 6, 2) := by decide +kernel
theorem d_PA_sumOverBounds_68 : decode b_PA_sumOverBounds 68 = .ok (.if_icmp .ge 19, 3) := by decide +kernel
theorem d_PA_sumOverBounds_71 : decode b_PA_sumOverBounds 71 = .ok (.aload_n 0, 1) := by decide +kernel
theorem d_PA_sumOverBounds_72 : decode b_PA_sumOverBounds 72 = .ok (.getfield 17, 3) := by decide +kernel
theorem d_PA_sumOverBounds_75 : decode b_PA_sumOverBounds 75 = .ok (.iload_n 2, 1) := by decide +kernel
theorem d_PA_sumOverBounds_76 : decode b_PA_sumOverBounds 76 = .ok (.aaload, 1) := by decide +kernel
theorem d_PA_sumOverBounds_77 : decode b_PA_sumOverBounds 77 = .ok (.iconst 0, 1) := by decide +kernel
theorem d_PA_sumOverBounds_78 : decode b_PA_sumOverBounds 78 = .ok (.invokevirtual 70, 3) := by decide +kernel
theorem d_PA_sumOverBounds_81 : decode b_PA_sumOverBounds 81 = .ok (.iinc 2 1, 3) := by decide +kernel
theorem d_PA_sumOverBounds_84 : decode b_PA_sumOverBounds 84 = .ok (.goto (-19), 3) := by decide +kernel
theorem d_PA_sumOverBounds_87 : decode b_PA_sumOverBounds 87 = .ok (.iload_n 1, 1) := by decide +kernel
theorem d_PA_sumOverBounds_88 : decode b_PA_sumOverBounds 88 = .ok (.istore_n 2, 1) := by decide +kernel
theorem d_PA_sumOverBounds_89 : decode b_PA_sumOverBounds 89 = .ok (.iload_n 2, 1) := by decide +kernel
theorem d_PA_sumOverBounds_90 : decode b_PA_sumOverBounds 90 = .ok (.bipush 12, 2) := by decide +kernel
theorem d_PA_sumOverBounds_92 : decode b_PA_sumOverBounds 92 = .ok (.if_icmp .ge 40, 3) := by decide +kernel
theorem d_PA_sumOverBounds_95 : decode b_PA_sumOverBounds 95 = .ok (.aload_n 0, 1) := by decide +kernel
theorem d_PA_sumOverBounds_96 : decode b_PA_sumOverBounds 96 = .ok (.iload_n 2, 1) := by decide +kernel
theorem d_PA_sumOverBounds_97 : decode b_PA_sumOverBounds 97 = .ok (.invokevirtual 154, 3) := by decide +kernel
theorem d_PA_sumOverBounds_100 : decode b_PA_sumOverBounds 100 = .ok (.aload_n 0, 1) := by decide +kernel
theorem d_PA_sumOverBounds_101 : decode b_PA_sumOverBounds 101 = .ok (.getfield 38, 3) := by decide +kernel
theorem d_PA_sumOverBounds_104 : decode b_PA_sumOverBounds 104 = .ok (.iconst 1, 1) := by decide +kernel
theorem d_PA_sumOverBounds_105 : decode b_PA_sumOverBounds 105 = .ok (.iaload, 1) := by decide +kernel
theorem d_PA_sumOverBounds_106 : decode b_PA_sumOverBounds 106 = .ok (.iconst (-1), 1) := by decide +kernel
theorem d_PA_sumOverBounds_107 : decode b_PA_sumOverBounds 107 = .ok (.if_icmp .eq 13, 3) := by decide +kernel
theorem d_PA_sumOverBounds_110 : decode b_PA_sumOverBounds 110 = .ok (.aload_n 0, 1) := by decide +kernel
theorem d_PA_sumOverBounds_111 : decode b_PA_sumOverBounds 111 = .ok (.getfield 38, 3) := by decide +kernel
theorem d_PA_sumOverBounds_114 : decode b_PA_sumOverBounds 114 = .ok (.iconst 1, 1) := by decide +kernel
theorem d_PA_sumOverBounds_115 : decode b_PA_sumOverBounds 115 = .ok (.iaload, 1) := by decide +kernel
theorem d_PA_sumOverBounds_116 : decode b_PA_sumOverBounds 116 = .ok (.iload_n 2, 1) := by decide +kernel
theorem d_PA_sumOverBounds_117 : decode b_PA_sumOverBounds 117 = .ok (.if_icmp .ne 9, 3) := by decide +kernel
theorem d_PA_sumOverBounds_120 : decode b_PA_sumOverBounds 120 = .ok (.aload_n 0, 1) := by decide +kernel
theorem d_PA_sumOverBounds_121 : decode b_PA_sumOverBounds 121 = .ok (.iload_n 1, 1) := by decide +kernel
theorem d_PA_sumOverBounds_122 : decode b_PA_sumOverBounds 122 = .ok (.iload_n 2, 1) := by decide +kernel
theorem d_PA_sumOverBounds_123 : decode b_PA_sumOverBounds 123 = .ok (.invokevirtual 157, 3) := by decide +kernel
theorem d_PA_sumOverBounds_126 : decode b_PA_sumOverBounds 126 = .ok (.iinc 2 1, 3) := by decide +kernel
theorem d_PA_sumOverBounds_129 : decode b_PA_sumOverBounds 129 = .ok (.goto (-40), 3) := by decide +kernel
theorem d_PA_sumOverBounds_132 : decode b_PA_sumOverBounds 132 = .ok (.iinc 1 1, 3) := by decide +kernel
theorem d_PA_sumOverBounds_135 : decode b_PA_sumOverBounds 135 = .ok (.goto (-101), 3) := by decide +kernel
theorem d_PA_sumOverBounds_138 : decode b_PA_sumOverBounds 138 = .ok (.return_, 1) := by decide +kernel
theorem d_PA_multiplyInside_0 : decode b_PA_multiplyInside 0 = .ok (.aload_n 0, 1) := by decide +kernel
theorem d_PA_multiplyInside_1 : decode b_PA_multiplyInside 1 = .ok (.getfield 24, 3) := by decide +kernel
theorem d_PA_multiplyInside_4 : decode b_PA_multiplyInside 4 = .ok (.iconst 1, 1) := by decide +kernel
theorem d_PA_multiplyInside_5 : decode b_PA_multiplyInside 5 = .ok (.invokevirtual 70, 3) := by decide +kernel
theorem d_PA_multiplyInside_8 : decode b_PA_multiplyInside 8 = .ok (.aload_n 0, 1) := by decide +kernel
theorem d_PA_multiplyInside_9 : decode b_PA_multiplyInside 9 = .ok (.getfield 61, 3) := by decide +kernel
theorem d_PA_multiplyInside_12 : decode b_PA_multiplyInside 12 = .ok (.istore_n 2, 1) := by decide +kernel
theorem d_PA_multiplyInside_13 : decode b_PA_multiplyInside 13 = .ok (.iload_n 2, 1) := by decide +kernel
theorem d_PA_multiplyInside_14 : decode b_PA_multiplyInside 14 = .ok (.aload_n 0, 1) := by decide +kernel
theorem d_PA_multiplyInside_15 : decode b_PA_multiplyInside 15 = .ok (.getfield 57, 3) := by decide +kernel
theorem d_PA_multiplyInside_18 : decode b_PA_multiplyInside 18 = .ok (.if_icmp .ge 53, 3) := by decide +kernel
theorem d_PA_multiplyInside_21 : decode b_PA_multiplyInside 21 = .ok (.aload_n 0, 1) := by decide +kernel
theorem d_PA_multiplyInside_22 : decode b_PA_multiplyInside 22 = .ok (.getfield 41, 3) := by decide +kernel
theorem d_PA_multiplyInside_25 : decode b_PA_multiplyInside 25 = .ok (.iload_n 2, 1) := by decide +kernel
theorem d_PA_multiplyInside_26 : decode b_PA_multiplyInside 26 = .ok (.iaload, 1) := by decide +kernel
theorem d_PA_multiplyInside_27 : decode b_PA_multiplyInside 27 = .ok (.istore_n 3, 1) := by decide +kernel
theorem d_PA_multiplyInside_28 : decode b_PA_multiplyInside 28 = .ok (.aload_n 0, 1) := by decide +kernel
theorem d_PA_multiplyInside_29 : decode b_PA_multiplyInside 29 = .ok (.getfield 54, 3) := by decide +kernel
theorem d_PA_multiplyInside_32 : decode b_PA_multiplyInside 32 = .ok (.iload_n 3, 1) := by decide +kernel
theorem d_PA_multiplyInside_33 : decode b_PA_multiplyInside 33 = .ok (.baload, 1) := by decide +kernel
theorem d_PA_multiplyInside_34 : decode b_PA_multiplyInside 34 = .ok (.ifCond .eq 31, 3) := by decide +kernel
theorem d_PA_multiplyInside_37 : decode b_PA_multiplyInside 37 = .ok (.aload_n 0, 1) := by decide +kernel
theorem d_PA_multiplyInside_38 : decode b_PA_multiplyInside 38 = .ok (.getfield 17, 3) := by decide +kernel
theorem d_PA_multiplyInside_41 : decode b_PA_multiplyInside 41 = .ok (.iload_n 3, 1) := by decide +kernel
theorem d_PA_multiplyInside_42 : decode b_PA_multiplyInside 42 = .ok (.aaload, 1) := by decide +kernel
theorem d_PA_multiplyInside_43 : decode b_PA_multiplyInside 43 = .ok (.aload_n 0, 1) := by decide +kernel
theorem d_PA_multiplyInside_44 : decode b_PA_multiplyInside 44 = .ok (.iload_n 3, 1) := by decide +kernel
theorem d_PA_multiplyInside_45 : decode b_PA_multiplyInside 45 = .ok (.iload_n 1, 1) := by decide +kernel
theorem d_PA_multiplyInside_46 : decode b_PA_multiplyInside 46 = .ok (.invokevirtual 74, 3) := by decide +kernel
theorem d_PA_multiplyInside_49 : decode b_PA_multiplyInside 49 = .ok (.invokevirtual 78, 3) := by decide +kernel
theorem d_PA_multiplyInside_52 : decode b_PA_multiplyInside 52 = .ok (.aload_n 0, 1) := by decide +kernel
theorem d_PA_multiplyInside_53 : decode b_PA_multiplyInside 53 = .ok (.getfield 24, 3) := by decide +kernel
theorem d_PA_multiplyInside_56 : decode b_PA_multiplyInside 56 = .ok (.aload_n 0, 1) := by decide +kernel
theorem d_PA_multiplyInside_57 : decode b_PA_multiplyInside 57 = .ok (.getfield 17, 3) := by decide +kernel
theorem d_PA_multiplyInside_60 : decode b_PA_multiplyInside 60 = .ok (.iload_n 3, 1) := by decide +kernel
theorem d_PA_multiplyInside_61 : decode b_PA_multiplyInside 61 = .ok (.aaload, 1) := by decide +kernel
theorem d_PA_multiplyInside_62 : decode b_PA_multiplyInside 62 = .ok (.invokevirtual 82, 3) := by decide +kernel
theorem d_PA_multiplyInside_65 : decode b_PA_multiplyInside 65 = .ok (.iinc 2 1, 3) := by decide +kernel
theorem d_PA_multiplyInside_68 : decode b_PA_multiplyInside 68 = .ok (.goto (-55), 3) := by decide +kernel
theorem d_PA_multiplyInside_71 : decode b_PA_multiplyInside 71 = .ok (.return_, 1) := by decide +kernel
theorem d_PA_addPair_0 : decode b_PA_addPair 0 = .ok (.aload_n 0, 1) := by decide +kernel
theorem d_PA_addPair_1 : decode b_PA_addPair 1 = .ok (.getfield 28, 3) := by decide +kernel
theorem d_PA_addPair_4 : decode b_PA_addPair 4 = .ok (.aload_n 0, 1) := by decide +kernel
theorem d_PA_addPair_5 : decode b_PA_addPair 5 = .ok (.getfield 24, 3) := by decide +kernel
theorem d_PA_addPair_8 : decode b_PA_addPair 8 = .ok (.invokevirtual 78, 3) := by decide +kernel
theorem d_PA_addPair_11 : decode b_PA_addPair 11 = .ok (.iload_n 1, 1) := by decide +kernel
theorem d_PA_addPair_12 : decode b_PA_addPair 12 = .ok (.istore_n 3, 1) := by decide +kernel
theorem d_PA_addPair_13 : decode b_PA_addPair 13 = .ok (.iload_n 3, 1) := by decide +kernel
theorem d_PA_addPair_14 : decode b_PA_addPair 14 = .ok (.iload_n 2, 1) := by decide +kernel
theorem d_PA_addPair_15 : decode b_PA_addPair 15 = .ok (.if_icmp .gt 22, 3) := by decide +kernel
theorem d_PA_addPair_18 : decode b_PA_addPair 18 = .ok (.aload_n 0, 1) := by decide +kernel
theorem d_PA_addPair_19 : decode b_PA_addPair 19 = .ok (.getfield 20, 3) := by decide +kernel
theorem d_PA_addPair_22 : decode b_PA_addPair 22 = .ok (.iload_n 3, 1) := by decide +kernel
theorem d_PA_addPair_23 : decode b_PA_addPair 23 = .ok (.aaload, 1) := by decide +kernel
theorem d_PA_addPair_24 : decode b_PA_addPair 24 = .ok (.aload_n 0, 1) := by decide +kernel
theorem d_PA_addPair_25 : decode b_PA_addPair 25 = .ok (.getfield 24, 3) := by decide +kernel
theorem d_PA_addPair_28 : decode b_PA_addPair 28 = .ok (.invokevirtual 78, 3) := by decide +kernel
theorem d_PA_addPair_31 : decode b_PA_addPair 31 = .ok (.iinc 3 1, 3) := by decide +kernel
theorem d_PA_addPair_34 : decode b_PA_addPair 34 = .ok (.goto (-21), 3) := by decide +kernel
theorem d_PA_addPair_37 : decode b_PA_addPair 37 = .ok (.return_, 1) := by decide +kernel
theorem d_PA_multiplyYears_0 : decode b_PA_multiplyYears 0 = .ok (.iconst 0, 1) := by decide +kernel
theorem d_PA_multiplyYears_1 : decode b_PA_multiplyYears 1 = .ok (.istore_n 3, 1) := by decide +kernel
theorem d_PA_multiplyYears_2 : decode b_PA_multiplyYears 2 = .ok (.iload_n 3, 1) := by decide +kernel
theorem d_PA_multiplyYears_3 : decode b_PA_multiplyYears 3 = .ok (.bipush 12, 2) := by decide +kernel
theorem d_PA_multiplyYears_5 : decode b_PA_multiplyYears 5 = .ok (.if_icmp .ge 19, 3) := by decide +kernel
theorem d_PA_multiplyYears_8 : decode b_PA_multiplyYears 8 = .ok (.aload_n 0, 1) := by decide +kernel
theorem d_PA_multiplyYears_9 : decode b_PA_multiplyYears 9 = .ok (.iload_n 1, 1) := by decide +kernel
theorem d_PA_multiplyYears_10 : decode b_PA_multiplyYears 10 = .ok (.iload_n 3, 1) := by decide +kernel
theorem d_PA_multiplyYears_11 : decode b_PA_multiplyYears 11 = .ok (.invokevirtual 74, 3) := by decide +kernel
theorem d_PA_multiplyYears_14 : decode b_PA_multiplyYears 14 = .ok (.aload_n 2, 1) := by decide +kernel
theorem d_PA_multiplyYears_15 : decode b_PA_multiplyYears 15 = .ok (.invokevirtual 82, 3) := by decide +kernel
theorem d_PA_multiplyYears_18 : decode b_PA_multiplyYears 18 = .ok (.iinc 3 1, 3) := by decide +kernel
theorem d_PA_multiplyYears_21 : decode b_PA_multiplyYears 21 = .ok (.goto (-19), 3) := by decide +kernel
theorem d_PA_multiplyYears_24 : decode b_PA_multiplyYears 24 = .ok (.return_, 1) := by decide +kernel
theorem d_PA_fixBound_0 : decode b_PA_fixBound 0 = .ok (.aload_n 0, 1) := by decide +kernel
theorem d_PA_fixBound_1 : decode b_PA_fixBound 1 = .ok (.getfield 38, 3) := by decide +kernel
theorem d_PA_fixBound_4 : decode b_PA_fixBound 4 = .ok (.iload_n 1, 1) := by decide +kernel
theorem d_PA_fixBound_5 : decode b_PA_fixBound 5 = .ok (.iload_n 2, 1) := by decide +kernel
theorem d_PA_fixBound_6 : decode b_PA_fixBound 6 = .ok (.iastore, 1) := by decide +kernel
theorem d_PA_fixBound_7 : decode b_PA_fixBound 7 = .ok (.return_, 1) := by decide +kernel
theorem d_PA_fixDate_0 : decode b_PA_fixDate 0 = .ok (.aload_n 0, 1) := by decide +kernel
theorem d_PA_fixDate_1 : decode b_PA_fixDate 1 = .ok (.getfield 34, 3) := by decide +kernel
theorem d_PA_fixDate_4 : decode b_PA_fixDate 4 = .ok (.iload_n 1, 1) := by decide +kernel
theorem d_PA_fixDate_5 : decode b_PA_fixDate 5 = .ok (.iload_n 2, 1) := by decide +kernel
theorem d_PA_fixDate_6 : decode b_PA_fixDate 6 = .ok (.iastore, 1) := by decide +kernel
theorem d_PA_fixDate_7 : decode b_PA_fixDate 7 = .ok (.return_, 1) := by decide +kernel
