theorem d_LA_law_0 : decode code 0 = .ok (.new 8, 3) := by decide +kernel
theorem d_LA_law_3 : decode code 3 = .ok (.dup, 1) := by decide +kernel
theorem d_LA_law_4 : decode code 4 = .ok (.invokespecial 61, 3) := by decide +kernel
theorem d_LA_law_7 : decode code 7 = .ok (.astore_n 1, 1) := by decide +kernel
theorem d_LA_law_8 : decode code 8 = .ok (.new 62, 3) := by decide +kernel
theorem d_LA_law_11 : decode code 11 = .ok (.dup, 1) := by decide +kernel
theorem d_LA_law_12 : decode code 12 = .ok (.invokespecial 64, 3) := by decide +kernel
theorem d_LA_law_15 : decode code 15 = .ok (.astore_n 2, 1) := by decide +kernel
theorem d_LA_law_16 : decode code 16 = .ok (.iconst 1, 1) := by decide +kernel
theorem d_LA_law_17 : decode code 17 = .ok (.newarray .long, 2) := by decide +kernel
theorem d_LA_law_19 : decode code 19 = .ok (.astore_n 3, 1) := by decide +kernel
theorem d_LA_law_20 : decode code 20 = .ok (.iconst 0, 1) := by decide +kernel
theorem d_LA_law_21 : decode code 21 = .ok (.istore 4, 2) := by decide +kernel
theorem d_LA_law_23 : decode code 23 = .ok (.iload 4, 2) := by decide +kernel
theorem d_LA_law_25 : decode code 25 = .ok (.aload_n 0, 1) := by decide +kernel
theorem d_LA_law_26 : decode code 26 = .ok (.arraylength, 1) := by decide +kernel
theorem d_LA_law_27 : decode code 27 = .ok (.bipush 6, 2) := by decide +kernel
theorem d_LA_law_29 : decode code 29 = .ok (.isub, 1) := by decide +kernel
theorem d_LA_law_30 : decode code 30 = .ok (.if_icmp .gt 1013, 3) := by decide +kernel
theorem d_LA_law_33 : decode code 33 = .ok (.aload_n 0, 1) := by decide +kernel
theorem d_LA_law_34 : decode code 34 = .ok (.iload 4, 2) := by decide +kernel
theorem d_LA_law_36 : decode code 36 = .ok (.iaload, 1) := by decide +kernel
theorem d_LA_law_37 : decode code 37 = .ok (.bipush 15, 2) := by decide +kernel
theorem d_LA_law_39 : decode code 39 = .ok (.iand, 1) := by decide +kernel
theorem d_LA_law_40 : decode code 40 = .ok (.tableswitch 997 0 13 #[72, 116, 196, 256, 348, 404, 460, 540, 620, 724, 792, 872, 885, 941], 72) := by decide +kernel
theorem d_LA_law_112 : decode code 112 = .ok (.aload_n 1, 1) := by decide +kernel
theorem d_LA_law_113 : decode code 113 = .ok (.aload_n 3, 1) := by decide +kernel
theorem d_LA_law_114 : decode code 114 = .ok (.invokestatic 65, 3) := by decide +kernel
theorem d_LA_law_117 : decode code 117 = .ok (.istore 5, 2) := by decide +kernel
theorem d_LA_law_119 : decode code 119 = .ok (.aload_n 2, 1) := by decide +kernel
theorem d_LA_law_120 : decode code 120 = .ok (.invokevirtual 70, 3) := by decide +kernel
theorem d_LA_law_123 : decode code 123 = .ok (.istore 6, 2) := by decide +kernel
theorem d_LA_law_125 : decode code 125 = .ok (.aload_n 2, 1) := by decide +kernel
theorem d_LA_law_126 : decode code 126 = .ok (.invokevirtual 71, 3) := by decide +kernel
theorem d_LA_law_129 : decode code 129 = .ok (.iload 5, 2) := by decide +kernel
theorem d_LA_law_131 : decode code 131 = .ok (.if_icmp .eq 5, 3) := by decide +kernel
theorem d_LA_law_134 : decode code 134 = .ok (.iconst 0, 1) := by decide +kernel
theorem d_LA_law_135 : decode code 135 = .ok (.ireturn, 1) := by decide +kernel
theorem d_LA_law_136 : decode code 136 = .ok (.iload 5, 2) := by decide +kernel
theorem d_LA_law_138 : decode code 138 = .ok (.ifCond .ne 15, 3) := by decide +kernel
theorem d_LA_law_141 : decode code 141 = .ok (.aload_n 3, 1) := by decide +kernel
theorem d_LA_law_142 : decode code 142 = .ok (.iconst 0, 1) := by decide +kernel
theorem d_LA_law_143 : decode code 143 = .ok (.laload, 1) := by decide +kernel
theorem d_LA_law_144 : decode code 144 = .ok (.iload 6, 2) := by decide +kernel
theorem d_LA_law_146 : decode code 146 = .ok (.i2l, 1) := by decide +kernel
theorem d_LA_law_147 : decode code 147 = .ok (.lcmp, 1) := by decide +kernel
theorem d_LA_law_148 : decode code 148 = .ok (.ifCond .eq 5, 3) := by decide +kernel
theorem d_LA_law_151 : decode code 151 = .ok (.iconst 0, 1) := by decide +kernel
theorem d_LA_law_152 : decode code 152 = .ok (.ireturn, 1) := by decide +kernel
theorem d_LA_law_153 : decode code 153 = .ok (.goto 884, 3) := by decide +kernel
theorem d_LA_law_156 : decode code 156 = .ok (.aload_n 1, 1) := by decide +kernel
theorem d_LA_law_157 : decode code 157 = .ok (.aload_n 0, 1) := by decide +kernel
theorem d_LA_law_158 : decode code 158 = .ok (.iload 4, 2) := by decide +kernel
theorem d_LA_law_160 : decode code 160 = .ok (.iconst 1, 1) := by decide +kernel
theorem d_LA_law_161 : decode code 161 = .ok (.iadd, 1) := by decide +kernel
theorem d_LA_law_162 : decode code 162 = .ok (.iaload, 1) := by decide +kernel
theorem d_LA_law_163 : decode code 163 = .ok (.aload_n 0, 1) := by decide +kernel
theorem d_LA_law_164 : decode code 164 = .ok (.iload 4, 2) := by decide +kernel
theorem d_LA_law_166 : decode code 166 = .ok (.iconst 2, 1) := by decide +kernel
theorem d_LA_law_167 : decode code 167 = .ok (.iadd, 1) := by decide +kernel
theorem d_LA_law_168 : decode code 168 = .ok (.iaload, 1) := by decide +kernel
theorem d_LA_law_169 : decode code 169 = .ok (.aload_n 0, 1) := by decide +kernel
theorem d_LA_law_170 : decode code 170 = .ok (.iload 4, 2) := by decide +kernel
theorem d_LA_law_172 : decode code 172 = .ok (.iconst 3, 1) := by decide +kernel
theorem d_LA_law_173 : decode code 173 = .ok (.iadd, 1) := by decide +kernel
theorem d_LA_law_174 : decode code 174 = .ok (.iaload, 1) := by decide +kernel
theorem d_LA_law_175 : decode code 175 = .ok (.aload_n 3, 1) := by decide +kernel
theorem d_LA_law_176 : decode code 176 = .ok (.invokestatic 74, 3) := by decide +kernel
theorem d_LA_law_179 : decode code 179 = .ok (.istore 5, 2) := by decide +kernel
theorem d_LA_law_181 : decode code 181 = .ok (.aload_n 2, 1) := by decide +kernel
theorem d_LA_law_182 : decode code 182 = .ok (.aload_n 0, 1) := by decide +kernel
theorem d_LA_law_183 : decode code 183 = .ok (.iload 4, 2) := by decide +kernel
theorem d_LA_law_185 : decode code 185 = .ok (.iconst 1, 1) := by decide +kernel
theorem d_LA_law_186 : decode code 186 = .ok (.iadd, 1) := by decide +kernel
theorem d_LA_law_187 : decode code 187 = .ok (.iaload, 1) := by decide +kernel
theorem d_LA_law_188 : decode code 188 = .ok (.aload_n 0, 1) := by decide +kernel
theorem d_LA_law_189 : decode code 189 = .ok (.iload 4, 2) := by decide +kernel
theorem d_LA_law_191 : decode code 191 = .ok (.iconst 2, 1) := by decide +kernel
theorem d_LA_law_192 : decode code 192 = .ok (.iadd, 1) := by decide +kernel
theorem d_LA_law_193 : decode code 193 = .ok (.iaload, 1) := by decide +kernel
theorem d_LA_law_194 : decode code 194 = .ok (.aload_n 0, 1) := by decide +kernel
theorem d_LA_law_195 : decode code 195 = .ok (.iload 4, 2) := by decide +kernel
theorem d_LA_law_197 : decode code 197 = .ok (.iconst 3, 1) := by decide +kernel
theorem d_LA_law_198 : decode code 198 = .ok (.iadd, 1) := by decide +kernel
theorem d_LA_law_199 : decode code 199 = .ok (.iaload, 1) := by decide +kernel
theorem d_LA_law_200 : decode code 200 = .ok (.invokevirtual 77, 3) := by decide +kernel
theorem d_LA_law_203 : decode code 203 = .ok (.istore 6, 2) := by decide +kernel
theorem d_LA_law_205 : decode code 205 = .ok (.aload_n 2, 1) := by decide +kernel
theorem d_LA_law_206 : decode code 206 = .ok (.invokevirtual 71, 3) := by decide +kernel
theorem d_LA_law_209 : decode code 209 = .ok (.iload 5, 2) := by decide +kernel
theorem d_LA_law_211 : decode code 211 = .ok (.if_icmp .eq 5, 3) := by decide +kernel
theorem d_LA_law_214 : decode code 214 = .ok (.iconst 0, 1) := by decide +kernel
theorem d_LA_law_215 : decode code 215 = .ok (.ireturn, 1) := by decide +kernel
theorem d_LA_law_216 : decode code 216 = .ok (.iload 5, 2) := by decide +kernel
theorem d_LA_law_218 : decode code 218 = .ok (.ifCond .ne 15, 3) := by decide +kernel
theorem d_LA_law_221 : decode code 221 = .ok (.aload_n 3, 1) := by decide +kernel
theorem d_LA_law_222 : decode code 222 = .ok (.iconst 0, 1) := by decide +kernel
theorem d_LA_law_223 : decode code 223 = .ok (.laload, 1) := by decide +kernel
theorem d_LA_law_224 : decode code 224 = .ok (.iload 6, 2) := by decide +kernel
theorem d_LA_law_226 : decode code 226 = .ok (.i2l, 1) := by decide +kernel
theorem d_LA_law_227 : decode code 227 = .ok (.lcmp, 1) := by decide +kernel
theorem d_LA_law_228 : decode code 228 = .ok (.ifCond .eq 5, 3) := by decide +kernel
theorem d_LA_law_231 : decode code 231 = .ok (.iconst 0, 1) := by decide +kernel
theorem d_LA_law_232 : decode code 232 = .ok (.ireturn, 1) := by decide +kernel
theorem d_LA_law_233 : decode code 233 = .ok (.goto 804, 3) := by decide +kernel
theorem d_LA_law_236 : decode code 236 = .ok (.aload_n 1, 1) := by decide +kernel
theorem d_LA_law_237 : decode code 237 = .ok (.aload_n 0, 1) := by decide +kernel
theorem d_LA_law_238 : decode code 238 = .ok (.iload 4, 2) := by decide +kernel
theorem d_LA_law_240 : decode code 240 = .ok (.iconst 1, 1) := by decide +kernel
theorem d_LA_law_241 : decode code 241 = .ok (.iadd, 1) := by decide +kernel
theorem d_LA_law_242 : decode code 242 = .ok (.iaload, 1) := by decide +kernel
theorem d_LA_law_243 : decode code 243 = .ok (.aload_n 0, 1) := by decide +kernel
theorem d_LA_law_244 : decode code 244 = .ok (.iload 4, 2) := by decide +kernel
theorem d_LA_law_246 : decode code 246 = .ok (.iconst 2, 1) := by decide +kernel
theorem d_LA_law_247 : decode code 247 = .ok (.iadd, 1) := by decide +kernel
theorem d_LA_law_248 : decode code 248 = .ok (.iaload, 1) := by decide +kernel
theorem d_LA_law_249 : decode code 249 = .ok (.aload_n 0, 1) := by decide +kernel
theorem d_LA_law_250 : decode code 250 = .ok (.iload 4, 2) := by decide +kernel
theorem d_LA_law_252 : decode code 252 = .ok (.iconst 3, 1) := by decide +kernel
theorem d_LA_law_253 : decode code 253 = .ok (.iadd, 1) := by decide +kernel
theorem d_LA_law_254 : decode code 254 = .ok (.iaload, 1) := by decide +kernel
theorem d_LA_law_255 : decode code 255 = .ok (.invokestatic 78, 3) := by decide +kernel
theorem d_LA_law_258 : decode code 258 = .ok (.istore 5, 2) := by decide +kernel
theorem d_LA_law_260 : decode code 260 = .ok (.aload_n 2, 1) := by decide +kernel
theorem d_LA_law_261 : decode code 261 = .ok (.aload_n 0, 1) := by decide +kernel
theorem d_LA_law_262 : decode code 262 = .ok (.iload 4, 2) := by decide +kernel
theorem d_LA_law_264 : decode code 264 = .ok (.iconst 1, 1) := by decide +kernel
theorem d_LA_law_265 : decode code 265 = .ok (.iadd, 1) := by decide +kernel
theorem d_LA_law_266 : decode code 266 = .ok (.iaload, 1) := by decide +kernel
theorem d_LA_law_267 : decode code 267 = .ok (.aload_n 0, 1) := by decide +kernel
theorem d_LA_law_268 : decode code 268 = .ok (.iload 4, 2) := by decide +kernel
theorem d_LA_law_270 : decode code 270 = .ok (.iconst 2, 1) := by decide +kernel
theorem d_LA_law_271 : decode code 271 = .ok (.iadd, 1) := by decide +kernel
theorem d_LA_law_272 : decode code 272 = .ok (.iaload, 1) := by decide +kernel
theorem d_LA_law_273 : decode code 273 = .ok (.aload_n 0, 1) := by decide +kernel
theorem d_LA_law_274 : decode code 274 = .ok (.iload 4, 2) := by decide +kernel
theorem d_LA_law_276 : decode code 276 = .ok (.iconst 3, 1) := by decide +kernel
theorem d_LA_law_277 : decode code 277 = .ok (.iadd, 1) := by decide +kernel
theorem d_LA_law_278 : decode code 278 = .ok (.iaload, 1) := by decide +kernel
theorem d_LA_law_279 : decode code 279 = .ok (.invokevirtual 81, 3) := by decide +kernel
theorem d_LA_law_282 : decode code 282 = .ok (.aload_n 2, 1) := by decide +kernel
theorem d_LA_law_283 : decode code 283 = .ok (.invokevirtual 71, 3) := by decide +kernel
theorem d_LA_law_286 : decode code 286 = .ok (.iload 5, 2) := by decide +kernel
theorem d_LA_law_288 : decode code 288 = .ok (.if_icmp .eq 5, 3) := by decide +kernel
theorem d_LA_law_291 : decode code 291 = .ok (.iconst 0, 1) := by decide +kernel
theorem d_LA_law_292 : decode code 292 = .ok (.ireturn, 1) := by decide +kernel
theorem d_LA_law_293 : decode code 293 = .ok (.goto 744, 3) := by decide +kernel
theorem d_LA_law_296 : decode code 296 = .ok (.aload_n 1, 1) := by decide +kernel
theorem d_LA_law_297 : decode code 297 = .ok (.aload_n 0, 1) := by decide +kernel
theorem d_LA_law_298 : decode code 298 = .ok (.iload 4, 2) := by decide +kernel
theorem d_LA_law_300 : decode code 300 = .ok (.iconst 1, 1) := by decide +kernel
theorem d_LA_law_301 : decode code 301 = .ok (.iadd, 1) := by decide +kernel
theorem d_LA_law_302 : decode code 302 = .ok (.iaload, 1) := by decide +kernel
theorem d_LA_law_303 : decode code 303 = .ok (.aload_n 0, 1) := by decide +kernel
theorem d_LA_law_304 : decode code 304 = .ok (.iload 4, 2) := by decide +kernel
theorem d_LA_law_306 : decode code 306 = .ok (.iconst 2, 1) := by decide +kernel
theorem d_LA_law_307 : decode code 307 = .ok (.iadd, 1) := by decide +kernel
theorem d_LA_law_308 : decode code 308 = .ok (.iaload, 1) := by decide +kernel
theorem d_LA_law_309 : decode code 309 = .ok (.aload_n 0, 1) := by decide +kernel
theorem d_LA_law_310 : decode code 310 = .ok (.iload 4, 2) := by decide +kernel
theorem d_LA_law_312 : decode code 312 = .ok (.iconst 3, 1) := by decide +kernel
theorem d_LA_law_313 : decode code 313 = .ok (.iadd, 1) := by decide +kernel
theorem d_LA_law_314 : decode code 314 = .ok (.iaload, 1) := by decide +kernel
theorem d_LA_law_315 : decode code 315 = .ok (.aload_n 0, 1) := by decide +kernel
theorem d_LA_law_316 : decode code 316 = .ok (.iload 4, 2) := by decide +kernel
theorem d_LA_law_318 : decode code 318 = .ok (.iconst 4, 1) := by decide +kernel
theorem d_LA_law_319 : decode code 319 = .ok (.iadd, 1) := by decide +kernel
theorem d_LA_law_320 : decode code 320 = .ok (.iaload, 1) := by decide +kernel
theorem d_LA_law_321 : decode code 321 = .ok (.aload_n 3, 1) := by decide +kernel
theorem d_LA_law_322 : decode code 322 = .ok (.invokestatic 82, 3) := by decide +kernel
