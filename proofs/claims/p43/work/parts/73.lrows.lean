/-! the law's own instructions: feeds, build, law -/
theorem dfe_0 : decode method_12_code 0 = .ok (.iconst 0, 1) := by decide +kernel
theorem dfe_1 : decode method_12_code 1 = .ok (.istore_n 2, 1) := by decide +kernel
theorem dfe_2 : decode method_12_code 2 = .ok (.iload_n 2, 1) := by decide +kernel
theorem dfe_3 : decode method_12_code 3 = .ok (.aload_n 1, 1) := by decide +kernel
theorem dfe_4 : decode method_12_code 4 = .ok (.invokevirtual 81, 3) := by decide +kernel
theorem dfe_7 : decode method_12_code 7 = .ok (.if_icmp .ge 19, 3) := by decide +kernel
theorem dfe_10 : decode method_12_code 10 = .ok (.aload_n 0, 1) := by decide +kernel
theorem dfe_11 : decode method_12_code 11 = .ok (.aload_n 1, 1) := by decide +kernel
theorem dfe_12 : decode method_12_code 12 = .ok (.iload_n 2, 1) := by decide +kernel
theorem dfe_13 : decode method_12_code 13 = .ok (.invokevirtual 87, 3) := by decide +kernel
theorem dfe_16 : decode method_12_code 16 = .ok (.invokevirtual 90, 3) := by decide +kernel
theorem dfe_19 : decode method_12_code 19 = .ok (.pop, 1) := by decide +kernel
theorem dfe_20 : decode method_12_code 20 = .ok (.iinc 2 1, 3) := by decide +kernel
theorem dfe_23 : decode method_12_code 23 = .ok (.goto (-21), 3) := by decide +kernel
theorem dfe_26 : decode method_12_code 26 = .ok (.aload_n 1, 1) := by decide +kernel
theorem dfe_27 : decode method_12_code 27 = .ok (.invokevirtual 81, 3) := by decide +kernel
theorem dfe_30 : decode method_12_code 30 = .ok (.ireturn, 1) := by decide +kernel
theorem dbu_0 : decode method_13_code 0 = .ok (.new 91, 3) := by decide +kernel
theorem dbu_3 : decode method_13_code 3 = .ok (.dup, 1) := by decide +kernel
theorem dbu_4 : decode method_13_code 4 = .ok (.invokespecial 96, 3) := by decide +kernel
theorem dbu_7 : decode method_13_code 7 = .ok (.astore_n 2, 1) := by decide +kernel
theorem dbu_8 : decode method_13_code 8 = .ok (.iconst 0, 1) := by decide +kernel
theorem dbu_9 : decode method_13_code 9 = .ok (.istore_n 3, 1) := by decide +kernel
theorem dbu_10 : decode method_13_code 10 = .ok (.iload_n 3, 1) := by decide +kernel
theorem dbu_11 : decode method_13_code 11 = .ok (.aload_n 0, 1) := by decide +kernel
theorem dbu_12 : decode method_13_code 12 = .ok (.invokestatic 13, 3) := by decide +kernel
theorem dbu_15 : decode method_13_code 15 = .ok (.if_icmp .ge 20, 3) := by decide +kernel
theorem dbu_18 : decode method_13_code 18 = .ok (.aload_n 2, 1) := by decide +kernel
theorem dbu_19 : decode method_13_code 19 = .ok (.aload_n 0, 1) := by decide +kernel
theorem dbu_20 : decode method_13_code 20 = .ok (.iload_n 3, 1) := by decide +kernel
theorem dbu_21 : decode method_13_code 21 = .ok (.invokestatic 97, 3) := by decide +kernel
theorem dbu_24 : decode method_13_code 24 = .ok (.iload_n 1, 1) := by decide +kernel
theorem dbu_25 : decode method_13_code 25 = .ok (.invokevirtual 100, 3) := by decide +kernel
theorem dbu_28 : decode method_13_code 28 = .ok (.pop, 1) := by decide +kernel
theorem dbu_29 : decode method_13_code 29 = .ok (.iinc 3 1, 3) := by decide +kernel
theorem dbu_32 : decode method_13_code 32 = .ok (.goto (-22), 3) := by decide +kernel
theorem dbu_35 : decode method_13_code 35 = .ok (.aload_n 0, 1) := by decide +kernel
theorem dbu_36 : decode method_13_code 36 = .ok (.invokestatic 13, 3) := by decide +kernel
theorem dbu_39 : decode method_13_code 39 = .ok (.istore_n 3, 1) := by decide +kernel
theorem dbu_40 : decode method_13_code 40 = .ok (.iload_n 3, 1) := by decide +kernel
theorem dbu_41 : decode method_13_code 41 = .ok (.aload_n 0, 1) := by decide +kernel
theorem dbu_42 : decode method_13_code 42 = .ok (.invokestatic 104, 3) := by decide +kernel
theorem dbu_45 : decode method_13_code 45 = .ok (.if_icmp .ge 25, 3) := by decide +kernel
theorem dbu_48 : decode method_13_code 48 = .ok (.aload_n 2, 1) := by decide +kernel
theorem dbu_49 : decode method_13_code 49 = .ok (.aload_n 0, 1) := by decide +kernel
theorem dbu_50 : decode method_13_code 50 = .ok (.iload_n 3, 1) := by decide +kernel
theorem dbu_51 : decode method_13_code 51 = .ok (.invokestatic 107, 3) := by decide +kernel
theorem dbu_54 : decode method_13_code 54 = .ok (.invokestatic 111, 3) := by decide +kernel
theorem dbu_57 : decode method_13_code 57 = .ok (.pop, 1) := by decide +kernel
theorem dbu_58 : decode method_13_code 58 = .ok (.aload_n 2, 1) := by decide +kernel
theorem dbu_59 : decode method_13_code 59 = .ok (.iload_n 1, 1) := by decide +kernel
theorem dbu_60 : decode method_13_code 60 = .ok (.invokevirtual 115, 3) := by decide +kernel
theorem dbu_63 : decode method_13_code 63 = .ok (.pop, 1) := by decide +kernel
theorem dbu_64 : decode method_13_code 64 = .ok (.iinc 3 1, 3) := by decide +kernel
theorem dbu_67 : decode method_13_code 67 = .ok (.goto (-27), 3) := by decide +kernel
theorem dbu_70 : decode method_13_code 70 = .ok (.aload_n 2, 1) := by decide +kernel
theorem dbu_71 : decode method_13_code 71 = .ok (.areturn, 1) := by decide +kernel
theorem dlw_0 : decode code 0 = .ok (.aload_n 0, 1) := by decide +kernel
theorem dlw_1 : decode code 1 = .ok (.iconst (-1), 1) := by decide +kernel
theorem dlw_2 : decode code 2 = .ok (.invokestatic 138, 3) := by decide +kernel
theorem dlw_5 : decode code 5 = .ok (.astore_n 1, 1) := by decide +kernel
theorem dlw_6 : decode code 6 = .ok (.aload_n 0, 1) := by decide +kernel
theorem dlw_7 : decode code 7 = .ok (.invokestatic 104, 3) := by decide +kernel
theorem dlw_10 : decode code 10 = .ok (.istore_n 2, 1) := by decide +kernel
theorem dlw_11 : decode code 11 = .ok (.aload_n 1, 1) := by decide +kernel
theorem dlw_12 : decode code 12 = .ok (.new 34, 3) := by decide +kernel
theorem dlw_15 : decode code 15 = .ok (.dup, 1) := by decide +kernel
theorem dlw_16 : decode code 16 = .ok (.invokespecial 36, 3) := by decide +kernel
theorem dlw_19 : decode code 19 = .ok (.iload_n 2, 1) := by decide +kernel
theorem dlw_20 : decode code 20 = .ok (.iconst 1, 1) := by decide +kernel
theorem dlw_21 : decode code 21 = .ok (.isub, 1) := by decide +kernel
theorem dlw_22 : decode code 22 = .ok (.invokestatic 24, 3) := by decide +kernel
theorem dlw_25 : decode code 25 = .ok (.invokevirtual 37, 3) := by decide +kernel
theorem dlw_28 : decode code 28 = .ok (.ldc 41, 2) := by decide +kernel
theorem dlw_30 : decode code 30 = .ok (.invokevirtual 43, 3) := by decide +kernel
theorem dlw_33 : decode code 33 = .ok (.iconst 0, 1) := by decide +kernel
theorem dlw_34 : decode code 34 = .ok (.invokestatic 24, 3) := by decide +kernel
theorem dlw_37 : decode code 37 = .ok (.invokevirtual 37, 3) := by decide +kernel
theorem dlw_40 : decode code 40 = .ok (.invokevirtual 46, 3) := by decide +kernel
theorem dlw_43 : decode code 43 = .ok (.invokestatic 111, 3) := by decide +kernel
theorem dlw_46 : decode code 46 = .ok (.pop, 1) := by decide +kernel
theorem dlw_47 : decode code 47 = .ok (.aload_n 1, 1) := by decide +kernel
theorem dlw_48 : decode code 48 = .ok (.iconst (-1), 1) := by decide +kernel
theorem dlw_49 : decode code 49 = .ok (.invokevirtual 142, 3) := by decide +kernel
theorem dlw_52 : decode code 52 = .ok (.pop, 1) := by decide +kernel
theorem dlw_53 : decode code 53 = .ok (.iconst 0, 1) := by decide +kernel
theorem dlw_54 : decode code 54 = .ok (.istore_n 3, 1) := by decide +kernel
theorem dlw_55 : decode code 55 = .ok (.iload_n 3, 1) := by decide +kernel
theorem dlw_56 : decode code 56 = .ok (.bipush 12, 2) := by decide +kernel
theorem dlw_58 : decode code 58 = .ok (.if_icmp .ge 283, 3) := by decide +kernel
theorem dlw_61 : decode code 61 = .ok (.aload_n 0, 1) := by decide +kernel
theorem dlw_62 : decode code 62 = .ok (.bipush 20, 2) := by decide +kernel
theorem dlw_64 : decode code 64 = .ok (.iload_n 3, 1) := by decide +kernel
theorem dlw_65 : decode code 65 = .ok (.iconst 4, 1) := by decide +kernel
theorem dlw_66 : decode code 66 = .ok (.irem, 1) := by decide +kernel
theorem dlw_67 : decode code 67 = .ok (.iadd, 1) := by decide +kernel
theorem dlw_68 : decode code 68 = .ok (.invokestatic 7, 3) := by decide +kernel
theorem dlw_71 : decode code 71 = .ok (.bipush 8, 2) := by decide +kernel
theorem dlw_73 : decode code 73 = .ok (.iload_n 3, 1) := by decide +kernel
theorem dlw_74 : decode code 74 = .ok (.iconst 4, 1) := by decide +kernel
theorem dlw_75 : decode code 75 = .ok (.idiv, 1) := by decide +kernel
theorem dlw_76 : decode code 76 = .ok (.imul, 1) := by decide +kernel
theorem dlw_77 : decode code 77 = .ok (.ishr, 1) := by decide +kernel
theorem dlw_78 : decode code 78 = .ok (.sipush 255, 3) := by decide +kernel
theorem dlw_81 : decode code 81 = .ok (.iand, 1) := by decide +kernel
theorem dlw_82 : decode code 82 = .ok (.istore 4, 2) := by decide +kernel
theorem dlw_84 : decode code 84 = .ok (.iload 4, 2) := by decide +kernel
theorem dlw_86 : decode code 86 = .ok (.iconst 2, 1) := by decide +kernel
theorem dlw_87 : decode code 87 = .ok (.ishr, 1) := by decide +kernel
theorem dlw_88 : decode code 88 = .ok (.iload_n 2, 1) := by decide +kernel
theorem dlw_89 : decode code 89 = .ok (.irem, 1) := by decide +kernel
theorem dlw_90 : decode code 90 = .ok (.istore 5, 2) := by decide +kernel
theorem dlw_92 : decode code 92 = .ok (.aload_n 1, 1) := by decide +kernel
theorem dlw_93 : decode code 93 = .ok (.bipush 6, 2) := by decide +kernel
theorem dlw_95 : decode code 95 = .ok (.invokevirtual 145, 3) := by decide +kernel
theorem dlw_98 : decode code 98 = .ok (.istore 6, 2) := by decide +kernel
theorem dlw_100 : decode code 100 = .ok (.iload 4, 2) := by decide +kernel
theorem dlw_102 : decode code 102 = .ok (.iconst 3, 1) := by decide +kernel
theorem dlw_103 : decode code 103 = .ok (.iand, 1) := by decide +kernel
theorem dlw_104 : decode code 104 = .ok (.ifCond .ne 40, 3) := by decide +kernel
theorem dlw_107 : decode code 107 = .ok (.aload_n 1, 1) := by decide +kernel
theorem dlw_108 : decode code 108 = .ok (.iload 5, 2) := by decide +kernel
theorem dlw_110 : decode code 110 = .ok (.invokevirtual 148, 3) := by decide +kernel
theorem dlw_113 : decode code 113 = .ok (.lstore 7, 2) := by decide +kernel
theorem dlw_115 : decode code 115 = .ok (.aload_n 1, 1) := by decide +kernel
theorem dlw_116 : decode code 116 = .ok (.iload 5, 2) := by decide +kernel
theorem dlw_118 : decode code 118 = .ok (.invokevirtual 152, 3) := by decide +kernel
theorem dlw_121 : decode code 121 = .ok (.lload 7, 2) := by decide +kernel
theorem dlw_123 : decode code 123 = .ok (.lcmp, 1) := by decide +kernel
theorem dlw_124 : decode code 124 = .ok (.ifCond .ne 15, 3) := by decide +kernel
theorem dlw_127 : decode code 127 = .ok (.aload_n 1, 1) := by decide +kernel
theorem dlw_128 : decode code 128 = .ok (.iload 5, 2) := by decide +kernel
theorem dlw_130 : decode code 130 = .ok (.invokevirtual 148, 3) := by decide +kernel
theorem dlw_133 : decode code 133 = .ok (.lload 7, 2) := by decide +kernel
theorem dlw_135 : decode code 135 = .ok (.lcmp, 1) := by decide +kernel
theorem dlw_136 : decode code 136 = .ok (.ifCond .eq 5, 3) := by decide +kernel
theorem dlw_139 : decode code 139 = .ok (.iconst 0, 1) := by decide +kernel
theorem dlw_140 : decode code 140 = .ok (.ireturn, 1) := by decide +kernel
theorem dlw_141 : decode code 141 = .ok (.goto 91, 3) := by decide +kernel
theorem dlw_144 : decode code 144 = .ok (.iload 4, 2) := by decide +kernel
theorem dlw_146 : decode code 146 = .ok (.iconst 3, 1) := by decide +kernel
theorem dlw_147 : decode code 147 = .ok (.iand, 1) := by decide +kernel
theorem dlw_148 : decode code 148 = .ok (.iconst 1, 1) := by decide +kernel
theorem dlw_149 : decode code 149 = .ok (.if_icmp .ne 19, 3) := by decide +kernel
theorem dlw_152 : decode code 152 = .ok (.aload_n 1, 1) := by decide +kernel
theorem dlw_153 : decode code 153 = .ok (.iconst 2, 1) := by decide +kernel
theorem dlw_154 : decode code 154 = .ok (.invokevirtual 145, 3) := by decide +kernel
theorem dlw_157 : decode code 157 = .ok (.ifCond .ne 11, 3) := by decide +kernel
theorem dlw_160 : decode code 160 = .ok (.aload_n 1, 1) := by decide +kernel
theorem dlw_161 : decode code 161 = .ok (.invokevirtual 155, 3) := by decide +kernel
theorem dlw_164 : decode code 164 = .ok (.pop, 1) := by decide +kernel
theorem dlw_165 : decode code 165 = .ok (.goto 67, 3) := by decide +kernel
theorem dlw_168 : decode code 168 = .ok (.iload 4, 2) := by decide +kernel
theorem dlw_170 : decode code 170 = .ok (.iconst 3, 1) := by decide +kernel
theorem dlw_171 : decode code 171 = .ok (.iand, 1) := by decide +kernel
theorem dlw_172 : decode code 172 = .ok (.iconst 2, 1) := by decide +kernel
theorem dlw_173 : decode code 173 = .ok (.if_icmp .ne 19, 3) := by decide +kernel
theorem dlw_176 : decode code 176 = .ok (.aload_n 1, 1) := by decide +kernel
theorem dlw_177 : decode code 177 = .ok (.iconst 2, 1) := by decide +kernel
theorem dlw_178 : decode code 178 = .ok (.invokevirtual 145, 3) := by decide +kernel
theorem dlw_181 : decode code 181 = .ok (.ifCond .le 11, 3) := by decide +kernel
theorem dlw_184 : decode code 184 = .ok (.aload_n 1, 1) := by decide +kernel
theorem dlw_185 : decode code 185 = .ok (.invokevirtual 158, 3) := by decide +kernel
theorem dlw_188 : decode code 188 = .ok (.pop, 1) := by decide +kernel
theorem dlw_189 : decode code 189 = .ok (.goto 43, 3) := by decide +kernel
theorem dlw_192 : decode code 192 = .ok (.aload_n 1, 1) := by decide +kernel
theorem dlw_193 : decode code 193 = .ok (.iload 5, 2) := by decide +kernel
theorem dlw_195 : decode code 195 = .ok (.aload_n 0, 1) := by decide +kernel
theorem dlw_196 : decode code 196 = .ok (.invokestatic 13, 3) := by decide +kernel
theorem dlw_199 : decode code 199 = .ok (.irem, 1) := by decide +kernel
theorem dlw_200 : decode code 200 = .ok (.iload 4, 2) := by decide +kernel
theorem dlw_202 : decode code 202 = .ok (.bipush 9, 2) := by decide +kernel
theorem dlw_204 : decode code 204 = .ok (.irem, 1) := by decide +kernel
theorem dlw_205 : decode code 205 = .ok (.iconst 4, 1) := by decide +kernel
theorem dlw_206 : decode code 206 = .ok (.isub, 1) := by decide +kernel
theorem dlw_207 : decode code 207 = .ok (.invokevirtual 161, 3) := by decide +kernel
theorem dlw_210 : decode code 210 = .ok (.pop, 1) := by decide +kernel
theorem dlw_211 : decode code 211 = .ok (.aload_n 1, 1) := by decide +kernel
theorem dlw_212 : decode code 212 = .ok (.iconst 2, 1) := by decide +kernel
theorem dlw_213 : decode code 213 = .ok (.invokevirtual 145, 3) := by decide +kernel
theorem dlw_216 : decode code 216 = .ok (.ifCond .le 16, 3) := by decide +kernel
theorem dlw_219 : decode code 219 = .ok (.aload_n 1, 1) := by decide +kernel
theorem dlw_220 : decode code 220 = .ok (.bipush 6, 2) := by decide +kernel
theorem dlw_222 : decode code 222 = .ok (.invokevirtual 145, 3) := by decide +kernel
theorem dlw_225 : decode code 225 = .ok (.iload 6, 2) := by decide +kernel
theorem dlw_227 : decode code 227 = .ok (.if_icmp .eq 5, 3) := by decide +kernel
theorem dlw_230 : decode code 230 = .ok (.iconst 0, 1) := by decide +kernel
theorem dlw_231 : decode code 231 = .ok (.ireturn, 1) := by decide +kernel
theorem dlw_232 : decode code 232 = .ok (.aload_n 1, 1) := by decide +kernel
theorem dlw_233 : decode code 233 = .ok (.bipush 6, 2) := by decide +kernel
theorem dlw_235 : decode code 235 = .ok (.invokevirtual 145, 3) := by decide +kernel
theorem dlw_238 : decode code 238 = .ok (.iload 6, 2) := by decide +kernel
theorem dlw_240 : decode code 240 = .ok (.isub, 1) := by decide +kernel
theorem dlw_241 : decode code 241 = .ok (.aload_n 0, 1) := by decide +kernel
theorem dlw_242 : decode code 242 = .ok (.invokestatic 17, 3) := by decide +kernel
theorem dlw_245 : decode code 245 = .ok (.iconst 1, 1) := by decide +kernel
theorem dlw_246 : decode code 246 = .ok (.iadd, 1) := by decide +kernel
theorem dlw_247 : decode code 247 = .ok (.if_icmp .gt 33, 3) := by decide +kernel
theorem dlw_250 : decode code 250 = .ok (.aload_n 1, 1) := by decide +kernel
theorem dlw_251 : decode code 251 = .ok (.iconst 2, 1) := by decide +kernel
theorem dlw_252 : decode code 252 = .ok (.invokevirtual 145, 3) := by decide +kernel
theorem dlw_255 : decode code 255 = .ok (.ifCond .ne 27, 3) := by decide +kernel
theorem dlw_258 : decode code 258 = .ok (.aload_n 1, 1) := by decide +kernel
theorem dlw_259 : decode code 259 = .ok (.iconst 3, 1) := by decide +kernel
theorem dlw_260 : decode code 260 = .ok (.invokevirtual 145, 3) := by decide +kernel
theorem dlw_263 : decode code 263 = .ok (.ifCond .ne 17, 3) := by decide +kernel
theorem dlw_266 : decode code 266 = .ok (.aload_n 1, 1) := by decide +kernel
theorem dlw_267 : decode code 267 = .ok (.iload_n 2, 1) := by decide +kernel
theorem dlw_268 : decode code 268 = .ok (.invokevirtual 152, 3) := by decide +kernel
theorem dlw_271 : decode code 271 = .ok (.aload_n 1, 1) := by decide +kernel
theorem dlw_272 : decode code 272 = .ok (.iload_n 2, 1) := by decide +kernel
theorem dlw_273 : decode code 273 = .ok (.invokevirtual 148, 3) := by decide +kernel
theorem dlw_276 : decode code 276 = .ok (.lcmp, 1) := by decide +kernel
theorem dlw_277 : decode code 277 = .ok (.ifCond .eq 5, 3) := by decide +kernel
theorem dlw_280 : decode code 280 = .ok (.iconst 0, 1) := by decide +kernel
theorem dlw_281 : decode code 281 = .ok (.ireturn, 1) := by decide +kernel
theorem dlw_282 : decode code 282 = .ok (.iconst 0, 1) := by decide +kernel
theorem dlw_283 : decode code 283 = .ok (.istore 7, 2) := by decide +kernel
theorem dlw_285 : decode code 285 = .ok (.iload 7, 2) := by decide +kernel
theorem dlw_287 : decode code 287 = .ok (.iload_n 2, 1) := by decide +kernel
theorem dlw_288 : decode code 288 = .ok (.if_icmp .ge 47, 3) := by decide +kernel
theorem dlw_291 : decode code 291 = .ok (.aload_n 1, 1) := by decide +kernel
theorem dlw_292 : decode code 292 = .ok (.iload 7, 2) := by decide +kernel
theorem dlw_294 : decode code 294 = .ok (.iconst 3, 1) := by decide +kernel
theorem dlw_295 : decode code 295 = .ok (.invokevirtual 164, 3) := by decide +kernel
theorem dlw_298 : decode code 298 = .ok (.ifCond .ne 31, 3) := by decide +kernel
theorem dlw_301 : decode code 301 = .ok (.aload_n 1, 1) := by decide +kernel
theorem dlw_302 : decode code 302 = .ok (.iload 7, 2) := by decide +kernel
theorem dlw_304 : decode code 304 = .ok (.iconst 4, 1) := by decide +kernel
theorem dlw_305 : decode code 305 = .ok (.invokevirtual 164, 3) := by decide +kernel
theorem dlw_308 : decode code 308 = .ok (.ifCond .le 21, 3) := by decide +kernel
theorem dlw_311 : decode code 311 = .ok (.aload_n 1, 1) := by decide +kernel
theorem dlw_312 : decode code 312 = .ok (.iload 7, 2) := by decide +kernel
theorem dlw_314 : decode code 314 = .ok (.invokevirtual 167, 3) := by decide +kernel
theorem dlw_317 : decode code 317 = .ok (.aload_n 1, 1) := by decide +kernel
theorem dlw_318 : decode code 318 = .ok (.iload 7, 2) := by decide +kernel
theorem dlw_320 : decode code 320 = .ok (.invokevirtual 148, 3) := by decide +kernel
theorem dlw_323 : decode code 323 = .ok (.lcmp, 1) := by decide +kernel
theorem dlw_324 : decode code 324 = .ok (.ifCond .eq 5, 3) := by decide +kernel
theorem dlw_327 : decode code 327 = .ok (.iconst 0, 1) := by decide +kernel
theorem dlw_328 : decode code 328 = .ok (.ireturn, 1) := by decide +kernel
theorem dlw_329 : decode code 329 = .ok (.iinc 7 1, 3) := by decide +kernel
theorem dlw_332 : decode code 332 = .ok (.goto (-47), 3) := by decide +kernel
theorem dlw_335 : decode code 335 = .ok (.iinc 3 1, 3) := by decide +kernel
theorem dlw_338 : decode code 338 = .ok (.goto (-283), 3) := by decide +kernel
theorem dlw_341 : decode code 341 = .ok (.iconst 1, 1) := by decide +kernel
theorem dlw_342 : decode code 342 = .ok (.ireturn, 1) := by decide +kernel
