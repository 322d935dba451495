theorem dL_law_0 : decode cL_law 0 = .ok (.new 31, 3) := by decide +kernel
theorem dL_law_3 : decode cL_law 3 = .ok (.dup, 1) := by decide +kernel
theorem dL_law_4 : decode cL_law 4 = .ok (.invokespecial 76, 3) := by decide +kernel
theorem dL_law_7 : decode cL_law 7 = .ok (.astore_n 1, 1) := by decide +kernel
theorem dL_law_8 : decode cL_law 8 = .ok (.aload_n 1, 1) := by decide +kernel
theorem dL_law_9 : decode cL_law 9 = .ok (.aload_n 0, 1) := by decide +kernel
theorem dL_law_10 : decode cL_law 10 = .ok (.invokestatic 77, 3) := by decide +kernel
theorem dL_law_13 : decode cL_law 13 = .ok (.astore_n 2, 1) := by decide +kernel
theorem dL_law_14 : decode cL_law 14 = .ok (.aload_n 2, 1) := by decide +kernel
theorem dL_law_15 : decode cL_law 15 = .ok (.ifnonnull 5, 3) := by decide +kernel
theorem dL_law_18 : decode cL_law 18 = .ok (.iconst 0, 1) := by decide +kernel
theorem dL_law_19 : decode cL_law 19 = .ok (.ireturn, 1) := by decide +kernel
theorem dL_law_20 : decode cL_law 20 = .ok (.iconst 0, 1) := by decide +kernel
theorem dL_law_21 : decode cL_law 21 = .ok (.istore_n 3, 1) := by decide +kernel
theorem dL_law_22 : decode cL_law 22 = .ok (.iload_n 3, 1) := by decide +kernel
theorem dL_law_23 : decode cL_law 23 = .ok (.bipush 7, 2) := by decide +kernel
theorem dL_law_25 : decode cL_law 25 = .ok (.if_icmp .ge 985, 3) := by decide +kernel
theorem dL_law_28 : decode cL_law 28 = .ok (.aload_n 0, 1) := by decide +kernel
theorem dL_law_29 : decode cL_law 29 = .ok (.iload_n 3, 1) := by decide +kernel
theorem dL_law_30 : decode cL_law 30 = .ok (.iconst 1, 1) := by decide +kernel
theorem dL_law_31 : decode cL_law 31 = .ok (.iadd, 1) := by decide +kernel
theorem dL_law_32 : decode cL_law 32 = .ok (.invokestatic 72, 3) := by decide +kernel
theorem dL_law_35 : decode cL_law 35 = .ok (.iconst 2, 1) := by decide +kernel
theorem dL_law_36 : decode cL_law 36 = .ok (.ishr, 1) := by decide +kernel
theorem dL_law_37 : decode cL_law 37 = .ok (.bipush 53, 2) := by decide +kernel
theorem dL_law_39 : decode cL_law 39 = .ok (.iload_n 3, 1) := by decide +kernel
theorem dL_law_40 : decode cL_law 40 = .ok (.imul, 1) := by decide +kernel
theorem dL_law_41 : decode cL_law 41 = .ok (.iadd, 1) := by decide +kernel
theorem dL_law_42 : decode cL_law 42 = .ok (.istore 4, 2) := by decide +kernel
theorem dL_law_44 : decode cL_law 44 = .ok (.iconst 0, 1) := by decide +kernel
theorem dL_law_45 : decode cL_law 45 = .ok (.istore 5, 2) := by decide +kernel
theorem dL_law_47 : decode cL_law 47 = .ok (.iload 5, 2) := by decide +kernel
theorem dL_law_49 : decode cL_law 49 = .ok (.iconst 2, 1) := by decide +kernel
theorem dL_law_50 : decode cL_law 50 = .ok (.if_icmp .ge 32, 3) := by decide +kernel
theorem dL_law_53 : decode cL_law 53 = .ok (.aload_n 1, 1) := by decide +kernel
theorem dL_law_54 : decode cL_law 54 = .ok (.aload_n 2, 1) := by decide +kernel
theorem dL_law_55 : decode cL_law 55 = .ok (.iload 4, 2) := by decide +kernel
theorem dL_law_57 : decode cL_law 57 = .ok (.iconst 3, 1) := by decide +kernel
theorem dL_law_58 : decode cL_law 58 = .ok (.iload 5, 2) := by decide +kernel
theorem dL_law_60 : decode cL_law 60 = .ok (.imul, 1) := by decide +kernel
theorem dL_law_61 : decode cL_law 61 = .ok (.ishr, 1) := by decide +kernel
theorem dL_law_62 : decode cL_law 62 = .ok (.bipush 29, 2) := by decide +kernel
theorem dL_law_64 : decode cL_law 64 = .ok (.iload 5, 2) := by decide +kernel
theorem dL_law_66 : decode cL_law 66 = .ok (.imul, 1) := by decide +kernel
theorem dL_law_67 : decode cL_law 67 = .ok (.iadd, 1) := by decide +kernel
theorem dL_law_68 : decode cL_law 68 = .ok (.invokestatic 81, 3) := by decide +kernel
theorem dL_law_71 : decode cL_law 71 = .ok (.ifCond .ne 5, 3) := by decide +kernel
theorem dL_law_74 : decode cL_law 74 = .ok (.iconst 0, 1) := by decide +kernel
theorem dL_law_75 : decode cL_law 75 = .ok (.ireturn, 1) := by decide +kernel
theorem dL_law_76 : decode cL_law 76 = .ok (.iinc 5 1, 3) := by decide +kernel
theorem dL_law_79 : decode cL_law 79 = .ok (.goto (-32), 3) := by decide +kernel
theorem dL_law_82 : decode cL_law 82 = .ok (.aload_n 1, 1) := by decide +kernel
theorem dL_law_83 : decode cL_law 83 = .ok (.invokevirtual 85, 3) := by decide +kernel
theorem dL_law_86 : decode cL_law 86 = .ok (.lstore 5, 2) := by decide +kernel
theorem dL_law_88 : decode cL_law 88 = .ok (.aload_n 1, 1) := by decide +kernel
theorem dL_law_89 : decode cL_law 89 = .ok (.invokevirtual 89, 3) := by decide +kernel
theorem dL_law_92 : decode cL_law 92 = .ok (.istore 7, 2) := by decide +kernel
theorem dL_law_94 : decode cL_law 94 = .ok (.iconst 0, 1) := by decide +kernel
theorem dL_law_95 : decode cL_law 95 = .ok (.istore 8, 2) := by decide +kernel
theorem dL_law_97 : decode cL_law 97 = .ok (.bipush 40, 2) := by decide +kernel
theorem dL_law_99 : decode cL_law 99 = .ok (.istore 9, 2) := by decide +kernel
theorem dL_law_101 : decode cL_law 101 = .ok (.iconst 0, 1) := by decide +kernel
theorem dL_law_102 : decode cL_law 102 = .ok (.istore 10, 2) := by decide +kernel
theorem dL_law_104 : decode cL_law 104 = .ok (.iload 7, 2) := by decide +kernel
theorem dL_law_106 : decode cL_law 106 = .ok (.iload 7, 2) := by decide +kernel
theorem dL_law_108 : decode cL_law 108 = .ok (.multianewarray 91 2, 4) := by decide +kernel
theorem dL_law_112 : decode cL_law 112 = .ok (.astore 11, 2) := by decide +kernel
theorem dL_law_114 : decode cL_law 114 = .ok (.iload 7, 2) := by decide +kernel
theorem dL_law_116 : decode cL_law 116 = .ok (.iload 7, 2) := by decide +kernel
theorem dL_law_118 : decode cL_law 118 = .ok (.multianewarray 91 2, 4) := by decide +kernel
theorem dL_law_122 : decode cL_law 122 = .ok (.astore 12, 2) := by decide +kernel
theorem dL_law_124 : decode cL_law 124 = .ok (.iconst 0, 1) := by decide +kernel
theorem dL_law_125 : decode cL_law 125 = .ok (.istore 13, 2) := by decide +kernel
theorem dL_law_127 : decode cL_law 127 = .ok (.iload 13, 2) := by decide +kernel
theorem dL_law_129 : decode cL_law 129 = .ok (.iload 7, 2) := by decide +kernel
theorem dL_law_131 : decode cL_law 131 = .ok (.if_icmp .ge 58, 3) := by decide +kernel
theorem dL_law_134 : decode cL_law 134 = .ok (.iload 13, 2) := by decide +kernel
theorem dL_law_136 : decode cL_law 136 = .ok (.istore 14, 2) := by decide +kernel
theorem dL_law_138 : decode cL_law 138 = .ok (.iload 14, 2) := by decide +kernel
theorem dL_law_140 : decode cL_law 140 = .ok (.iload 7, 2) := by decide +kernel
theorem dL_law_142 : decode cL_law 142 = .ok (.if_icmp .ge 41, 3) := by decide +kernel
theorem dL_law_145 : decode cL_law 145 = .ok (.aload 11, 2) := by decide +kernel
theorem dL_law_147 : decode cL_law 147 = .ok (.iload 13, 2) := by decide +kernel
theorem dL_law_149 : decode cL_law 149 = .ok (.aaload, 1) := by decide +kernel
theorem dL_law_150 : decode cL_law 150 = .ok (.iload 14, 2) := by decide +kernel
theorem dL_law_152 : decode cL_law 152 = .ok (.aload_n 1, 1) := by decide +kernel
theorem dL_law_153 : decode cL_law 153 = .ok (.iload 13, 2) := by decide +kernel
theorem dL_law_155 : decode cL_law 155 = .ok (.iload 14, 2) := by decide +kernel
theorem dL_law_157 : decode cL_law 157 = .ok (.invokevirtual 92, 3) := by decide +kernel
theorem dL_law_160 : decode cL_law 160 = .ok (.iastore, 1) := by decide +kernel
theorem dL_law_161 : decode cL_law 161 = .ok (.aload 12, 2) := by decide +kernel
theorem dL_law_163 : decode cL_law 163 = .ok (.iload 13, 2) := by decide +kernel
theorem dL_law_165 : decode cL_law 165 = .ok (.aaload, 1) := by decide +kernel
theorem dL_law_166 : decode cL_law 166 = .ok (.iload 14, 2) := by decide +kernel
theorem dL_law_168 : decode cL_law 168 = .ok (.aload_n 1, 1) := by decide +kernel
theorem dL_law_169 : decode cL_law 169 = .ok (.iload 13, 2) := by decide +kernel
theorem dL_law_171 : decode cL_law 171 = .ok (.iload 14, 2) := by decide +kernel
theorem dL_law_173 : decode cL_law 173 = .ok (.invokevirtual 95, 3) := by decide +kernel
theorem dL_law_176 : decode cL_law 176 = .ok (.iastore, 1) := by decide +kernel
theorem dL_law_177 : decode cL_law 177 = .ok (.iinc 14 1, 3) := by decide +kernel
theorem dL_law_180 : decode cL_law 180 = .ok (.goto (-42), 3) := by decide +kernel
theorem dL_law_183 : decode cL_law 183 = .ok (.iinc 13 1, 3) := by decide +kernel
theorem dL_law_186 : decode cL_law 186 = .ok (.goto (-59), 3) := by decide +kernel
theorem dL_law_189 : decode cL_law 189 = .ok (.iconst 0, 1) := by decide +kernel
theorem dL_law_190 : decode cL_law 190 = .ok (.istore 13, 2) := by decide +kernel
theorem dL_law_192 : decode cL_law 192 = .ok (.iload 13, 2) := by decide +kernel
theorem dL_law_194 : decode cL_law 194 = .ok (.iload 7, 2) := by decide +kernel
theorem dL_law_196 : decode cL_law 196 = .ok (.if_icmp .ge 311, 3) := by decide +kernel
theorem dL_law_199 : decode cL_law 199 = .ok (.aload_n 1, 1) := by decide +kernel
theorem dL_law_200 : decode cL_law 200 = .ok (.iload 13, 2) := by decide +kernel
theorem dL_law_202 : decode cL_law 202 = .ok (.invokevirtual 98, 3) := by decide +kernel
theorem dL_law_205 : decode cL_law 205 = .ok (.istore 14, 2) := by decide +kernel
theorem dL_law_207 : decode cL_law 207 = .ok (.iload 8, 2) := by decide +kernel
theorem dL_law_209 : decode cL_law 209 = .ok (.aload_n 1, 1) := by decide +kernel
theorem dL_law_210 : decode cL_law 210 = .ok (.iload 13, 2) := by decide +kernel
theorem dL_law_212 : decode cL_law 212 = .ok (.invokevirtual 101, 3) := by decide +kernel
theorem dL_law_215 : decode cL_law 215 = .ok (.aload_n 1, 1) := by decide +kernel
theorem dL_law_216 : decode cL_law 216 = .ok (.iload 13, 2) := by decide +kernel
theorem dL_law_218 : decode cL_law 218 = .ok (.invokevirtual 104, 3) := by decide +kernel
theorem dL_law_221 : decode cL_law 221 = .ok (.isub, 1) := by decide +kernel
theorem dL_law_222 : decode cL_law 222 = .ok (.iadd, 1) := by decide +kernel
theorem dL_law_223 : decode cL_law 223 = .ok (.istore 8, 2) := by decide +kernel
theorem dL_law_225 : decode cL_law 225 = .ok (.iload 9, 2) := by decide +kernel
theorem dL_law_227 : decode cL_law 227 = .ok (.iload 14, 2) := by decide +kernel
theorem dL_law_229 : decode cL_law 229 = .ok (.invokestatic 21, 3) := by decide +kernel
theorem dL_law_232 : decode cL_law 232 = .ok (.istore 9, 2) := by decide +kernel
theorem dL_law_234 : decode cL_law 234 = .ok (.iload 10, 2) := by decide +kernel
theorem dL_law_236 : decode cL_law 236 = .ok (.iload 14, 2) := by decide +kernel
theorem dL_law_238 : decode cL_law 238 = .ok (.invokestatic 107, 3) := by decide +kernel
theorem dL_law_241 : decode cL_law 241 = .ok (.istore 10, 2) := by decide +kernel
theorem dL_law_243 : decode cL_law 243 = .ok (.iload 14, 2) := by decide +kernel
theorem dL_law_245 : decode cL_law 245 = .ok (.aload_n 1, 1) := by decide +kernel
theorem dL_law_246 : decode cL_law 246 = .ok (.iload 13, 2) := by decide +kernel
theorem dL_law_248 : decode cL_law 248 = .ok (.invokevirtual 104, 3) := by decide +kernel
theorem dL_law_251 : decode cL_law 251 = .ok (.if_icmp .lt 54, 3) := by decide +kernel
theorem dL_law_254 : decode cL_law 254 = .ok (.iload 14, 2) := by decide +kernel
theorem dL_law_256 : decode cL_law 256 = .ok (.aload_n 1, 1) := by decide +kernel
theorem dL_law_257 : decode cL_law 257 = .ok (.iload 13, 2) := by decide +kernel
theorem dL_law_259 : decode cL_law 259 = .ok (.invokevirtual 101, 3) := by decide +kernel
theorem dL_law_262 : decode cL_law 262 = .ok (.if_icmp .gt 43, 3) := by decide +kernel
theorem dL_law_265 : decode cL_law 265 = .ok (.aload_n 1, 1) := by decide +kernel
theorem dL_law_266 : decode cL_law 266 = .ok (.iload 13, 2) := by decide +kernel
theorem dL_law_268 : decode cL_law 268 = .ok (.invokevirtual 104, 3) := by decide +kernel
theorem dL_law_271 : decode cL_law 271 = .ok (.ifCond .lt 34, 3) := by decide +kernel
theorem dL_law_274 : decode cL_law 274 = .ok (.aload_n 1, 1) := by decide +kernel
theorem dL_law_275 : decode cL_law 275 = .ok (.iload 13, 2) := by decide +kernel
theorem dL_law_277 : decode cL_law 277 = .ok (.invokevirtual 101, 3) := by decide +kernel
theorem dL_law_280 : decode cL_law 280 = .ok (.bipush 40, 2) := by decide +kernel
theorem dL_law_282 : decode cL_law 282 = .ok (.if_icmp .gt 23, 3) := by decide +kernel
theorem dL_law_285 : decode cL_law 285 = .ok (.aload_n 1, 1) := by decide +kernel
theorem dL_law_286 : decode cL_law 286 = .ok (.iload 13, 2) := by decide +kernel
theorem dL_law_288 : decode cL_law 288 = .ok (.invokevirtual 110, 3) := by decide +kernel
theorem dL_law_291 : decode cL_law 291 = .ok (.ifCond .eq 16, 3) := by decide +kernel
theorem dL_law_294 : decode cL_law 294 = .ok (.aload_n 1, 1) := by decide +kernel
theorem dL_law_295 : decode cL_law 295 = .ok (.iload 13, 2) := by decide +kernel
theorem dL_law_297 : decode cL_law 297 = .ok (.invokevirtual 104, 3) := by decide +kernel
theorem dL_law_300 : decode cL_law 300 = .ok (.iload 14, 2) := by decide +kernel
theorem dL_law_302 : decode cL_law 302 = .ok (.if_icmp .eq 5, 3) := by decide +kernel
theorem dL_law_305 : decode cL_law 305 = .ok (.iconst 0, 1) := by decide +kernel
theorem dL_law_306 : decode cL_law 306 = .ok (.ireturn, 1) := by decide +kernel
theorem dL_law_307 : decode cL_law 307 = .ok (.iload 13, 2) := by decide +kernel
theorem dL_law_309 : decode cL_law 309 = .ok (.istore 15, 2) := by decide +kernel
theorem dL_law_311 : decode cL_law 311 = .ok (.iload 15, 2) := by decide +kernel
theorem dL_law_313 : decode cL_law 313 = .ok (.iload 7, 2) := by decide +kernel
theorem dL_law_315 : decode cL_law 315 = .ok (.if_icmp .ge 186, 3) := by decide +kernel
theorem dL_law_318 : decode cL_law 318 = .ok (.aload_n 2, 1) := by decide +kernel
theorem dL_law_319 : decode cL_law 319 = .ok (.iload 13, 2) := by decide +kernel
theorem dL_law_321 : decode cL_law 321 = .ok (.iload 15, 2) := by decide +kernel
theorem dL_law_323 : decode cL_law 323 = .ok (.invokevirtual 114, 3) := by decide +kernel
theorem dL_law_326 : decode cL_law 326 = .ok (.istore 16, 2) := by decide +kernel
theorem dL_law_328 : decode cL_law 328 = .ok (.aload 11, 2) := by decide +kernel
theorem dL_law_330 : decode cL_law 330 = .ok (.iload 13, 2) := by decide +kernel
theorem dL_law_332 : decode cL_law 332 = .ok (.aaload, 1) := by decide +kernel
theorem dL_law_333 : decode cL_law 333 = .ok (.iload 15, 2) := by decide +kernel
theorem dL_law_335 : decode cL_law 335 = .ok (.iaload, 1) := by decide +kernel
theorem dL_law_336 : decode cL_law 336 = .ok (.iload 16, 2) := by decide +kernel
theorem dL_law_338 : decode cL_law 338 = .ok (.if_icmp .gt 16, 3) := by decide +kernel
theorem dL_law_341 : decode cL_law 341 = .ok (.aload 12, 2) := by decide +kernel
theorem dL_law_343 : decode cL_law 343 = .ok (.iload 13, 2) := by decide +kernel
theorem dL_law_345 : decode cL_law 345 = .ok (.aaload, 1) := by decide +kernel
