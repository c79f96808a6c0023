theorem dL_all_78 : decode cL_all 78 = .ok (.ladd, 1) := by decide +kernel
theorem dL_all_79 : decode cL_all 79 = .ok (.lstore_n 1, 1) := by decide +kernel
theorem dL_all_80 : decode cL_all 80 = .ok (.iinc 3 1, 3) := by decide +kernel
theorem dL_all_83 : decode cL_all 83 = .ok (.goto (-24), 3) := by decide +kernel
theorem dL_all_86 : decode cL_all 86 = .ok (.lload_n 1, 1) := by decide +kernel
theorem dL_all_87 : decode cL_all 87 = .ok (.lreturn, 1) := by decide +kernel
theorem dL_isSound_0 : decode cL_isSound 0 = .ok (.lconst 0, 1) := by decide +kernel
theorem dL_isSound_1 : decode cL_isSound 1 = .ok (.lstore_n 3, 1) := by decide +kernel
theorem dL_isSound_2 : decode cL_isSound 2 = .ok (.lconst 0, 1) := by decide +kernel
theorem dL_isSound_3 : decode cL_isSound 3 = .ok (.lstore 5, 2) := by decide +kernel
theorem dL_isSound_5 : decode cL_isSound 5 = .ok (.iconst 0, 1) := by decide +kernel
theorem dL_isSound_6 : decode cL_isSound 6 = .ok (.istore 7, 2) := by decide +kernel
theorem dL_isSound_8 : decode cL_isSound 8 = .ok (.iconst 1, 1) := by decide +kernel
theorem dL_isSound_9 : decode cL_isSound 9 = .ok (.istore 8, 2) := by decide +kernel
theorem dL_isSound_11 : decode cL_isSound 11 = .ok (.iconst 0, 1) := by decide +kernel
theorem dL_isSound_12 : decode cL_isSound 12 = .ok (.istore 9, 2) := by decide +kernel
theorem dL_isSound_14 : decode cL_isSound 14 = .ok (.iload 9, 2) := by decide +kernel
theorem dL_isSound_16 : decode cL_isSound 16 = .ok (.aload_n 0, 1) := by decide +kernel
theorem dL_isSound_17 : decode cL_isSound 17 = .ok (.iload_n 1, 1) := by decide +kernel
theorem dL_isSound_18 : decode cL_isSound 18 = .ok (.iload_n 2, 1) := by decide +kernel
theorem dL_isSound_19 : decode cL_isSound 19 = .ok (.invokevirtual 90, 3) := by decide +kernel
theorem dL_isSound_22 : decode cL_isSound 22 = .ok (.if_icmp .ge 156, 3) := by decide +kernel
theorem dL_isSound_25 : decode cL_isSound 25 = .ok (.iload 8, 2) := by decide +kernel
theorem dL_isSound_27 : decode cL_isSound 27 = .ok (.ifCond .eq 151, 3) := by decide +kernel
theorem dL_isSound_30 : decode cL_isSound 30 = .ok (.aload_n 0, 1) := by decide +kernel
theorem dL_isSound_31 : decode cL_isSound 31 = .ok (.iload_n 1, 1) := by decide +kernel
theorem dL_isSound_32 : decode cL_isSound 32 = .ok (.iload_n 2, 1) := by decide +kernel
theorem dL_isSound_33 : decode cL_isSound 33 = .ok (.iload 9, 2) := by decide +kernel
theorem dL_isSound_35 : decode cL_isSound 35 = .ok (.invokevirtual 75, 3) := by decide +kernel
theorem dL_isSound_38 : decode cL_isSound 38 = .ok (.istore 10, 2) := by decide +kernel
theorem dL_isSound_40 : decode cL_isSound 40 = .ok (.aload_n 0, 1) := by decide +kernel
theorem dL_isSound_41 : decode cL_isSound 41 = .ok (.iload_n 1, 1) := by decide +kernel
theorem dL_isSound_42 : decode cL_isSound 42 = .ok (.iload_n 2, 1) := by decide +kernel
theorem dL_isSound_43 : decode cL_isSound 43 = .ok (.iload 9, 2) := by decide +kernel
theorem dL_isSound_45 : decode cL_isSound 45 = .ok (.invokevirtual 68, 3) := by decide +kernel
theorem dL_isSound_48 : decode cL_isSound 48 = .ok (.ifCond .le 83, 3) := by decide +kernel
theorem dL_isSound_51 : decode cL_isSound 51 = .ok (.aload_n 0, 1) := by decide +kernel
theorem dL_isSound_52 : decode cL_isSound 52 = .ok (.iload_n 1, 1) := by decide +kernel
theorem dL_isSound_53 : decode cL_isSound 53 = .ok (.iload_n 2, 1) := by decide +kernel
theorem dL_isSound_54 : decode cL_isSound 54 = .ok (.iload 9, 2) := by decide +kernel
theorem dL_isSound_56 : decode cL_isSound 56 = .ok (.invokevirtual 71, 3) := by decide +kernel
theorem dL_isSound_59 : decode cL_isSound 59 = .ok (.lconst 0, 1) := by decide +kernel
theorem dL_isSound_60 : decode cL_isSound 60 = .ok (.lcmp, 1) := by decide +kernel
theorem dL_isSound_61 : decode cL_isSound 61 = .ok (.ifCond .lt 70, 3) := by decide +kernel
theorem dL_isSound_64 : decode cL_isSound 64 = .ok (.iload 10, 2) := by decide +kernel
theorem dL_isSound_66 : decode cL_isSound 66 = .ok (.ifCond .lt 65, 3) := by decide +kernel
theorem dL_isSound_69 : decode cL_isSound 69 = .ok (.iload 10, 2) := by decide +kernel
theorem dL_isSound_71 : decode cL_isSound 71 = .ok (.aload_n 0, 1) := by decide +kernel
theorem dL_isSound_72 : decode cL_isSound 72 = .ok (.invokevirtual 116, 3) := by decide +kernel
theorem dL_isSound_75 : decode cL_isSound 75 = .ok (.if_icmp .ge 56, 3) := by decide +kernel
theorem dL_isSound_78 : decode cL_isSound 78 = .ok (.lload_n 3, 1) := by decide +kernel
theorem dL_isSound_79 : decode cL_isSound 79 = .ok (.iload 10, 2) := by decide +kernel
theorem dL_isSound_81 : decode cL_isSound 81 = .ok (.lshr, 1) := by decide +kernel
theorem dL_isSound_82 : decode cL_isSound 82 = .ok (.lconst 1, 1) := by decide +kernel
theorem dL_isSound_83 : decode cL_isSound 83 = .ok (.land, 1) := by decide +kernel
theorem dL_isSound_84 : decode cL_isSound 84 = .ok (.lconst 0, 1) := by decide +kernel
theorem dL_isSound_85 : decode cL_isSound 85 = .ok (.lcmp, 1) := by decide +kernel
theorem dL_isSound_86 : decode cL_isSound 86 = .ok (.ifCond .ne 45, 3) := by decide +kernel
theorem dL_isSound_89 : decode cL_isSound 89 = .ok (.aload_n 0, 1) := by decide +kernel
theorem dL_isSound_90 : decode cL_isSound 90 = .ok (.iload 10, 2) := by decide +kernel
theorem dL_isSound_92 : decode cL_isSound 92 = .ok (.invokevirtual 53, 3) := by decide +kernel
theorem dL_isSound_95 : decode cL_isSound 95 = .ok (.ifCond .ne 36, 3) := by decide +kernel
theorem dL_isSound_98 : decode cL_isSound 98 = .ok (.aload_n 0, 1) := by decide +kernel
theorem dL_isSound_99 : decode cL_isSound 99 = .ok (.iload 10, 2) := by decide +kernel
theorem dL_isSound_101 : decode cL_isSound 101 = .ok (.invokevirtual 47, 3) := by decide +kernel
theorem dL_isSound_104 : decode cL_isSound 104 = .ok (.iload_n 2, 1) := by decide +kernel
theorem dL_isSound_105 : decode cL_isSound 105 = .ok (.if_icmp .gt 26, 3) := by decide +kernel
theorem dL_isSound_108 : decode cL_isSound 108 = .ok (.aload_n 0, 1) := by decide +kernel
theorem dL_isSound_109 : decode cL_isSound 109 = .ok (.iload 10, 2) := by decide +kernel
theorem dL_isSound_111 : decode cL_isSound 111 = .ok (.invokevirtual 44, 3) := by decide +kernel
theorem dL_isSound_114 : decode cL_isSound 114 = .ok (.ifCond .eq 13, 3) := by decide +kernel
theorem dL_isSound_117 : decode cL_isSound 117 = .ok (.aload_n 0, 1) := by decide +kernel
theorem dL_isSound_118 : decode cL_isSound 118 = .ok (.iload 10, 2) := by decide +kernel
theorem dL_isSound_120 : decode cL_isSound 120 = .ok (.invokevirtual 44, 3) := by decide +kernel
theorem dL_isSound_123 : decode cL_isSound 123 = .ok (.iconst 2, 1) := by decide +kernel
theorem dL_isSound_124 : decode cL_isSound 124 = .ok (.if_icmp .ne 7, 3) := by decide +kernel
theorem dL_isSound_127 : decode cL_isSound 127 = .ok (.iconst 1, 1) := by decide +kernel
theorem dL_isSound_128 : decode cL_isSound 128 = .ok (.goto 4, 3) := by decide +kernel
theorem dL_isSound_131 : decode cL_isSound 131 = .ok (.iconst 0, 1) := by decide +kernel
theorem dL_isSound_132 : decode cL_isSound 132 = .ok (.istore 8, 2) := by decide +kernel
theorem dL_isSound_134 : decode cL_isSound 134 = .ok (.iload 8, 2) := by decide +kernel
theorem dL_isSound_136 : decode cL_isSound 136 = .ok (.ifCond .eq 36, 3) := by decide +kernel
theorem dL_isSound_139 : decode cL_isSound 139 = .ok (.lload_n 3, 1) := by decide +kernel
theorem dL_isSound_140 : decode cL_isSound 140 = .ok (.lconst 1, 1) := by decide +kernel
theorem dL_isSound_141 : decode cL_isSound 141 = .ok (.iload 10, 2) := by decide +kernel
theorem dL_isSound_143 : decode cL_isSound 143 = .ok (.lshl, 1) := by decide +kernel
theorem dL_isSound_144 : decode cL_isSound 144 = .ok (.lor, 1) := by decide +kernel
theorem dL_isSound_145 : decode cL_isSound 145 = .ok (.lstore_n 3, 1) := by decide +kernel
theorem dL_isSound_146 : decode cL_isSound 146 = .ok (.iload 7, 2) := by decide +kernel
theorem dL_isSound_148 : decode cL_isSound 148 = .ok (.aload_n 0, 1) := by decide +kernel
theorem dL_isSound_149 : decode cL_isSound 149 = .ok (.iload_n 1, 1) := by decide +kernel
theorem dL_isSound_150 : decode cL_isSound 150 = .ok (.iload_n 2, 1) := by decide +kernel
theorem dL_isSound_151 : decode cL_isSound 151 = .ok (.iload 9, 2) := by decide +kernel
theorem dL_isSound_153 : decode cL_isSound 153 = .ok (.invokevirtual 68, 3) := by decide +kernel
theorem dL_isSound_156 : decode cL_isSound 156 = .ok (.iadd, 1) := by decide +kernel
theorem dL_isSound_157 : decode cL_isSound 157 = .ok (.istore 7, 2) := by decide +kernel
theorem dL_isSound_159 : decode cL_isSound 159 = .ok (.lload 5, 2) := by decide +kernel
theorem dL_isSound_161 : decode cL_isSound 161 = .ok (.aload_n 0, 1) := by decide +kernel
theorem dL_isSound_162 : decode cL_isSound 162 = .ok (.iload_n 1, 1) := by decide +kernel
theorem dL_isSound_163 : decode cL_isSound 163 = .ok (.iload_n 2, 1) := by decide +kernel
theorem dL_isSound_164 : decode cL_isSound 164 = .ok (.iload 9, 2) := by decide +kernel
theorem dL_isSound_166 : decode cL_isSound 166 = .ok (.invokevirtual 71, 3) := by decide +kernel
theorem dL_isSound_169 : decode cL_isSound 169 = .ok (.ladd, 1) := by decide +kernel
theorem dL_isSound_170 : decode cL_isSound 170 = .ok (.lstore 5, 2) := by decide +kernel
theorem dL_isSound_172 : decode cL_isSound 172 = .ok (.iinc 9 1, 3) := by decide +kernel
theorem dL_isSound_175 : decode cL_isSound 175 = .ok (.goto (-161), 3) := by decide +kernel
theorem dL_isSound_178 : decode cL_isSound 178 = .ok (.iload 8, 2) := by decide +kernel
theorem dL_isSound_180 : decode cL_isSound 180 = .ok (.ifCond .eq 98, 3) := by decide +kernel
theorem dL_isSound_183 : decode cL_isSound 183 = .ok (.aload_n 0, 1) := by decide +kernel
theorem dL_isSound_184 : decode cL_isSound 184 = .ok (.iload_n 1, 1) := by decide +kernel
theorem dL_isSound_185 : decode cL_isSound 185 = .ok (.iload_n 2, 1) := by decide +kernel
theorem dL_isSound_186 : decode cL_isSound 186 = .ok (.invokevirtual 80, 3) := by decide +kernel
theorem dL_isSound_189 : decode cL_isSound 189 = .ok (.iload 7, 2) := by decide +kernel
theorem dL_isSound_191 : decode cL_isSound 191 = .ok (.if_icmp .ne 87, 3) := by decide +kernel
theorem dL_isSound_194 : decode cL_isSound 194 = .ok (.aload_n 0, 1) := by decide +kernel
theorem dL_isSound_195 : decode cL_isSound 195 = .ok (.iload_n 1, 1) := by decide +kernel
theorem dL_isSound_196 : decode cL_isSound 196 = .ok (.iload_n 2, 1) := by decide +kernel
theorem dL_isSound_197 : decode cL_isSound 197 = .ok (.iconst 0, 1) := by decide +kernel
theorem dL_isSound_198 : decode cL_isSound 198 = .ok (.invokevirtual 93, 3) := by decide +kernel
theorem dL_isSound_201 : decode cL_isSound 201 = .ok (.lload 5, 2) := by decide +kernel
theorem dL_isSound_203 : decode cL_isSound 203 = .ok (.lcmp, 1) := by decide +kernel
theorem dL_isSound_204 : decode cL_isSound 204 = .ok (.ifCond .ne 74, 3) := by decide +kernel
theorem dL_isSound_207 : decode cL_isSound 207 = .ok (.aload_n 0, 1) := by decide +kernel
theorem dL_isSound_208 : decode cL_isSound 208 = .ok (.iload_n 1, 1) := by decide +kernel
theorem dL_isSound_209 : decode cL_isSound 209 = .ok (.iload_n 2, 1) := by decide +kernel
theorem dL_isSound_210 : decode cL_isSound 210 = .ok (.invokevirtual 83, 3) := by decide +kernel
theorem dL_isSound_213 : decode cL_isSound 213 = .ok (.ifCond .lt 65, 3) := by decide +kernel
theorem dL_isSound_216 : decode cL_isSound 216 = .ok (.aload_n 0, 1) := by decide +kernel
theorem dL_isSound_217 : decode cL_isSound 217 = .ok (.iload_n 1, 1) := by decide +kernel
theorem dL_isSound_218 : decode cL_isSound 218 = .ok (.iload_n 2, 1) := by decide +kernel
theorem dL_isSound_219 : decode cL_isSound 219 = .ok (.invokevirtual 83, 3) := by decide +kernel
theorem dL_isSound_222 : decode cL_isSound 222 = .ok (.sipush 1000, 3) := by decide +kernel
theorem dL_isSound_225 : decode cL_isSound 225 = .ok (.if_icmp .gt 53, 3) := by decide +kernel
theorem dL_isSound_228 : decode cL_isSound 228 = .ok (.aload_n 0, 1) := by decide +kernel
theorem dL_isSound_229 : decode cL_isSound 229 = .ok (.iload_n 1, 1) := by decide +kernel
theorem dL_isSound_230 : decode cL_isSound 230 = .ok (.iload_n 2, 1) := by decide +kernel
theorem dL_isSound_231 : decode cL_isSound 231 = .ok (.invokevirtual 83, 3) := by decide +kernel
theorem dL_isSound_234 : decode cL_isSound 234 = .ok (.iload 7, 2) := by decide +kernel
theorem dL_isSound_236 : decode cL_isSound 236 = .ok (.if_icmp .gt 42, 3) := by decide +kernel
theorem dL_isSound_239 : decode cL_isSound 239 = .ok (.aload_n 0, 1) := by decide +kernel
theorem dL_isSound_240 : decode cL_isSound 240 = .ok (.iload_n 1, 1) := by decide +kernel
theorem dL_isSound_241 : decode cL_isSound 241 = .ok (.iload_n 2, 1) := by decide +kernel
theorem dL_isSound_242 : decode cL_isSound 242 = .ok (.aload_n 0, 1) := by decide +kernel
theorem dL_isSound_243 : decode cL_isSound 243 = .ok (.iload_n 1, 1) := by decide +kernel
theorem dL_isSound_244 : decode cL_isSound 244 = .ok (.iload_n 2, 1) := by decide +kernel
theorem dL_isSound_245 : decode cL_isSound 245 = .ok (.invokevirtual 90, 3) := by decide +kernel
theorem dL_isSound_248 : decode cL_isSound 248 = .ok (.iconst 0, 1) := by decide +kernel
theorem dL_isSound_249 : decode cL_isSound 249 = .ok (.invokestatic 132, 3) := by decide +kernel
theorem dL_isSound_252 : decode cL_isSound 252 = .ok (.ldc2_w 64, 3) := by decide +kernel
theorem dL_isSound_255 : decode cL_isSound 255 = .ok (.lcmp, 1) := by decide +kernel
theorem dL_isSound_256 : decode cL_isSound 256 = .ok (.ifCond .ne 22, 3) := by decide +kernel
theorem dL_isSound_259 : decode cL_isSound 259 = .ok (.aload_n 0, 1) := by decide +kernel
theorem dL_isSound_260 : decode cL_isSound 260 = .ok (.iload_n 1, 1) := by decide +kernel
theorem dL_isSound_261 : decode cL_isSound 261 = .ok (.iload_n 2, 1) := by decide +kernel
theorem dL_isSound_262 : decode cL_isSound 262 = .ok (.iconst (-1), 1) := by decide +kernel
theorem dL_isSound_263 : decode cL_isSound 263 = .ok (.iconst 2, 1) := by decide +kernel
theorem dL_isSound_264 : decode cL_isSound 264 = .ok (.invokestatic 132, 3) := by decide +kernel
theorem dL_isSound_267 : decode cL_isSound 267 = .ok (.ldc2_w 64, 3) := by decide +kernel
theorem dL_isSound_270 : decode cL_isSound 270 = .ok (.lcmp, 1) := by decide +kernel
theorem dL_isSound_271 : decode cL_isSound 271 = .ok (.ifCond .ne 7, 3) := by decide +kernel
theorem dL_isSound_274 : decode cL_isSound 274 = .ok (.iconst 1, 1) := by decide +kernel
theorem dL_isSound_275 : decode cL_isSound 275 = .ok (.goto 4, 3) := by decide +kernel
theorem dL_isSound_278 : decode cL_isSound 278 = .ok (.iconst 0, 1) := by decide +kernel
theorem dL_isSound_279 : decode cL_isSound 279 = .ok (.istore 8, 2) := by decide +kernel
theorem dL_isSound_281 : decode cL_isSound 281 = .ok (.iconst 0, 1) := by decide +kernel
theorem dL_isSound_282 : decode cL_isSound 282 = .ok (.istore 9, 2) := by decide +kernel
theorem dL_isSound_284 : decode cL_isSound 284 = .ok (.iload 9, 2) := by decide +kernel
theorem dL_isSound_286 : decode cL_isSound 286 = .ok (.iconst 2, 1) := by decide +kernel
theorem dL_isSound_287 : decode cL_isSound 287 = .ok (.if_icmp .ge 214, 3) := by decide +kernel
theorem dL_isSound_290 : decode cL_isSound 290 = .ok (.iload 8, 2) := by decide +kernel
theorem dL_isSound_292 : decode cL_isSound 292 = .ok (.ifCond .eq 209, 3) := by decide +kernel
theorem dL_isSound_295 : decode cL_isSound 295 = .ok (.iload 9, 2) := by decide +kernel
theorem dL_isSound_297 : decode cL_isSound 297 = .ok (.iconst 1, 1) := by decide +kernel
theorem dL_isSound_298 : decode cL_isSound 298 = .ok (.if_icmp .ne 7, 3) := by decide +kernel
theorem dL_isSound_301 : decode cL_isSound 301 = .ok (.iconst 1, 1) := by decide +kernel
theorem dL_isSound_302 : decode cL_isSound 302 = .ok (.goto 4, 3) := by decide +kernel
theorem dL_isSound_305 : decode cL_isSound 305 = .ok (.iconst 0, 1) := by decide +kernel
theorem dL_isSound_306 : decode cL_isSound 306 = .ok (.istore 10, 2) := by decide +kernel
theorem dL_isSound_308 : decode cL_isSound 308 = .ok (.aload_n 0, 1) := by decide +kernel
theorem dL_isSound_309 : decode cL_isSound 309 = .ok (.iload_n 1, 1) := by decide +kernel
theorem dL_isSound_310 : decode cL_isSound 310 = .ok (.iload_n 2, 1) := by decide +kernel
theorem dL_isSound_311 : decode cL_isSound 311 = .ok (.invokevirtual 86, 3) := by decide +kernel
theorem dL_isSound_314 : decode cL_isSound 314 = .ok (.aload_n 0, 1) := by decide +kernel
theorem dL_isSound_315 : decode cL_isSound 315 = .ok (.iload_n 1, 1) := by decide +kernel
theorem dL_isSound_316 : decode cL_isSound 316 = .ok (.iload_n 2, 1) := by decide +kernel
theorem dL_isSound_317 : decode cL_isSound 317 = .ok (.iload 10, 2) := by decide +kernel
theorem dL_isSound_319 : decode cL_isSound 319 = .ok (.invokevirtual 100, 3) := by decide +kernel
theorem dL_isSound_322 : decode cL_isSound 322 = .ok (.ladd, 1) := by decide +kernel
theorem dL_isSound_323 : decode cL_isSound 323 = .ok (.aload_n 0, 1) := by decide +kernel
theorem dL_isSound_324 : decode cL_isSound 324 = .ok (.iload_n 1, 1) := by decide +kernel
theorem dL_isSound_325 : decode cL_isSound 325 = .ok (.iload_n 2, 1) := by decide +kernel
theorem dL_isSound_326 : decode cL_isSound 326 = .ok (.iload 10, 2) := by decide +kernel
theorem dL_isSound_328 : decode cL_isSound 328 = .ok (.invokevirtual 93, 3) := by decide +kernel
theorem dL_isSound_331 : decode cL_isSound 331 = .ok (.aload_n 0, 1) := by decide +kernel
theorem dL_isSound_332 : decode cL_isSound 332 = .ok (.iload_n 1, 1) := by decide +kernel
theorem dL_isSound_333 : decode cL_isSound 333 = .ok (.iload_n 2, 1) := by decide +kernel
theorem dL_isSound_334 : decode cL_isSound 334 = .ok (.iload 10, 2) := by decide +kernel
theorem dL_isSound_336 : decode cL_isSound 336 = .ok (.invokevirtual 97, 3) := by decide +kernel
theorem dL_isSound_339 : decode cL_isSound 339 = .ok (.ladd, 1) := by decide +kernel
theorem dL_isSound_340 : decode cL_isSound 340 = .ok (.aload_n 0, 1) := by decide +kernel
theorem dL_isSound_341 : decode cL_isSound 341 = .ok (.iload_n 1, 1) := by decide +kernel
theorem dL_isSound_342 : decode cL_isSound 342 = .ok (.iload_n 2, 1) := by decide +kernel
theorem dL_isSound_343 : decode cL_isSound 343 = .ok (.iload 10, 2) := by decide +kernel
theorem dL_isSound_345 : decode cL_isSound 345 = .ok (.invokevirtual 103, 3) := by decide +kernel
theorem dL_isSound_348 : decode cL_isSound 348 = .ok (.ladd, 1) := by decide +kernel
theorem dL_isSound_349 : decode cL_isSound 349 = .ok (.lcmp, 1) := by decide +kernel
theorem dL_isSound_350 : decode cL_isSound 350 = .ok (.ifCond .ne 64, 3) := by decide +kernel
theorem dL_isSound_353 : decode cL_isSound 353 = .ok (.aload_n 0, 1) := by decide +kernel
theorem dL_isSound_354 : decode cL_isSound 354 = .ok (.iload_n 1, 1) := by decide +kernel
theorem dL_isSound_355 : decode cL_isSound 355 = .ok (.iload_n 2, 1) := by decide +kernel
theorem dL_isSound_356 : decode cL_isSound 356 = .ok (.iload 10, 2) := by decide +kernel
theorem dL_isSound_358 : decode cL_isSound 358 = .ok (.invokevirtual 93, 3) := by decide +kernel
theorem dL_isSound_361 : decode cL_isSound 361 = .ok (.lconst 0, 1) := by decide +kernel
theorem dL_isSound_362 : decode cL_isSound 362 = .ok (.lcmp, 1) := by decide +kernel
theorem dL_isSound_363 : decode cL_isSound 363 = .ok (.ifCond .lt 51, 3) := by decide +kernel
theorem dL_isSound_366 : decode cL_isSound 366 = .ok (.aload_n 0, 1) := by decide +kernel
theorem dL_isSound_367 : decode cL_isSound 367 = .ok (.iload_n 1, 1) := by decide +kernel
theorem dL_isSound_368 : decode cL_isSound 368 = .ok (.iload_n 2, 1) := by decide +kernel
theorem dL_isSound_369 : decode cL_isSound 369 = .ok (.iload 10, 2) := by decide +kernel
theorem dL_isSound_371 : decode cL_isSound 371 = .ok (.invokevirtual 97, 3) := by decide +kernel
theorem dL_isSound_374 : decode cL_isSound 374 = .ok (.lconst 0, 1) := by decide +kernel
theorem dL_isSound_375 : decode cL_isSound 375 = .ok (.lcmp, 1) := by decide +kernel
theorem dL_isSound_376 : decode cL_isSound 376 = .ok (.ifCond .lt 38, 3) := by decide +kernel
theorem dL_isSound_379 : decode cL_isSound 379 = .ok (.aload_n 0, 1) := by decide +kernel
theorem dL_isSound_380 : decode cL_isSound 380 = .ok (.iload_n 1, 1) := by decide +kernel
theorem dL_isSound_381 : decode cL_isSound 381 = .ok (.iload_n 2, 1) := by decide +kernel
theorem dL_isSound_382 : decode cL_isSound 382 = .ok (.iload 10, 2) := by decide +kernel
theorem dL_isSound_384 : decode cL_isSound 384 = .ok (.invokevirtual 103, 3) := by decide +kernel
theorem dL_isSound_387 : decode cL_isSound 387 = .ok (.lconst 0, 1) := by decide +kernel
theorem dL_isSound_388 : decode cL_isSound 388 = .ok (.lcmp, 1) := by decide +kernel
theorem dL_isSound_389 : decode cL_isSound 389 = .ok (.ifCond .lt 25, 3) := by decide +kernel
theorem dL_isSound_392 : decode cL_isSound 392 = .ok (.iload 7, 2) := by decide +kernel
theorem dL_isSound_394 : decode cL_isSound 394 = .ok (.ifCond .gt 16, 3) := by decide +kernel
theorem dL_isSound_397 : decode cL_isSound 397 = .ok (.aload_n 0, 1) := by decide +kernel
theorem dL_isSound_398 : decode cL_isSound 398 = .ok (.iload_n 1, 1) := by decide +kernel
theorem dL_isSound_399 : decode cL_isSound 399 = .ok (.iload_n 2, 1) := by decide +kernel
theorem dL_isSound_400 : decode cL_isSound 400 = .ok (.iload 10, 2) := by decide +kernel
theorem dL_isSound_402 : decode cL_isSound 402 = .ok (.invokevirtual 93, 3) := by decide +kernel
theorem dL_isSound_405 : decode cL_isSound 405 = .ok (.lconst 0, 1) := by decide +kernel
theorem dL_isSound_406 : decode cL_isSound 406 = .ok (.lcmp, 1) := by decide +kernel
theorem dL_isSound_407 : decode cL_isSound 407 = .ok (.ifCond .ne 7, 3) := by decide +kernel
theorem dL_isSound_410 : decode cL_isSound 410 = .ok (.iconst 1, 1) := by decide +kernel
theorem dL_isSound_411 : decode cL_isSound 411 = .ok (.goto 4, 3) := by decide +kernel
theorem dL_isSound_414 : decode cL_isSound 414 = .ok (.iconst 0, 1) := by decide +kernel
theorem dL_isSound_415 : decode cL_isSound 415 = .ok (.istore 8, 2) := by decide +kernel
theorem dL_isSound_417 : decode cL_isSound 417 = .ok (.iload 8, 2) := by decide +kernel
theorem dL_isSound_419 : decode cL_isSound 419 = .ok (.ifCond .eq 73, 3) := by decide +kernel
theorem dL_isSound_422 : decode cL_isSound 422 = .ok (.iload_n 2, 1) := by decide +kernel
theorem dL_isSound_423 : decode cL_isSound 423 = .ok (.ifCond .eq 65, 3) := by decide +kernel
theorem dL_isSound_426 : decode cL_isSound 426 = .ok (.aload_n 0, 1) := by decide +kernel
theorem dL_isSound_427 : decode cL_isSound 427 = .ok (.iload_n 1, 1) := by decide +kernel
theorem dL_isSound_428 : decode cL_isSound 428 = .ok (.iload_n 2, 1) := by decide +kernel
theorem dL_isSound_429 : decode cL_isSound 429 = .ok (.invokevirtual 86, 3) := by decide +kernel
theorem dL_isSound_432 : decode cL_isSound 432 = .ok (.aload_n 0, 1) := by decide +kernel
theorem dL_isSound_433 : decode cL_isSound 433 = .ok (.iload_n 1, 1) := by decide +kernel
theorem dL_isSound_434 : decode cL_isSound 434 = .ok (.iload_n 2, 1) := by decide +kernel
theorem dL_isSound_435 : decode cL_isSound 435 = .ok (.iconst 1, 1) := by decide +kernel
theorem dL_isSound_436 : decode cL_isSound 436 = .ok (.isub, 1) := by decide +kernel
theorem dL_isSound_437 : decode cL_isSound 437 = .ok (.invokevirtual 86, 3) := by decide +kernel
theorem dL_isSound_440 : decode cL_isSound 440 = .ok (.lcmp, 1) := by decide +kernel
theorem dL_isSound_441 : decode cL_isSound 441 = .ok (.ifCond .lt 51, 3) := by decide +kernel
theorem dL_isSound_444 : decode cL_isSound 444 = .ok (.aload_n 0, 1) := by decide +kernel
theorem dL_isSound_445 : decode cL_isSound 445 = .ok (.iload_n 1, 1) := by decide +kernel
theorem dL_isSound_446 : decode cL_isSound 446 = .ok (.iload_n 2, 1) := by decide +kernel
theorem dL_isSound_447 : decode cL_isSound 447 = .ok (.iload 10, 2) := by decide +kernel
theorem dL_isSound_449 : decode cL_isSound 449 = .ok (.invokevirtual 97, 3) := by decide +kernel
theorem dL_isSound_452 : decode cL_isSound 452 = .ok (.aload_n 0, 1) := by decide +kernel
theorem dL_isSound_453 : decode cL_isSound 453 = .ok (.iload_n 1, 1) := by decide +kernel
theorem dL_isSound_454 : decode cL_isSound 454 = .ok (.iload_n 2, 1) := by decide +kernel
theorem dL_isSound_455 : decode cL_isSound 455 = .ok (.iconst 1, 1) := by decide +kernel
theorem dL_isSound_456 : decode cL_isSound 456 = .ok (.isub, 1) := by decide +kernel
theorem dL_isSound_457 : decode cL_isSound 457 = .ok (.iload 10, 2) := by decide +kernel
theorem dL_isSound_459 : decode cL_isSound 459 = .ok (.invokevirtual 97, 3) := by decide +kernel
theorem dL_isSound_462 : decode cL_isSound 462 = .ok (.lcmp, 1) := by decide +kernel
theorem dL_isSound_463 : decode cL_isSound 463 = .ok (.ifCond .lt 29, 3) := by decide +kernel
theorem dL_isSound_466 : decode cL_isSound 466 = .ok (.aload_n 0, 1) := by decide +kernel
theorem dL_isSound_467 : decode cL_isSound 467 = .ok (.iload_n 1, 1) := by decide +kernel
theorem dL_isSound_468 : decode cL_isSound 468 = .ok (.iload_n 2, 1) := by decide +kernel
theorem dL_isSound_469 : decode cL_isSound 469 = .ok (.iload 10, 2) := by decide +kernel
theorem dL_isSound_471 : decode cL_isSound 471 = .ok (.invokevirtual 103, 3) := by decide +kernel
theorem dL_isSound_474 : decode cL_isSound 474 = .ok (.aload_n 0, 1) := by decide +kernel
theorem dL_isSound_475 : decode cL_isSound 475 = .ok (.iload_n 1, 1) := by decide +kernel
theorem dL_isSound_476 : decode cL_isSound 476 = .ok (.iload_n 2, 1) := by decide +kernel
theorem dL_isSound_477 : decode cL_isSound 477 = .ok (.iconst 1, 1) := by decide +kernel
theorem dL_isSound_478 : decode cL_isSound 478 = .ok (.isub, 1) := by decide +kernel
theorem dL_isSound_479 : decode cL_isSound 479 = .ok (.iload 10, 2) := by decide +kernel
theorem dL_isSound_481 : decode cL_isSound 481 = .ok (.invokevirtual 103, 3) := by decide +kernel
theorem dL_isSound_484 : decode cL_isSound 484 = .ok (.lcmp, 1) := by decide +kernel
theorem dL_isSound_485 : decode cL_isSound 485 = .ok (.ifCond .lt 7, 3) := by decide +kernel
theorem dL_isSound_488 : decode cL_isSound 488 = .ok (.iconst 1, 1) := by decide +kernel
theorem dL_isSound_489 : decode cL_isSound 489 = .ok (.goto 4, 3) := by decide +kernel
theorem dL_isSound_492 : decode cL_isSound 492 = .ok (.iconst 0, 1) := by decide +kernel
theorem dL_isSound_493 : decode cL_isSound 493 = .ok (.istore 8, 2) := by decide +kernel
theorem dL_isSound_495 : decode cL_isSound 495 = .ok (.iinc 9 1, 3) := by decide +kernel
theorem dL_isSound_498 : decode cL_isSound 498 = .ok (.goto (-214), 3) := by decide +kernel
theorem dL_isSound_501 : decode cL_isSound 501 = .ok (.iload 8, 2) := by decide +kernel
theorem dL_isSound_503 : decode cL_isSound 503 = .ok (.ireturn, 1) := by decide +kernel
theorem dL_areMovements_0 : decode cL_areMovements 0 = .ok (.lconst 0, 1) := by decide +kernel
theorem dL_areMovements_1 : decode cL_areMovements 1 = .ok (.lstore_n 2, 1) := by decide +kernel
theorem dL_areMovements_2 : decode cL_areMovements 2 = .ok (.aload_n 0, 1) := by decide +kernel
theorem dL_areMovements_3 : decode cL_areMovements 3 = .ok (.invokevirtual 116, 3) := by decide +kernel
theorem dL_areMovements_6 : decode cL_areMovements 6 = .ok (.istore 4, 2) := by decide +kernel
theorem dL_areMovements_8 : decode cL_areMovements 8 = .ok (.iconst 0, 1) := by decide +kernel
theorem dL_areMovements_9 : decode cL_areMovements 9 = .ok (.istore 5, 2) := by decide +kernel
theorem dL_areMovements_11 : decode cL_areMovements 11 = .ok (.lconst 0, 1) := by decide +kernel
theorem dL_areMovements_12 : decode cL_areMovements 12 = .ok (.lstore 6, 2) := by decide +kernel
theorem dL_areMovements_14 : decode cL_areMovements 14 = .ok (.lconst 0, 1) := by decide +kernel
theorem dL_areMovements_15 : decode cL_areMovements 15 = .ok (.lstore 8, 2) := by decide +kernel
theorem dL_areMovements_17 : decode cL_areMovements 17 = .ok (.iconst 1, 1) := by decide +kernel
theorem dL_areMovements_18 : decode cL_areMovements 18 = .ok (.istore 10, 2) := by decide +kernel
theorem dL_areMovements_20 : decode cL_areMovements 20 = .ok (.iconst 0, 1) := by decide +kernel
theorem dL_areMovements_21 : decode cL_areMovements 21 = .ok (.istore 11, 2) := by decide +kernel
theorem dL_areMovements_23 : decode cL_areMovements 23 = .ok (.iload 11, 2) := by decide +kernel
theorem dL_areMovements_25 : decode cL_areMovements 25 = .ok (.iload 4, 2) := by decide +kernel
theorem dL_areMovements_27 : decode cL_areMovements 27 = .ok (.if_icmp .ge 461, 3) := by decide +kernel
theorem dL_areMovements_30 : decode cL_areMovements 30 = .ok (.iload 10, 2) := by decide +kernel
theorem dL_areMovements_32 : decode cL_areMovements 32 = .ok (.ifCond .eq 456, 3) := by decide +kernel
theorem dL_areMovements_35 : decode cL_areMovements 35 = .ok (.aload_n 0, 1) := by decide +kernel
theorem dL_areMovements_36 : decode cL_areMovements 36 = .ok (.iload 11, 2) := by decide +kernel
theorem dL_areMovements_38 : decode cL_areMovements 38 = .ok (.invokevirtual 50, 3) := by decide +kernel
theorem dL_areMovements_41 : decode cL_areMovements 41 = .ok (.istore 12, 2) := by decide +kernel
theorem dL_areMovements_43 : decode cL_areMovements 43 = .ok (.iload 5, 2) := by decide +kernel
theorem dL_areMovements_45 : decode cL_areMovements 45 = .ok (.aload_n 0, 1) := by decide +kernel
theorem dL_areMovements_46 : decode cL_areMovements 46 = .ok (.iload 11, 2) := by decide +kernel
theorem dL_areMovements_48 : decode cL_areMovements 48 = .ok (.invokevirtual 53, 3) := by decide +kernel
theorem dL_areMovements_51 : decode cL_areMovements 51 = .ok (.ifCond .eq 7, 3) := by decide +kernel
theorem dL_areMovements_54 : decode cL_areMovements 54 = .ok (.iconst 0, 1) := by decide +kernel
theorem dL_areMovements_55 : decode cL_areMovements 55 = .ok (.goto 4, 3) := by decide +kernel
theorem dL_areMovements_58 : decode cL_areMovements 58 = .ok (.iconst 1, 1) := by decide +kernel
theorem dL_areMovements_59 : decode cL_areMovements 59 = .ok (.iadd, 1) := by decide +kernel
theorem dL_areMovements_60 : decode cL_areMovements 60 = .ok (.istore 5, 2) := by decide +kernel
theorem dL_areMovements_62 : decode cL_areMovements 62 = .ok (.aload_n 0, 1) := by decide +kernel
theorem dL_areMovements_63 : decode cL_areMovements 63 = .ok (.iload 11, 2) := by decide +kernel
theorem dL_areMovements_65 : decode cL_areMovements 65 = .ok (.invokevirtual 53, 3) := by decide +kernel
theorem dL_areMovements_68 : decode cL_areMovements 68 = .ok (.ifCond .eq 17, 3) := by decide +kernel
theorem dL_areMovements_71 : decode cL_areMovements 71 = .ok (.iload 12, 2) := by decide +kernel
theorem dL_areMovements_73 : decode cL_areMovements 73 = .ok (.iconst (-1), 1) := by decide +kernel
theorem dL_areMovements_74 : decode cL_areMovements 74 = .ok (.if_icmp .ne 7, 3) := by decide +kernel
theorem dL_areMovements_77 : decode cL_areMovements 77 = .ok (.iconst 1, 1) := by decide +kernel
theorem dL_areMovements_78 : decode cL_areMovements 78 = .ok (.goto 35, 3) := by decide +kernel
theorem dL_areMovements_81 : decode cL_areMovements 81 = .ok (.iconst 0, 1) := by decide +kernel
theorem dL_areMovements_82 : decode cL_areMovements 82 = .ok (.goto 31, 3) := by decide +kernel
theorem dL_areMovements_85 : decode cL_areMovements 85 = .ok (.iload 12, 2) := by decide +kernel
theorem dL_areMovements_87 : decode cL_areMovements 87 = .ok (.ifCond .lt 25, 3) := by decide +kernel
theorem dL_areMovements_90 : decode cL_areMovements 90 = .ok (.iload 12, 2) := by decide +kernel
theorem dL_areMovements_92 : decode cL_areMovements 92 = .ok (.iload 4, 2) := by decide +kernel
theorem dL_areMovements_94 : decode cL_areMovements 94 = .ok (.if_icmp .ge 18, 3) := by decide +kernel
theorem dL_areMovements_97 : decode cL_areMovements 97 = .ok (.lload_n 2, 1) := by decide +kernel
theorem dL_areMovements_98 : decode cL_areMovements 98 = .ok (.iload 12, 2) := by decide +kernel
theorem dL_areMovements_100 : decode cL_areMovements 100 = .ok (.lshr, 1) := by decide +kernel
theorem dL_areMovements_101 : decode cL_areMovements 101 = .ok (.lconst 1, 1) := by decide +kernel
theorem dL_areMovements_102 : decode cL_areMovements 102 = .ok (.land, 1) := by decide +kernel
theorem dL_areMovements_103 : decode cL_areMovements 103 = .ok (.lconst 0, 1) := by decide +kernel
theorem dL_areMovements_104 : decode cL_areMovements 104 = .ok (.lcmp, 1) := by decide +kernel
theorem dL_areMovements_105 : decode cL_areMovements 105 = .ok (.ifCond .ne 7, 3) := by decide +kernel
theorem dL_areMovements_108 : decode cL_areMovements 108 = .ok (.iconst 1, 1) := by decide +kernel
theorem dL_areMovements_109 : decode cL_areMovements 109 = .ok (.goto 4, 3) := by decide +kernel
theorem dL_areMovements_112 : decode cL_areMovements 112 = .ok (.iconst 0, 1) := by decide +kernel
theorem dL_areMovements_113 : decode cL_areMovements 113 = .ok (.istore 10, 2) := by decide +kernel
theorem dL_areMovements_115 : decode cL_areMovements 115 = .ok (.lload_n 2, 1) := by decide +kernel
theorem dL_areMovements_116 : decode cL_areMovements 116 = .ok (.iload 12, 2) := by decide +kernel
theorem dL_areMovements_118 : decode cL_areMovements 118 = .ok (.ifCond .ge 7, 3) := by decide +kernel
theorem dL_areMovements_121 : decode cL_areMovements 121 = .ok (.lconst 0, 1) := by decide +kernel
theorem dL_areMovements_122 : decode cL_areMovements 122 = .ok (.goto 7, 3) := by decide +kernel
theorem dL_areMovements_125 : decode cL_areMovements 125 = .ok (.lconst 1, 1) := by decide +kernel
theorem dL_areMovements_126 : decode cL_areMovements 126 = .ok (.iload 12, 2) := by decide +kernel
theorem dL_areMovements_128 : decode cL_areMovements 128 = .ok (.lshl, 1) := by decide +kernel
theorem dL_areMovements_129 : decode cL_areMovements 129 = .ok (.lor, 1) := by decide +kernel
theorem dL_areMovements_130 : decode cL_areMovements 130 = .ok (.lstore_n 2, 1) := by decide +kernel
theorem dL_areMovements_131 : decode cL_areMovements 131 = .ok (.iconst 0, 1) := by decide +kernel
theorem dL_areMovements_132 : decode cL_areMovements 132 = .ok (.istore 13, 2) := by decide +kernel
theorem dL_areMovements_134 : decode cL_areMovements 134 = .ok (.iload 13, 2) := by decide +kernel
theorem dL_areMovements_136 : decode cL_areMovements 136 = .ok (.iload 11, 2) := by decide +kernel
theorem dL_areMovements_138 : decode cL_areMovements 138 = .ok (.if_icmp .ge 74, 3) := by decide +kernel
theorem dL_areMovements_141 : decode cL_areMovements 141 = .ok (.iload 10, 2) := by decide +kernel
theorem dL_areMovements_143 : decode cL_areMovements 143 = .ok (.ifCond .eq 69, 3) := by decide +kernel
theorem dL_areMovements_146 : decode cL_areMovements 146 = .ok (.iload 12, 2) := by decide +kernel
theorem dL_areMovements_148 : decode cL_areMovements 148 = .ok (.ifCond .lt 64, 3) := by decide +kernel
theorem dL_areMovements_151 : decode cL_areMovements 151 = .ok (.aload_n 0, 1) := by decide +kernel
theorem dL_areMovements_152 : decode cL_areMovements 152 = .ok (.iload 13, 2) := by decide +kernel
theorem dL_areMovements_154 : decode cL_areMovements 154 = .ok (.invokevirtual 50, 3) := by decide +kernel
theorem dL_areMovements_157 : decode cL_areMovements 157 = .ok (.ifCond .lt 42, 3) := by decide +kernel
theorem dL_areMovements_160 : decode cL_areMovements 160 = .ok (.aload_n 0, 1) := by decide +kernel
theorem dL_areMovements_161 : decode cL_areMovements 161 = .ok (.iload 13, 2) := by decide +kernel
theorem dL_areMovements_163 : decode cL_areMovements 163 = .ok (.invokevirtual 47, 3) := by decide +kernel
theorem dL_areMovements_166 : decode cL_areMovements 166 = .ok (.aload_n 0, 1) := by decide +kernel
theorem dL_areMovements_167 : decode cL_areMovements 167 = .ok (.iload 11, 2) := by decide +kernel
theorem dL_areMovements_169 : decode cL_areMovements 169 = .ok (.invokevirtual 47, 3) := by decide +kernel
theorem dL_areMovements_172 : decode cL_areMovements 172 = .ok (.if_icmp .gt 7, 3) := by decide +kernel
theorem dL_areMovements_175 : decode cL_areMovements 175 = .ok (.iconst 1, 1) := by decide +kernel
theorem dL_areMovements_176 : decode cL_areMovements 176 = .ok (.goto 4, 3) := by decide +kernel
theorem dL_areMovements_179 : decode cL_areMovements 179 = .ok (.iconst 0, 1) := by decide +kernel
theorem dL_areMovements_180 : decode cL_areMovements 180 = .ok (.aload_n 0, 1) := by decide +kernel
theorem dL_areMovements_181 : decode cL_areMovements 181 = .ok (.iload 13, 2) := by decide +kernel
theorem dL_areMovements_183 : decode cL_areMovements 183 = .ok (.invokevirtual 50, 3) := by decide +kernel
theorem dL_areMovements_186 : decode cL_areMovements 186 = .ok (.iload 12, 2) := by decide +kernel
theorem dL_areMovements_188 : decode cL_areMovements 188 = .ok (.if_icmp .ge 7, 3) := by decide +kernel
theorem dL_areMovements_191 : decode cL_areMovements 191 = .ok (.iconst 1, 1) := by decide +kernel
theorem dL_areMovements_192 : decode cL_areMovements 192 = .ok (.goto 4, 3) := by decide +kernel
theorem dL_areMovements_195 : decode cL_areMovements 195 = .ok (.iconst 0, 1) := by decide +kernel
