theorem dX11_isSound_78 : decode cX11_isSound 78 = .ok (.iconst 2, 1) := by decide +kernel
theorem dX11_isSound_79 : decode cX11_isSound 79 = .ok (.if_icmp .ne 18, 3) := by decide +kernel
theorem dX11_isSound_82 : decode cX11_isSound 82 = .ok (.iload 4, 2) := by decide +kernel
theorem dX11_isSound_84 : decode cX11_isSound 84 = .ok (.ifCond .eq 11, 3) := by decide +kernel
theorem dX11_isSound_87 : decode cX11_isSound 87 = .ok (.iload 4, 2) := by decide +kernel
theorem dX11_isSound_89 : decode cX11_isSound 89 = .ok (.bipush 64, 2) := by decide +kernel
theorem dX11_isSound_91 : decode cX11_isSound 91 = .ok (.irem, 1) := by decide +kernel
theorem dX11_isSound_92 : decode cX11_isSound 92 = .ok (.ifCond .eq 5, 3) := by decide +kernel
theorem dX11_isSound_95 : decode cX11_isSound 95 = .ok (.iconst 0, 1) := by decide +kernel
theorem dX11_isSound_96 : decode cX11_isSound 96 = .ok (.ireturn, 1) := by decide +kernel
theorem dX11_isSound_97 : decode cX11_isSound 97 = .ok (.aload_n 0, 1) := by decide +kernel
theorem dX11_isSound_98 : decode cX11_isSound 98 = .ok (.iload_n 1, 1) := by decide +kernel
theorem dX11_isSound_99 : decode cX11_isSound 99 = .ok (.invokevirtual 52, 3) := by decide +kernel
theorem dX11_isSound_102 : decode cX11_isSound 102 = .ok (.istore 5, 2) := by decide +kernel
theorem dX11_isSound_104 : decode cX11_isSound 104 = .ok (.iconst 1, 1) := by decide +kernel
theorem dX11_isSound_105 : decode cX11_isSound 105 = .ok (.istore 6, 2) := by decide +kernel
theorem dX11_isSound_107 : decode cX11_isSound 107 = .ok (.iconst 0, 1) := by decide +kernel
theorem dX11_isSound_108 : decode cX11_isSound 108 = .ok (.istore 7, 2) := by decide +kernel
theorem dX11_isSound_110 : decode cX11_isSound 110 = .ok (.iload 7, 2) := by decide +kernel
theorem dX11_isSound_112 : decode cX11_isSound 112 = .ok (.iconst 5, 1) := by decide +kernel
theorem dX11_isSound_113 : decode cX11_isSound 113 = .ok (.if_icmp .ge 42, 3) := by decide +kernel
theorem dX11_isSound_116 : decode cX11_isSound 116 = .ok (.iload 6, 2) := by decide +kernel
theorem dX11_isSound_118 : decode cX11_isSound 118 = .ok (.ifCond .eq 28, 3) := by decide +kernel
theorem dX11_isSound_121 : decode cX11_isSound 121 = .ok (.iload 7, 2) := by decide +kernel
theorem dX11_isSound_123 : decode cX11_isSound 123 = .ok (.iload 5, 2) := by decide +kernel
theorem dX11_isSound_125 : decode cX11_isSound 125 = .ok (.if_icmp .lt 17, 3) := by decide +kernel
theorem dX11_isSound_128 : decode cX11_isSound 128 = .ok (.aload_n 0, 1) := by decide +kernel
theorem dX11_isSound_129 : decode cX11_isSound 129 = .ok (.getfield 13, 3) := by decide +kernel
theorem dX11_isSound_132 : decode cX11_isSound 132 = .ok (.iload_n 2, 1) := by decide +kernel
theorem dX11_isSound_133 : decode cX11_isSound 133 = .ok (.iconst 4, 1) := by decide +kernel
theorem dX11_isSound_134 : decode cX11_isSound 134 = .ok (.iadd, 1) := by decide +kernel
theorem dX11_isSound_135 : decode cX11_isSound 135 = .ok (.iload 7, 2) := by decide +kernel
theorem dX11_isSound_137 : decode cX11_isSound 137 = .ok (.iadd, 1) := by decide +kernel
theorem dX11_isSound_138 : decode cX11_isSound 138 = .ok (.iaload, 1) := by decide +kernel
theorem dX11_isSound_139 : decode cX11_isSound 139 = .ok (.ifCond .ne 7, 3) := by decide +kernel
theorem dX11_isSound_142 : decode cX11_isSound 142 = .ok (.iconst 1, 1) := by decide +kernel
theorem dX11_isSound_143 : decode cX11_isSound 143 = .ok (.goto 4, 3) := by decide +kernel
theorem dX11_isSound_146 : decode cX11_isSound 146 = .ok (.iconst 0, 1) := by decide +kernel
theorem dX11_isSound_147 : decode cX11_isSound 147 = .ok (.istore 6, 2) := by decide +kernel
theorem dX11_isSound_149 : decode cX11_isSound 149 = .ok (.iinc 7 1, 3) := by decide +kernel
theorem dX11_isSound_152 : decode cX11_isSound 152 = .ok (.goto (-42), 3) := by decide +kernel
theorem dX11_isSound_155 : decode cX11_isSound 155 = .ok (.iload 6, 2) := by decide +kernel
theorem dX11_isSound_157 : decode cX11_isSound 157 = .ok (.ifCond .eq 38, 3) := by decide +kernel
theorem dX11_isSound_160 : decode cX11_isSound 160 = .ok (.iload 5, 2) := by decide +kernel
theorem dX11_isSound_162 : decode cX11_isSound 162 = .ok (.iconst 5, 1) := by decide +kernel
theorem dX11_isSound_163 : decode cX11_isSound 163 = .ok (.if_icmp .le 7, 3) := by decide +kernel
theorem dX11_isSound_166 : decode cX11_isSound 166 = .ok (.iconst 1, 1) := by decide +kernel
theorem dX11_isSound_167 : decode cX11_isSound 167 = .ok (.goto 4, 3) := by decide +kernel
theorem dX11_isSound_170 : decode cX11_isSound 170 = .ok (.iconst 0, 1) := by decide +kernel
theorem dX11_isSound_171 : decode cX11_isSound 171 = .ok (.aload_n 0, 1) := by decide +kernel
theorem dX11_isSound_172 : decode cX11_isSound 172 = .ok (.getfield 13, 3) := by decide +kernel
theorem dX11_isSound_175 : decode cX11_isSound 175 = .ok (.iload_n 2, 1) := by decide +kernel
theorem dX11_isSound_176 : decode cX11_isSound 176 = .ok (.bipush 9, 2) := by decide +kernel
theorem dX11_isSound_178 : decode cX11_isSound 178 = .ok (.iadd, 1) := by decide +kernel
theorem dX11_isSound_179 : decode cX11_isSound 179 = .ok (.iaload, 1) := by decide +kernel
theorem dX11_isSound_180 : decode cX11_isSound 180 = .ok (.ifCond .eq 7, 3) := by decide +kernel
theorem dX11_isSound_183 : decode cX11_isSound 183 = .ok (.iconst 1, 1) := by decide +kernel
theorem dX11_isSound_184 : decode cX11_isSound 184 = .ok (.goto 4, 3) := by decide +kernel
theorem dX11_isSound_187 : decode cX11_isSound 187 = .ok (.iconst 0, 1) := by decide +kernel
theorem dX11_isSound_188 : decode cX11_isSound 188 = .ok (.if_icmp .ne 7, 3) := by decide +kernel
theorem dX11_isSound_191 : decode cX11_isSound 191 = .ok (.iconst 1, 1) := by decide +kernel
theorem dX11_isSound_192 : decode cX11_isSound 192 = .ok (.goto 4, 3) := by decide +kernel
theorem dX11_isSound_195 : decode cX11_isSound 195 = .ok (.iconst 0, 1) := by decide +kernel
theorem dX11_isSound_196 : decode cX11_isSound 196 = .ok (.istore 6, 2) := by decide +kernel
theorem dX11_isSound_198 : decode cX11_isSound 198 = .ok (.iconst 0, 1) := by decide +kernel
theorem dX11_isSound_199 : decode cX11_isSound 199 = .ok (.istore 7, 2) := by decide +kernel
theorem dX11_isSound_201 : decode cX11_isSound 201 = .ok (.aload_n 0, 1) := by decide +kernel
theorem dX11_isSound_202 : decode cX11_isSound 202 = .ok (.getfield 13, 3) := by decide +kernel
theorem dX11_isSound_205 : decode cX11_isSound 205 = .ok (.iload_n 2, 1) := by decide +kernel
theorem dX11_isSound_206 : decode cX11_isSound 206 = .ok (.bipush 9, 2) := by decide +kernel
theorem dX11_isSound_208 : decode cX11_isSound 208 = .ok (.iadd, 1) := by decide +kernel
theorem dX11_isSound_209 : decode cX11_isSound 209 = .ok (.iaload, 1) := by decide +kernel
theorem dX11_isSound_210 : decode cX11_isSound 210 = .ok (.istore 8, 2) := by decide +kernel
theorem dX11_isSound_212 : decode cX11_isSound 212 = .ok (.iload 6, 2) := by decide +kernel
theorem dX11_isSound_214 : decode cX11_isSound 214 = .ok (.ifCond .eq 76, 3) := by decide +kernel
theorem dX11_isSound_217 : decode cX11_isSound 217 = .ok (.iload 5, 2) := by decide +kernel
theorem dX11_isSound_219 : decode cX11_isSound 219 = .ok (.iconst 5, 1) := by decide +kernel
theorem dX11_isSound_220 : decode cX11_isSound 220 = .ok (.if_icmp .le 70, 3) := by decide +kernel
theorem dX11_isSound_223 : decode cX11_isSound 223 = .ok (.aload_n 0, 1) := by decide +kernel
theorem dX11_isSound_224 : decode cX11_isSound 224 = .ok (.iload 8, 2) := by decide +kernel
theorem dX11_isSound_226 : decode cX11_isSound 226 = .ok (.invokevirtual 55, 3) := by decide +kernel
theorem dX11_isSound_229 : decode cX11_isSound 229 = .ok (.istore 6, 2) := by decide +kernel
theorem dX11_isSound_231 : decode cX11_isSound 231 = .ok (.iload 6, 2) := by decide +kernel
theorem dX11_isSound_233 : decode cX11_isSound 233 = .ok (.ifCond .eq 7, 3) := by decide +kernel
theorem dX11_isSound_236 : decode cX11_isSound 236 = .ok (.iconst 1, 1) := by decide +kernel
theorem dX11_isSound_237 : decode cX11_isSound 237 = .ok (.goto 4, 3) := by decide +kernel
theorem dX11_isSound_240 : decode cX11_isSound 240 = .ok (.iconst 0, 1) := by decide +kernel
theorem dX11_isSound_241 : decode cX11_isSound 241 = .ok (.istore 7, 2) := by decide +kernel
theorem dX11_isSound_243 : decode cX11_isSound 243 = .ok (.iload 5, 2) := by decide +kernel
theorem dX11_isSound_245 : decode cX11_isSound 245 = .ok (.iconst 5, 1) := by decide +kernel
theorem dX11_isSound_246 : decode cX11_isSound 246 = .ok (.isub, 1) := by decide +kernel
theorem dX11_isSound_247 : decode cX11_isSound 247 = .ok (.istore 9, 2) := by decide +kernel
theorem dX11_isSound_249 : decode cX11_isSound 249 = .ok (.iload 9, 2) := by decide +kernel
theorem dX11_isSound_251 : decode cX11_isSound 251 = .ok (.bipush 64, 2) := by decide +kernel
theorem dX11_isSound_253 : decode cX11_isSound 253 = .ok (.if_icmp .ge 37, 3) := by decide +kernel
theorem dX11_isSound_256 : decode cX11_isSound 256 = .ok (.iload 6, 2) := by decide +kernel
theorem dX11_isSound_258 : decode cX11_isSound 258 = .ok (.ifCond .eq 32, 3) := by decide +kernel
theorem dX11_isSound_261 : decode cX11_isSound 261 = .ok (.aload_n 0, 1) := by decide +kernel
theorem dX11_isSound_262 : decode cX11_isSound 262 = .ok (.getfield 13, 3) := by decide +kernel
theorem dX11_isSound_265 : decode cX11_isSound 265 = .ok (.bipush 64, 2) := by decide +kernel
theorem dX11_isSound_267 : decode cX11_isSound 267 = .ok (.iload 8, 2) := by decide +kernel
theorem dX11_isSound_269 : decode cX11_isSound 269 = .ok (.imul, 1) := by decide +kernel
theorem dX11_isSound_270 : decode cX11_isSound 270 = .ok (.iload 9, 2) := by decide +kernel
theorem dX11_isSound_272 : decode cX11_isSound 272 = .ok (.iadd, 1) := by decide +kernel
theorem dX11_isSound_273 : decode cX11_isSound 273 = .ok (.iaload, 1) := by decide +kernel
theorem dX11_isSound_274 : decode cX11_isSound 274 = .ok (.ifCond .ne 7, 3) := by decide +kernel
theorem dX11_isSound_277 : decode cX11_isSound 277 = .ok (.iconst 1, 1) := by decide +kernel
theorem dX11_isSound_278 : decode cX11_isSound 278 = .ok (.goto 4, 3) := by decide +kernel
theorem dX11_isSound_281 : decode cX11_isSound 281 = .ok (.iconst 0, 1) := by decide +kernel
theorem dX11_isSound_282 : decode cX11_isSound 282 = .ok (.istore 6, 2) := by decide +kernel
theorem dX11_isSound_284 : decode cX11_isSound 284 = .ok (.iinc 9 1, 3) := by decide +kernel
theorem dX11_isSound_287 : decode cX11_isSound 287 = .ok (.goto (-38), 3) := by decide +kernel
theorem dX11_isSound_290 : decode cX11_isSound 290 = .ok (.iconst 0, 1) := by decide +kernel
theorem dX11_isSound_291 : decode cX11_isSound 291 = .ok (.istore 9, 2) := by decide +kernel
theorem dX11_isSound_293 : decode cX11_isSound 293 = .ok (.iload 6, 2) := by decide +kernel
theorem dX11_isSound_295 : decode cX11_isSound 295 = .ok (.ifCond .eq 41, 3) := by decide +kernel
theorem dX11_isSound_298 : decode cX11_isSound 298 = .ok (.iload 9, 2) := by decide +kernel
theorem dX11_isSound_300 : decode cX11_isSound 300 = .ok (.iload 5, 2) := by decide +kernel
theorem dX11_isSound_302 : decode cX11_isSound 302 = .ok (.if_icmp .ge 34, 3) := by decide +kernel
theorem dX11_isSound_305 : decode cX11_isSound 305 = .ok (.aload_n 0, 1) := by decide +kernel
theorem dX11_isSound_306 : decode cX11_isSound 306 = .ok (.aload_n 0, 1) := by decide +kernel
theorem dX11_isSound_307 : decode cX11_isSound 307 = .ok (.iload_n 1, 1) := by decide +kernel
theorem dX11_isSound_308 : decode cX11_isSound 308 = .ok (.iload 9, 2) := by decide +kernel
theorem dX11_isSound_310 : decode cX11_isSound 310 = .ok (.invokevirtual 59, 3) := by decide +kernel
theorem dX11_isSound_313 : decode cX11_isSound 313 = .ok (.invokevirtual 55, 3) := by decide +kernel
theorem dX11_isSound_316 : decode cX11_isSound 316 = .ok (.istore 6, 2) := by decide +kernel
theorem dX11_isSound_318 : decode cX11_isSound 318 = .ok (.iload 9, 2) := by decide +kernel
theorem dX11_isSound_320 : decode cX11_isSound 320 = .ok (.iload 6, 2) := by decide +kernel
theorem dX11_isSound_322 : decode cX11_isSound 322 = .ok (.ifCond .eq 7, 3) := by decide +kernel
theorem dX11_isSound_325 : decode cX11_isSound 325 = .ok (.iconst 1, 1) := by decide +kernel
theorem dX11_isSound_326 : decode cX11_isSound 326 = .ok (.goto 4, 3) := by decide +kernel
theorem dX11_isSound_329 : decode cX11_isSound 329 = .ok (.iconst 0, 1) := by decide +kernel
theorem dX11_isSound_330 : decode cX11_isSound 330 = .ok (.iadd, 1) := by decide +kernel
theorem dX11_isSound_331 : decode cX11_isSound 331 = .ok (.istore 9, 2) := by decide +kernel
theorem dX11_isSound_333 : decode cX11_isSound 333 = .ok (.goto (-40), 3) := by decide +kernel
theorem dX11_isSound_336 : decode cX11_isSound 336 = .ok (.iload 6, 2) := by decide +kernel
theorem dX11_isSound_338 : decode cX11_isSound 338 = .ok (.ifCond .ne 46, 3) := by decide +kernel
theorem dX11_isSound_341 : decode cX11_isSound 341 = .ok (.iconst 0, 1) := by decide +kernel
theorem dX11_isSound_342 : decode cX11_isSound 342 = .ok (.istore 10, 2) := by decide +kernel
theorem dX11_isSound_344 : decode cX11_isSound 344 = .ok (.iload 10, 2) := by decide +kernel
theorem dX11_isSound_346 : decode cX11_isSound 346 = .ok (.iload 9, 2) := by decide +kernel
theorem dX11_isSound_348 : decode cX11_isSound 348 = .ok (.if_icmp .ge 22, 3) := by decide +kernel
theorem dX11_isSound_351 : decode cX11_isSound 351 = .ok (.aload_n 0, 1) := by decide +kernel
theorem dX11_isSound_352 : decode cX11_isSound 352 = .ok (.getfield 16, 3) := by decide +kernel
theorem dX11_isSound_355 : decode cX11_isSound 355 = .ok (.aload_n 0, 1) := by decide +kernel
theorem dX11_isSound_356 : decode cX11_isSound 356 = .ok (.iload_n 1, 1) := by decide +kernel
theorem dX11_isSound_357 : decode cX11_isSound 357 = .ok (.iload 10, 2) := by decide +kernel
theorem dX11_isSound_359 : decode cX11_isSound 359 = .ok (.invokevirtual 59, 3) := by decide +kernel
theorem dX11_isSound_362 : decode cX11_isSound 362 = .ok (.iconst 0, 1) := by decide +kernel
theorem dX11_isSound_363 : decode cX11_isSound 363 = .ok (.bastore, 1) := by decide +kernel
theorem dX11_isSound_364 : decode cX11_isSound 364 = .ok (.iinc 10 1, 3) := by decide +kernel
theorem dX11_isSound_367 : decode cX11_isSound 367 = .ok (.goto (-23), 3) := by decide +kernel
theorem dX11_isSound_370 : decode cX11_isSound 370 = .ok (.iload 7, 2) := by decide +kernel
theorem dX11_isSound_372 : decode cX11_isSound 372 = .ok (.iconst 1, 1) := by decide +kernel
theorem dX11_isSound_373 : decode cX11_isSound 373 = .ok (.if_icmp .ne 11, 3) := by decide +kernel
theorem dX11_isSound_376 : decode cX11_isSound 376 = .ok (.aload_n 0, 1) := by decide +kernel
theorem dX11_isSound_377 : decode cX11_isSound 377 = .ok (.getfield 16, 3) := by decide +kernel
theorem dX11_isSound_380 : decode cX11_isSound 380 = .ok (.iload 8, 2) := by decide +kernel
theorem dX11_isSound_382 : decode cX11_isSound 382 = .ok (.iconst 0, 1) := by decide +kernel
theorem dX11_isSound_383 : decode cX11_isSound 383 = .ok (.bastore, 1) := by decide +kernel
theorem dX11_isSound_384 : decode cX11_isSound 384 = .ok (.iload 6, 2) := by decide +kernel
theorem dX11_isSound_386 : decode cX11_isSound 386 = .ok (.ireturn, 1) := by decide +kernel
theorem dX11_free_0 : decode cX11_free 0 = .ok (.iconst 0, 1) := by decide +kernel
theorem dX11_free_1 : decode cX11_free 1 = .ok (.istore_n 2, 1) := by decide +kernel
theorem dX11_free_2 : decode cX11_free 2 = .ok (.iload_n 2, 1) := by decide +kernel
theorem dX11_free_3 : decode cX11_free 3 = .ok (.bipush 64, 2) := by decide +kernel
theorem dX11_free_5 : decode cX11_free 5 = .ok (.if_icmp .ge 16, 3) := by decide +kernel
theorem dX11_free_8 : decode cX11_free 8 = .ok (.aload_n 0, 1) := by decide +kernel
theorem dX11_free_9 : decode cX11_free 9 = .ok (.getfield 16, 3) := by decide +kernel
theorem dX11_free_12 : decode cX11_free 12 = .ok (.iload_n 2, 1) := by decide +kernel
theorem dX11_free_13 : decode cX11_free 13 = .ok (.iconst 0, 1) := by decide +kernel
theorem dX11_free_14 : decode cX11_free 14 = .ok (.bastore, 1) := by decide +kernel
theorem dX11_free_15 : decode cX11_free 15 = .ok (.iinc 2 1, 3) := by decide +kernel
theorem dX11_free_18 : decode cX11_free 18 = .ok (.goto (-16), 3) := by decide +kernel
theorem dX11_free_21 : decode cX11_free 21 = .ok (.iconst 1, 1) := by decide +kernel
theorem dX11_free_22 : decode cX11_free 22 = .ok (.istore_n 2, 1) := by decide +kernel
theorem dX11_free_23 : decode cX11_free 23 = .ok (.iload_n 2, 1) := by decide +kernel
theorem dX11_free_24 : decode cX11_free 24 = .ok (.bipush 32, 2) := by decide +kernel
theorem dX11_free_26 : decode cX11_free 26 = .ok (.if_icmp .ge 81, 3) := by decide +kernel
theorem dX11_free_29 : decode cX11_free 29 = .ok (.iconst 0, 1) := by decide +kernel
theorem dX11_free_30 : decode cX11_free 30 = .ok (.istore_n 3, 1) := by decide +kernel
theorem dX11_free_31 : decode cX11_free 31 = .ok (.aload_n 0, 1) := by decide +kernel
theorem dX11_free_32 : decode cX11_free 32 = .ok (.iload_n 2, 1) := by decide +kernel
theorem dX11_free_33 : decode cX11_free 33 = .ok (.invokevirtual 62, 3) := by decide +kernel
theorem dX11_free_36 : decode cX11_free 36 = .ok (.ifCond .le 30, 3) := by decide +kernel
theorem dX11_free_39 : decode cX11_free 39 = .ok (.iload_n 3, 1) := by decide +kernel
theorem dX11_free_40 : decode cX11_free 40 = .ok (.aload_n 0, 1) := by decide +kernel
theorem dX11_free_41 : decode cX11_free 41 = .ok (.iload_n 2, 1) := by decide +kernel
theorem dX11_free_42 : decode cX11_free 42 = .ok (.invokevirtual 52, 3) := by decide +kernel
theorem dX11_free_45 : decode cX11_free 45 = .ok (.if_icmp .ge 21, 3) := by decide +kernel
theorem dX11_free_48 : decode cX11_free 48 = .ok (.aload_n 0, 1) := by decide +kernel
theorem dX11_free_49 : decode cX11_free 49 = .ok (.getfield 16, 3) := by decide +kernel
theorem dX11_free_52 : decode cX11_free 52 = .ok (.aload_n 0, 1) := by decide +kernel
theorem dX11_free_53 : decode cX11_free 53 = .ok (.iload_n 2, 1) := by decide +kernel
theorem dX11_free_54 : decode cX11_free 54 = .ok (.iload_n 3, 1) := by decide +kernel
theorem dX11_free_55 : decode cX11_free 55 = .ok (.invokevirtual 59, 3) := by decide +kernel
theorem dX11_free_58 : decode cX11_free 58 = .ok (.iconst 1, 1) := by decide +kernel
theorem dX11_free_59 : decode cX11_free 59 = .ok (.bastore, 1) := by decide +kernel
theorem dX11_free_60 : decode cX11_free 60 = .ok (.iinc 3 1, 3) := by decide +kernel
theorem dX11_free_63 : decode cX11_free 63 = .ok (.goto (-32), 3) := by decide +kernel
theorem dX11_free_66 : decode cX11_free 66 = .ok (.aload_n 0, 1) := by decide +kernel
theorem dX11_free_67 : decode cX11_free 67 = .ok (.iload_n 2, 1) := by decide +kernel
theorem dX11_free_68 : decode cX11_free 68 = .ok (.invokevirtual 62, 3) := by decide +kernel
theorem dX11_free_71 : decode cX11_free 71 = .ok (.ifCond .le 30, 3) := by decide +kernel
theorem dX11_free_74 : decode cX11_free 74 = .ok (.aload_n 0, 1) := by decide +kernel
theorem dX11_free_75 : decode cX11_free 75 = .ok (.iload_n 2, 1) := by decide +kernel
theorem dX11_free_76 : decode cX11_free 76 = .ok (.invokevirtual 52, 3) := by decide +kernel
theorem dX11_free_79 : decode cX11_free 79 = .ok (.iconst 5, 1) := by decide +kernel
theorem dX11_free_80 : decode cX11_free 80 = .ok (.if_icmp .le 21, 3) := by decide +kernel
theorem dX11_free_83 : decode cX11_free 83 = .ok (.aload_n 0, 1) := by decide +kernel
theorem dX11_free_84 : decode cX11_free 84 = .ok (.getfield 16, 3) := by decide +kernel
theorem dX11_free_87 : decode cX11_free 87 = .ok (.aload_n 0, 1) := by decide +kernel
theorem dX11_free_88 : decode cX11_free 88 = .ok (.getfield 13, 3) := by decide +kernel
theorem dX11_free_91 : decode cX11_free 91 = .ok (.iload_n 2, 1) := by decide +kernel
theorem dX11_free_92 : decode cX11_free 92 = .ok (.invokestatic 42, 3) := by decide +kernel
theorem dX11_free_95 : decode cX11_free 95 = .ok (.bipush 9, 2) := by decide +kernel
theorem dX11_free_97 : decode cX11_free 97 = .ok (.iadd, 1) := by decide +kernel
theorem dX11_free_98 : decode cX11_free 98 = .ok (.iaload, 1) := by decide +kernel
theorem dX11_free_99 : decode cX11_free 99 = .ok (.iconst 1, 1) := by decide +kernel
theorem dX11_free_100 : decode cX11_free 100 = .ok (.bastore, 1) := by decide +kernel
theorem dX11_free_101 : decode cX11_free 101 = .ok (.iinc 2 1, 3) := by decide +kernel
theorem dX11_free_104 : decode cX11_free 104 = .ok (.goto (-81), 3) := by decide +kernel
theorem dX11_free_107 : decode cX11_free 107 = .ok (.iload_n 1, 1) := by decide +kernel
theorem dX11_free_108 : decode cX11_free 108 = .ok (.iconst 1, 1) := by decide +kernel
theorem dX11_free_109 : decode cX11_free 109 = .ok (.iadd, 1) := by decide +kernel
theorem dX11_free_110 : decode cX11_free 110 = .ok (.istore_n 2, 1) := by decide +kernel
theorem dX11_free_111 : decode cX11_free 111 = .ok (.iload_n 2, 1) := by decide +kernel
theorem dX11_free_112 : decode cX11_free 112 = .ok (.bipush 63, 2) := by decide +kernel
theorem dX11_free_114 : decode cX11_free 114 = .ok (.if_icmp .ge 26, 3) := by decide +kernel
theorem dX11_free_117 : decode cX11_free 117 = .ok (.iload_n 2, 1) := by decide +kernel
theorem dX11_free_118 : decode cX11_free 118 = .ok (.bipush 16, 2) := by decide +kernel
theorem dX11_free_120 : decode cX11_free 120 = .ok (.if_icmp .lt 14, 3) := by decide +kernel
theorem dX11_free_123 : decode cX11_free 123 = .ok (.aload_n 0, 1) := by decide +kernel
theorem dX11_free_124 : decode cX11_free 124 = .ok (.getfield 16, 3) := by decide +kernel
theorem dX11_free_127 : decode cX11_free 127 = .ok (.iload_n 2, 1) := by decide +kernel
theorem dX11_free_128 : decode cX11_free 128 = .ok (.baload, 1) := by decide +kernel
theorem dX11_free_129 : decode cX11_free 129 = .ok (.ifCond .ne 5, 3) := by decide +kernel
theorem dX11_free_132 : decode cX11_free 132 = .ok (.iload_n 2, 1) := by decide +kernel
theorem dX11_free_133 : decode cX11_free 133 = .ok (.ireturn, 1) := by decide +kernel
theorem dX11_free_134 : decode cX11_free 134 = .ok (.iinc 2 1, 3) := by decide +kernel
theorem dX11_free_137 : decode cX11_free 137 = .ok (.goto (-26), 3) := by decide +kernel
theorem dX11_free_140 : decode cX11_free 140 = .ok (.iconst (-1), 1) := by decide +kernel
theorem dX11_free_141 : decode cX11_free 141 = .ok (.ireturn, 1) := by decide +kernel
theorem dX11_places_0 : decode cX11_places 0 = .ok (.aload_n 0, 1) := by decide +kernel
theorem dX11_places_1 : decode cX11_places 1 = .ok (.iload_n 1, 1) := by decide +kernel
theorem dX11_places_2 : decode cX11_places 2 = .ok (.invokevirtual 45, 3) := by decide +kernel
theorem dX11_places_5 : decode cX11_places 5 = .ok (.bipush 16, 2) := by decide +kernel
theorem dX11_places_7 : decode cX11_places 7 = .ok (.idiv, 1) := by decide +kernel
theorem dX11_places_8 : decode cX11_places 8 = .ok (.ireturn, 1) := by decide +kernel
theorem dX11_entry_0 : decode cX11_entry 0 = .ok (.bipush 64, 2) := by decide +kernel
theorem dX11_entry_2 : decode cX11_entry 2 = .ok (.aload_n 0, 1) := by decide +kernel
theorem dX11_entry_3 : decode cX11_entry 3 = .ok (.iload_n 1, 1) := by decide +kernel
theorem dX11_entry_4 : decode cX11_entry 4 = .ok (.iload_n 2, 1) := by decide +kernel
theorem dX11_entry_5 : decode cX11_entry 5 = .ok (.iconst 4, 1) := by decide +kernel
theorem dX11_entry_6 : decode cX11_entry 6 = .ok (.idiv, 1) := by decide +kernel
theorem dX11_entry_7 : decode cX11_entry 7 = .ok (.invokevirtual 59, 3) := by decide +kernel
theorem dX11_entry_10 : decode cX11_entry 10 = .ok (.imul, 1) := by decide +kernel
theorem dX11_entry_11 : decode cX11_entry 11 = .ok (.bipush 16, 2) := by decide +kernel
theorem dX11_entry_13 : decode cX11_entry 13 = .ok (.iload_n 2, 1) := by decide +kernel
theorem dX11_entry_14 : decode cX11_entry 14 = .ok (.iconst 4, 1) := by decide +kernel
theorem dX11_entry_15 : decode cX11_entry 15 = .ok (.irem, 1) := by decide +kernel
theorem dX11_entry_16 : decode cX11_entry 16 = .ok (.imul, 1) := by decide +kernel
theorem dX11_entry_17 : decode cX11_entry 17 = .ok (.iadd, 1) := by decide +kernel
theorem dX11_entry_18 : decode cX11_entry 18 = .ok (.ireturn, 1) := by decide +kernel
theorem dX11_write_0 : decode cX11_write 0 = .ok (.aload_n 0, 1) := by decide +kernel
theorem dX11_write_1 : decode cX11_write 1 = .ok (.iload_n 1, 1) := by decide +kernel
theorem dX11_write_2 : decode cX11_write 2 = .ok (.bipush 16, 2) := by decide +kernel
theorem dX11_write_4 : decode cX11_write 4 = .ok (.invokevirtual 65, 3) := by decide +kernel
theorem dX11_write_7 : decode cX11_write 7 = .ok (.aload_n 0, 1) := by decide +kernel
theorem dX11_write_8 : decode cX11_write 8 = .ok (.getfield 13, 3) := by decide +kernel
theorem dX11_write_11 : decode cX11_write 11 = .ok (.iload_n 1, 1) := by decide +kernel
theorem dX11_write_12 : decode cX11_write 12 = .ok (.iload_n 2, 1) := by decide +kernel
theorem dX11_write_13 : decode cX11_write 13 = .ok (.iastore, 1) := by decide +kernel
theorem dX11_write_14 : decode cX11_write 14 = .ok (.aload_n 0, 1) := by decide +kernel
theorem dX11_write_15 : decode cX11_write 15 = .ok (.getfield 13, 3) := by decide +kernel
theorem dX11_write_18 : decode cX11_write 18 = .ok (.iload_n 1, 1) := by decide +kernel
theorem dX11_write_19 : decode cX11_write 19 = .ok (.iconst 1, 1) := by decide +kernel
theorem dX11_write_20 : decode cX11_write 20 = .ok (.iadd, 1) := by decide +kernel
theorem dX11_write_21 : decode cX11_write 21 = .ok (.aload_n 0, 1) := by decide +kernel
theorem dX11_write_22 : decode cX11_write 22 = .ok (.getfield 69, 3) := by decide +kernel
theorem dX11_write_25 : decode cX11_write 25 = .ok (.iastore, 1) := by decide +kernel
theorem dX11_write_26 : decode cX11_write 26 = .ok (.iconst 0, 1) := by decide +kernel
theorem dX11_write_27 : decode cX11_write 27 = .ok (.istore_n 3, 1) := by decide +kernel
theorem dX11_write_28 : decode cX11_write 28 = .ok (.iload_n 3, 1) := by decide +kernel
theorem dX11_write_29 : decode cX11_write 29 = .ok (.aload_n 0, 1) := by decide +kernel
theorem dX11_write_30 : decode cX11_write 30 = .ok (.getfield 69, 3) := by decide +kernel
theorem dX11_write_33 : decode cX11_write 33 = .ok (.if_icmp .ge 25, 3) := by decide +kernel
theorem dX11_write_36 : decode cX11_write 36 = .ok (.aload_n 0, 1) := by decide +kernel
theorem dX11_write_37 : decode cX11_write 37 = .ok (.getfield 13, 3) := by decide +kernel
theorem dX11_write_40 : decode cX11_write 40 = .ok (.iload_n 1, 1) := by decide +kernel
theorem dX11_write_41 : decode cX11_write 41 = .ok (.iconst 2, 1) := by decide +kernel
theorem dX11_write_42 : decode cX11_write 42 = .ok (.iadd, 1) := by decide +kernel
theorem dX11_write_43 : decode cX11_write 43 = .ok (.iload_n 3, 1) := by decide +kernel
theorem dX11_write_44 : decode cX11_write 44 = .ok (.iadd, 1) := by decide +kernel
theorem dX11_write_45 : decode cX11_write 45 = .ok (.aload_n 0, 1) := by decide +kernel
theorem dX11_write_46 : decode cX11_write 46 = .ok (.getfield 26, 3) := by decide +kernel
theorem dX11_write_49 : decode cX11_write 49 = .ok (.iload_n 3, 1) := by decide +kernel
theorem dX11_write_50 : decode cX11_write 50 = .ok (.iaload, 1) := by decide +kernel
theorem dX11_write_51 : decode cX11_write 51 = .ok (.iastore, 1) := by decide +kernel
theorem dX11_write_52 : decode cX11_write 52 = .ok (.iinc 3 1, 3) := by decide +kernel
theorem dX11_write_55 : decode cX11_write 55 = .ok (.goto (-27), 3) := by decide +kernel
theorem dX11_write_58 : decode cX11_write 58 = .ok (.return_, 1) := by decide +kernel
theorem dX11_dots_0 : decode cX11_dots 0 = .ok (.aload_n 0, 1) := by decide +kernel
theorem dX11_dots_1 : decode cX11_dots 1 = .ok (.iload_n 1, 1) := by decide +kernel
theorem dX11_dots_2 : decode cX11_dots 2 = .ok (.putfield 69, 3) := by decide +kernel
theorem dX11_dots_5 : decode cX11_dots 5 = .ok (.iconst 0, 1) := by decide +kernel
theorem dX11_dots_6 : decode cX11_dots 6 = .ok (.istore_n 2, 1) := by decide +kernel
theorem dX11_dots_7 : decode cX11_dots 7 = .ok (.iload_n 2, 1) := by decide +kernel
theorem dX11_dots_8 : decode cX11_dots 8 = .ok (.iload_n 1, 1) := by decide +kernel
theorem dX11_dots_9 : decode cX11_dots 9 = .ok (.if_icmp .ge 17, 3) := by decide +kernel
theorem dX11_dots_12 : decode cX11_dots 12 = .ok (.aload_n 0, 1) := by decide +kernel
theorem dX11_dots_13 : decode cX11_dots 13 = .ok (.getfield 26, 3) := by decide +kernel
theorem dX11_dots_16 : decode cX11_dots 16 = .ok (.iload_n 2, 1) := by decide +kernel
theorem dX11_dots_17 : decode cX11_dots 17 = .ok (.bipush 46, 2) := by decide +kernel
theorem dX11_dots_19 : decode cX11_dots 19 = .ok (.iastore, 1) := by decide +kernel
theorem dX11_dots_20 : decode cX11_dots 20 = .ok (.iinc 2 1, 3) := by decide +kernel
theorem dX11_dots_23 : decode cX11_dots 23 = .ok (.goto (-16), 3) := by decide +kernel
theorem dX11_dots_26 : decode cX11_dots 26 = .ok (.return_, 1) := by decide +kernel
theorem dX11_isName_0 : decode cX11_isName 0 = .ok (.aload_n 0, 1) := by decide +kernel
theorem dX11_isName_1 : decode cX11_isName 1 = .ok (.getfield 13, 3) := by decide +kernel
theorem dX11_isName_4 : decode cX11_isName 4 = .ok (.iload_n 1, 1) := by decide +kernel
theorem dX11_isName_5 : decode cX11_isName 5 = .ok (.iconst 1, 1) := by decide +kernel
theorem dX11_isName_6 : decode cX11_isName 6 = .ok (.iadd, 1) := by decide +kernel
theorem dX11_isName_7 : decode cX11_isName 7 = .ok (.iaload, 1) := by decide +kernel
theorem dX11_isName_8 : decode cX11_isName 8 = .ok (.aload_n 0, 1) := by decide +kernel
theorem dX11_isName_9 : decode cX11_isName 9 = .ok (.getfield 69, 3) := by decide +kernel
theorem dX11_isName_12 : decode cX11_isName 12 = .ok (.if_icmp .ne 7, 3) := by decide +kernel
theorem dX11_isName_15 : decode cX11_isName 15 = .ok (.iconst 1, 1) := by decide +kernel
theorem dX11_isName_16 : decode cX11_isName 16 = .ok (.goto 4, 3) := by decide +kernel
theorem dX11_isName_19 : decode cX11_isName 19 = .ok (.iconst 0, 1) := by decide +kernel
theorem dX11_isName_20 : decode cX11_isName 20 = .ok (.istore_n 2, 1) := by decide +kernel
theorem dX11_isName_21 : decode cX11_isName 21 = .ok (.iconst 0, 1) := by decide +kernel
theorem dX11_isName_22 : decode cX11_isName 22 = .ok (.istore_n 3, 1) := by decide +kernel
theorem dX11_isName_23 : decode cX11_isName 23 = .ok (.iload_n 3, 1) := by decide +kernel
theorem dX11_isName_24 : decode cX11_isName 24 = .ok (.aload_n 0, 1) := by decide +kernel
theorem dX11_isName_25 : decode cX11_isName 25 = .ok (.getfield 69, 3) := by decide +kernel
theorem dX11_isName_28 : decode cX11_isName 28 = .ok (.if_icmp .ge 38, 3) := by decide +kernel
theorem dX11_isName_31 : decode cX11_isName 31 = .ok (.iload_n 2, 1) := by decide +kernel
theorem dX11_isName_32 : decode cX11_isName 32 = .ok (.ifCond .eq 26, 3) := by decide +kernel
theorem dX11_isName_35 : decode cX11_isName 35 = .ok (.aload_n 0, 1) := by decide +kernel
theorem dX11_isName_36 : decode cX11_isName 36 = .ok (.getfield 13, 3) := by decide +kernel
theorem dX11_isName_39 : decode cX11_isName 39 = .ok (.iload_n 1, 1) := by decide +kernel
theorem dX11_isName_40 : decode cX11_isName 40 = .ok (.iconst 2, 1) := by decide +kernel
theorem dX11_isName_41 : decode cX11_isName 41 = .ok (.iadd, 1) := by decide +kernel
theorem dX11_isName_42 : decode cX11_isName 42 = .ok (.iload_n 3, 1) := by decide +kernel
theorem dX11_isName_43 : decode cX11_isName 43 = .ok (.iadd, 1) := by decide +kernel
theorem dX11_isName_44 : decode cX11_isName 44 = .ok (.iaload, 1) := by decide +kernel
theorem dX11_isName_45 : decode cX11_isName 45 = .ok (.aload_n 0, 1) := by decide +kernel
theorem dX11_isName_46 : decode cX11_isName 46 = .ok (.getfield 26, 3) := by decide +kernel
theorem dX11_isName_49 : decode cX11_isName 49 = .ok (.iload_n 3, 1) := by decide +kernel
theorem dX11_isName_50 : decode cX11_isName 50 = .ok (.iaload, 1) := by decide +kernel
theorem dX11_isName_51 : decode cX11_isName 51 = .ok (.if_icmp .ne 7, 3) := by decide +kernel
theorem dX11_isName_54 : decode cX11_isName 54 = .ok (.iconst 1, 1) := by decide +kernel
theorem dX11_isName_55 : decode cX11_isName 55 = .ok (.goto 4, 3) := by decide +kernel
theorem dX11_isName_58 : decode cX11_isName 58 = .ok (.iconst 0, 1) := by decide +kernel
theorem dX11_isName_59 : decode cX11_isName 59 = .ok (.istore_n 2, 1) := by decide +kernel
theorem dX11_isName_60 : decode cX11_isName 60 = .ok (.iinc 3 1, 3) := by decide +kernel
theorem dX11_isName_63 : decode cX11_isName 63 = .ok (.goto (-40), 3) := by decide +kernel
theorem dX11_isName_66 : decode cX11_isName 66 = .ok (.iload_n 2, 1) := by decide +kernel
theorem dX11_isName_67 : decode cX11_isName 67 = .ok (.ireturn, 1) := by decide +kernel
theorem dX11_find_0 : decode cX11_find 0 = .ok (.iconst 2, 1) := by decide +kernel
theorem dX11_find_1 : decode cX11_find 1 = .ok (.istore_n 3, 1) := by decide +kernel
theorem dX11_find_2 : decode cX11_find 2 = .ok (.iload_n 3, 1) := by decide +kernel
theorem dX11_find_3 : decode cX11_find 3 = .ok (.iload_n 2, 1) := by decide +kernel
theorem dX11_find_4 : decode cX11_find 4 = .ok (.if_icmp .ge 38, 3) := by decide +kernel
theorem dX11_find_7 : decode cX11_find 7 = .ok (.aload_n 0, 1) := by decide +kernel
theorem dX11_find_8 : decode cX11_find 8 = .ok (.getfield 13, 3) := by decide +kernel
theorem dX11_find_11 : decode cX11_find 11 = .ok (.aload_n 0, 1) := by decide +kernel
theorem dX11_find_12 : decode cX11_find 12 = .ok (.iload_n 1, 1) := by decide +kernel
theorem dX11_find_13 : decode cX11_find 13 = .ok (.iload_n 3, 1) := by decide +kernel
theorem dX11_find_14 : decode cX11_find 14 = .ok (.invokevirtual 73, 3) := by decide +kernel
theorem dX11_find_17 : decode cX11_find 17 = .ok (.iaload, 1) := by decide +kernel
theorem dX11_find_18 : decode cX11_find 18 = .ok (.ifCond .eq 18, 3) := by decide +kernel
theorem dX11_find_21 : decode cX11_find 21 = .ok (.aload_n 0, 1) := by decide +kernel
theorem dX11_find_22 : decode cX11_find 22 = .ok (.aload_n 0, 1) := by decide +kernel
theorem dX11_find_23 : decode cX11_find 23 = .ok (.iload_n 1, 1) := by decide +kernel
theorem dX11_find_24 : decode cX11_find 24 = .ok (.iload_n 3, 1) := by decide +kernel
theorem dX11_find_25 : decode cX11_find 25 = .ok (.invokevirtual 73, 3) := by decide +kernel
theorem dX11_find_28 : decode cX11_find 28 = .ok (.invokevirtual 76, 3) := by decide +kernel
theorem dX11_find_31 : decode cX11_find 31 = .ok (.ifCond .eq 5, 3) := by decide +kernel
theorem dX11_find_34 : decode cX11_find 34 = .ok (.iload_n 3, 1) := by decide +kernel
theorem dX11_find_35 : decode cX11_find 35 = .ok (.ireturn, 1) := by decide +kernel
theorem dX11_find_36 : decode cX11_find 36 = .ok (.iinc 3 1, 3) := by decide +kernel
theorem dX11_find_39 : decode cX11_find 39 = .ok (.goto (-37), 3) := by decide +kernel
theorem dX11_find_42 : decode cX11_find 42 = .ok (.iconst (-1), 1) := by decide +kernel
theorem dX11_find_43 : decode cX11_find 43 = .ok (.ireturn, 1) := by decide +kernel
theorem dX11_isValid_0 : decode cX11_isValid 0 = .ok (.aload_n 0, 1) := by decide +kernel
theorem dX11_isValid_1 : decode cX11_isValid 1 = .ok (.iload_n 1, 1) := by decide +kernel
theorem dX11_isValid_2 : decode cX11_isValid 2 = .ok (.iload_n 2, 1) := by decide +kernel
theorem dX11_isValid_3 : decode cX11_isValid 3 = .ok (.invokevirtual 73, 3) := by decide +kernel
theorem dX11_isValid_6 : decode cX11_isValid 6 = .ok (.istore_n 3, 1) := by decide +kernel
theorem dX11_isValid_7 : decode cX11_isValid 7 = .ok (.aload_n 0, 1) := by decide +kernel
theorem dX11_isValid_8 : decode cX11_isValid 8 = .ok (.getfield 13, 3) := by decide +kernel
theorem dX11_isValid_11 : decode cX11_isValid 11 = .ok (.iload_n 3, 1) := by decide +kernel
theorem dX11_isValid_12 : decode cX11_isValid 12 = .ok (.iaload, 1) := by decide +kernel
theorem dX11_isValid_13 : decode cX11_isValid 13 = .ok (.istore 4, 2) := by decide +kernel
theorem dX11_isValid_15 : decode cX11_isValid 15 = .ok (.aload_n 0, 1) := by decide +kernel
theorem dX11_isValid_16 : decode cX11_isValid 16 = .ok (.getfield 13, 3) := by decide +kernel
theorem dX11_isValid_19 : decode cX11_isValid 19 = .ok (.iload_n 3, 1) := by decide +kernel
theorem dX11_isValid_20 : decode cX11_isValid 20 = .ok (.iconst 1, 1) := by decide +kernel
theorem dX11_isValid_21 : decode cX11_isValid 21 = .ok (.iadd, 1) := by decide +kernel
theorem dX11_isValid_22 : decode cX11_isValid 22 = .ok (.iaload, 1) := by decide +kernel
theorem dX11_isValid_23 : decode cX11_isValid 23 = .ok (.istore 5, 2) := by decide +kernel
theorem dX11_isValid_25 : decode cX11_isValid 25 = .ok (.iload 4, 2) := by decide +kernel
theorem dX11_isValid_27 : decode cX11_isValid 27 = .ok (.iconst 3, 1) := by decide +kernel
theorem dX11_isValid_28 : decode cX11_isValid 28 = .ok (.if_icmp .lt 50, 3) := by decide +kernel
theorem dX11_isValid_31 : decode cX11_isValid 31 = .ok (.iload 4, 2) := by decide +kernel
theorem dX11_isValid_33 : decode cX11_isValid 33 = .ok (.bipush 32, 2) := by decide +kernel
theorem dX11_isValid_35 : decode cX11_isValid 35 = .ok (.if_icmp .ge 43, 3) := by decide +kernel
theorem dX11_isValid_38 : decode cX11_isValid 38 = .ok (.aload_n 0, 1) := by decide +kernel
theorem dX11_isValid_39 : decode cX11_isValid 39 = .ok (.iload 4, 2) := by decide +kernel
theorem dX11_isValid_41 : decode cX11_isValid 41 = .ok (.invokevirtual 62, 3) := by decide +kernel
theorem dX11_isValid_44 : decode cX11_isValid 44 = .ok (.ifCond .eq 34, 3) := by decide +kernel
theorem dX11_isValid_47 : decode cX11_isValid 47 = .ok (.iload 5, 2) := by decide +kernel
theorem dX11_isValid_49 : decode cX11_isValid 49 = .ok (.iconst 1, 1) := by decide +kernel
theorem dX11_isValid_50 : decode cX11_isValid 50 = .ok (.if_icmp .lt 28, 3) := by decide +kernel
theorem dX11_isValid_53 : decode cX11_isValid 53 = .ok (.iload 5, 2) := by decide +kernel
theorem dX11_isValid_55 : decode cX11_isValid 55 = .ok (.bipush 14, 2) := by decide +kernel
theorem dX11_isValid_57 : decode cX11_isValid 57 = .ok (.if_icmp .gt 21, 3) := by decide +kernel
theorem dX11_isValid_60 : decode cX11_isValid 60 = .ok (.aload_n 0, 1) := by decide +kernel
theorem dX11_isValid_61 : decode cX11_isValid 61 = .ok (.iload_n 3, 1) := by decide +kernel
theorem dX11_isValid_62 : decode cX11_isValid 62 = .ok (.iconst 2, 1) := by decide +kernel
theorem dX11_isValid_63 : decode cX11_isValid 63 = .ok (.iadd, 1) := by decide +kernel
theorem dX11_isValid_64 : decode cX11_isValid 64 = .ok (.iload 5, 2) := by decide +kernel
theorem dX11_isValid_66 : decode cX11_isValid 66 = .ok (.iadd, 1) := by decide +kernel
theorem dX11_isValid_67 : decode cX11_isValid 67 = .ok (.bipush 14, 2) := by decide +kernel
theorem dX11_isValid_69 : decode cX11_isValid 69 = .ok (.iload 5, 2) := by decide +kernel
theorem dX11_isValid_71 : decode cX11_isValid 71 = .ok (.isub, 1) := by decide +kernel
theorem dX11_isValid_72 : decode cX11_isValid 72 = .ok (.invokevirtual 48, 3) := by decide +kernel
theorem dX11_isValid_75 : decode cX11_isValid 75 = .ok (.ifCond .ne 5, 3) := by decide +kernel
theorem dX11_isValid_78 : decode cX11_isValid 78 = .ok (.iconst 0, 1) := by decide +kernel
theorem dX11_isValid_79 : decode cX11_isValid 79 = .ok (.ireturn, 1) := by decide +kernel
theorem dX11_isValid_80 : decode cX11_isValid 80 = .ok (.aload_n 0, 1) := by decide +kernel
theorem dX11_isValid_81 : decode cX11_isValid 81 = .ok (.iload 5, 2) := by decide +kernel
theorem dX11_isValid_83 : decode cX11_isValid 83 = .ok (.putfield 69, 3) := by decide +kernel
theorem dX11_isValid_86 : decode cX11_isValid 86 = .ok (.iconst 1, 1) := by decide +kernel
theorem dX11_isValid_87 : decode cX11_isValid 87 = .ok (.istore 6, 2) := by decide +kernel
theorem dX11_isValid_89 : decode cX11_isValid 89 = .ok (.iload 5, 2) := by decide +kernel
theorem dX11_isValid_91 : decode cX11_isValid 91 = .ok (.iconst 3, 1) := by decide +kernel
theorem dX11_isValid_92 : decode cX11_isValid 92 = .ok (.if_icmp .ge 7, 3) := by decide +kernel
theorem dX11_isValid_95 : decode cX11_isValid 95 = .ok (.iconst 1, 1) := by decide +kernel
theorem dX11_isValid_96 : decode cX11_isValid 96 = .ok (.goto 4, 3) := by decide +kernel
theorem dX11_isValid_99 : decode cX11_isValid 99 = .ok (.iconst 0, 1) := by decide +kernel
theorem dX11_isValid_100 : decode cX11_isValid 100 = .ok (.istore 7, 2) := by decide +kernel
theorem dX11_isValid_102 : decode cX11_isValid 102 = .ok (.iconst 0, 1) := by decide +kernel
theorem dX11_isValid_103 : decode cX11_isValid 103 = .ok (.istore 8, 2) := by decide +kernel
theorem dX11_isValid_105 : decode cX11_isValid 105 = .ok (.iload 8, 2) := by decide +kernel
theorem dX11_isValid_107 : decode cX11_isValid 107 = .ok (.iload 5, 2) := by decide +kernel
theorem dX11_isValid_109 : decode cX11_isValid 109 = .ok (.if_icmp .ge 85, 3) := by decide +kernel
theorem dX11_isValid_112 : decode cX11_isValid 112 = .ok (.aload_n 0, 1) := by decide +kernel
theorem dX11_isValid_113 : decode cX11_isValid 113 = .ok (.getfield 26, 3) := by decide +kernel
theorem dX11_isValid_116 : decode cX11_isValid 116 = .ok (.iload 8, 2) := by decide +kernel
theorem dX11_isValid_118 : decode cX11_isValid 118 = .ok (.aload_n 0, 1) := by decide +kernel
theorem dX11_isValid_119 : decode cX11_isValid 119 = .ok (.getfield 13, 3) := by decide +kernel
theorem dX11_isValid_122 : decode cX11_isValid 122 = .ok (.iload_n 3, 1) := by decide +kernel
theorem dX11_isValid_123 : decode cX11_isValid 123 = .ok (.iconst 2, 1) := by decide +kernel
theorem dX11_isValid_124 : decode cX11_isValid 124 = .ok (.iadd, 1) := by decide +kernel
theorem dX11_isValid_125 : decode cX11_isValid 125 = .ok (.iload 8, 2) := by decide +kernel
theorem dX11_isValid_127 : decode cX11_isValid 127 = .ok (.iadd, 1) := by decide +kernel
theorem dX11_isValid_128 : decode cX11_isValid 128 = .ok (.iaload, 1) := by decide +kernel
theorem dX11_isValid_129 : decode cX11_isValid 129 = .ok (.iastore, 1) := by decide +kernel
theorem dX11_isValid_130 : decode cX11_isValid 130 = .ok (.iload 6, 2) := by decide +kernel
theorem dX11_isValid_132 : decode cX11_isValid 132 = .ok (.ifCond .eq 29, 3) := by decide +kernel
theorem dX11_isValid_135 : decode cX11_isValid 135 = .ok (.aload_n 0, 1) := by decide +kernel
theorem dX11_isValid_136 : decode cX11_isValid 136 = .ok (.getfield 26, 3) := by decide +kernel
theorem dX11_isValid_139 : decode cX11_isValid 139 = .ok (.iload 8, 2) := by decide +kernel
theorem dX11_isValid_141 : decode cX11_isValid 141 = .ok (.iaload, 1) := by decide +kernel
theorem dX11_isValid_142 : decode cX11_isValid 142 = .ok (.ifCond .eq 19, 3) := by decide +kernel
theorem dX11_isValid_145 : decode cX11_isValid 145 = .ok (.aload_n 0, 1) := by decide +kernel
theorem dX11_isValid_146 : decode cX11_isValid 146 = .ok (.getfield 26, 3) := by decide +kernel
theorem dX11_isValid_149 : decode cX11_isValid 149 = .ok (.iload 8, 2) := by decide +kernel
theorem dX11_isValid_151 : decode cX11_isValid 151 = .ok (.iaload, 1) := by decide +kernel
theorem dX11_isValid_152 : decode cX11_isValid 152 = .ok (.bipush 47, 2) := by decide +kernel
theorem dX11_isValid_154 : decode cX11_isValid 154 = .ok (.if_icmp .eq 7, 3) := by decide +kernel
theorem dX11_isValid_157 : decode cX11_isValid 157 = .ok (.iconst 1, 1) := by decide +kernel
theorem dX11_isValid_158 : decode cX11_isValid 158 = .ok (.goto 4, 3) := by decide +kernel
theorem dX11_isValid_161 : decode cX11_isValid 161 = .ok (.iconst 0, 1) := by decide +kernel
theorem dX11_isValid_162 : decode cX11_isValid 162 = .ok (.istore 6, 2) := by decide +kernel
theorem dX11_isValid_164 : decode cX11_isValid 164 = .ok (.iload 7, 2) := by decide +kernel
theorem dX11_isValid_166 : decode cX11_isValid 166 = .ok (.ifCond .eq 19, 3) := by decide +kernel
theorem dX11_isValid_169 : decode cX11_isValid 169 = .ok (.aload_n 0, 1) := by decide +kernel
theorem dX11_isValid_170 : decode cX11_isValid 170 = .ok (.getfield 26, 3) := by decide +kernel
theorem dX11_isValid_173 : decode cX11_isValid 173 = .ok (.iload 8, 2) := by decide +kernel
theorem dX11_isValid_175 : decode cX11_isValid 175 = .ok (.iaload, 1) := by decide +kernel
theorem dX11_isValid_176 : decode cX11_isValid 176 = .ok (.bipush 46, 2) := by decide +kernel
theorem dX11_isValid_178 : decode cX11_isValid 178 = .ok (.if_icmp .ne 7, 3) := by decide +kernel
theorem dX11_isValid_181 : decode cX11_isValid 181 = .ok (.iconst 1, 1) := by decide +kernel
theorem dX11_isValid_182 : decode cX11_isValid 182 = .ok (.goto 4, 3) := by decide +kernel
theorem dX11_isValid_185 : decode cX11_isValid 185 = .ok (.iconst 0, 1) := by decide +kernel
theorem dX11_isValid_186 : decode cX11_isValid 186 = .ok (.istore 7, 2) := by decide +kernel
theorem dX11_isValid_188 : decode cX11_isValid 188 = .ok (.iinc 8 1, 3) := by decide +kernel
theorem dX11_isValid_191 : decode cX11_isValid 191 = .ok (.goto (-86), 3) := by decide +kernel
theorem dX11_isValid_194 : decode cX11_isValid 194 = .ok (.iload 6, 2) := by decide +kernel
theorem dX11_isValid_196 : decode cX11_isValid 196 = .ok (.ifCond .eq 22, 3) := by decide +kernel
theorem dX11_isValid_199 : decode cX11_isValid 199 = .ok (.iload 7, 2) := by decide +kernel
theorem dX11_isValid_201 : decode cX11_isValid 201 = .ok (.ifCond .ne 17, 3) := by decide +kernel
theorem dX11_isValid_204 : decode cX11_isValid 204 = .ok (.aload_n 0, 1) := by decide +kernel
theorem dX11_isValid_205 : decode cX11_isValid 205 = .ok (.iload_n 1, 1) := by decide +kernel
theorem dX11_isValid_206 : decode cX11_isValid 206 = .ok (.iload_n 2, 1) := by decide +kernel
theorem dX11_isValid_207 : decode cX11_isValid 207 = .ok (.invokevirtual 79, 3) := by decide +kernel
theorem dX11_isValid_210 : decode cX11_isValid 210 = .ok (.iconst (-1), 1) := by decide +kernel
theorem dX11_isValid_211 : decode cX11_isValid 211 = .ok (.if_icmp .ne 7, 3) := by decide +kernel
theorem dX11_isValid_214 : decode cX11_isValid 214 = .ok (.iconst 1, 1) := by decide +kernel
theorem dX11_isValid_215 : decode cX11_isValid 215 = .ok (.goto 4, 3) := by decide +kernel
theorem dX11_isValid_218 : decode cX11_isValid 218 = .ok (.iconst 0, 1) := by decide +kernel
theorem dX11_isValid_219 : decode cX11_isValid 219 = .ok (.ireturn, 1) := by decide +kernel
theorem dX11_lostName_0 : decode cX11_lostName 0 = .ok (.ldc 82, 2) := by decide +kernel
theorem dX11_lostName_2 : decode cX11_lostName 2 = .ok (.astore_n 1, 1) := by decide +kernel
theorem dX11_lostName_3 : decode cX11_lostName 3 = .ok (.aload_n 0, 1) := by decide +kernel
theorem dX11_lostName_4 : decode cX11_lostName 4 = .ok (.bipush 10, 2) := by decide +kernel
theorem dX11_lostName_6 : decode cX11_lostName 6 = .ok (.putfield 69, 3) := by decide +kernel
theorem dX11_lostName_9 : decode cX11_lostName 9 = .ok (.iconst 0, 1) := by decide +kernel
theorem dX11_lostName_10 : decode cX11_lostName 10 = .ok (.istore_n 2, 1) := by decide +kernel
theorem dX11_lostName_11 : decode cX11_lostName 11 = .ok (.iload_n 2, 1) := by decide +kernel
theorem dX11_lostName_12 : decode cX11_lostName 12 = .ok (.bipush 10, 2) := by decide +kernel
theorem dX11_lostName_14 : decode cX11_lostName 14 = .ok (.if_icmp .ge 20, 3) := by decide +kernel
theorem dX11_lostName_17 : decode cX11_lostName 17 = .ok (.aload_n 0, 1) := by decide +kernel
theorem dX11_lostName_18 : decode cX11_lostName 18 = .ok (.getfield 26, 3) := by decide +kernel
theorem dX11_lostName_21 : decode cX11_lostName 21 = .ok (.iload_n 2, 1) := by decide +kernel
theorem dX11_lostName_22 : decode cX11_lostName 22 = .ok (.aload_n 1, 1) := by decide +kernel
theorem dX11_lostName_23 : decode cX11_lostName 23 = .ok (.iload_n 2, 1) := by decide +kernel
theorem dX11_lostName_24 : decode cX11_lostName 24 = .ok (.invokevirtual 84, 3) := by decide +kernel
theorem dX11_lostName_27 : decode cX11_lostName 27 = .ok (.iastore, 1) := by decide +kernel
theorem dX11_lostName_28 : decode cX11_lostName 28 = .ok (.iinc 2 1, 3) := by decide +kernel
theorem dX11_lostName_31 : decode cX11_lostName 31 = .ok (.goto (-20), 3) := by decide +kernel
theorem dX11_lostName_34 : decode cX11_lostName 34 = .ok (.return_, 1) := by decide +kernel
theorem dX11_replay_0 : decode cX11_replay 0 = .ok (.aload_n 0, 1) := by decide +kernel
theorem dX11_replay_1 : decode cX11_replay 1 = .ok (.getfield 13, 3) := by decide +kernel
theorem dX11_replay_4 : decode cX11_replay 4 = .ok (.bipush 68, 2) := by decide +kernel
theorem dX11_replay_6 : decode cX11_replay 6 = .ok (.iaload, 1) := by decide +kernel
theorem dX11_replay_7 : decode cX11_replay 7 = .ok (.istore_n 1, 1) := by decide +kernel
theorem dX11_replay_8 : decode cX11_replay 8 = .ok (.aload_n 0, 1) := by decide +kernel
theorem dX11_replay_9 : decode cX11_replay 9 = .ok (.bipush 64, 2) := by decide +kernel
theorem dX11_replay_11 : decode cX11_replay 11 = .ok (.bipush 74, 2) := by decide +kernel
theorem dX11_replay_13 : decode cX11_replay 13 = .ok (.bipush 82, 2) := by decide +kernel
theorem dX11_replay_15 : decode cX11_replay 15 = .ok (.bipush 78, 2) := by decide +kernel
theorem dX11_replay_17 : decode cX11_replay 17 = .ok (.bipush 76, 2) := by decide +kernel
theorem dX11_replay_19 : decode cX11_replay 19 = .ok (.invokevirtual 30, 3) := by decide +kernel
theorem dX11_replay_22 : decode cX11_replay 22 = .ok (.ifCond .eq 17, 3) := by decide +kernel
theorem dX11_replay_25 : decode cX11_replay 25 = .ok (.iload_n 1, 1) := by decide +kernel
theorem dX11_replay_26 : decode cX11_replay 26 = .ok (.iconst 1, 1) := by decide +kernel
theorem dX11_replay_27 : decode cX11_replay 27 = .ok (.if_icmp .lt 12, 3) := by decide +kernel
theorem dX11_replay_30 : decode cX11_replay 30 = .ok (.iload_n 1, 1) := by decide +kernel
theorem dX11_replay_31 : decode cX11_replay 31 = .ok (.iconst 5, 1) := by decide +kernel
theorem dX11_replay_32 : decode cX11_replay 32 = .ok (.if_icmp .gt 7, 3) := by decide +kernel
theorem dX11_replay_35 : decode cX11_replay 35 = .ok (.iconst 1, 1) := by decide +kernel
theorem dX11_replay_36 : decode cX11_replay 36 = .ok (.goto 4, 3) := by decide +kernel
theorem dX11_replay_39 : decode cX11_replay 39 = .ok (.iconst 0, 1) := by decide +kernel
theorem dX11_replay_40 : decode cX11_replay 40 = .ok (.istore_n 2, 1) := by decide +kernel
theorem dX11_replay_41 : decode cX11_replay 41 = .ok (.iload_n 2, 1) := by decide +kernel
theorem dX11_replay_42 : decode cX11_replay 42 = .ok (.ifCond .eq 144, 3) := by decide +kernel
theorem dX11_replay_45 : decode cX11_replay 45 = .ok (.aload_n 0, 1) := by decide +kernel
theorem dX11_replay_46 : decode cX11_replay 46 = .ok (.bipush 69, 2) := by decide +kernel
theorem dX11_replay_48 : decode cX11_replay 48 = .ok (.iload_n 1, 1) := by decide +kernel
theorem dX11_replay_49 : decode cX11_replay 49 = .ok (.iadd, 1) := by decide +kernel
theorem dX11_replay_50 : decode cX11_replay 50 = .ok (.bipush 57, 2) := by decide +kernel
theorem dX11_replay_52 : decode cX11_replay 52 = .ok (.iload_n 1, 1) := by decide +kernel
theorem dX11_replay_53 : decode cX11_replay 53 = .ok (.isub, 1) := by decide +kernel
theorem dX11_replay_54 : decode cX11_replay 54 = .ok (.invokevirtual 48, 3) := by decide +kernel
theorem dX11_replay_57 : decode cX11_replay 57 = .ok (.ifCond .eq 39, 3) := by decide +kernel
theorem dX11_replay_60 : decode cX11_replay 60 = .ok (.aload_n 0, 1) := by decide +kernel
theorem dX11_replay_61 : decode cX11_replay 61 = .ok (.bipush 126, 2) := by decide +kernel
theorem dX11_replay_63 : decode cX11_replay 63 = .ok (.invokevirtual 34, 3) := by decide +kernel
theorem dX11_replay_66 : decode cX11_replay 66 = .ok (.aload_n 0, 1) := by decide +kernel
theorem dX11_replay_67 : decode cX11_replay 67 = .ok (.bipush 64, 2) := by decide +kernel
theorem dX11_replay_69 : decode cX11_replay 69 = .ok (.bipush 62, 2) := by decide +kernel
theorem dX11_replay_71 : decode cX11_replay 71 = .ok (.invokevirtual 38, 3) := by decide +kernel
theorem dX11_replay_74 : decode cX11_replay 74 = .ok (.aload_n 0, 1) := by decide +kernel
theorem dX11_replay_75 : decode cX11_replay 75 = .ok (.sipush 128, 3) := by decide +kernel
theorem dX11_replay_78 : decode cX11_replay 78 = .ok (.iload_n 1, 1) := by decide +kernel
theorem dX11_replay_79 : decode cX11_replay 79 = .ok (.bipush 64, 2) := by decide +kernel
theorem dX11_replay_81 : decode cX11_replay 81 = .ok (.imul, 1) := by decide +kernel
theorem dX11_replay_82 : decode cX11_replay 82 = .ok (.invokevirtual 38, 3) := by decide +kernel
theorem dX11_replay_85 : decode cX11_replay 85 = .ok (.iadd, 1) := by decide +kernel
theorem dX11_replay_86 : decode cX11_replay 86 = .ok (.ldc 29, 2) := by decide +kernel
theorem dX11_replay_88 : decode cX11_replay 88 = .ok (.irem, 1) := by decide +kernel
theorem dX11_replay_89 : decode cX11_replay 89 = .ok (.if_icmp .ne 7, 3) := by decide +kernel
theorem dX11_replay_92 : decode cX11_replay 92 = .ok (.iconst 1, 1) := by decide +kernel
theorem dX11_replay_93 : decode cX11_replay 93 = .ok (.goto 4, 3) := by decide +kernel
theorem dX11_replay_96 : decode cX11_replay 96 = .ok (.iconst 0, 1) := by decide +kernel
theorem dX11_replay_97 : decode cX11_replay 97 = .ok (.istore_n 2, 1) := by decide +kernel
theorem dX11_replay_98 : decode cX11_replay 98 = .ok (.iconst 0, 1) := by decide +kernel
theorem dX11_replay_99 : decode cX11_replay 99 = .ok (.istore_n 3, 1) := by decide +kernel
theorem dX11_replay_100 : decode cX11_replay 100 = .ok (.iload_n 3, 1) := by decide +kernel
theorem dX11_replay_101 : decode cX11_replay 101 = .ok (.iload_n 1, 1) := by decide +kernel
theorem dX11_replay_102 : decode cX11_replay 102 = .ok (.if_icmp .ge 84, 3) := by decide +kernel
theorem dX11_replay_105 : decode cX11_replay 105 = .ok (.aload_n 0, 1) := by decide +kernel
theorem dX11_replay_106 : decode cX11_replay 106 = .ok (.getfield 13, 3) := by decide +kernel
theorem dX11_replay_109 : decode cX11_replay 109 = .ok (.bipush 69, 2) := by decide +kernel
theorem dX11_replay_111 : decode cX11_replay 111 = .ok (.iload_n 3, 1) := by decide +kernel
theorem dX11_replay_112 : decode cX11_replay 112 = .ok (.iadd, 1) := by decide +kernel
theorem dX11_replay_113 : decode cX11_replay 113 = .ok (.iaload, 1) := by decide +kernel
theorem dX11_replay_114 : decode cX11_replay 114 = .ok (.istore 4, 2) := by decide +kernel
theorem dX11_replay_116 : decode cX11_replay 116 = .ok (.iload_n 2, 1) := by decide +kernel
theorem dX11_replay_117 : decode cX11_replay 117 = .ok (.ifCond .eq 21, 3) := by decide +kernel
theorem dX11_replay_120 : decode cX11_replay 120 = .ok (.iload 4, 2) := by decide +kernel
theorem dX11_replay_122 : decode cX11_replay 122 = .ok (.bipush 7, 2) := by decide +kernel
theorem dX11_replay_124 : decode cX11_replay 124 = .ok (.if_icmp .lt 14, 3) := by decide +kernel
theorem dX11_replay_127 : decode cX11_replay 127 = .ok (.iload 4, 2) := by decide +kernel
theorem dX11_replay_129 : decode cX11_replay 129 = .ok (.bipush 63, 2) := by decide +kernel
theorem dX11_replay_131 : decode cX11_replay 131 = .ok (.if_icmp .ge 7, 3) := by decide +kernel
theorem dX11_replay_134 : decode cX11_replay 134 = .ok (.iconst 1, 1) := by decide +kernel
theorem dX11_replay_135 : decode cX11_replay 135 = .ok (.goto 4, 3) := by decide +kernel
theorem dX11_replay_138 : decode cX11_replay 138 = .ok (.iconst 0, 1) := by decide +kernel
theorem dX11_replay_139 : decode cX11_replay 139 = .ok (.istore_n 2, 1) := by decide +kernel
theorem dX11_replay_140 : decode cX11_replay 140 = .ok (.iconst 0, 1) := by decide +kernel
theorem dX11_replay_141 : decode cX11_replay 141 = .ok (.istore 5, 2) := by decide +kernel
theorem dX11_replay_143 : decode cX11_replay 143 = .ok (.iload 5, 2) := by decide +kernel
theorem dX11_replay_145 : decode cX11_replay 145 = .ok (.iload_n 3, 1) := by decide +kernel
theorem dX11_replay_146 : decode cX11_replay 146 = .ok (.if_icmp .ge 34, 3) := by decide +kernel
theorem dX11_replay_149 : decode cX11_replay 149 = .ok (.iload_n 2, 1) := by decide +kernel
theorem dX11_replay_150 : decode cX11_replay 150 = .ok (.ifCond .eq 22, 3) := by decide +kernel
theorem dX11_replay_153 : decode cX11_replay 153 = .ok (.aload_n 0, 1) := by decide +kernel
theorem dX11_replay_154 : decode cX11_replay 154 = .ok (.getfield 13, 3) := by decide +kernel
theorem dX11_replay_157 : decode cX11_replay 157 = .ok (.bipush 69, 2) := by decide +kernel
theorem dX11_replay_159 : decode cX11_replay 159 = .ok (.iload 5, 2) := by decide +kernel
theorem dX11_replay_161 : decode cX11_replay 161 = .ok (.iadd, 1) := by decide +kernel
theorem dX11_replay_162 : decode cX11_replay 162 = .ok (.iaload, 1) := by decide +kernel
theorem dX11_replay_163 : decode cX11_replay 163 = .ok (.iload 4, 2) := by decide +kernel
theorem dX11_replay_165 : decode cX11_replay 165 = .ok (.if_icmp .eq 7, 3) := by decide +kernel
theorem dX11_replay_168 : decode cX11_replay 168 = .ok (.iconst 1, 1) := by decide +kernel
theorem dX11_replay_169 : decode cX11_replay 169 = .ok (.goto 4, 3) := by decide +kernel
theorem dX11_replay_172 : decode cX11_replay 172 = .ok (.iconst 0, 1) := by decide +kernel
theorem dX11_replay_173 : decode cX11_replay 173 = .ok (.istore_n 2, 1) := by decide +kernel
theorem dX11_replay_174 : decode cX11_replay 174 = .ok (.iinc 5 1, 3) := by decide +kernel
theorem dX11_replay_177 : decode cX11_replay 177 = .ok (.goto (-34), 3) := by decide +kernel
theorem dX11_replay_180 : decode cX11_replay 180 = .ok (.iinc 3 1, 3) := by decide +kernel
theorem dX11_replay_183 : decode cX11_replay 183 = .ok (.goto (-83), 3) := by decide +kernel
theorem dX11_replay_186 : decode cX11_replay 186 = .ok (.iconst 0, 1) := by decide +kernel
theorem dX11_replay_187 : decode cX11_replay 187 = .ok (.istore_n 3, 1) := by decide +kernel
theorem dX11_replay_188 : decode cX11_replay 188 = .ok (.iload_n 3, 1) := by decide +kernel
theorem dX11_replay_189 : decode cX11_replay 189 = .ok (.iload_n 1, 1) := by decide +kernel
theorem dX11_replay_190 : decode cX11_replay 190 = .ok (.if_icmp .ge 67, 3) := by decide +kernel
theorem dX11_replay_193 : decode cX11_replay 193 = .ok (.iload_n 2, 1) := by decide +kernel
theorem dX11_replay_194 : decode cX11_replay 194 = .ok (.ifCond .eq 63, 3) := by decide +kernel
theorem dX11_replay_197 : decode cX11_replay 197 = .ok (.aload_n 0, 1) := by decide +kernel
theorem dX11_replay_198 : decode cX11_replay 198 = .ok (.getfield 13, 3) := by decide +kernel
theorem dX11_replay_201 : decode cX11_replay 201 = .ok (.bipush 69, 2) := by decide +kernel
theorem dX11_replay_203 : decode cX11_replay 203 = .ok (.iload_n 3, 1) := by decide +kernel
theorem dX11_replay_204 : decode cX11_replay 204 = .ok (.iadd, 1) := by decide +kernel
theorem dX11_replay_205 : decode cX11_replay 205 = .ok (.iaload, 1) := by decide +kernel
theorem dX11_replay_206 : decode cX11_replay 206 = .ok (.istore 4, 2) := by decide +kernel
theorem dX11_replay_208 : decode cX11_replay 208 = .ok (.iconst 0, 1) := by decide +kernel
theorem dX11_replay_209 : decode cX11_replay 209 = .ok (.istore 5, 2) := by decide +kernel
theorem dX11_replay_211 : decode cX11_replay 211 = .ok (.iload 5, 2) := by decide +kernel
theorem dX11_replay_213 : decode cX11_replay 213 = .ok (.bipush 64, 2) := by decide +kernel
theorem dX11_replay_215 : decode cX11_replay 215 = .ok (.if_icmp .ge 36, 3) := by decide +kernel
theorem dX11_replay_218 : decode cX11_replay 218 = .ok (.aload_n 0, 1) := by decide +kernel
theorem dX11_replay_219 : decode cX11_replay 219 = .ok (.getfield 13, 3) := by decide +kernel
theorem dX11_replay_222 : decode cX11_replay 222 = .ok (.bipush 64, 2) := by decide +kernel
theorem dX11_replay_224 : decode cX11_replay 224 = .ok (.iload 4, 2) := by decide +kernel
theorem dX11_replay_226 : decode cX11_replay 226 = .ok (.imul, 1) := by decide +kernel
theorem dX11_replay_227 : decode cX11_replay 227 = .ok (.iload 5, 2) := by decide +kernel
theorem dX11_replay_229 : decode cX11_replay 229 = .ok (.iadd, 1) := by decide +kernel
theorem dX11_replay_230 : decode cX11_replay 230 = .ok (.aload_n 0, 1) := by decide +kernel
theorem dX11_replay_231 : decode cX11_replay 231 = .ok (.getfield 13, 3) := by decide +kernel
theorem dX11_replay_234 : decode cX11_replay 234 = .ok (.bipush 64, 2) := by decide +kernel
theorem dX11_replay_236 : decode cX11_replay 236 = .ok (.iconst 2, 1) := by decide +kernel
theorem dX11_replay_237 : decode cX11_replay 237 = .ok (.iload_n 3, 1) := by decide +kernel
theorem dX11_replay_238 : decode cX11_replay 238 = .ok (.iadd, 1) := by decide +kernel
theorem dX11_replay_239 : decode cX11_replay 239 = .ok (.imul, 1) := by decide +kernel
theorem dX11_replay_240 : decode cX11_replay 240 = .ok (.iload 5, 2) := by decide +kernel
theorem dX11_replay_242 : decode cX11_replay 242 = .ok (.iadd, 1) := by decide +kernel
theorem dX11_replay_243 : decode cX11_replay 243 = .ok (.iaload, 1) := by decide +kernel
theorem dX11_replay_244 : decode cX11_replay 244 = .ok (.iastore, 1) := by decide +kernel
theorem dX11_replay_245 : decode cX11_replay 245 = .ok (.iinc 5 1, 3) := by decide +kernel
theorem dX11_replay_248 : decode cX11_replay 248 = .ok (.goto (-37), 3) := by decide +kernel
theorem dX11_replay_251 : decode cX11_replay 251 = .ok (.iinc 3 1, 3) := by decide +kernel
theorem dX11_replay_254 : decode cX11_replay 254 = .ok (.goto (-66), 3) := by decide +kernel
theorem dX11_replay_257 : decode cX11_replay 257 = .ok (.aload_n 0, 1) := by decide +kernel
theorem dX11_replay_258 : decode cX11_replay 258 = .ok (.bipush 64, 2) := by decide +kernel
theorem dX11_replay_260 : decode cX11_replay 260 = .ok (.bipush 64, 2) := by decide +kernel
theorem dX11_replay_262 : decode cX11_replay 262 = .ok (.invokevirtual 65, 3) := by decide +kernel
theorem dX11_replay_265 : decode cX11_replay 265 = .ok (.return_, 1) := by decide +kernel
theorem dX11_inodes_0 : decode cX11_inodes 0 = .ok (.iconst 0, 1) := by decide +kernel
theorem dX11_inodes_1 : decode cX11_inodes 1 = .ok (.istore_n 1, 1) := by decide +kernel
theorem dX11_inodes_2 : decode cX11_inodes 2 = .ok (.iload_n 1, 1) := by decide +kernel
theorem dX11_inodes_3 : decode cX11_inodes 3 = .ok (.bipush 64, 2) := by decide +kernel
theorem dX11_inodes_5 : decode cX11_inodes 5 = .ok (.if_icmp .ge 16, 3) := by decide +kernel
theorem dX11_inodes_8 : decode cX11_inodes 8 = .ok (.aload_n 0, 1) := by decide +kernel
theorem dX11_inodes_9 : decode cX11_inodes 9 = .ok (.getfield 16, 3) := by decide +kernel
theorem dX11_inodes_12 : decode cX11_inodes 12 = .ok (.iload_n 1, 1) := by decide +kernel
theorem dX11_inodes_13 : decode cX11_inodes 13 = .ok (.iconst 0, 1) := by decide +kernel
theorem dX11_inodes_14 : decode cX11_inodes 14 = .ok (.bastore, 1) := by decide +kernel
theorem dX11_inodes_15 : decode cX11_inodes 15 = .ok (.iinc 1 1, 3) := by decide +kernel
theorem dX11_inodes_18 : decode cX11_inodes 18 = .ok (.goto (-16), 3) := by decide +kernel
theorem dX11_inodes_21 : decode cX11_inodes 21 = .ok (.aload_n 0, 1) := by decide +kernel
theorem dX11_inodes_22 : decode cX11_inodes 22 = .ok (.iconst 0, 1) := by decide +kernel
theorem dX11_inodes_23 : decode cX11_inodes 23 = .ok (.invokestatic 42, 3) := by decide +kernel
theorem dX11_inodes_26 : decode cX11_inodes 26 = .ok (.bipush 16, 2) := by decide +kernel
theorem dX11_inodes_28 : decode cX11_inodes 28 = .ok (.invokevirtual 65, 3) := by decide +kernel
theorem dX11_inodes_31 : decode cX11_inodes 31 = .ok (.iconst 1, 1) := by decide +kernel
theorem dX11_inodes_32 : decode cX11_inodes 32 = .ok (.istore_n 1, 1) := by decide +kernel
theorem dX11_inodes_33 : decode cX11_inodes 33 = .ok (.iload_n 1, 1) := by decide +kernel
theorem dX11_inodes_34 : decode cX11_inodes 34 = .ok (.bipush 32, 2) := by decide +kernel
theorem dX11_inodes_36 : decode cX11_inodes 36 = .ok (.if_icmp .ge 27, 3) := by decide +kernel
theorem dX11_inodes_39 : decode cX11_inodes 39 = .ok (.aload_n 0, 1) := by decide +kernel
theorem dX11_inodes_40 : decode cX11_inodes 40 = .ok (.iload_n 1, 1) := by decide +kernel
theorem dX11_inodes_41 : decode cX11_inodes 41 = .ok (.invokevirtual 90, 3) := by decide +kernel
theorem dX11_inodes_44 : decode cX11_inodes 44 = .ok (.ifCond .ne 13, 3) := by decide +kernel
theorem dX11_inodes_47 : decode cX11_inodes 47 = .ok (.aload_n 0, 1) := by decide +kernel
theorem dX11_inodes_48 : decode cX11_inodes 48 = .ok (.iload_n 1, 1) := by decide +kernel
theorem dX11_inodes_49 : decode cX11_inodes 49 = .ok (.invokestatic 42, 3) := by decide +kernel
theorem dX11_inodes_52 : decode cX11_inodes 52 = .ok (.bipush 16, 2) := by decide +kernel
theorem dX11_inodes_54 : decode cX11_inodes 54 = .ok (.invokevirtual 65, 3) := by decide +kernel
theorem dX11_inodes_57 : decode cX11_inodes 57 = .ok (.iinc 1 1, 3) := by decide +kernel
theorem dX11_inodes_60 : decode cX11_inodes 60 = .ok (.goto (-27), 3) := by decide +kernel
theorem dX11_inodes_63 : decode cX11_inodes 63 = .ok (.iconst 1, 1) := by decide +kernel
theorem dX11_inodes_64 : decode cX11_inodes 64 = .ok (.istore_n 1, 1) := by decide +kernel
theorem dX11_inodes_65 : decode cX11_inodes 65 = .ok (.iload_n 1, 1) := by decide +kernel
theorem dX11_inodes_66 : decode cX11_inodes 66 = .ok (.iconst 2, 1) := by decide +kernel
theorem dX11_inodes_67 : decode cX11_inodes 67 = .ok (.if_icmp .gt 22, 3) := by decide +kernel
theorem dX11_inodes_70 : decode cX11_inodes 70 = .ok (.aload_n 0, 1) := by decide +kernel
theorem dX11_inodes_71 : decode cX11_inodes 71 = .ok (.iload_n 1, 1) := by decide +kernel
theorem dX11_inodes_72 : decode cX11_inodes 72 = .ok (.invokevirtual 62, 3) := by decide +kernel
theorem dX11_inodes_75 : decode cX11_inodes 75 = .ok (.ifCond .ne 8, 3) := by decide +kernel
theorem dX11_inodes_78 : decode cX11_inodes 78 = .ok (.aload_n 0, 1) := by decide +kernel
theorem dX11_inodes_79 : decode cX11_inodes 79 = .ok (.iload_n 1, 1) := by decide +kernel
theorem dX11_inodes_80 : decode cX11_inodes 80 = .ok (.invokevirtual 93, 3) := by decide +kernel
theorem dX11_inodes_83 : decode cX11_inodes 83 = .ok (.iinc 1 1, 3) := by decide +kernel
theorem dX11_inodes_86 : decode cX11_inodes 86 = .ok (.goto (-21), 3) := by decide +kernel
theorem dX11_inodes_89 : decode cX11_inodes 89 = .ok (.return_, 1) := by decide +kernel
theorem dX11_make_0 : decode cX11_make 0 = .ok (.aload_n 0, 1) := by decide +kernel
theorem dX11_make_1 : decode cX11_make 1 = .ok (.iconst 0, 1) := by decide +kernel
theorem dX11_make_2 : decode cX11_make 2 = .ok (.invokevirtual 97, 3) := by decide +kernel
theorem dX11_make_5 : decode cX11_make 5 = .ok (.istore_n 2, 1) := by decide +kernel
theorem dX11_make_6 : decode cX11_make 6 = .ok (.bipush 31, 2) := by decide +kernel
theorem dX11_make_8 : decode cX11_make 8 = .ok (.istore_n 3, 1) := by decide +kernel
theorem dX11_make_9 : decode cX11_make 9 = .ok (.iload_n 3, 1) := by decide +kernel
theorem dX11_make_10 : decode cX11_make 10 = .ok (.iconst 1, 1) := by decide +kernel
theorem dX11_make_11 : decode cX11_make 11 = .ok (.if_icmp .le 38, 3) := by decide +kernel
theorem dX11_make_14 : decode cX11_make 14 = .ok (.iload_n 2, 1) := by decide +kernel
theorem dX11_make_15 : decode cX11_make 15 = .ok (.iconst (-1), 1) := by decide +kernel
theorem dX11_make_16 : decode cX11_make 16 = .ok (.if_icmp .ne 33, 3) := by decide +kernel
theorem dX11_make_19 : decode cX11_make 19 = .ok (.aload_n 0, 1) := by decide +kernel
theorem dX11_make_20 : decode cX11_make 20 = .ok (.iload_n 3, 1) := by decide +kernel
theorem dX11_make_21 : decode cX11_make 21 = .ok (.invokevirtual 62, 3) := by decide +kernel
theorem dX11_make_24 : decode cX11_make 24 = .ok (.ifCond .le 19, 3) := by decide +kernel
theorem dX11_make_27 : decode cX11_make 27 = .ok (.aload_n 0, 1) := by decide +kernel
theorem dX11_make_28 : decode cX11_make 28 = .ok (.iload_n 3, 1) := by decide +kernel
theorem dX11_make_29 : decode cX11_make 29 = .ok (.invokestatic 42, 3) := by decide +kernel
theorem dX11_make_32 : decode cX11_make 32 = .ok (.bipush 16, 2) := by decide +kernel
theorem dX11_make_34 : decode cX11_make 34 = .ok (.invokevirtual 65, 3) := by decide +kernel
theorem dX11_make_37 : decode cX11_make 37 = .ok (.aload_n 0, 1) := by decide +kernel
theorem dX11_make_38 : decode cX11_make 38 = .ok (.iconst 0, 1) := by decide +kernel
theorem dX11_make_39 : decode cX11_make 39 = .ok (.invokevirtual 97, 3) := by decide +kernel
theorem dX11_make_42 : decode cX11_make 42 = .ok (.istore_n 2, 1) := by decide +kernel
theorem dX11_make_43 : decode cX11_make 43 = .ok (.iinc 3 (-1), 3) := by decide +kernel
theorem dX11_make_46 : decode cX11_make 46 = .ok (.goto (-37), 3) := by decide +kernel
theorem dX11_make_49 : decode cX11_make 49 = .ok (.iload_n 2, 1) := by decide +kernel
theorem dX11_make_50 : decode cX11_make 50 = .ok (.iconst (-1), 1) := by decide +kernel
theorem dX11_make_51 : decode cX11_make 51 = .ok (.if_icmp .eq 9, 3) := by decide +kernel
theorem dX11_make_54 : decode cX11_make 54 = .ok (.aload_n 0, 1) := by decide +kernel
theorem dX11_make_55 : decode cX11_make 55 = .ok (.iload_n 1, 1) := by decide +kernel
theorem dX11_make_56 : decode cX11_make 56 = .ok (.iload_n 2, 1) := by decide +kernel
theorem dX11_make_57 : decode cX11_make 57 = .ok (.invokevirtual 100, 3) := by decide +kernel
theorem dX11_make_60 : decode cX11_make 60 = .ok (.return_, 1) := by decide +kernel
theorem dX11_directory_0 : decode cX11_directory 0 = .ok (.aload_n 0, 1) := by decide +kernel
theorem dX11_directory_1 : decode cX11_directory 1 = .ok (.getfield 13, 3) := by decide +kernel
theorem dX11_directory_4 : decode cX11_directory 4 = .ok (.iload_n 1, 1) := by decide +kernel
theorem dX11_directory_5 : decode cX11_directory 5 = .ok (.invokestatic 42, 3) := by decide +kernel
theorem dX11_directory_8 : decode cX11_directory 8 = .ok (.iconst 2, 1) := by decide +kernel
theorem dX11_directory_9 : decode cX11_directory 9 = .ok (.iastore, 1) := by decide +kernel
theorem dX11_directory_10 : decode cX11_directory 10 = .ok (.aload_n 0, 1) := by decide +kernel
theorem dX11_directory_11 : decode cX11_directory 11 = .ok (.iload_n 1, 1) := by decide +kernel
theorem dX11_directory_12 : decode cX11_directory 12 = .ok (.invokestatic 42, 3) := by decide +kernel
theorem dX11_directory_15 : decode cX11_directory 15 = .ok (.iconst 2, 1) := by decide +kernel
theorem dX11_directory_16 : decode cX11_directory 16 = .ok (.iadd, 1) := by decide +kernel
theorem dX11_directory_17 : decode cX11_directory 17 = .ok (.bipush 64, 2) := by decide +kernel
theorem dX11_directory_19 : decode cX11_directory 19 = .ok (.invokevirtual 103, 3) := by decide +kernel
theorem dX11_directory_22 : decode cX11_directory 22 = .ok (.aload_n 0, 1) := by decide +kernel
theorem dX11_directory_23 : decode cX11_directory 23 = .ok (.getfield 13, 3) := by decide +kernel
theorem dX11_directory_26 : decode cX11_directory 26 = .ok (.iload_n 1, 1) := by decide +kernel
theorem dX11_directory_27 : decode cX11_directory 27 = .ok (.invokestatic 42, 3) := by decide +kernel
theorem dX11_directory_30 : decode cX11_directory 30 = .ok (.iconst 4, 1) := by decide +kernel
theorem dX11_directory_31 : decode cX11_directory 31 = .ok (.iadd, 1) := by decide +kernel
theorem dX11_directory_32 : decode cX11_directory 32 = .ok (.iload_n 2, 1) := by decide +kernel
theorem dX11_directory_33 : decode cX11_directory 33 = .ok (.iastore, 1) := by decide +kernel
theorem dX11_directory_34 : decode cX11_directory 34 = .ok (.aload_n 0, 1) := by decide +kernel
theorem dX11_directory_35 : decode cX11_directory 35 = .ok (.bipush 64, 2) := by decide +kernel
theorem dX11_directory_37 : decode cX11_directory 37 = .ok (.iload_n 2, 1) := by decide +kernel
theorem dX11_directory_38 : decode cX11_directory 38 = .ok (.imul, 1) := by decide +kernel
theorem dX11_directory_39 : decode cX11_directory 39 = .ok (.bipush 64, 2) := by decide +kernel
theorem dX11_directory_41 : decode cX11_directory 41 = .ok (.invokevirtual 65, 3) := by decide +kernel
theorem dX11_directory_44 : decode cX11_directory 44 = .ok (.return_, 1) := by decide +kernel
theorem dX11_entries_0 : decode cX11_entries 0 = .ok (.iconst 1, 1) := by decide +kernel
theorem dX11_entries_1 : decode cX11_entries 1 = .ok (.istore_n 1, 1) := by decide +kernel
theorem dX11_entries_2 : decode cX11_entries 2 = .ok (.iload_n 1, 1) := by decide +kernel
theorem dX11_entries_3 : decode cX11_entries 3 = .ok (.bipush 32, 2) := by decide +kernel
theorem dX11_entries_5 : decode cX11_entries 5 = .ok (.if_icmp .ge 110, 3) := by decide +kernel
theorem dX11_entries_8 : decode cX11_entries 8 = .ok (.iconst 0, 1) := by decide +kernel
theorem dX11_entries_9 : decode cX11_entries 9 = .ok (.istore_n 2, 1) := by decide +kernel
theorem dX11_entries_10 : decode cX11_entries 10 = .ok (.aload_n 0, 1) := by decide +kernel
theorem dX11_entries_11 : decode cX11_entries 11 = .ok (.iload_n 1, 1) := by decide +kernel
theorem dX11_entries_12 : decode cX11_entries 12 = .ok (.invokevirtual 62, 3) := by decide +kernel
theorem dX11_entries_15 : decode cX11_entries 15 = .ok (.iconst 2, 1) := by decide +kernel
theorem dX11_entries_16 : decode cX11_entries 16 = .ok (.if_icmp .ne 93, 3) := by decide +kernel
theorem dX11_entries_19 : decode cX11_entries 19 = .ok (.iload_n 2, 1) := by decide +kernel
theorem dX11_entries_20 : decode cX11_entries 20 = .ok (.aload_n 0, 1) := by decide +kernel
theorem dX11_entries_21 : decode cX11_entries 21 = .ok (.iload_n 1, 1) := by decide +kernel
theorem dX11_entries_22 : decode cX11_entries 22 = .ok (.invokevirtual 106, 3) := by decide +kernel
theorem dX11_entries_25 : decode cX11_entries 25 = .ok (.if_icmp .ge 84, 3) := by decide +kernel
theorem dX11_entries_28 : decode cX11_entries 28 = .ok (.aload_n 0, 1) := by decide +kernel
theorem dX11_entries_29 : decode cX11_entries 29 = .ok (.iload_n 1, 1) := by decide +kernel
theorem dX11_entries_30 : decode cX11_entries 30 = .ok (.iload_n 2, 1) := by decide +kernel
theorem dX11_entries_31 : decode cX11_entries 31 = .ok (.invokevirtual 73, 3) := by decide +kernel
theorem dX11_entries_34 : decode cX11_entries 34 = .ok (.istore_n 3, 1) := by decide +kernel
theorem dX11_entries_35 : decode cX11_entries 35 = .ok (.iload_n 2, 1) := by decide +kernel
theorem dX11_entries_36 : decode cX11_entries 36 = .ok (.iconst 2, 1) := by decide +kernel
theorem dX11_entries_37 : decode cX11_entries 37 = .ok (.if_icmp .ge 19, 3) := by decide +kernel
theorem dX11_entries_40 : decode cX11_entries 40 = .ok (.aload_n 0, 1) := by decide +kernel
theorem dX11_entries_41 : decode cX11_entries 41 = .ok (.iload_n 2, 1) := by decide +kernel
theorem dX11_entries_42 : decode cX11_entries 42 = .ok (.iconst 1, 1) := by decide +kernel
theorem dX11_entries_43 : decode cX11_entries 43 = .ok (.iadd, 1) := by decide +kernel
theorem dX11_entries_44 : decode cX11_entries 44 = .ok (.invokevirtual 109, 3) := by decide +kernel
theorem dX11_entries_47 : decode cX11_entries 47 = .ok (.aload_n 0, 1) := by decide +kernel
theorem dX11_entries_48 : decode cX11_entries 48 = .ok (.iload_n 3, 1) := by decide +kernel
theorem dX11_entries_49 : decode cX11_entries 49 = .ok (.iload_n 1, 1) := by decide +kernel
theorem dX11_entries_50 : decode cX11_entries 50 = .ok (.invokevirtual 112, 3) := by decide +kernel
theorem dX11_entries_53 : decode cX11_entries 53 = .ok (.goto 50, 3) := by decide +kernel
theorem dX11_entries_56 : decode cX11_entries 56 = .ok (.iload_n 2, 1) := by decide +kernel
theorem dX11_entries_57 : decode cX11_entries 57 = .ok (.iconst 2, 1) := by decide +kernel
theorem dX11_entries_58 : decode cX11_entries 58 = .ok (.if_icmp .ne 29, 3) := by decide +kernel
theorem dX11_entries_61 : decode cX11_entries 61 = .ok (.iload_n 1, 1) := by decide +kernel
theorem dX11_entries_62 : decode cX11_entries 62 = .ok (.iconst 1, 1) := by decide +kernel
theorem dX11_entries_63 : decode cX11_entries 63 = .ok (.if_icmp .ne 24, 3) := by decide +kernel
theorem dX11_entries_66 : decode cX11_entries 66 = .ok (.aload_n 0, 1) := by decide +kernel
theorem dX11_entries_67 : decode cX11_entries 67 = .ok (.iconst 2, 1) := by decide +kernel
theorem dX11_entries_68 : decode cX11_entries 68 = .ok (.invokevirtual 62, 3) := by decide +kernel
theorem dX11_entries_71 : decode cX11_entries 71 = .ok (.ifCond .le 16, 3) := by decide +kernel
theorem dX11_entries_74 : decode cX11_entries 74 = .ok (.aload_n 0, 1) := by decide +kernel
theorem dX11_entries_75 : decode cX11_entries 75 = .ok (.invokevirtual 115, 3) := by decide +kernel
theorem dX11_entries_78 : decode cX11_entries 78 = .ok (.aload_n 0, 1) := by decide +kernel
theorem dX11_entries_79 : decode cX11_entries 79 = .ok (.iload_n 3, 1) := by decide +kernel
theorem dX11_entries_80 : decode cX11_entries 80 = .ok (.iconst 2, 1) := by decide +kernel
theorem dX11_entries_81 : decode cX11_entries 81 = .ok (.invokevirtual 112, 3) := by decide +kernel
theorem dX11_entries_84 : decode cX11_entries 84 = .ok (.goto 19, 3) := by decide +kernel
theorem dX11_entries_87 : decode cX11_entries 87 = .ok (.aload_n 0, 1) := by decide +kernel
theorem dX11_entries_88 : decode cX11_entries 88 = .ok (.iload_n 1, 1) := by decide +kernel
theorem dX11_entries_89 : decode cX11_entries 89 = .ok (.iload_n 2, 1) := by decide +kernel
theorem dX11_entries_90 : decode cX11_entries 90 = .ok (.invokevirtual 118, 3) := by decide +kernel
theorem dX11_entries_93 : decode cX11_entries 93 = .ok (.ifCond .ne 10, 3) := by decide +kernel
theorem dX11_entries_96 : decode cX11_entries 96 = .ok (.aload_n 0, 1) := by decide +kernel
theorem dX11_entries_97 : decode cX11_entries 97 = .ok (.iload_n 3, 1) := by decide +kernel
theorem dX11_entries_98 : decode cX11_entries 98 = .ok (.bipush 16, 2) := by decide +kernel
theorem dX11_entries_100 : decode cX11_entries 100 = .ok (.invokevirtual 65, 3) := by decide +kernel
theorem dX11_entries_103 : decode cX11_entries 103 = .ok (.iinc 2 1, 3) := by decide +kernel
theorem dX11_entries_106 : decode cX11_entries 106 = .ok (.goto (-96), 3) := by decide +kernel
theorem dX11_entries_109 : decode cX11_entries 109 = .ok (.iinc 1 1, 3) := by decide +kernel
theorem dX11_entries_112 : decode cX11_entries 112 = .ok (.goto (-110), 3) := by decide +kernel
theorem dX11_entries_115 : decode cX11_entries 115 = .ok (.return_, 1) := by decide +kernel
theorem dX11_reach_0 : decode cX11_reach 0 = .ok (.aload_n 0, 1) := by decide +kernel
theorem dX11_reach_1 : decode cX11_reach 1 = .ok (.getfield 20, 3) := by decide +kernel
theorem dX11_reach_4 : decode cX11_reach 4 = .ok (.iload_n 1, 1) := by decide +kernel
theorem dX11_reach_5 : decode cX11_reach 5 = .ok (.iconst 1, 1) := by decide +kernel
theorem dX11_reach_6 : decode cX11_reach 6 = .ok (.bastore, 1) := by decide +kernel
theorem dX11_reach_7 : decode cX11_reach 7 = .ok (.aload_n 0, 1) := by decide +kernel
theorem dX11_reach_8 : decode cX11_reach 8 = .ok (.iload_n 1, 1) := by decide +kernel
theorem dX11_reach_9 : decode cX11_reach 9 = .ok (.invokevirtual 62, 3) := by decide +kernel
theorem dX11_reach_12 : decode cX11_reach 12 = .ok (.iconst 2, 1) := by decide +kernel
theorem dX11_reach_13 : decode cX11_reach 13 = .ok (.if_icmp .ne 23, 3) := by decide +kernel
theorem dX11_reach_16 : decode cX11_reach 16 = .ok (.aload_n 0, 1) := by decide +kernel
theorem dX11_reach_17 : decode cX11_reach 17 = .ok (.getfield 23, 3) := by decide +kernel
theorem dX11_reach_20 : decode cX11_reach 20 = .ok (.aload_n 0, 1) := by decide +kernel
theorem dX11_reach_21 : decode cX11_reach 21 = .ok (.getfield 121, 3) := by decide +kernel
theorem dX11_reach_24 : decode cX11_reach 24 = .ok (.iload_n 1, 1) := by decide +kernel
theorem dX11_reach_25 : decode cX11_reach 25 = .ok (.iastore, 1) := by decide +kernel
theorem dX11_reach_26 : decode cX11_reach 26 = .ok (.aload_n 0, 1) := by decide +kernel
theorem dX11_reach_27 : decode cX11_reach 27 = .ok (.dup, 1) := by decide +kernel
theorem dX11_reach_28 : decode cX11_reach 28 = .ok (.getfield 121, 3) := by decide +kernel
theorem dX11_reach_31 : decode cX11_reach 31 = .ok (.iconst 1, 1) := by decide +kernel
theorem dX11_reach_32 : decode cX11_reach 32 = .ok (.iadd, 1) := by decide +kernel
theorem dX11_reach_33 : decode cX11_reach 33 = .ok (.putfield 121, 3) := by decide +kernel
theorem dX11_reach_36 : decode cX11_reach 36 = .ok (.return_, 1) := by decide +kernel
theorem dX11_go_0 : decode cX11_go 0 = .ok (.aload_n 0, 1) := by decide +kernel
theorem dX11_go_1 : decode cX11_go 1 = .ok (.getfield 124, 3) := by decide +kernel
theorem dX11_go_4 : decode cX11_go 4 = .ok (.aload_n 0, 1) := by decide +kernel
theorem dX11_go_5 : decode cX11_go 5 = .ok (.getfield 121, 3) := by decide +kernel
theorem dX11_go_8 : decode cX11_go 8 = .ok (.if_icmp .ge 137, 3) := by decide +kernel
theorem dX11_go_11 : decode cX11_go 11 = .ok (.aload_n 0, 1) := by decide +kernel
theorem dX11_go_12 : decode cX11_go 12 = .ok (.getfield 23, 3) := by decide +kernel
theorem dX11_go_15 : decode cX11_go 15 = .ok (.aload_n 0, 1) := by decide +kernel
theorem dX11_go_16 : decode cX11_go 16 = .ok (.getfield 124, 3) := by decide +kernel
theorem dX11_go_19 : decode cX11_go 19 = .ok (.iaload, 1) := by decide +kernel
theorem dX11_go_20 : decode cX11_go 20 = .ok (.istore_n 1, 1) := by decide +kernel
theorem dX11_go_21 : decode cX11_go 21 = .ok (.aload_n 0, 1) := by decide +kernel
theorem dX11_go_22 : decode cX11_go 22 = .ok (.dup, 1) := by decide +kernel
theorem dX11_go_23 : decode cX11_go 23 = .ok (.getfield 124, 3) := by decide +kernel
theorem dX11_go_26 : decode cX11_go 26 = .ok (.iconst 1, 1) := by decide +kernel
theorem dX11_go_27 : decode cX11_go 27 = .ok (.iadd, 1) := by decide +kernel
theorem dX11_go_28 : decode cX11_go 28 = .ok (.putfield 124, 3) := by decide +kernel
theorem dX11_go_31 : decode cX11_go 31 = .ok (.iconst 2, 1) := by decide +kernel
theorem dX11_go_32 : decode cX11_go 32 = .ok (.istore_n 2, 1) := by decide +kernel
theorem dX11_go_33 : decode cX11_go 33 = .ok (.iload_n 2, 1) := by decide +kernel
theorem dX11_go_34 : decode cX11_go 34 = .ok (.aload_n 0, 1) := by decide +kernel
theorem dX11_go_35 : decode cX11_go 35 = .ok (.iload_n 1, 1) := by decide +kernel
theorem dX11_go_36 : decode cX11_go 36 = .ok (.invokevirtual 106, 3) := by decide +kernel
theorem dX11_go_39 : decode cX11_go 39 = .ok (.if_icmp .ge 103, 3) := by decide +kernel
theorem dX11_go_42 : decode cX11_go 42 = .ok (.aload_n 0, 1) := by decide +kernel
theorem dX11_go_43 : decode cX11_go 43 = .ok (.iload_n 1, 1) := by decide +kernel
theorem dX11_go_44 : decode cX11_go 44 = .ok (.iload_n 2, 1) := by decide +kernel
theorem dX11_go_45 : decode cX11_go 45 = .ok (.invokevirtual 73, 3) := by decide +kernel
theorem dX11_go_48 : decode cX11_go 48 = .ok (.istore_n 3, 1) := by decide +kernel
theorem dX11_go_49 : decode cX11_go 49 = .ok (.aload_n 0, 1) := by decide +kernel
theorem dX11_go_50 : decode cX11_go 50 = .ok (.getfield 13, 3) := by decide +kernel
theorem dX11_go_53 : decode cX11_go 53 = .ok (.iload_n 3, 1) := by decide +kernel
theorem dX11_go_54 : decode cX11_go 54 = .ok (.iaload, 1) := by decide +kernel
theorem dX11_go_55 : decode cX11_go 55 = .ok (.istore 4, 2) := by decide +kernel
theorem dX11_go_57 : decode cX11_go 57 = .ok (.iload 4, 2) := by decide +kernel
theorem dX11_go_59 : decode cX11_go 59 = .ok (.ifCond .eq 33, 3) := by decide +kernel
theorem dX11_go_62 : decode cX11_go 62 = .ok (.aload_n 0, 1) := by decide +kernel
theorem dX11_go_63 : decode cX11_go 63 = .ok (.iload 4, 2) := by decide +kernel
theorem dX11_go_65 : decode cX11_go 65 = .ok (.invokevirtual 62, 3) := by decide +kernel
theorem dX11_go_68 : decode cX11_go 68 = .ok (.iconst 2, 1) := by decide +kernel
theorem dX11_go_69 : decode cX11_go 69 = .ok (.if_icmp .ne 23, 3) := by decide +kernel
theorem dX11_go_72 : decode cX11_go 72 = .ok (.aload_n 0, 1) := by decide +kernel
theorem dX11_go_73 : decode cX11_go 73 = .ok (.getfield 20, 3) := by decide +kernel
theorem dX11_go_76 : decode cX11_go 76 = .ok (.iload 4, 2) := by decide +kernel
theorem dX11_go_78 : decode cX11_go 78 = .ok (.baload, 1) := by decide +kernel
theorem dX11_go_79 : decode cX11_go 79 = .ok (.ifCond .eq 13, 3) := by decide +kernel
theorem dX11_go_82 : decode cX11_go 82 = .ok (.aload_n 0, 1) := by decide +kernel
theorem dX11_go_83 : decode cX11_go 83 = .ok (.iload_n 3, 1) := by decide +kernel
theorem dX11_go_84 : decode cX11_go 84 = .ok (.bipush 16, 2) := by decide +kernel
theorem dX11_go_86 : decode cX11_go 86 = .ok (.invokevirtual 65, 3) := by decide +kernel
theorem dX11_go_89 : decode cX11_go 89 = .ok (.goto 47, 3) := by decide +kernel
theorem dX11_go_92 : decode cX11_go 92 = .ok (.iload 4, 2) := by decide +kernel
theorem dX11_go_94 : decode cX11_go 94 = .ok (.ifCond .eq 42, 3) := by decide +kernel
theorem dX11_go_97 : decode cX11_go 97 = .ok (.aload_n 0, 1) := by decide +kernel
theorem dX11_go_98 : decode cX11_go 98 = .ok (.iload 4, 2) := by decide +kernel
theorem dX11_go_100 : decode cX11_go 100 = .ok (.invokevirtual 62, 3) := by decide +kernel
theorem dX11_go_103 : decode cX11_go 103 = .ok (.iconst 2, 1) := by decide +kernel
theorem dX11_go_104 : decode cX11_go 104 = .ok (.if_icmp .ne 16, 3) := by decide +kernel
theorem dX11_go_107 : decode cX11_go 107 = .ok (.aload_n 0, 1) := by decide +kernel
theorem dX11_go_108 : decode cX11_go 108 = .ok (.getfield 13, 3) := by decide +kernel
theorem dX11_go_111 : decode cX11_go 111 = .ok (.aload_n 0, 1) := by decide +kernel
theorem dX11_go_112 : decode cX11_go 112 = .ok (.iload 4, 2) := by decide +kernel
theorem dX11_go_114 : decode cX11_go 114 = .ok (.iconst 1, 1) := by decide +kernel
theorem dX11_go_115 : decode cX11_go 115 = .ok (.invokevirtual 73, 3) := by decide +kernel
theorem dX11_go_118 : decode cX11_go 118 = .ok (.iload_n 1, 1) := by decide +kernel
theorem dX11_go_119 : decode cX11_go 119 = .ok (.iastore, 1) := by decide +kernel
theorem dX11_go_120 : decode cX11_go 120 = .ok (.aload_n 0, 1) := by decide +kernel
theorem dX11_go_121 : decode cX11_go 121 = .ok (.getfield 20, 3) := by decide +kernel
theorem dX11_go_124 : decode cX11_go 124 = .ok (.iload 4, 2) := by decide +kernel
theorem dX11_go_126 : decode cX11_go 126 = .ok (.baload, 1) := by decide +kernel
theorem dX11_go_127 : decode cX11_go 127 = .ok (.ifCond .ne 9, 3) := by decide +kernel
theorem dX11_go_130 : decode cX11_go 130 = .ok (.aload_n 0, 1) := by decide +kernel
theorem dX11_go_131 : decode cX11_go 131 = .ok (.iload 4, 2) := by decide +kernel
theorem dX11_go_133 : decode cX11_go 133 = .ok (.invokevirtual 127, 3) := by decide +kernel
theorem dX11_go_136 : decode cX11_go 136 = .ok (.iinc 2 1, 3) := by decide +kernel
theorem dX11_go_139 : decode cX11_go 139 = .ok (.goto (-106), 3) := by decide +kernel
theorem dX11_go_142 : decode cX11_go 142 = .ok (.goto (-142), 3) := by decide +kernel
theorem dX11_go_145 : decode cX11_go 145 = .ok (.return_, 1) := by decide +kernel
theorem dX11_connect_0 : decode cX11_connect 0 = .ok (.aload_n 0, 1) := by decide +kernel
theorem dX11_connect_1 : decode cX11_connect 1 = .ok (.iconst 0, 1) := by decide +kernel
theorem dX11_connect_2 : decode cX11_connect 2 = .ok (.putfield 124, 3) := by decide +kernel
theorem dX11_connect_5 : decode cX11_connect 5 = .ok (.aload_n 0, 1) := by decide +kernel
theorem dX11_connect_6 : decode cX11_connect 6 = .ok (.iconst 0, 1) := by decide +kernel
theorem dX11_connect_7 : decode cX11_connect 7 = .ok (.putfield 121, 3) := by decide +kernel
theorem dX11_connect_10 : decode cX11_connect 10 = .ok (.iconst 0, 1) := by decide +kernel
theorem dX11_connect_11 : decode cX11_connect 11 = .ok (.istore_n 1, 1) := by decide +kernel
theorem dX11_connect_12 : decode cX11_connect 12 = .ok (.iload_n 1, 1) := by decide +kernel
theorem dX11_connect_13 : decode cX11_connect 13 = .ok (.bipush 32, 2) := by decide +kernel
theorem dX11_connect_15 : decode cX11_connect 15 = .ok (.if_icmp .ge 16, 3) := by decide +kernel
theorem dX11_connect_18 : decode cX11_connect 18 = .ok (.aload_n 0, 1) := by decide +kernel
theorem dX11_connect_19 : decode cX11_connect 19 = .ok (.getfield 20, 3) := by decide +kernel
theorem dX11_connect_22 : decode cX11_connect 22 = .ok (.iload_n 1, 1) := by decide +kernel
theorem dX11_connect_23 : decode cX11_connect 23 = .ok (.iconst 0, 1) := by decide +kernel
theorem dX11_connect_24 : decode cX11_connect 24 = .ok (.bastore, 1) := by decide +kernel
theorem dX11_connect_25 : decode cX11_connect 25 = .ok (.iinc 1 1, 3) := by decide +kernel
theorem dX11_connect_28 : decode cX11_connect 28 = .ok (.goto (-16), 3) := by decide +kernel
theorem dX11_connect_31 : decode cX11_connect 31 = .ok (.aload_n 0, 1) := by decide +kernel
theorem dX11_connect_32 : decode cX11_connect 32 = .ok (.iconst 1, 1) := by decide +kernel
theorem dX11_connect_33 : decode cX11_connect 33 = .ok (.invokevirtual 62, 3) := by decide +kernel
theorem dX11_connect_36 : decode cX11_connect 36 = .ok (.ifCond .le 8, 3) := by decide +kernel
theorem dX11_connect_39 : decode cX11_connect 39 = .ok (.aload_n 0, 1) := by decide +kernel
theorem dX11_connect_40 : decode cX11_connect 40 = .ok (.iconst 1, 1) := by decide +kernel
theorem dX11_connect_41 : decode cX11_connect 41 = .ok (.invokevirtual 127, 3) := by decide +kernel
theorem dX11_connect_44 : decode cX11_connect 44 = .ok (.aload_n 0, 1) := by decide +kernel
theorem dX11_connect_45 : decode cX11_connect 45 = .ok (.invokevirtual 130, 3) := by decide +kernel
theorem dX11_connect_48 : decode cX11_connect 48 = .ok (.iconst 1, 1) := by decide +kernel
theorem dX11_connect_49 : decode cX11_connect 49 = .ok (.istore_n 1, 1) := by decide +kernel
theorem dX11_connect_50 : decode cX11_connect 50 = .ok (.iload_n 1, 1) := by decide +kernel
theorem dX11_connect_51 : decode cX11_connect 51 = .ok (.bipush 32, 2) := by decide +kernel
theorem dX11_connect_53 : decode cX11_connect 53 = .ok (.if_icmp .ge 89, 3) := by decide +kernel
theorem dX11_connect_56 : decode cX11_connect 56 = .ok (.aload_n 0, 1) := by decide +kernel
theorem dX11_connect_57 : decode cX11_connect 57 = .ok (.iload_n 1, 1) := by decide +kernel
theorem dX11_connect_58 : decode cX11_connect 58 = .ok (.invokevirtual 62, 3) := by decide +kernel
theorem dX11_connect_61 : decode cX11_connect 61 = .ok (.ifCond .le 75, 3) := by decide +kernel
theorem dX11_connect_64 : decode cX11_connect 64 = .ok (.aload_n 0, 1) := by decide +kernel
theorem dX11_connect_65 : decode cX11_connect 65 = .ok (.getfield 20, 3) := by decide +kernel
theorem dX11_connect_68 : decode cX11_connect 68 = .ok (.iload_n 1, 1) := by decide +kernel
theorem dX11_connect_69 : decode cX11_connect 69 = .ok (.baload, 1) := by decide +kernel
theorem dX11_connect_70 : decode cX11_connect 70 = .ok (.ifCond .ne 66, 3) := by decide +kernel
theorem dX11_connect_73 : decode cX11_connect 73 = .ok (.aload_n 0, 1) := by decide +kernel
theorem dX11_connect_74 : decode cX11_connect 74 = .ok (.iconst 2, 1) := by decide +kernel
theorem dX11_connect_75 : decode cX11_connect 75 = .ok (.invokevirtual 62, 3) := by decide +kernel
theorem dX11_connect_78 : decode cX11_connect 78 = .ok (.ifCond .le 53, 3) := by decide +kernel
theorem dX11_connect_81 : decode cX11_connect 81 = .ok (.aload_n 0, 1) := by decide +kernel
theorem dX11_connect_82 : decode cX11_connect 82 = .ok (.iload_n 1, 1) := by decide +kernel
theorem dX11_connect_83 : decode cX11_connect 83 = .ok (.invokevirtual 133, 3) := by decide +kernel
theorem dX11_connect_86 : decode cX11_connect 86 = .ok (.ifCond .eq 45, 3) := by decide +kernel
theorem dX11_connect_89 : decode cX11_connect 89 = .ok (.aload_n 0, 1) := by decide +kernel
theorem dX11_connect_90 : decode cX11_connect 90 = .ok (.iconst 2, 1) := by decide +kernel
theorem dX11_connect_91 : decode cX11_connect 91 = .ok (.iload_n 1, 1) := by decide +kernel
theorem dX11_connect_92 : decode cX11_connect 92 = .ok (.invokevirtual 136, 3) := by decide +kernel
theorem dX11_connect_95 : decode cX11_connect 95 = .ok (.ifCond .eq 36, 3) := by decide +kernel
theorem dX11_connect_98 : decode cX11_connect 98 = .ok (.aload_n 0, 1) := by decide +kernel
theorem dX11_connect_99 : decode cX11_connect 99 = .ok (.iload_n 1, 1) := by decide +kernel
theorem dX11_connect_100 : decode cX11_connect 100 = .ok (.invokevirtual 62, 3) := by decide +kernel
theorem dX11_connect_103 : decode cX11_connect 103 = .ok (.iconst 2, 1) := by decide +kernel
theorem dX11_connect_104 : decode cX11_connect 104 = .ok (.if_icmp .ne 15, 3) := by decide +kernel
theorem dX11_connect_107 : decode cX11_connect 107 = .ok (.aload_n 0, 1) := by decide +kernel
theorem dX11_connect_108 : decode cX11_connect 108 = .ok (.getfield 13, 3) := by decide +kernel
theorem dX11_connect_111 : decode cX11_connect 111 = .ok (.aload_n 0, 1) := by decide +kernel
theorem dX11_connect_112 : decode cX11_connect 112 = .ok (.iload_n 1, 1) := by decide +kernel
theorem dX11_connect_113 : decode cX11_connect 113 = .ok (.iconst 1, 1) := by decide +kernel
theorem dX11_connect_114 : decode cX11_connect 114 = .ok (.invokevirtual 73, 3) := by decide +kernel
theorem dX11_connect_117 : decode cX11_connect 117 = .ok (.iconst 2, 1) := by decide +kernel
theorem dX11_connect_118 : decode cX11_connect 118 = .ok (.iastore, 1) := by decide +kernel
theorem dX11_connect_119 : decode cX11_connect 119 = .ok (.aload_n 0, 1) := by decide +kernel
theorem dX11_connect_120 : decode cX11_connect 120 = .ok (.iload_n 1, 1) := by decide +kernel
theorem dX11_connect_121 : decode cX11_connect 121 = .ok (.invokevirtual 127, 3) := by decide +kernel
theorem dX11_connect_124 : decode cX11_connect 124 = .ok (.aload_n 0, 1) := by decide +kernel
theorem dX11_connect_125 : decode cX11_connect 125 = .ok (.invokevirtual 130, 3) := by decide +kernel
theorem dX11_connect_128 : decode cX11_connect 128 = .ok (.goto 8, 3) := by decide +kernel
theorem dX11_connect_131 : decode cX11_connect 131 = .ok (.aload_n 0, 1) := by decide +kernel
theorem dX11_connect_132 : decode cX11_connect 132 = .ok (.iload_n 1, 1) := by decide +kernel
theorem dX11_connect_133 : decode cX11_connect 133 = .ok (.invokevirtual 139, 3) := by decide +kernel
theorem dX11_connect_136 : decode cX11_connect 136 = .ok (.iinc 1 1, 3) := by decide +kernel
theorem dX11_connect_139 : decode cX11_connect 139 = .ok (.goto (-89), 3) := by decide +kernel
theorem dX11_connect_142 : decode cX11_connect 142 = .ok (.return_, 1) := by decide +kernel
theorem dX11_lostNameOf_0 : decode cX11_lostNameOf 0 = .ok (.iconst 1, 1) := by decide +kernel
theorem dX11_lostNameOf_1 : decode cX11_lostNameOf 1 = .ok (.istore_n 2, 1) := by decide +kernel
theorem dX11_lostNameOf_2 : decode cX11_lostNameOf 2 = .ok (.iload_n 2, 1) := by decide +kernel
theorem dX11_lostNameOf_3 : decode cX11_lostNameOf 3 = .ok (.bipush 12, 2) := by decide +kernel
theorem dX11_lostNameOf_5 : decode cX11_lostNameOf 5 = .ok (.if_icmp .gt 81, 3) := by decide +kernel
theorem dX11_lostNameOf_8 : decode cX11_lostNameOf 8 = .ok (.aload_n 0, 1) := by decide +kernel
theorem dX11_lostNameOf_9 : decode cX11_lostNameOf 9 = .ok (.iload_n 2, 1) := by decide +kernel
theorem dX11_lostNameOf_10 : decode cX11_lostNameOf 10 = .ok (.iconst 2, 1) := by decide +kernel
theorem dX11_lostNameOf_11 : decode cX11_lostNameOf 11 = .ok (.iadd, 1) := by decide +kernel
theorem dX11_lostNameOf_12 : decode cX11_lostNameOf 12 = .ok (.putfield 69, 3) := by decide +kernel
theorem dX11_lostNameOf_15 : decode cX11_lostNameOf 15 = .ok (.iconst 0, 1) := by decide +kernel
theorem dX11_lostNameOf_16 : decode cX11_lostNameOf 16 = .ok (.istore_n 3, 1) := by decide +kernel
theorem dX11_lostNameOf_17 : decode cX11_lostNameOf 17 = .ok (.iload_n 3, 1) := by decide +kernel
theorem dX11_lostNameOf_18 : decode cX11_lostNameOf 18 = .ok (.iload_n 2, 1) := by decide +kernel
theorem dX11_lostNameOf_19 : decode cX11_lostNameOf 19 = .ok (.if_icmp .ge 17, 3) := by decide +kernel
theorem dX11_lostNameOf_22 : decode cX11_lostNameOf 22 = .ok (.aload_n 0, 1) := by decide +kernel
theorem dX11_lostNameOf_23 : decode cX11_lostNameOf 23 = .ok (.getfield 26, 3) := by decide +kernel
theorem dX11_lostNameOf_26 : decode cX11_lostNameOf 26 = .ok (.iload_n 3, 1) := by decide +kernel
theorem dX11_lostNameOf_27 : decode cX11_lostNameOf 27 = .ok (.bipush 35, 2) := by decide +kernel
theorem dX11_lostNameOf_29 : decode cX11_lostNameOf 29 = .ok (.iastore, 1) := by decide +kernel
theorem dX11_lostNameOf_30 : decode cX11_lostNameOf 30 = .ok (.iinc 3 1, 3) := by decide +kernel
theorem dX11_lostNameOf_33 : decode cX11_lostNameOf 33 = .ok (.goto (-16), 3) := by decide +kernel
theorem dX11_lostNameOf_36 : decode cX11_lostNameOf 36 = .ok (.aload_n 0, 1) := by decide +kernel
theorem dX11_lostNameOf_37 : decode cX11_lostNameOf 37 = .ok (.getfield 26, 3) := by decide +kernel
theorem dX11_lostNameOf_40 : decode cX11_lostNameOf 40 = .ok (.iload_n 2, 1) := by decide +kernel
theorem dX11_lostNameOf_41 : decode cX11_lostNameOf 41 = .ok (.bipush 48, 2) := by decide +kernel
theorem dX11_lostNameOf_43 : decode cX11_lostNameOf 43 = .ok (.iload_n 1, 1) := by decide +kernel
theorem dX11_lostNameOf_44 : decode cX11_lostNameOf 44 = .ok (.bipush 10, 2) := by decide +kernel
theorem dX11_lostNameOf_46 : decode cX11_lostNameOf 46 = .ok (.idiv, 1) := by decide +kernel
theorem dX11_lostNameOf_47 : decode cX11_lostNameOf 47 = .ok (.iadd, 1) := by decide +kernel
theorem dX11_lostNameOf_48 : decode cX11_lostNameOf 48 = .ok (.iastore, 1) := by decide +kernel
theorem dX11_lostNameOf_49 : decode cX11_lostNameOf 49 = .ok (.aload_n 0, 1) := by decide +kernel
theorem dX11_lostNameOf_50 : decode cX11_lostNameOf 50 = .ok (.getfield 26, 3) := by decide +kernel
theorem dX11_lostNameOf_53 : decode cX11_lostNameOf 53 = .ok (.iload_n 2, 1) := by decide +kernel
theorem dX11_lostNameOf_54 : decode cX11_lostNameOf 54 = .ok (.iconst 1, 1) := by decide +kernel
theorem dX11_lostNameOf_55 : decode cX11_lostNameOf 55 = .ok (.iadd, 1) := by decide +kernel
theorem dX11_lostNameOf_56 : decode cX11_lostNameOf 56 = .ok (.bipush 48, 2) := by decide +kernel
theorem dX11_lostNameOf_58 : decode cX11_lostNameOf 58 = .ok (.iload_n 1, 1) := by decide +kernel
theorem dX11_lostNameOf_59 : decode cX11_lostNameOf 59 = .ok (.bipush 10, 2) := by decide +kernel
theorem dX11_lostNameOf_61 : decode cX11_lostNameOf 61 = .ok (.irem, 1) := by decide +kernel
theorem dX11_lostNameOf_62 : decode cX11_lostNameOf 62 = .ok (.iadd, 1) := by decide +kernel
theorem dX11_lostNameOf_63 : decode cX11_lostNameOf 63 = .ok (.iastore, 1) := by decide +kernel
theorem dX11_lostNameOf_64 : decode cX11_lostNameOf 64 = .ok (.aload_n 0, 1) := by decide +kernel
theorem dX11_lostNameOf_65 : decode cX11_lostNameOf 65 = .ok (.iconst 2, 1) := by decide +kernel
theorem dX11_lostNameOf_66 : decode cX11_lostNameOf 66 = .ok (.aload_n 0, 1) := by decide +kernel
theorem dX11_lostNameOf_67 : decode cX11_lostNameOf 67 = .ok (.iconst 2, 1) := by decide +kernel
theorem dX11_lostNameOf_68 : decode cX11_lostNameOf 68 = .ok (.invokevirtual 106, 3) := by decide +kernel
theorem dX11_lostNameOf_71 : decode cX11_lostNameOf 71 = .ok (.invokevirtual 79, 3) := by decide +kernel
theorem dX11_lostNameOf_74 : decode cX11_lostNameOf 74 = .ok (.iconst (-1), 1) := by decide +kernel
theorem dX11_lostNameOf_75 : decode cX11_lostNameOf 75 = .ok (.if_icmp .ne 5, 3) := by decide +kernel
theorem dX11_lostNameOf_78 : decode cX11_lostNameOf 78 = .ok (.iconst 1, 1) := by decide +kernel
theorem dX11_lostNameOf_79 : decode cX11_lostNameOf 79 = .ok (.ireturn, 1) := by decide +kernel
theorem dX11_lostNameOf_80 : decode cX11_lostNameOf 80 = .ok (.iinc 2 1, 3) := by decide +kernel
theorem dX11_lostNameOf_83 : decode cX11_lostNameOf 83 = .ok (.goto (-81), 3) := by decide +kernel
theorem dX11_lostNameOf_86 : decode cX11_lostNameOf 86 = .ok (.iconst 0, 1) := by decide +kernel
theorem dX11_lostNameOf_87 : decode cX11_lostNameOf 87 = .ok (.ireturn, 1) := by decide +kernel
theorem dX11_grow_0 : decode cX11_grow 0 = .ok (.aload_n 0, 1) := by decide +kernel
theorem dX11_grow_1 : decode cX11_grow 1 = .ok (.iload_n 1, 1) := by decide +kernel
theorem dX11_grow_2 : decode cX11_grow 2 = .ok (.invokevirtual 52, 3) := by decide +kernel
theorem dX11_grow_5 : decode cX11_grow 5 = .ok (.istore_n 3, 1) := by decide +kernel
theorem dX11_grow_6 : decode cX11_grow 6 = .ok (.aload_n 0, 1) := by decide +kernel
theorem dX11_grow_7 : decode cX11_grow 7 = .ok (.iconst 0, 1) := by decide +kernel
theorem dX11_grow_8 : decode cX11_grow 8 = .ok (.invokevirtual 97, 3) := by decide +kernel
theorem dX11_grow_11 : decode cX11_grow 11 = .ok (.istore 4, 2) := by decide +kernel
theorem dX11_grow_13 : decode cX11_grow 13 = .ok (.iload_n 3, 1) := by decide +kernel
theorem dX11_grow_14 : decode cX11_grow 14 = .ok (.iconst 5, 1) := by decide +kernel
theorem dX11_grow_15 : decode cX11_grow 15 = .ok (.if_icmp .ne 18, 3) := by decide +kernel
theorem dX11_grow_18 : decode cX11_grow 18 = .ok (.iload 4, 2) := by decide +kernel
theorem dX11_grow_20 : decode cX11_grow 20 = .ok (.iconst (-1), 1) := by decide +kernel
